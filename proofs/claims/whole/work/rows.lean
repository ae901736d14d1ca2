section
-- ===== PART A: goes FIRST, ahead of the names: the tables' words, and 'selects' of the private methods out of them =====
/-- a private method of a class that the tables say can be made, by its rows of tables_1 -/
def lw_okq (q : MethodName × Nat) : Prop := (q.1.cls ≠ "java/lang/invoke/MethodHandle" ∧ q.1.cls ≠ "java/lang/invoke/VarHandle") ∧ Cond.instantiable q.1.cls q.2 ∈ tables_1 ∧ Cond.privateMethod q.1 ∈ tables_1 ∧ Cond.instanceMethod q.1 ∈ tables_1
theorem lw_p0 : lw_okq (⟨"FourVault", "faulted", "(I)I"⟩, 8) := ⟨⟨by decide +kernel, by decide +kernel⟩, List.mem_of_getElem? (i := 16) (by decide +kernel), List.mem_of_getElem? (i := 190) (by decide +kernel), List.mem_of_getElem? (i := 191) (by decide +kernel)⟩
theorem lw_p1 : lw_okq (⟨"FourVault", "lost", "(I)J"⟩, 8) := ⟨⟨by decide +kernel, by decide +kernel⟩, List.mem_of_getElem? (i := 16) (by decide +kernel), List.mem_of_getElem? (i := 587) (by decide +kernel), List.mem_of_getElem? (i := 588) (by decide +kernel)⟩
theorem lw_p2 : lw_okq (⟨"FourVaultModel", "against", "(IIII)I"⟩, 35) := ⟨⟨by decide +kernel, by decide +kernel⟩, List.mem_of_getElem? (i := 660) (by decide +kernel), List.mem_of_getElem? (i := 785) (by decide +kernel), List.mem_of_getElem? (i := 786) (by decide +kernel)⟩
theorem lw_p3 : lw_okq (⟨"FourVaultModel", "fails", "(I)I"⟩, 35) := ⟨⟨by decide +kernel, by decide +kernel⟩, List.mem_of_getElem? (i := 660) (by decide +kernel), List.mem_of_getElem? (i := 789) (by decide +kernel), List.mem_of_getElem? (i := 790) (by decide +kernel)⟩
theorem lw_p4 : lw_okq (⟨"FourVaultModel", "readVault", "(I)Z"⟩, 35) := ⟨⟨by decide +kernel, by decide +kernel⟩, List.mem_of_getElem? (i := 660) (by decide +kernel), List.mem_of_getElem? (i := 793) (by decide +kernel), List.mem_of_getElem? (i := 794) (by decide +kernel)⟩
theorem lw_p5 : lw_okq (⟨"FourVaultModel", "isSign", "(II)Z"⟩, 35) := ⟨⟨by decide +kernel, by decide +kernel⟩, List.mem_of_getElem? (i := 660) (by decide +kernel), List.mem_of_getElem? (i := 797) (by decide +kernel), List.mem_of_getElem? (i := 798) (by decide +kernel)⟩
theorem lw_p6 : lw_okq (⟨"FourVaultModel", "readTheGloom", "(I)Z"⟩, 35) := ⟨⟨by decide +kernel, by decide +kernel⟩, List.mem_of_getElem? (i := 660) (by decide +kernel), List.mem_of_getElem? (i := 801) (by decide +kernel), List.mem_of_getElem? (i := 802) (by decide +kernel)⟩
theorem lw_p7 : lw_okq (⟨"FourVaultModel", "digit", "(II)I"⟩, 35) := ⟨⟨by decide +kernel, by decide +kernel⟩, List.mem_of_getElem? (i := 660) (by decide +kernel), List.mem_of_getElem? (i := 805) (by decide +kernel), List.mem_of_getElem? (i := 806) (by decide +kernel)⟩
theorem lw_p8 : lw_okq (⟨"FourVaultModel", "readTaker", "(I)Z"⟩, 35) := ⟨⟨by decide +kernel, by decide +kernel⟩, List.mem_of_getElem? (i := 660) (by decide +kernel), List.mem_of_getElem? (i := 809) (by decide +kernel), List.mem_of_getElem? (i := 810) (by decide +kernel)⟩
theorem lw_p9 : lw_okq (⟨"FourVaultModel", "readTheGoods", "(I)Z"⟩, 35) := ⟨⟨by decide +kernel, by decide +kernel⟩, List.mem_of_getElem? (i := 660) (by decide +kernel), List.mem_of_getElem? (i := 813) (by decide +kernel), List.mem_of_getElem? (i := 814) (by decide +kernel)⟩
theorem lw_p10 : lw_okq (⟨"FourVaultModel", "takeVault", "()V"⟩, 35) := ⟨⟨by decide +kernel, by decide +kernel⟩, List.mem_of_getElem? (i := 660) (by decide +kernel), List.mem_of_getElem? (i := 817) (by decide +kernel), List.mem_of_getElem? (i := 818) (by decide +kernel)⟩
theorem lw_p11 : lw_okq (⟨"FourVaultModel", "isTaker", "(I)Z"⟩, 35) := ⟨⟨by decide +kernel, by decide +kernel⟩, List.mem_of_getElem? (i := 660) (by decide +kernel), List.mem_of_getElem? (i := 825) (by decide +kernel), List.mem_of_getElem? (i := 826) (by decide +kernel)⟩
theorem lw_p12 : lw_okq (⟨"FourVaultModel", "isPlace", "(I)Z"⟩, 35) := ⟨⟨by decide +kernel, by decide +kernel⟩, List.mem_of_getElem? (i := 660) (by decide +kernel), List.mem_of_getElem? (i := 837) (by decide +kernel), List.mem_of_getElem? (i := 838) (by decide +kernel)⟩
theorem lw_p13 : lw_okq (⟨"FourVaultModel", "drainOf", "(II)I"⟩, 35) := ⟨⟨by decide +kernel, by decide +kernel⟩, List.mem_of_getElem? (i := 660) (by decide +kernel), List.mem_of_getElem? (i := 857) (by decide +kernel), List.mem_of_getElem? (i := 858) (by decide +kernel)⟩
theorem lw_p14 : lw_okq (⟨"FourVaultModel", "holdsBy", "(III)I"⟩, 35) := ⟨⟨by decide +kernel, by decide +kernel⟩, List.mem_of_getElem? (i := 660) (by decide +kernel), List.mem_of_getElem? (i := 868) (by decide +kernel), List.mem_of_getElem? (i := 869) (by decide +kernel)⟩
theorem lw_p15 : lw_okq (⟨"FourVaultModel", "bothHold", "(III)I"⟩, 35) := ⟨⟨by decide +kernel, by decide +kernel⟩, List.mem_of_getElem? (i := 660) (by decide +kernel), List.mem_of_getElem? (i := 880) (by decide +kernel), List.mem_of_getElem? (i := 881) (by decide +kernel)⟩
def lw_privs_1 : List (MethodName × Nat) := [(⟨"FourVault", "faulted", "(I)I"⟩, 8), (⟨"FourVault", "lost", "(I)J"⟩, 8), (⟨"FourVaultModel", "against", "(IIII)I"⟩, 35), (⟨"FourVaultModel", "fails", "(I)I"⟩, 35), (⟨"FourVaultModel", "readVault", "(I)Z"⟩, 35), (⟨"FourVaultModel", "isSign", "(II)Z"⟩, 35), (⟨"FourVaultModel", "readTheGloom", "(I)Z"⟩, 35), (⟨"FourVaultModel", "digit", "(II)I"⟩, 35), (⟨"FourVaultModel", "readTaker", "(I)Z"⟩, 35), (⟨"FourVaultModel", "readTheGoods", "(I)Z"⟩, 35), (⟨"FourVaultModel", "takeVault", "()V"⟩, 35), (⟨"FourVaultModel", "isTaker", "(I)Z"⟩, 35), (⟨"FourVaultModel", "isPlace", "(I)Z"⟩, 35), (⟨"FourVaultModel", "drainOf", "(II)I"⟩, 35), (⟨"FourVaultModel", "holdsBy", "(III)I"⟩, 35), (⟨"FourVaultModel", "bothHold", "(III)I"⟩, 35)]
theorem lw_r1 : ∀ q ∈ lw_privs_1, lw_okq q := List.forall_mem_cons.mpr ⟨lw_p0, List.forall_mem_cons.mpr ⟨lw_p1, List.forall_mem_cons.mpr ⟨lw_p2, List.forall_mem_cons.mpr ⟨lw_p3, List.forall_mem_cons.mpr ⟨lw_p4, List.forall_mem_cons.mpr ⟨lw_p5, List.forall_mem_cons.mpr ⟨lw_p6, List.forall_mem_cons.mpr ⟨lw_p7, List.forall_mem_cons.mpr ⟨lw_p8, List.forall_mem_cons.mpr ⟨lw_p9, List.forall_mem_cons.mpr ⟨lw_p10, List.forall_mem_cons.mpr ⟨lw_p11, List.forall_mem_cons.mpr ⟨lw_p12, List.forall_mem_cons.mpr ⟨lw_p13, List.forall_mem_cons.mpr ⟨lw_p14, List.forall_mem_cons.mpr ⟨lw_p15, fun _ h => absurd h List.not_mem_nil⟩⟩⟩⟩⟩⟩⟩⟩⟩⟩⟩⟩⟩⟩⟩⟩
theorem lw_p16 : lw_okq (⟨"FourVaultModel", "goNight", "(II)I"⟩, 35) := ⟨⟨by decide +kernel, by decide +kernel⟩, List.mem_of_getElem? (i := 660) (by decide +kernel), List.mem_of_getElem? (i := 892) (by decide +kernel), List.mem_of_getElem? (i := 893) (by decide +kernel)⟩
theorem lw_p17 : lw_okq (⟨"FourVaultModel", "tellNight", "(I)I"⟩, 35) := ⟨⟨by decide +kernel, by decide +kernel⟩, List.mem_of_getElem? (i := 660) (by decide +kernel), List.mem_of_getElem? (i := 896) (by decide +kernel), List.mem_of_getElem? (i := 897) (by decide +kernel)⟩
theorem lw_p18 : lw_okq (⟨"FourVaultModel", "getsOf", "(II)I"⟩, 35) := ⟨⟨by decide +kernel, by decide +kernel⟩, List.mem_of_getElem? (i := 660) (by decide +kernel), List.mem_of_getElem? (i := 904) (by decide +kernel), List.mem_of_getElem? (i := 905) (by decide +kernel)⟩
theorem lw_p19 : lw_okq (⟨"FourVaultModel", "findSend", "(I)I"⟩, 35) := ⟨⟨by decide +kernel, by decide +kernel⟩, List.mem_of_getElem? (i := 660) (by decide +kernel), List.mem_of_getElem? (i := 912) (by decide +kernel), List.mem_of_getElem? (i := 913) (by decide +kernel)⟩
theorem lw_p20 : lw_okq (⟨"FourVaultModel", "worthOfRow", "()I"⟩, 35) := ⟨⟨by decide +kernel, by decide +kernel⟩, List.mem_of_getElem? (i := 660) (by decide +kernel), List.mem_of_getElem? (i := 916) (by decide +kernel), List.mem_of_getElem? (i := 917) (by decide +kernel)⟩
theorem lw_p21 : lw_okq (⟨"FourVaultModel", "areSo", "()Z"⟩, 35) := ⟨⟨by decide +kernel, by decide +kernel⟩, List.mem_of_getElem? (i := 660) (by decide +kernel), List.mem_of_getElem? (i := 932) (by decide +kernel), List.mem_of_getElem? (i := 933) (by decide +kernel)⟩
theorem lw_p22 : lw_okq (⟨"FourVaultModel", "lost", "(I)J"⟩, 35) := ⟨⟨by decide +kernel, by decide +kernel⟩, List.mem_of_getElem? (i := 660) (by decide +kernel), List.mem_of_getElem? (i := 968) (by decide +kernel), List.mem_of_getElem? (i := 969) (by decide +kernel)⟩
theorem lw_p23 : lw_okq (⟨"FourVaultModel", "begins", "(I)V"⟩, 35) := ⟨⟨by decide +kernel, by decide +kernel⟩, List.mem_of_getElem? (i := 660) (by decide +kernel), List.mem_of_getElem? (i := 980) (by decide +kernel), List.mem_of_getElem? (i := 981) (by decide +kernel)⟩
def lw_privs_2 : List (MethodName × Nat) := [(⟨"FourVaultModel", "goNight", "(II)I"⟩, 35), (⟨"FourVaultModel", "tellNight", "(I)I"⟩, 35), (⟨"FourVaultModel", "getsOf", "(II)I"⟩, 35), (⟨"FourVaultModel", "findSend", "(I)I"⟩, 35), (⟨"FourVaultModel", "worthOfRow", "()I"⟩, 35), (⟨"FourVaultModel", "areSo", "()Z"⟩, 35), (⟨"FourVaultModel", "lost", "(I)J"⟩, 35), (⟨"FourVaultModel", "begins", "(I)V"⟩, 35)]
theorem lw_r2 : ∀ q ∈ lw_privs_2, lw_okq q := List.forall_mem_cons.mpr ⟨lw_p16, List.forall_mem_cons.mpr ⟨lw_p17, List.forall_mem_cons.mpr ⟨lw_p18, List.forall_mem_cons.mpr ⟨lw_p19, List.forall_mem_cons.mpr ⟨lw_p20, List.forall_mem_cons.mpr ⟨lw_p21, List.forall_mem_cons.mpr ⟨lw_p22, List.forall_mem_cons.mpr ⟨lw_p23, fun _ h => absurd h List.not_mem_nil⟩⟩⟩⟩⟩⟩⟩⟩
def lw_privs : List (MethodName × Nat) := lw_privs_1 ++ (lw_privs_2)
def lw_tbl : List Cond := k2_sels lw_privs ++ tables_1
theorem lw_privs_ok : ∀ q ∈ lw_privs, lw_okq q := by
  show ∀ q ∈ lw_privs_1 ++ (lw_privs_2), lw_okq q
  exact List.forall_mem_append.mpr ⟨lw_r1, lw_r2⟩
abbrev RX0 : String := "FourVault$Night"
def TX0 : u_T := fun k => match k with
  | 0 => ("FourVault$Night", "takers", "[I", true)
  | 1 => ("FourVault$Night", "begins", "[I", true)
  | 2 => ("FourVault$Night", "ends", "[I", true)
  | _ => ("FourVault$Night", "count", "I", false)
def tyX0 : Nat → FieldType := fun k => match k with
  | 0 => .array .int
  | 1 => .array .int
  | 2 => .array .int
  | _ => .int
theorem nmX0 : ∀ a, a < 4 → ∀ b, b < 4 → a ≠ b → (TX0 a).2.1 ≠ (TX0 b).2.1 := by decide +kernel
theorem tyX0_ok : ∀ k, k < 4 → parseFieldDescriptor (TX0 k).2.2.1 = some (tyX0 k) := by decide +kernel
abbrev cX0_init : ByteArray := prog_2_method_1_code
abbrev yX0_init : MethodName := ⟨RX0, "<init>", "()V"⟩
abbrev cX0_tells : ByteArray := prog_2_method_2_code
abbrev yX0_tells : MethodName := ⟨RX0, "tells", "(I)Z"⟩
abbrev cX0_readPairs : ByteArray := prog_2_method_3_code
abbrev yX0_readPairs : MethodName := ⟨RX0, "readPairs", "(LFourVault$Vault;LFourVault$Row;II)I"⟩
abbrev cX0_answer : ByteArray := prog_2_method_4_code
abbrev yX0_answer : MethodName := ⟨RX0, "answer", "(LFourVault$Vault;I)I"⟩
abbrev cX0_firstWrong : ByteArray := prog_2_method_5_code
abbrev yX0_firstWrong : MethodName := ⟨RX0, "firstWrong", "()I"⟩
abbrev cX0_isStillIn : ByteArray := prog_2_method_6_code
abbrev yX0_isStillIn : MethodName := ⟨RX0, "isStillIn", "(I)Z"⟩
abbrev cX0_minutesOfAll : ByteArray := prog_2_method_7_code
abbrev yX0_minutesOfAll : MethodName := ⟨RX0, "minutesOfAll", "()I"⟩
abbrev cX0_minutesOf : ByteArray := prog_2_method_8_code
abbrev yX0_minutesOf : MethodName := ⟨RX0, "minutesOf", "(I)I"⟩
abbrev cX0_latestEnd : ByteArray := prog_2_method_9_code
abbrev yX0_latestEnd : MethodName := ⟨RX0, "latestEnd", "()I"⟩
abbrev cX0_mostAtOnce : ByteArray := prog_2_method_10_code
abbrev yX0_mostAtOnce : MethodName := ⟨RX0, "mostAtOnce", "()I"⟩
abbrev cX0_inAt : ByteArray := prog_2_method_11_code
abbrev yX0_inAt : MethodName := ⟨RX0, "inAt", "(I)I"⟩
abbrev RX1 : String := "FourVault$Reader"
def TX1 : u_T := fun k => match k with
  | 0 => ("FourVault$Reader", "draft", "LFourVault$Vault;", false)
  | 1 => ("FourVault$Reader", "due", "I", false)
  | 2 => ("FourVault$Reader", "kind", "I", false)
  | _ => ("FourVault$Reader", "nerve", "I", false)
def tyX1 : Nat → FieldType := fun k => match k with
  | 0 => .object "FourVault$Vault"
  | 1 => .int
  | 2 => .int
  | _ => .int
theorem nmX1 : ∀ a, a < 4 → ∀ b, b < 4 → a ≠ b → (TX1 a).2.1 ≠ (TX1 b).2.1 := by decide +kernel
theorem tyX1_ok : ∀ k, k < 4 → parseFieldDescriptor (TX1 k).2.2.1 = some (tyX1 k) := by decide +kernel
abbrev cX1_init : ByteArray := prog_3_method_1_code
abbrev yX1_init : MethodName := ⟨RX1, "<init>", "()V"⟩
abbrev cX1_readAll : ByteArray := prog_3_method_2_code
abbrev yX1_readAll : MethodName := ⟨RX1, "readAll", "(LFourVault$Row;II)I"⟩
abbrev cX1_swap : ByteArray := prog_3_method_3_code
abbrev yX1_swap : MethodName := ⟨RX1, "swap", "(LFourVault$Vault;)LFourVault$Vault;"⟩
abbrev cX1_takes : ByteArray := prog_3_method_4_code
abbrev yX1_takes : MethodName := ⟨RX1, "takes", "(I)Z"⟩
abbrev cX1_goesOn : ByteArray := prog_3_method_5_code
abbrev yX1_goesOn : MethodName := ⟨RX1, "goesOn", "(ZI)Z"⟩
abbrev cX1_takesGloom : ByteArray := prog_3_method_6_code
abbrev yX1_takesGloom : MethodName := ⟨RX1, "takesGloom", "(I)Z"⟩
abbrev cX1_takesKind : ByteArray := prog_3_method_7_code
abbrev yX1_takesKind : MethodName := ⟨RX1, "takesKind", "(I)Z"⟩
abbrev cX1_takesTens : ByteArray := prog_3_method_8_code
abbrev yX1_takesTens : MethodName := ⟨RX1, "takesTens", "(I)Z"⟩
abbrev cX1_takesOnes : ByteArray := prog_3_method_9_code
abbrev yX1_takesOnes : MethodName := ⟨RX1, "takesOnes", "(I)Z"⟩
abbrev cX1_takesMind : ByteArray := prog_3_method_10_code
abbrev yX1_takesMind : MethodName := ⟨RX1, "takesMind", "(I)Z"⟩
abbrev cX1_takesBehindTaker : ByteArray := prog_3_method_11_code
abbrev yX1_takesBehindTaker : MethodName := ⟨RX1, "takesBehindTaker", "(I)Z"⟩
abbrev cX1_takesGood : ByteArray := prog_3_method_12_code
abbrev yX1_takesGood : MethodName := ⟨RX1, "takesGood", "(I)Z"⟩
abbrev cX1_isDigit : ByteArray := prog_3_method_13_code
abbrev yX1_isDigit : MethodName := ⟨RX1, "isDigit", "(I)Z"⟩
abbrev RX2 : String := "FourVault$Readings"
def TX2 : u_T := fun k => match k with
  | 0 => ("FourVault$Readings", "takers", "[I", true)
  | 1 => ("FourVault$Readings", "begins", "[I", true)
  | 2 => ("FourVault$Readings", "helds", "[I", true)
  | _ => ("FourVault$Readings", "count", "I", false)
def tyX2 : Nat → FieldType := fun k => match k with
  | 0 => .array .int
  | 1 => .array .int
  | 2 => .array .int
  | _ => .int
theorem nmX2 : ∀ a, a < 4 → ∀ b, b < 4 → a ≠ b → (TX2 a).2.1 ≠ (TX2 b).2.1 := by decide +kernel
theorem tyX2_ok : ∀ k, k < 4 → parseFieldDescriptor (TX2 k).2.2.1 = some (tyX2 k) := by decide +kernel
abbrev cX2_init : ByteArray := prog_4_method_1_code
abbrev yX2_init : MethodName := ⟨RX2, "<init>", "()V"⟩
abbrev cX2_add : ByteArray := prog_4_method_2_code
abbrev yX2_add : MethodName := ⟨RX2, "add", "(III)I"⟩
abbrev cX2_allAreSo : ByteArray := prog_4_method_3_code
abbrev yX2_allAreSo : MethodName := ⟨RX2, "allAreSo", "(LFourVault$Vault;)Z"⟩
abbrev RX3 : String := "FourVault$Row"
def TX3 : u_T := fun k => match k with
  | 0 => ("FourVault$Row", "lane", "I", true)
  | _ => ("FourVault$Row", "cells", "[I", true)
def tyX3 : Nat → FieldType := fun k => match k with
  | 0 => .int
  | _ => .array .int
theorem nmX3 : ∀ a, a < 2 → ∀ b, b < 2 → a ≠ b → (TX3 a).2.1 ≠ (TX3 b).2.1 := by decide +kernel
theorem tyX3_ok : ∀ k, k < 2 → parseFieldDescriptor (TX3 k).2.2.1 = some (tyX3 k) := by decide +kernel
abbrev cX3_init : ByteArray := prog_5_method_1_code
abbrev yX3_init : MethodName := ⟨RX3, "<init>", "(II)V"⟩
abbrev cX3_hasCells : ByteArray := prog_5_method_2_code
abbrev yX3_hasCells : MethodName := ⟨RX3, "hasCells", "(II)Z"⟩
abbrev cX3_cut : ByteArray := prog_5_method_3_code
abbrev yX3_cut : MethodName := ⟨RX3, "cut", "(I)I"⟩
abbrev RX4 : String := "FourVault$Sending"
def TX4 : u_T := fun k => match k with
  | 0 => ("FourVault$Sending", "mostFrom", "[[I", true)
  | _ => ("FourVault$Sending", "got", "[I", true)
def tyX4 : Nat → FieldType := fun k => match k with
  | 0 => .array (.array .int)
  | _ => .array .int
theorem nmX4 : ∀ a, a < 2 → ∀ b, b < 2 → a ≠ b → (TX4 a).2.1 ≠ (TX4 b).2.1 := by decide +kernel
theorem tyX4_ok : ∀ k, k < 2 → parseFieldDescriptor (TX4 k).2.2.1 = some (tyX4 k) := by decide +kernel
abbrev cX4_init : ByteArray := prog_6_method_1_code
abbrev yX4_init : MethodName := ⟨RX4, "<init>", "()V"⟩
abbrev cX4_weigh : ByteArray := prog_6_method_2_code
abbrev yX4_weigh : MethodName := ⟨RX4, "weigh", "(LFourVault$Vault;I)V"⟩
abbrev cX4_mostWith : ByteArray := prog_6_method_3_code
abbrev yX4_mostWith : MethodName := ⟨RX4, "mostWith", "(LFourVault$Vault;II)I"⟩
abbrev cX4_isFree : ByteArray := prog_6_method_4_code
abbrev yX4_isFree : MethodName := ⟨RX4, "isFree", "(III)Z"⟩
abbrev cX4_withGood : ByteArray := prog_6_method_5_code
abbrev yX4_withGood : MethodName := ⟨RX4, "withGood", "(LFourVault$Vault;III)I"⟩
abbrev cX4_most : ByteArray := prog_6_method_6_code
abbrev yX4_most : MethodName := ⟨RX4, "most", "()I"⟩
abbrev cX4_goodOf : ByteArray := prog_6_method_7_code
abbrev yX4_goodOf : MethodName := ⟨RX4, "goodOf", "(LFourVault$Vault;I)I"⟩
abbrev cX4_firstGood : ByteArray := prog_6_method_8_code
abbrev yX4_firstGood : MethodName := ⟨RX4, "firstGood", "(LFourVault$Vault;II)I"⟩
abbrev RX5 : String := "FourVault$Singer"
def TX5 : u_T := fun k => match k with
  | 0 => ("FourVault$Taker", "number", "I", true)
  | 1 => ("FourVault$Taker", "nerve", "I", false)
  | _ => ("FourVault$Taker", "mind", "I", false)
def tyX5 : Nat → FieldType := fun k => match k with
  | 0 => .int
  | 1 => .int
  | _ => .int
theorem nmX5 : ∀ a, a < 3 → ∀ b, b < 3 → a ≠ b → (TX5 a).2.1 ≠ (TX5 b).2.1 := by decide +kernel
theorem tyX5_ok : ∀ k, k < 3 → parseFieldDescriptor (TX5 k).2.2.1 = some (tyX5 k) := by decide +kernel
abbrev cX5_init : ByteArray := prog_7_method_1_code
abbrev yX5_init : MethodName := ⟨RX5, "<init>", "(III)V"⟩
abbrev cX5_kindNumber : ByteArray := prog_7_method_2_code
abbrev yX5_kindNumber : MethodName := ⟨RX5, "kindNumber", "()I"⟩
abbrev cX5_drainBy : ByteArray := prog_7_method_3_code
abbrev yX5_drainBy : MethodName := ⟨RX5, "drainBy", "(I)I"⟩
abbrev cX5_telling : ByteArray := prog_7_method_4_code
abbrev yX5_telling : MethodName := ⟨RX5, "telling", "(LFourVault$Trace;)I"⟩
abbrev RX6 : String := "FourVault$Taker"
def TX6 : u_T := fun k => match k with
  | 0 => ("FourVault$Taker", "number", "I", true)
  | 1 => ("FourVault$Taker", "nerve", "I", false)
  | _ => ("FourVault$Taker", "mind", "I", false)
def tyX6 : Nat → FieldType := fun k => match k with
  | 0 => .int
  | 1 => .int
  | _ => .int
theorem nmX6 : ∀ a, a < 3 → ∀ b, b < 3 → a ≠ b → (TX6 a).2.1 ≠ (TX6 b).2.1 := by decide +kernel
theorem tyX6_ok : ∀ k, k < 3 → parseFieldDescriptor (TX6 k).2.2.1 = some (tyX6 k) := by decide +kernel
abbrev cX6_init : ByteArray := prog_8_method_1_code
abbrev yX6_init : MethodName := ⟨RX6, "<init>", "(III)V"⟩
abbrev cX6_kindNumber : ByteArray := prog_8_method_2_code
abbrev yX6_kindNumber : MethodName := ⟨RX6, "kindNumber", "()I"⟩
abbrev cX6_drainBy : ByteArray := prog_8_method_3_code
abbrev yX6_drainBy : MethodName := ⟨RX6, "drainBy", "(I)I"⟩
abbrev cX6_telling : ByteArray := prog_8_method_4_code
abbrev yX6_telling : MethodName := ⟨RX6, "telling", "(LFourVault$Trace;)I"⟩
abbrev cX6_takersTelling : ByteArray := prog_8_method_5_code
abbrev yX6_takersTelling : MethodName := ⟨RX6, "takersTelling", "(LFourVault$Trace;)I"⟩
abbrev cX6_rung : ByteArray := prog_8_method_6_code
abbrev yX6_rung : MethodName := ⟨RX6, "rung", "(LFourVault$Trace;)I"⟩
abbrev RX7 : String := "FourVault$Trace"
def TX7 : u_T := fun k => match k with
  | _ => ("FourVault$Trace", "left", "I", false)
def tyX7 : Nat → FieldType := fun k => match k with
  | _ => .int
theorem nmX7 : ∀ a, a < 1 → ∀ b, b < 1 → a ≠ b → (TX7 a).2.1 ≠ (TX7 b).2.1 := by decide +kernel
theorem tyX7_ok : ∀ k, k < 1 → parseFieldDescriptor (TX7 k).2.2.1 = some (tyX7 k) := by decide +kernel
abbrev cX7_init : ByteArray := prog_9_method_1_code
abbrev yX7_init : MethodName := ⟨RX7, "<init>", "()V"⟩
abbrev cX7_leave : ByteArray := prog_9_method_2_code
abbrev yX7_leave : MethodName := ⟨RX7, "leave", "(I)V"⟩
abbrev RX8 : String := "FourVault$Vault"
def TX8 : u_T := fun k => match k with
  | 0 => ("FourVault$Vault", "weights", "[I", true)
  | 1 => ("FourVault$Vault", "takers", "[LFourVault$Taker;", true)
  | 2 => ("FourVault$Vault", "depths", "[I", true)
  | 3 => ("FourVault$Vault", "places", "I", false)
  | 4 => ("FourVault$Vault", "takerCount", "I", false)
  | _ => ("FourVault$Vault", "goods", "I", false)
def tyX8 : Nat → FieldType := fun k => match k with
  | 0 => .array .int
  | 1 => .array (.object "FourVault$Taker")
  | 2 => .array .int
  | 3 => .int
  | 4 => .int
  | _ => .int
theorem nmX8 : ∀ a, a < 6 → ∀ b, b < 6 → a ≠ b → (TX8 a).2.1 ≠ (TX8 b).2.1 := by decide +kernel
theorem tyX8_ok : ∀ k, k < 6 → parseFieldDescriptor (TX8 k).2.2.1 = some (tyX8 k) := by decide +kernel
abbrev cX8_init : ByteArray := prog_10_method_1_code
abbrev yX8_init : MethodName := ⟨RX8, "<init>", "()V"⟩
abbrev cX8_clear : ByteArray := prog_10_method_2_code
abbrev yX8_clear : MethodName := ⟨RX8, "clear", "()V"⟩
abbrev cX8_stands : ByteArray := prog_10_method_3_code
abbrev yX8_stands : MethodName := ⟨RX8, "stands", "()Z"⟩
abbrev cX8_isPlace : ByteArray := prog_10_method_4_code
abbrev yX8_isPlace : MethodName := ⟨RX8, "isPlace", "(I)Z"⟩
abbrev cX8_isGood : ByteArray := prog_10_method_5_code
abbrev yX8_isGood : MethodName := ⟨RX8, "isGood", "(I)Z"⟩
abbrev cX8_takerAt : ByteArray := prog_10_method_6_code
abbrev yX8_takerAt : MethodName := ⟨RX8, "takerAt", "(I)LFourVault$Taker;"⟩
abbrev cX8_weightIn : ByteArray := prog_10_method_7_code
abbrev yX8_weightIn : MethodName := ⟨RX8, "weightIn", "(I)I"⟩
abbrev cX8_heldAlone : ByteArray := prog_10_method_8_code
abbrev yX8_heldAlone : MethodName := ⟨RX8, "heldAlone", "(LFourVault$Taker;I)I"⟩
abbrev cX8_heldInPair : ByteArray := prog_10_method_9_code
abbrev yX8_heldInPair : MethodName := ⟨RX8, "heldInPair", "(LFourVault$Taker;I)I"⟩
abbrev cX8_heldByTwo : ByteArray := prog_10_method_10_code
abbrev yX8_heldByTwo : MethodName := ⟨RX8, "heldByTwo", "(LFourVault$Taker;LFourVault$Taker;I)I"⟩
abbrev cX8_bestPlace : ByteArray := prog_10_method_11_code
abbrev yX8_bestPlace : MethodName := ⟨RX8, "bestPlace", "(LFourVault$Taker;)I"⟩
abbrev cX8_bestFriend : ByteArray := prog_10_method_12_code
abbrev yX8_bestFriend : MethodName := ⟨RX8, "bestFriend", "(LFourVault$Taker;I)I"⟩
abbrev cX8_goodsGot : ByteArray := prog_10_method_13_code
abbrev yX8_goodsGot : MethodName := ⟨RX8, "goodsGot", "(LFourVault$Taker;I)I"⟩
abbrev cX8_setsHeld : ByteArray := prog_10_method_14_code
abbrev yX8_setsHeld : MethodName := ⟨RX8, "setsHeld", "(LFourVault$Taker;I)I"⟩
abbrev cX8_drainIfOnly : ByteArray := prog_10_method_15_code
abbrev yX8_drainIfOnly : MethodName := ⟨RX8, "drainIfOnly", "(ILFourVault$Taker;I)I"⟩
abbrev RX9 : String := "FourVault$Widow"
def TX9 : u_T := fun k => match k with
  | 0 => ("FourVault$Taker", "number", "I", true)
  | 1 => ("FourVault$Taker", "nerve", "I", false)
  | _ => ("FourVault$Taker", "mind", "I", false)
def tyX9 : Nat → FieldType := fun k => match k with
  | 0 => .int
  | 1 => .int
  | _ => .int
theorem nmX9 : ∀ a, a < 3 → ∀ b, b < 3 → a ≠ b → (TX9 a).2.1 ≠ (TX9 b).2.1 := by decide +kernel
theorem tyX9_ok : ∀ k, k < 3 → parseFieldDescriptor (TX9 k).2.2.1 = some (tyX9 k) := by decide +kernel
abbrev cX9_init : ByteArray := prog_11_method_1_code
abbrev yX9_init : MethodName := ⟨RX9, "<init>", "(III)V"⟩
abbrev cX9_kindNumber : ByteArray := prog_11_method_2_code
abbrev yX9_kindNumber : MethodName := ⟨RX9, "kindNumber", "()I"⟩
abbrev cX9_drainBy : ByteArray := prog_11_method_3_code
abbrev yX9_drainBy : MethodName := ⟨RX9, "drainBy", "(I)I"⟩
abbrev cX9_telling : ByteArray := prog_11_method_4_code
abbrev yX9_telling : MethodName := ⟨RX9, "telling", "(LFourVault$Trace;)I"⟩
abbrev cX9_rung : ByteArray := prog_11_method_5_code
abbrev yX9_rung : MethodName := ⟨RX9, "rung", "(LFourVault$Trace;)I"⟩
abbrev RX10 : String := "FourVault"
def TX10 : u_T := fun k => match k with
  | 0 => ("FourVault", "sheets", "[LFourVault$Row;", true)
  | 1 => ("FourVault", "reader", "LFourVault$Reader;", true)
  | 2 => ("FourVault", "readings", "LFourVault$Readings;", true)
  | 3 => ("FourVault", "told", "LFourVault$Night;", true)
  | 4 => ("FourVault", "sending", "LFourVault$Sending;", true)
  | 5 => ("FourVault", "trace", "LFourVault$Trace;", true)
  | 6 => ("FourVault", "kept", "LFourVault$Vault;", false)
  | _ => ("FourVault", "fault", "I", false)
def tyX10 : Nat → FieldType := fun k => match k with
  | 0 => .array (.object "FourVault$Row")
  | 1 => .object "FourVault$Reader"
  | 2 => .object "FourVault$Readings"
  | 3 => .object "FourVault$Night"
  | 4 => .object "FourVault$Sending"
  | 5 => .object "FourVault$Trace"
  | 6 => .object "FourVault$Vault"
  | _ => .int
theorem nmX10 : ∀ a, a < 8 → ∀ b, b < 8 → a ≠ b → (TX10 a).2.1 ≠ (TX10 b).2.1 := by decide +kernel
theorem tyX10_ok : ∀ k, k < 8 → parseFieldDescriptor (TX10 k).2.2.1 = some (tyX10 k) := by decide +kernel
abbrev cX10_init : ByteArray := prog_1_method_1_code
abbrev yX10_init : MethodName := ⟨RX10, "<init>", "()V"⟩
abbrev cX10_vault : ByteArray := prog_1_method_2_code
abbrev yX10_vault : MethodName := ⟨RX10, "vault", "(IIII)I"⟩
abbrev cX10_ofTaker : ByteArray := prog_1_method_3_code
abbrev yX10_ofTaker : MethodName := ⟨RX10, "ofTaker", "(II)I"⟩
abbrev cX10_depth : ByteArray := prog_1_method_4_code
abbrev yX10_depth : MethodName := ⟨RX10, "depth", "(I)I"⟩
abbrev cX10_gloom : ByteArray := prog_1_method_5_code
abbrev yX10_gloom : MethodName := ⟨RX10, "gloom", "(I)I"⟩
abbrev cX10_hush : ByteArray := prog_1_method_6_code
abbrev yX10_hush : MethodName := ⟨RX10, "hush", "(II)I"⟩
abbrev cX10_think : ByteArray := prog_1_method_7_code
abbrev yX10_think : MethodName := ⟨RX10, "think", "(II)I"⟩
abbrev cX10_brace : ByteArray := prog_1_method_8_code
abbrev yX10_brace : MethodName := ⟨RX10, "brace", "(II)I"⟩
abbrev cX10_drain : ByteArray := prog_1_method_9_code
abbrev yX10_drain : MethodName := ⟨RX10, "drain", "(II)I"⟩
abbrev cX10_holds : ByteArray := prog_1_method_10_code
abbrev yX10_holds : MethodName := ⟨RX10, "holds", "(II)I"⟩
abbrev cX10_best : ByteArray := prog_1_method_11_code
abbrev yX10_best : MethodName := ⟨RX10, "best", "(II)I"⟩
abbrev cX10_together : ByteArray := prog_1_method_12_code
abbrev yX10_together : MethodName := ⟨RX10, "together", "(III)I"⟩
abbrev cX10_friend : ByteArray := prog_1_method_13_code
abbrev yX10_friend : MethodName := ⟨RX10, "friend", "(II)I"⟩
abbrev cX10_night : ByteArray := prog_1_method_14_code
abbrev yX10_night : MethodName := ⟨RX10, "night", "(IIIII)I"⟩
abbrev cX10_gets : ByteArray := prog_1_method_15_code
abbrev yX10_gets : MethodName := ⟨RX10, "gets", "(II)I"⟩
abbrev cX10_send : ByteArray := prog_1_method_16_code
abbrev yX10_send : MethodName := ⟨RX10, "send", "(II)I"⟩
abbrev cX10_reading : ByteArray := prog_1_method_17_code
abbrev yX10_reading : MethodName := ⟨RX10, "reading", "(III)I"⟩
abbrev cX10_back : ByteArray := prog_1_method_18_code
abbrev yX10_back : MethodName := ⟨RX10, "back", "(I)I"⟩
abbrev cX10_minds : ByteArray := prog_1_method_19_code
abbrev yX10_minds : MethodName := ⟨RX10, "minds", "(I)I"⟩
abbrev cX10_kinds : ByteArray := prog_1_method_20_code
abbrev yX10_kinds : MethodName := ⟨RX10, "kinds", "(I)I"⟩
abbrev cX10_glooms : ByteArray := prog_1_method_21_code
abbrev yX10_glooms : MethodName := ⟨RX10, "glooms", "(I)I"⟩
abbrev cX10_odds : ByteArray := prog_1_method_22_code
abbrev yX10_odds : MethodName := ⟨RX10, "odds", "(III)J"⟩
abbrev cX10_sheet : ByteArray := prog_1_method_23_code
abbrev yX10_sheet : MethodName := ⟨RX10, "sheet", "(III)I"⟩
abbrev cX10_lose : ByteArray := prog_1_method_24_code
abbrev yX10_lose : MethodName := ⟨RX10, "lose", "(I)I"⟩
abbrev cX10_put : ByteArray := prog_1_method_25_code
abbrev yX10_put : MethodName := ⟨RX10, "put", "(III)I"⟩
abbrev cX10_cell : ByteArray := prog_1_method_26_code
abbrev yX10_cell : MethodName := ⟨RX10, "cell", "(III)J"⟩
abbrev cX10_copy : ByteArray := prog_1_method_27_code
abbrev yX10_copy : MethodName := ⟨RX10, "copy", "(IIIII)I"⟩
abbrev cX10_tell : ByteArray := prog_1_method_28_code
abbrev yX10_tell : MethodName := ⟨RX10, "tell", "(I)I"⟩
abbrev cX10_ring : ByteArray := prog_1_method_29_code
abbrev yX10_ring : MethodName := ⟨RX10, "ring", "(I)I"⟩
abbrev cX10_as : ByteArray := prog_1_method_30_code
abbrev yX10_as : MethodName := ⟨RX10, "as", "(II)I"⟩
abbrev cX10_trace : ByteArray := prog_1_method_31_code
abbrev yX10_trace : MethodName := ⟨RX10, "trace", "()I"⟩
abbrev cX10_fault : ByteArray := prog_1_method_32_code
abbrev yX10_fault : MethodName := ⟨RX10, "fault", "()I"⟩
abbrev cX10_many : ByteArray := prog_1_method_33_code
abbrev yX10_many : MethodName := ⟨RX10, "many", "(I)I"⟩
abbrev cX10_faulted : ByteArray := prog_1_method_34_code
abbrev yX10_faulted : MethodName := ⟨RX10, "faulted", "(I)I"⟩
abbrev cX10_lost : ByteArray := prog_1_method_35_code
abbrev yX10_lost : MethodName := ⟨RX10, "lost", "(I)J"⟩
abbrev cX10_isSheet : ByteArray := prog_1_method_36_code
abbrev yX10_isSheet : MethodName := ⟨RX10, "isSheet", "(I)Z"⟩
abbrev cX10_isLane : ByteArray := prog_1_method_37_code
abbrev yX10_isLane : MethodName := ⟨RX10, "isLane", "(I)Z"⟩
abbrev cX10_isMinute : ByteArray := prog_1_method_38_code
abbrev yX10_isMinute : MethodName := ⟨RX10, "isMinute", "(I)Z"⟩
abbrev cX10_newTaker : ByteArray := prog_1_method_39_code
abbrev yX10_newTaker : MethodName := ⟨RX10, "newTaker", "(IIII)LFourVault$Taker;"⟩
abbrev RX11 : String := "FourVaultModel"
def TX11 : u_T := fun k => match k with
  | 0 => ("FourVaultModel", "fault", "I", false)
  | 1 => ("FourVaultModel", "trace", "I", false)
  | 2 => ("FourVaultModel", "sorts", "[I", true)
  | 3 => ("FourVaultModel", "sheetLong", "[I", true)
  | 4 => ("FourVaultModel", "cells", "[I", true)
  | 5 => ("FourVaultModel", "places", "I", false)
  | 6 => ("FourVaultModel", "takers", "I", false)
  | 7 => ("FourVaultModel", "goods", "I", false)
  | 8 => ("FourVaultModel", "gloomOf", "[I", true)
  | 9 => ("FourVaultModel", "kind", "[I", true)
  | 10 => ("FourVaultModel", "nerve", "[I", true)
  | 11 => ("FourVaultModel", "mind", "[I", true)
  | 12 => ("FourVaultModel", "depthOf", "[I", true)
  | 13 => ("FourVaultModel", "at", "I", false)
  | 14 => ("FourVaultModel", "readPlaces", "I", false)
  | 15 => ("FourVaultModel", "readTakers", "I", false)
  | 16 => ("FourVaultModel", "readGoods", "I", false)
  | 17 => ("FourVaultModel", "readGloom", "[I", true)
  | 18 => ("FourVaultModel", "readKind", "[I", true)
  | 19 => ("FourVaultModel", "readNerve", "[I", true)
  | 20 => ("FourVaultModel", "readMind", "[I", true)
  | 21 => ("FourVaultModel", "readDepth", "[I", true)
  | 22 => ("FourVaultModel", "light", "I", false)
  | 23 => ("FourVaultModel", "all", "I", false)
  | 24 => ("FourVaultModel", "latest", "I", false)
  | 25 => ("FourVaultModel", "comesOut", "[I", true)
  | 26 => ("FourVaultModel", "held", "[I", true)
  | 27 => ("FourVaultModel", "inside", "[I", true)
  | 28 => ("FourVaultModel", "canGet", "[I", true)
  | 29 => ("FourVaultModel", "row", "[I", true)
  | 30 => ("FourVaultModel", "found", "[I", true)
  | 31 => ("FourVaultModel", "readings", "I", false)
  | 32 => ("FourVaultModel", "readWho", "[I", true)
  | 33 => ("FourVaultModel", "readWhen", "[I", true)
  | _ => ("FourVaultModel", "readHeld", "[I", true)
def tyX11 : Nat → FieldType := fun k => match k with
  | 0 => .int
  | 1 => .int
  | 2 => .array .int
  | 3 => .array .int
  | 4 => .array .int
  | 5 => .int
  | 6 => .int
  | 7 => .int
  | 8 => .array .int
  | 9 => .array .int
  | 10 => .array .int
  | 11 => .array .int
  | 12 => .array .int
  | 13 => .int
  | 14 => .int
  | 15 => .int
  | 16 => .int
  | 17 => .array .int
  | 18 => .array .int
  | 19 => .array .int
  | 20 => .array .int
  | 21 => .array .int
  | 22 => .int
  | 23 => .int
  | 24 => .int
  | 25 => .array .int
  | 26 => .array .int
  | 27 => .array .int
  | 28 => .array .int
  | 29 => .array .int
  | 30 => .array .int
  | 31 => .int
  | 32 => .array .int
  | 33 => .array .int
  | _ => .array .int
theorem nmX11 : ∀ a, a < 35 → ∀ b, b < 35 → a ≠ b → (TX11 a).2.1 ≠ (TX11 b).2.1 := by decide +kernel
theorem tyX11_ok : ∀ k, k < 35 → parseFieldDescriptor (TX11 k).2.2.1 = some (tyX11 k) := by decide +kernel
abbrev cX11_init : ByteArray := prog_13_method_1_code
abbrev yX11_init : MethodName := ⟨RX11, "<init>", "()V"⟩
abbrev cX11_fails : ByteArray := prog_13_method_3_code
abbrev yX11_fails : MethodName := ⟨RX11, "fails", "(I)I"⟩
abbrev cX11_lost : ByteArray := prog_13_method_4_code
abbrev yX11_lost : MethodName := ⟨RX11, "lost", "(I)J"⟩
abbrev cX11_within : ByteArray := prog_13_method_5_code
abbrev yX11_within : MethodName := ⟨RX11, "within", "(III)Z"⟩
abbrev cX11_isSheet : ByteArray := prog_13_method_6_code
abbrev yX11_isSheet : MethodName := ⟨RX11, "isSheet", "(I)Z"⟩
abbrev cX11_isSort : ByteArray := prog_13_method_7_code
abbrev yX11_isSort : MethodName := ⟨RX11, "isSort", "(I)Z"⟩
abbrev cX11_against : ByteArray := prog_13_method_8_code
abbrev yX11_against : MethodName := ⟨RX11, "against", "(IIII)I"⟩
abbrev cX11_isTaker : ByteArray := prog_13_method_9_code
abbrev yX11_isTaker : MethodName := ⟨RX11, "isTaker", "(I)Z"⟩
abbrev cX11_isPlace : ByteArray := prog_13_method_10_code
abbrev yX11_isPlace : MethodName := ⟨RX11, "isPlace", "(I)Z"⟩
abbrev cX11_digit : ByteArray := prog_13_method_11_code
abbrev yX11_digit : MethodName := ⟨RX11, "digit", "(II)I"⟩
abbrev cX11_isSign : ByteArray := prog_13_method_12_code
abbrev yX11_isSign : MethodName := ⟨RX11, "isSign", "(II)Z"⟩
abbrev cX11_vault : ByteArray := prog_13_method_13_code
abbrev yX11_vault : MethodName := ⟨RX11, "vault", "(IIII)I"⟩
abbrev cX11_takeVault : ByteArray := prog_13_method_14_code
abbrev yX11_takeVault : MethodName := ⟨RX11, "takeVault", "()V"⟩
abbrev cX11_readVault : ByteArray := prog_13_method_15_code
abbrev yX11_readVault : MethodName := ⟨RX11, "readVault", "(I)Z"⟩
abbrev cX11_readTheGloom : ByteArray := prog_13_method_16_code
abbrev yX11_readTheGloom : MethodName := ⟨RX11, "readTheGloom", "(I)Z"⟩
abbrev cX11_readTaker : ByteArray := prog_13_method_17_code
abbrev yX11_readTaker : MethodName := ⟨RX11, "readTaker", "(I)Z"⟩
abbrev cX11_readTheGoods : ByteArray := prog_13_method_18_code
abbrev yX11_readTheGoods : MethodName := ⟨RX11, "readTheGoods", "(I)Z"⟩
abbrev cX11_ofTaker : ByteArray := prog_13_method_19_code
abbrev yX11_ofTaker : MethodName := ⟨RX11, "ofTaker", "(II)I"⟩
abbrev cX11_depth : ByteArray := prog_13_method_20_code
abbrev yX11_depth : MethodName := ⟨RX11, "depth", "(I)I"⟩
abbrev cX11_gloom : ByteArray := prog_13_method_21_code
abbrev yX11_gloom : MethodName := ⟨RX11, "gloom", "(I)I"⟩
abbrev cX11_hush : ByteArray := prog_13_method_22_code
abbrev yX11_hush : MethodName := ⟨RX11, "hush", "(II)I"⟩
abbrev cX11_think : ByteArray := prog_13_method_23_code
abbrev yX11_think : MethodName := ⟨RX11, "think", "(II)I"⟩
abbrev cX11_brace : ByteArray := prog_13_method_24_code
abbrev yX11_brace : MethodName := ⟨RX11, "brace", "(II)I"⟩
abbrev cX11_drainOf : ByteArray := prog_13_method_25_code
abbrev yX11_drainOf : MethodName := ⟨RX11, "drainOf", "(II)I"⟩
abbrev cX11_drain : ByteArray := prog_13_method_26_code
abbrev yX11_drain : MethodName := ⟨RX11, "drain", "(II)I"⟩
abbrev cX11_holdsBy : ByteArray := prog_13_method_27_code
abbrev yX11_holdsBy : MethodName := ⟨RX11, "holdsBy", "(III)I"⟩
abbrev cX11_isMinute : ByteArray := prog_13_method_28_code
abbrev yX11_isMinute : MethodName := ⟨RX11, "isMinute", "(I)Z"⟩
abbrev cX11_holds : ByteArray := prog_13_method_29_code
abbrev yX11_holds : MethodName := ⟨RX11, "holds", "(II)I"⟩
abbrev cX11_best : ByteArray := prog_13_method_30_code
abbrev yX11_best : MethodName := ⟨RX11, "best", "(II)I"⟩
abbrev cX11_bothHold : ByteArray := prog_13_method_31_code
abbrev yX11_bothHold : MethodName := ⟨RX11, "bothHold", "(III)I"⟩
abbrev cX11_together : ByteArray := prog_13_method_32_code
abbrev yX11_together : MethodName := ⟨RX11, "together", "(III)I"⟩
abbrev cX11_friend : ByteArray := prog_13_method_33_code
abbrev yX11_friend : MethodName := ⟨RX11, "friend", "(II)I"⟩
abbrev cX11_goNight : ByteArray := prog_13_method_34_code
abbrev yX11_goNight : MethodName := ⟨RX11, "goNight", "(II)I"⟩
abbrev cX11_night : ByteArray := prog_13_method_35_code
abbrev yX11_night : MethodName := ⟨RX11, "night", "(IIIII)I"⟩
abbrev cX11_tellNight : ByteArray := prog_13_method_36_code
abbrev yX11_tellNight : MethodName := ⟨RX11, "tellNight", "(I)I"⟩
abbrev cX11_getsOf : ByteArray := prog_13_method_37_code
abbrev yX11_getsOf : MethodName := ⟨RX11, "getsOf", "(II)I"⟩
abbrev cX11_gets : ByteArray := prog_13_method_38_code
abbrev yX11_gets : MethodName := ⟨RX11, "gets", "(II)I"⟩
abbrev cX11_worthOfRow : ByteArray := prog_13_method_39_code
abbrev yX11_worthOfRow : MethodName := ⟨RX11, "worthOfRow", "()I"⟩
abbrev cX11_findSend : ByteArray := prog_13_method_40_code
abbrev yX11_findSend : MethodName := ⟨RX11, "findSend", "(I)I"⟩
abbrev cX11_send : ByteArray := prog_13_method_41_code
abbrev yX11_send : MethodName := ⟨RX11, "send", "(II)I"⟩
abbrev cX11_reading : ByteArray := prog_13_method_42_code
abbrev yX11_reading : MethodName := ⟨RX11, "reading", "(III)I"⟩
abbrev cX11_back : ByteArray := prog_13_method_43_code
abbrev yX11_back : MethodName := ⟨RX11, "back", "(I)I"⟩
abbrev cX11_areSo : ByteArray := prog_13_method_44_code
abbrev yX11_areSo : MethodName := ⟨RX11, "areSo", "()Z"⟩
abbrev cX11_minds : ByteArray := prog_13_method_45_code
abbrev yX11_minds : MethodName := ⟨RX11, "minds", "(I)I"⟩
abbrev cX11_kinds : ByteArray := prog_13_method_46_code
abbrev yX11_kinds : MethodName := ⟨RX11, "kinds", "(I)I"⟩
abbrev cX11_glooms : ByteArray := prog_13_method_47_code
abbrev yX11_glooms : MethodName := ⟨RX11, "glooms", "(I)I"⟩
abbrev cX11_inLeastTerms : ByteArray := prog_13_method_48_code
abbrev yX11_inLeastTerms : MethodName := ⟨RX11, "inLeastTerms", "(JJI)J"⟩
abbrev cX11_odds : ByteArray := prog_13_method_49_code
abbrev yX11_odds : MethodName := ⟨RX11, "odds", "(III)J"⟩
abbrev cX11_sheet : ByteArray := prog_13_method_50_code
abbrev yX11_sheet : MethodName := ⟨RX11, "sheet", "(III)I"⟩
abbrev cX11_lose : ByteArray := prog_13_method_51_code
abbrev yX11_lose : MethodName := ⟨RX11, "lose", "(I)I"⟩
abbrev cX11_put : ByteArray := prog_13_method_52_code
abbrev yX11_put : MethodName := ⟨RX11, "put", "(III)I"⟩
abbrev cX11_cell : ByteArray := prog_13_method_53_code
abbrev yX11_cell : MethodName := ⟨RX11, "cell", "(III)J"⟩
abbrev cX11_copy : ByteArray := prog_13_method_54_code
abbrev yX11_copy : MethodName := ⟨RX11, "copy", "(IIIII)I"⟩
abbrev cX11_begins : ByteArray := prog_13_method_55_code
abbrev yX11_begins : MethodName := ⟨RX11, "begins", "(I)V"⟩
abbrev cX11_tell : ByteArray := prog_13_method_56_code
abbrev yX11_tell : MethodName := ⟨RX11, "tell", "(I)I"⟩
abbrev cX11_ring : ByteArray := prog_13_method_57_code
abbrev yX11_ring : MethodName := ⟨RX11, "ring", "(I)I"⟩
abbrev cX11_as : ByteArray := prog_13_method_58_code
abbrev yX11_as : MethodName := ⟨RX11, "as", "(II)I"⟩
abbrev cX11_trace : ByteArray := prog_13_method_59_code
abbrev yX11_trace : MethodName := ⟨RX11, "trace", "()I"⟩
abbrev cX11_fault : ByteArray := prog_13_method_60_code
abbrev yX11_fault : MethodName := ⟨RX11, "fault", "()I"⟩
abbrev cX11_many : ByteArray := prog_13_method_61_code
abbrev yX11_many : MethodName := ⟨RX11, "many", "(I)I"⟩
abbrev RJ9 : String := "java/lang/Math"
def TJ9 : u_T := fun k => match k with
  | _ => ("", "", "", false)
def tyJ9 : Nat → FieldType := fun k => match k with
  | _ => .int
theorem nmJ9 : ∀ a, a < 0 → ∀ b, b < 0 → a ≠ b → (TJ9 a).2.1 ≠ (TJ9 b).2.1 := by decide +kernel
theorem tyJ9_ok : ∀ k, k < 0 → parseFieldDescriptor (TJ9 k).2.2.1 = some (tyJ9 k) := by decide +kernel
abbrev cJ9_max_7cf53 : ByteArray := prog_14_method_65_code
abbrev yJ9_max_7cf53 : MethodName := ⟨RJ9, "max", "(II)I"⟩
abbrev cJ9_min_7cf53 : ByteArray := prog_14_method_69_code
abbrev yJ9_min_7cf53 : MethodName := ⟨RJ9, "min", "(II)I"⟩
abbrev RJ10 : String := "java/lang/System"
def TJ10 : u_T := fun k => match k with
  | _ => ("", "", "", false)
def tyJ10 : Nat → FieldType := fun k => match k with
  | _ => .int
theorem nmJ10 : ∀ a, a < 0 → ∀ b, b < 0 → a ≠ b → (TJ10 a).2.1 ≠ (TJ10 b).2.1 := by decide +kernel
theorem tyJ10_ok : ∀ k, k < 0 → parseFieldDescriptor (TJ10 k).2.2.1 = some (tyJ10 k) := by decide +kernel
abbrev RL : String := "FourVaultLaw"
abbrev cL_law : ByteArray := code
abbrev yL_law : MethodName := ⟨RL, "law", "([I)Z"⟩
abbrev vwCl : List vw_C := [(RX0, TX0, 4), (RX1, TX1, 4), (RX2, TX2, 4), (RX3, TX3, 2), (RX4, TX4, 2), (RX5, TX5, 3), (RX6, TX6, 3), (RX7, TX7, 1), (RX8, TX8, 6), (RX9, TX9, 3), (RX10, TX10, 8), (RX11, TX11, 35)]
end
section
def gtb : List Cond := lw_tbl.filter goodWord
theorem tm1 {w : Cond} (h : w ∈ tables_1_1) : w ∈ lw_tbl := List.mem_append_right _ (List.mem_append_left _ (h))
theorem tg1 {w : Cond} (h : w ∈ tables_1_1) (g : goodWord w = true) : w ∈ gtb := List.mem_filter.mpr ⟨tm1 h, g⟩
theorem tm2 {w : Cond} (h : w ∈ tables_1_2) : w ∈ lw_tbl := List.mem_append_right _ (List.mem_append_right _ (List.mem_append_left _ (h)))
theorem tg2 {w : Cond} (h : w ∈ tables_1_2) (g : goodWord w = true) : w ∈ gtb := List.mem_filter.mpr ⟨tm2 h, g⟩
theorem tm3 {w : Cond} (h : w ∈ tables_1_3) : w ∈ lw_tbl := List.mem_append_right _ (List.mem_append_right _ (List.mem_append_right _ (List.mem_append_left _ (h))))
theorem tg3 {w : Cond} (h : w ∈ tables_1_3) (g : goodWord w = true) : w ∈ gtb := List.mem_filter.mpr ⟨tm3 h, g⟩
theorem tm4 {w : Cond} (h : w ∈ tables_1_4) : w ∈ lw_tbl := List.mem_append_right _ (List.mem_append_right _ (List.mem_append_right _ (List.mem_append_right _ (List.mem_append_left _ (h)))))
theorem tg4 {w : Cond} (h : w ∈ tables_1_4) (g : goodWord w = true) : w ∈ gtb := List.mem_filter.mpr ⟨tm4 h, g⟩
theorem tm5 {w : Cond} (h : w ∈ tables_1_5) : w ∈ lw_tbl := List.mem_append_right _ (List.mem_append_right _ (List.mem_append_right _ (List.mem_append_right _ (List.mem_append_right _ (h)))))
theorem tg5 {w : Cond} (h : w ∈ tables_1_5) (g : goodWord w = true) : w ∈ gtb := List.mem_filter.mpr ⟨tm5 h, g⟩
theorem wd_0 : (Jvm.Cond.initialized "FourVaultLaw") ∈ gtb := tg1 (List.mem_of_getElem? (i := 0) rfl) rfl
theorem wd_1 : (Jvm.Cond.initialized "FourVault") ∈ gtb := tg1 (List.mem_of_getElem? (i := 1) rfl) rfl
theorem wd_2 : (Jvm.Cond.initialized "FourVault$Reader") ∈ gtb := tg1 (List.mem_of_getElem? (i := 2) rfl) rfl
theorem wd_3 : (Jvm.Cond.initialized "FourVault$Vault") ∈ gtb := tg1 (List.mem_of_getElem? (i := 3) rfl) rfl
theorem wd_4 : (Jvm.Cond.initialized "FourVault$Readings") ∈ gtb := tg1 (List.mem_of_getElem? (i := 4) rfl) rfl
theorem wd_5 : (Jvm.Cond.initialized "FourVault$Night") ∈ gtb := tg1 (List.mem_of_getElem? (i := 5) rfl) rfl
theorem wd_6 : (Jvm.Cond.initialized "FourVault$Sending") ∈ gtb := tg1 (List.mem_of_getElem? (i := 6) rfl) rfl
theorem wd_7 : (Jvm.Cond.initialized "FourVault$Trace") ∈ gtb := tg1 (List.mem_of_getElem? (i := 7) rfl) rfl
theorem wd_8 : (Jvm.Cond.initialized "FourVaultModel") ∈ gtb := tg1 (List.mem_of_getElem? (i := 8) rfl) rfl
theorem wd_9 : (Jvm.Cond.initialized "FourVault$Taker") ∈ gtb := tg1 (List.mem_of_getElem? (i := 9) rfl) rfl
theorem wd_10 : (Jvm.Cond.initialized "FourVault$Singer") ∈ gtb := tg1 (List.mem_of_getElem? (i := 10) rfl) rfl
theorem wd_11 : (Jvm.Cond.initialized "FourVault$Widow") ∈ gtb := tg1 (List.mem_of_getElem? (i := 11) rfl) rfl
theorem wd_12 : (Jvm.Cond.initialized "java/lang/Math") ∈ gtb := tg1 (List.mem_of_getElem? (i := 12) rfl) rfl
theorem wd_13 : (Jvm.Cond.initialized "FourVault$Row") ∈ gtb := tg1 (List.mem_of_getElem? (i := 13) rfl) rfl
theorem wd_14 : (Jvm.Cond.initialized "java/lang/System") ∈ gtb := tg1 (List.mem_of_getElem? (i := 14) rfl) rfl
theorem wd_15 : (Jvm.Cond.classLink "FourVaultLaw" (7 : Nat) "FourVault") ∈ gtb := tg1 (List.mem_of_getElem? (i := 15) rfl) rfl
theorem wd_16 : (Jvm.Cond.instantiable "FourVault" (8 : Nat)) ∈ gtb := tg1 (List.mem_of_getElem? (i := 16) rfl) rfl
theorem wd_17 : (Jvm.Cond.methodLink "FourVaultLaw" (9 : Nat) ({ cls := "FourVault", name := "<init>", desc := "()V" } : Jvm.MethodName)) ∈ gtb := tg1 (List.mem_of_getElem? (i := 17) rfl) rfl
theorem wd_18 : (Jvm.Cond.instanceMethod ({ cls := "FourVault", name := "<init>", desc := "()V" } : Jvm.MethodName)) ∈ gtb := tg1 (List.mem_of_getElem? (i := 18) rfl) rfl
theorem wd_19 : (Jvm.Cond.code ({ cls := "FourVault", name := "<init>", desc := "()V" } : Jvm.MethodName) prog_1_method_1_code (1 : Nat) (Option.none : Option Jvm.ClassFile.FieldType)) ∈ gtb := tg1 (List.mem_of_getElem? (i := 19) rfl) rfl
theorem wd_20 : (Jvm.Cond.methodLink "FourVault" (3 : Nat) ({ cls := "java/lang/Object", name := "<init>", desc := "()V" } : Jvm.MethodName)) ∈ gtb := tg1 (List.mem_of_getElem? (i := 20) rfl) rfl
theorem wd_21 : (Jvm.Cond.instanceMethod ({ cls := "java/lang/Object", name := "<init>", desc := "()V" } : Jvm.MethodName)) ∈ gtb := tg1 (List.mem_of_getElem? (i := 21) rfl) rfl
theorem wd_22 : (Jvm.Cond.code ({ cls := "java/lang/Object", name := "<init>", desc := "()V" } : Jvm.MethodName) object_method_1_code (1 : Nat) (Option.none : Option Jvm.ClassFile.FieldType)) ∈ gtb := tg1 (List.mem_of_getElem? (i := 22) rfl) rfl
theorem wd_23 : (Jvm.Cond.classLink "FourVault" (11 : Nat) "FourVault$Row") ∈ gtb := tg1 (List.mem_of_getElem? (i := 23) rfl) rfl
theorem wd_24 : (Jvm.Cond.arrayOver (Jvm.ClassFile.FieldType.object "FourVault$Row")) ∈ lw_tbl := tm1 (List.mem_of_getElem? (i := 24) rfl)
theorem wd_25 : (Jvm.Cond.classLink "FourVault" (17 : Nat) "FourVault$Reader") ∈ gtb := tg1 (List.mem_of_getElem? (i := 25) rfl) rfl
theorem wd_26 : (Jvm.Cond.instantiable "FourVault$Reader" (4 : Nat)) ∈ gtb := tg1 (List.mem_of_getElem? (i := 26) rfl) rfl
theorem wd_27 : (Jvm.Cond.methodLinkNest "FourVault" (19 : Nat) ({ cls := "FourVault$Reader", name := "<init>", desc := "()V" } : Jvm.MethodName) "FourVault") ∈ lw_tbl := tm1 (List.mem_of_getElem? (i := 27) rfl)
theorem wd_28 : (Jvm.Cond.instanceMethod ({ cls := "FourVault$Reader", name := "<init>", desc := "()V" } : Jvm.MethodName)) ∈ gtb := tg1 (List.mem_of_getElem? (i := 28) rfl) rfl
theorem wd_29 : (Jvm.Cond.code ({ cls := "FourVault$Reader", name := "<init>", desc := "()V" } : Jvm.MethodName) prog_3_method_1_code (1 : Nat) (Option.none : Option Jvm.ClassFile.FieldType)) ∈ gtb := tg1 (List.mem_of_getElem? (i := 29) rfl) rfl
theorem wd_30 : (Jvm.Cond.methodLink "FourVault$Reader" (3 : Nat) ({ cls := "java/lang/Object", name := "<init>", desc := "()V" } : Jvm.MethodName)) ∈ gtb := tg1 (List.mem_of_getElem? (i := 30) rfl) rfl
theorem wd_31 : (Jvm.Cond.classLink "FourVault$Reader" (9 : Nat) "FourVault$Vault") ∈ gtb := tg1 (List.mem_of_getElem? (i := 31) rfl) rfl
theorem wd_32 : (Jvm.Cond.instantiable "FourVault$Vault" (6 : Nat)) ∈ gtb := tg1 (List.mem_of_getElem? (i := 32) rfl) rfl
theorem wd_33 : (Jvm.Cond.methodLinkNest "FourVault$Reader" (11 : Nat) ({ cls := "FourVault$Vault", name := "<init>", desc := "()V" } : Jvm.MethodName) "FourVault") ∈ lw_tbl := tm1 (List.mem_of_getElem? (i := 33) rfl)
theorem wd_34 : (Jvm.Cond.instanceMethod ({ cls := "FourVault$Vault", name := "<init>", desc := "()V" } : Jvm.MethodName)) ∈ gtb := tg1 (List.mem_of_getElem? (i := 34) rfl) rfl
theorem wd_35 : (Jvm.Cond.code ({ cls := "FourVault$Vault", name := "<init>", desc := "()V" } : Jvm.MethodName) prog_10_method_1_code (1 : Nat) (Option.none : Option Jvm.ClassFile.FieldType)) ∈ gtb := tg1 (List.mem_of_getElem? (i := 35) rfl) rfl
theorem wd_36 : (Jvm.Cond.methodLink "FourVault$Vault" (3 : Nat) ({ cls := "java/lang/Object", name := "<init>", desc := "()V" } : Jvm.MethodName)) ∈ gtb := tg1 (List.mem_of_getElem? (i := 36) rfl) rfl
theorem wd_37 : (Jvm.Cond.classLink "FourVault$Vault" (15 : Nat) "FourVault$Taker") ∈ gtb := tg1 (List.mem_of_getElem? (i := 37) rfl) rfl
theorem wd_38 : (Jvm.Cond.arrayOver (Jvm.ClassFile.FieldType.object "FourVault$Taker")) ∈ lw_tbl := tm1 (List.mem_of_getElem? (i := 38) rfl)
theorem wd_39 : (Jvm.Cond.fieldLink "FourVault$Vault" (9 : Nat) "FourVault$Vault" "weights" "[I") ∈ gtb := tg1 (List.mem_of_getElem? (i := 39) rfl) rfl
theorem wd_40 : (Jvm.Cond.fieldLink "FourVault" (121 : Nat) "FourVault$Vault" "weights" "[I") ∈ gtb := tg1 (List.mem_of_getElem? (i := 40) rfl) rfl
theorem wd_41 : (Jvm.Cond.fieldLink "FourVault$Reader" (72 : Nat) "FourVault$Vault" "weights" "[I") ∈ gtb := tg1 (List.mem_of_getElem? (i := 41) rfl) rfl
theorem wd_42 : (Jvm.Cond.fieldLink "FourVault$Vault" (17 : Nat) "FourVault$Vault" "takers" "[LFourVault$Taker;") ∈ gtb := tg1 (List.mem_of_getElem? (i := 42) rfl) rfl
theorem wd_43 : (Jvm.Cond.fieldLink "FourVault$Reader" (78 : Nat) "FourVault$Vault" "takers" "[LFourVault$Taker;") ∈ gtb := tg1 (List.mem_of_getElem? (i := 43) rfl) rfl
theorem wd_44 : (Jvm.Cond.fieldLink "FourVault" (184 : Nat) "FourVault$Vault" "takers" "[LFourVault$Taker;") ∈ gtb := tg1 (List.mem_of_getElem? (i := 44) rfl) rfl
theorem wd_45 : (Jvm.Cond.fieldLink "FourVault$Vault" (21 : Nat) "FourVault$Vault" "depths" "[I") ∈ gtb := tg1 (List.mem_of_getElem? (i := 45) rfl) rfl
theorem wd_46 : (Jvm.Cond.fieldLink "FourVault" (114 : Nat) "FourVault$Vault" "depths" "[I") ∈ gtb := tg1 (List.mem_of_getElem? (i := 46) rfl) rfl
theorem wd_47 : (Jvm.Cond.fieldLink "FourVault$Sending" (55 : Nat) "FourVault$Vault" "depths" "[I") ∈ gtb := tg1 (List.mem_of_getElem? (i := 47) rfl) rfl
theorem wd_48 : (Jvm.Cond.fieldLink "FourVault$Reader" (89 : Nat) "FourVault$Vault" "depths" "[I") ∈ gtb := tg1 (List.mem_of_getElem? (i := 48) rfl) rfl
theorem wd_49 : (Jvm.Cond.fieldLink "FourVault$Vault" (24 : Nat) "FourVault$Vault" "places" "I") ∈ gtb := tg1 (List.mem_of_getElem? (i := 49) rfl) rfl
theorem wd_50 : (Jvm.Cond.fieldLink "FourVault$Reader" (69 : Nat) "FourVault$Vault" "places" "I") ∈ gtb := tg1 (List.mem_of_getElem? (i := 50) rfl) rfl
theorem wd_51 : (Jvm.Cond.fieldLink "FourVault" (197 : Nat) "FourVault$Vault" "places" "I") ∈ gtb := tg1 (List.mem_of_getElem? (i := 51) rfl) rfl
theorem wd_52 : (Jvm.Cond.fieldLink "FourVault$Vault" (28 : Nat) "FourVault$Vault" "takerCount" "I") ∈ gtb := tg1 (List.mem_of_getElem? (i := 52) rfl) rfl
theorem wd_53 : (Jvm.Cond.fieldLink "FourVault$Sending" (20 : Nat) "FourVault$Vault" "takerCount" "I") ∈ gtb := tg1 (List.mem_of_getElem? (i := 53) rfl) rfl
theorem wd_54 : (Jvm.Cond.fieldLink "FourVault" (92 : Nat) "FourVault$Vault" "takerCount" "I") ∈ gtb := tg1 (List.mem_of_getElem? (i := 54) rfl) rfl
theorem wd_55 : (Jvm.Cond.fieldLink "FourVault$Reader" (75 : Nat) "FourVault$Vault" "takerCount" "I") ∈ gtb := tg1 (List.mem_of_getElem? (i := 55) rfl) rfl
theorem wd_56 : (Jvm.Cond.fieldLink "FourVault$Vault" (31 : Nat) "FourVault$Vault" "goods" "I") ∈ gtb := tg1 (List.mem_of_getElem? (i := 56) rfl) rfl
theorem wd_57 : (Jvm.Cond.fieldLink "FourVault$Sending" (38 : Nat) "FourVault$Vault" "goods" "I") ∈ gtb := tg1 (List.mem_of_getElem? (i := 57) rfl) rfl
theorem wd_58 : (Jvm.Cond.fieldLink "FourVault$Reader" (86 : Nat) "FourVault$Vault" "goods" "I") ∈ gtb := tg1 (List.mem_of_getElem? (i := 58) rfl) rfl
theorem wd_59 : (Jvm.Cond.fieldLink "FourVault" (233 : Nat) "FourVault$Vault" "goods" "I") ∈ gtb := tg1 (List.mem_of_getElem? (i := 59) rfl) rfl
theorem wd_60 : (Jvm.Cond.laysFinal "FourVault$Vault" "FourVault$Vault" "weights" "[I") ∈ gtb := tg1 (List.mem_of_getElem? (i := 60) rfl) rfl
theorem wd_61 : (Jvm.Cond.soleField "FourVault$Vault" "weights") ∈ gtb := tg1 (List.mem_of_getElem? (i := 61) rfl) rfl
theorem wd_62 : (Jvm.Cond.laysFinal "FourVault$Vault" "FourVault$Vault" "takers" "[LFourVault$Taker;") ∈ gtb := tg1 (List.mem_of_getElem? (i := 62) rfl) rfl
theorem wd_63 : (Jvm.Cond.soleField "FourVault$Vault" "takers") ∈ gtb := tg1 (List.mem_of_getElem? (i := 63) rfl) rfl
theorem wd_64 : (Jvm.Cond.laysFinal "FourVault$Vault" "FourVault$Vault" "depths" "[I") ∈ gtb := tg1 (List.mem_of_getElem? (i := 64) rfl) rfl
theorem wd_65 : (Jvm.Cond.soleField "FourVault$Vault" "depths") ∈ gtb := tg1 (List.mem_of_getElem? (i := 65) rfl) rfl
theorem wd_66 : (Jvm.Cond.lays "FourVault$Vault" "FourVault$Vault" "places" "I") ∈ gtb := tg1 (List.mem_of_getElem? (i := 66) rfl) rfl
theorem wd_67 : (Jvm.Cond.soleField "FourVault$Vault" "places") ∈ gtb := tg1 (List.mem_of_getElem? (i := 67) rfl) rfl
theorem wd_68 : (Jvm.Cond.lays "FourVault$Vault" "FourVault$Vault" "takerCount" "I") ∈ gtb := tg1 (List.mem_of_getElem? (i := 68) rfl) rfl
theorem wd_69 : (Jvm.Cond.soleField "FourVault$Vault" "takerCount") ∈ gtb := tg1 (List.mem_of_getElem? (i := 69) rfl) rfl
theorem wd_70 : (Jvm.Cond.lays "FourVault$Vault" "FourVault$Vault" "goods" "I") ∈ gtb := tg1 (List.mem_of_getElem? (i := 70) rfl) rfl
theorem wd_71 : (Jvm.Cond.soleField "FourVault$Vault" "goods") ∈ gtb := tg1 (List.mem_of_getElem? (i := 71) rfl) rfl
theorem wd_72 : (Jvm.Cond.superclass "FourVault$Vault" "java/lang/Object") ∈ gtb := tg1 (List.mem_of_getElem? (i := 72) rfl) rfl
theorem wd_73 : (Jvm.Cond.arrayClass Jvm.ClassFile.FieldType.int) ∈ gtb := tg1 (List.mem_of_getElem? (i := 73) rfl) rfl
theorem wd_74 : (Jvm.Cond.fieldLink "FourVault$Reader" (12 : Nat) "FourVault$Reader" "draft" "LFourVault$Vault;") ∈ gtb := tg1 (List.mem_of_getElem? (i := 74) rfl) rfl
theorem wd_75 : (Jvm.Cond.fieldLink "FourVault$Reader" (18 : Nat) "FourVault$Reader" "due" "I") ∈ gtb := tg1 (List.mem_of_getElem? (i := 75) rfl) rfl
theorem wd_76 : (Jvm.Cond.fieldLink "FourVault$Reader" (22 : Nat) "FourVault$Reader" "kind" "I") ∈ gtb := tg1 (List.mem_of_getElem? (i := 76) rfl) rfl
theorem wd_77 : (Jvm.Cond.fieldLink "FourVault$Reader" (25 : Nat) "FourVault$Reader" "nerve" "I") ∈ gtb := tg1 (List.mem_of_getElem? (i := 77) rfl) rfl
theorem wd_78 : (Jvm.Cond.lays "FourVault$Reader" "FourVault$Reader" "draft" "LFourVault$Vault;") ∈ gtb := tg1 (List.mem_of_getElem? (i := 78) rfl) rfl
theorem wd_79 : (Jvm.Cond.soleField "FourVault$Reader" "draft") ∈ gtb := tg1 (List.mem_of_getElem? (i := 79) rfl) rfl
theorem wd_80 : (Jvm.Cond.lays "FourVault$Reader" "FourVault$Reader" "due" "I") ∈ gtb := tg1 (List.mem_of_getElem? (i := 80) rfl) rfl
theorem wd_81 : (Jvm.Cond.soleField "FourVault$Reader" "due") ∈ gtb := tg1 (List.mem_of_getElem? (i := 81) rfl) rfl
theorem wd_82 : (Jvm.Cond.lays "FourVault$Reader" "FourVault$Reader" "kind" "I") ∈ gtb := tg1 (List.mem_of_getElem? (i := 82) rfl) rfl
theorem wd_83 : (Jvm.Cond.soleField "FourVault$Reader" "kind") ∈ gtb := tg1 (List.mem_of_getElem? (i := 83) rfl) rfl
theorem wd_84 : (Jvm.Cond.lays "FourVault$Reader" "FourVault$Reader" "nerve" "I") ∈ gtb := tg1 (List.mem_of_getElem? (i := 84) rfl) rfl
theorem wd_85 : (Jvm.Cond.soleField "FourVault$Reader" "nerve") ∈ gtb := tg1 (List.mem_of_getElem? (i := 85) rfl) rfl
theorem wd_86 : (Jvm.Cond.superclass "FourVault$Reader" "java/lang/Object") ∈ gtb := tg1 (List.mem_of_getElem? (i := 86) rfl) rfl
theorem wd_87 : (Jvm.Cond.classLink "FourVault" (24 : Nat) "FourVault$Readings") ∈ gtb := tg1 (List.mem_of_getElem? (i := 87) rfl) rfl
theorem wd_88 : (Jvm.Cond.instantiable "FourVault$Readings" (4 : Nat)) ∈ gtb := tg1 (List.mem_of_getElem? (i := 88) rfl) rfl
theorem wd_89 : (Jvm.Cond.methodLinkNest "FourVault" (26 : Nat) ({ cls := "FourVault$Readings", name := "<init>", desc := "()V" } : Jvm.MethodName) "FourVault") ∈ lw_tbl := tm1 (List.mem_of_getElem? (i := 89) rfl)
theorem wd_90 : (Jvm.Cond.instanceMethod ({ cls := "FourVault$Readings", name := "<init>", desc := "()V" } : Jvm.MethodName)) ∈ gtb := tg1 (List.mem_of_getElem? (i := 90) rfl) rfl
theorem wd_91 : (Jvm.Cond.code ({ cls := "FourVault$Readings", name := "<init>", desc := "()V" } : Jvm.MethodName) prog_4_method_1_code (1 : Nat) (Option.none : Option Jvm.ClassFile.FieldType)) ∈ gtb := tg1 (List.mem_of_getElem? (i := 91) rfl) rfl
theorem wd_92 : (Jvm.Cond.methodLink "FourVault$Readings" (3 : Nat) ({ cls := "java/lang/Object", name := "<init>", desc := "()V" } : Jvm.MethodName)) ∈ gtb := tg1 (List.mem_of_getElem? (i := 92) rfl) rfl
theorem wd_93 : (Jvm.Cond.fieldLink "FourVault$Readings" (9 : Nat) "FourVault$Readings" "takers" "[I") ∈ gtb := tg1 (List.mem_of_getElem? (i := 93) rfl) rfl
theorem wd_94 : (Jvm.Cond.fieldLink "FourVault$Readings" (15 : Nat) "FourVault$Readings" "begins" "[I") ∈ gtb := tg1 (List.mem_of_getElem? (i := 94) rfl) rfl
theorem wd_95 : (Jvm.Cond.fieldLink "FourVault$Readings" (18 : Nat) "FourVault$Readings" "helds" "[I") ∈ gtb := tg1 (List.mem_of_getElem? (i := 95) rfl) rfl
theorem wd_96 : (Jvm.Cond.fieldLink "FourVault$Readings" (21 : Nat) "FourVault$Readings" "count" "I") ∈ gtb := tg1 (List.mem_of_getElem? (i := 96) rfl) rfl
theorem wd_97 : (Jvm.Cond.fieldLink "FourVault" (89 : Nat) "FourVault$Readings" "count" "I") ∈ gtb := tg1 (List.mem_of_getElem? (i := 97) rfl) rfl
theorem wd_98 : (Jvm.Cond.laysFinal "FourVault$Readings" "FourVault$Readings" "takers" "[I") ∈ gtb := tg1 (List.mem_of_getElem? (i := 98) rfl) rfl
theorem wd_99 : (Jvm.Cond.soleField "FourVault$Readings" "takers") ∈ gtb := tg1 (List.mem_of_getElem? (i := 99) rfl) rfl
theorem wd_100 : (Jvm.Cond.laysFinal "FourVault$Readings" "FourVault$Readings" "begins" "[I") ∈ gtb := tg1 (List.mem_of_getElem? (i := 100) rfl) rfl
theorem wd_101 : (Jvm.Cond.soleField "FourVault$Readings" "begins") ∈ gtb := tg1 (List.mem_of_getElem? (i := 101) rfl) rfl
theorem wd_102 : (Jvm.Cond.laysFinal "FourVault$Readings" "FourVault$Readings" "helds" "[I") ∈ gtb := tg1 (List.mem_of_getElem? (i := 102) rfl) rfl
theorem wd_103 : (Jvm.Cond.soleField "FourVault$Readings" "helds") ∈ gtb := tg1 (List.mem_of_getElem? (i := 103) rfl) rfl
theorem wd_104 : (Jvm.Cond.lays "FourVault$Readings" "FourVault$Readings" "count" "I") ∈ gtb := tg1 (List.mem_of_getElem? (i := 104) rfl) rfl
theorem wd_105 : (Jvm.Cond.soleField "FourVault$Readings" "count") ∈ gtb := tg1 (List.mem_of_getElem? (i := 105) rfl) rfl
theorem wd_106 : (Jvm.Cond.superclass "FourVault$Readings" "java/lang/Object") ∈ gtb := tg1 (List.mem_of_getElem? (i := 106) rfl) rfl
theorem wd_107 : (Jvm.Cond.classLink "FourVault" (31 : Nat) "FourVault$Night") ∈ gtb := tg1 (List.mem_of_getElem? (i := 107) rfl) rfl
theorem wd_108 : (Jvm.Cond.instantiable "FourVault$Night" (4 : Nat)) ∈ gtb := tg1 (List.mem_of_getElem? (i := 108) rfl) rfl
theorem wd_109 : (Jvm.Cond.methodLinkNest "FourVault" (33 : Nat) ({ cls := "FourVault$Night", name := "<init>", desc := "()V" } : Jvm.MethodName) "FourVault") ∈ lw_tbl := tm1 (List.mem_of_getElem? (i := 109) rfl)
theorem wd_110 : (Jvm.Cond.instanceMethod ({ cls := "FourVault$Night", name := "<init>", desc := "()V" } : Jvm.MethodName)) ∈ gtb := tg1 (List.mem_of_getElem? (i := 110) rfl) rfl
theorem wd_111 : (Jvm.Cond.code ({ cls := "FourVault$Night", name := "<init>", desc := "()V" } : Jvm.MethodName) prog_2_method_1_code (1 : Nat) (Option.none : Option Jvm.ClassFile.FieldType)) ∈ gtb := tg1 (List.mem_of_getElem? (i := 111) rfl) rfl
theorem wd_112 : (Jvm.Cond.methodLink "FourVault$Night" (3 : Nat) ({ cls := "java/lang/Object", name := "<init>", desc := "()V" } : Jvm.MethodName)) ∈ gtb := tg1 (List.mem_of_getElem? (i := 112) rfl) rfl
theorem wd_113 : (Jvm.Cond.fieldLink "FourVault$Night" (9 : Nat) "FourVault$Night" "takers" "[I") ∈ gtb := tg1 (List.mem_of_getElem? (i := 113) rfl) rfl
theorem wd_114 : (Jvm.Cond.fieldLink "FourVault$Night" (15 : Nat) "FourVault$Night" "begins" "[I") ∈ gtb := tg1 (List.mem_of_getElem? (i := 114) rfl) rfl
theorem wd_115 : (Jvm.Cond.fieldLink "FourVault$Night" (18 : Nat) "FourVault$Night" "ends" "[I") ∈ gtb := tg1 (List.mem_of_getElem? (i := 115) rfl) rfl
theorem wd_116 : (Jvm.Cond.fieldLink "FourVault$Night" (21 : Nat) "FourVault$Night" "count" "I") ∈ gtb := tg1 (List.mem_of_getElem? (i := 116) rfl) rfl
theorem wd_117 : (Jvm.Cond.laysFinal "FourVault$Night" "FourVault$Night" "takers" "[I") ∈ gtb := tg1 (List.mem_of_getElem? (i := 117) rfl) rfl
theorem wd_118 : (Jvm.Cond.soleField "FourVault$Night" "takers") ∈ gtb := tg1 (List.mem_of_getElem? (i := 118) rfl) rfl
theorem wd_119 : (Jvm.Cond.laysFinal "FourVault$Night" "FourVault$Night" "begins" "[I") ∈ gtb := tg1 (List.mem_of_getElem? (i := 119) rfl) rfl
theorem wd_120 : (Jvm.Cond.soleField "FourVault$Night" "begins") ∈ gtb := tg1 (List.mem_of_getElem? (i := 120) rfl) rfl
theorem wd_121 : (Jvm.Cond.laysFinal "FourVault$Night" "FourVault$Night" "ends" "[I") ∈ gtb := tg1 (List.mem_of_getElem? (i := 121) rfl) rfl
theorem wd_122 : (Jvm.Cond.soleField "FourVault$Night" "ends") ∈ gtb := tg1 (List.mem_of_getElem? (i := 122) rfl) rfl
theorem wd_123 : (Jvm.Cond.lays "FourVault$Night" "FourVault$Night" "count" "I") ∈ gtb := tg1 (List.mem_of_getElem? (i := 123) rfl) rfl
theorem wd_124 : (Jvm.Cond.soleField "FourVault$Night" "count") ∈ gtb := tg1 (List.mem_of_getElem? (i := 124) rfl) rfl
theorem wd_125 : (Jvm.Cond.superclass "FourVault$Night" "java/lang/Object") ∈ gtb := tg1 (List.mem_of_getElem? (i := 125) rfl) rfl
theorem wd_126 : (Jvm.Cond.classLink "FourVault" (38 : Nat) "FourVault$Sending") ∈ gtb := tg1 (List.mem_of_getElem? (i := 126) rfl) rfl
theorem wd_127 : (Jvm.Cond.instantiable "FourVault$Sending" (2 : Nat)) ∈ gtb := tg1 (List.mem_of_getElem? (i := 127) rfl) rfl
theorem wd_128 : (Jvm.Cond.methodLinkNest "FourVault" (40 : Nat) ({ cls := "FourVault$Sending", name := "<init>", desc := "()V" } : Jvm.MethodName) "FourVault") ∈ lw_tbl := tm1 (List.mem_of_getElem? (i := 128) rfl)
theorem wd_129 : (Jvm.Cond.instanceMethod ({ cls := "FourVault$Sending", name := "<init>", desc := "()V" } : Jvm.MethodName)) ∈ gtb := tg1 (List.mem_of_getElem? (i := 129) rfl) rfl
theorem wd_130 : (Jvm.Cond.code ({ cls := "FourVault$Sending", name := "<init>", desc := "()V" } : Jvm.MethodName) prog_6_method_1_code (1 : Nat) (Option.none : Option Jvm.ClassFile.FieldType)) ∈ gtb := tg1 (List.mem_of_getElem? (i := 130) rfl) rfl
theorem wd_131 : (Jvm.Cond.methodLink "FourVault$Sending" (3 : Nat) ({ cls := "java/lang/Object", name := "<init>", desc := "()V" } : Jvm.MethodName)) ∈ gtb := tg1 (List.mem_of_getElem? (i := 131) rfl) rfl
theorem wd_132 : (Jvm.Cond.classLink "FourVault$Sending" (11 : Nat) "[[I") ∈ gtb := tg1 (List.mem_of_getElem? (i := 132) rfl) rfl
theorem wd_133 : (Jvm.Cond.arrayOver (Jvm.ClassFile.FieldType.array Jvm.ClassFile.FieldType.int)) ∈ lw_tbl := tm1 (List.mem_of_getElem? (i := 133) rfl)
theorem wd_134 : (Jvm.Cond.fieldLink "FourVault$Sending" (13 : Nat) "FourVault$Sending" "mostFrom" "[[I") ∈ gtb := tg1 (List.mem_of_getElem? (i := 134) rfl) rfl
theorem wd_135 : (Jvm.Cond.fieldLink "FourVault$Sending" (16 : Nat) "FourVault$Sending" "got" "[I") ∈ gtb := tg1 (List.mem_of_getElem? (i := 135) rfl) rfl
theorem wd_136 : (Jvm.Cond.laysFinal "FourVault$Sending" "FourVault$Sending" "mostFrom" "[[I") ∈ gtb := tg1 (List.mem_of_getElem? (i := 136) rfl) rfl
theorem wd_137 : (Jvm.Cond.soleField "FourVault$Sending" "mostFrom") ∈ gtb := tg1 (List.mem_of_getElem? (i := 137) rfl) rfl
theorem wd_138 : (Jvm.Cond.laysFinal "FourVault$Sending" "FourVault$Sending" "got" "[I") ∈ gtb := tg1 (List.mem_of_getElem? (i := 138) rfl) rfl
theorem wd_139 : (Jvm.Cond.soleField "FourVault$Sending" "got") ∈ gtb := tg1 (List.mem_of_getElem? (i := 139) rfl) rfl
theorem wd_140 : (Jvm.Cond.superclass "FourVault$Sending" "java/lang/Object") ∈ gtb := tg1 (List.mem_of_getElem? (i := 140) rfl) rfl
theorem wd_141 : (Jvm.Cond.classLink "FourVault" (45 : Nat) "FourVault$Trace") ∈ gtb := tg1 (List.mem_of_getElem? (i := 141) rfl) rfl
theorem wd_142 : (Jvm.Cond.instantiable "FourVault$Trace" (1 : Nat)) ∈ gtb := tg1 (List.mem_of_getElem? (i := 142) rfl) rfl
theorem wd_143 : (Jvm.Cond.methodLinkNest "FourVault" (47 : Nat) ({ cls := "FourVault$Trace", name := "<init>", desc := "()V" } : Jvm.MethodName) "FourVault") ∈ lw_tbl := tm1 (List.mem_of_getElem? (i := 143) rfl)
theorem wd_144 : (Jvm.Cond.instanceMethod ({ cls := "FourVault$Trace", name := "<init>", desc := "()V" } : Jvm.MethodName)) ∈ gtb := tg1 (List.mem_of_getElem? (i := 144) rfl) rfl
theorem wd_145 : (Jvm.Cond.code ({ cls := "FourVault$Trace", name := "<init>", desc := "()V" } : Jvm.MethodName) prog_9_method_1_code (1 : Nat) (Option.none : Option Jvm.ClassFile.FieldType)) ∈ gtb := tg1 (List.mem_of_getElem? (i := 145) rfl) rfl
theorem wd_146 : (Jvm.Cond.methodLink "FourVault$Trace" (1 : Nat) ({ cls := "java/lang/Object", name := "<init>", desc := "()V" } : Jvm.MethodName)) ∈ gtb := tg1 (List.mem_of_getElem? (i := 146) rfl) rfl
theorem wd_147 : (Jvm.Cond.fieldLink "FourVault$Trace" (7 : Nat) "FourVault$Trace" "left" "I") ∈ gtb := tg1 (List.mem_of_getElem? (i := 147) rfl) rfl
theorem wd_148 : (Jvm.Cond.fieldLink "FourVault" (230 : Nat) "FourVault$Trace" "left" "I") ∈ gtb := tg1 (List.mem_of_getElem? (i := 148) rfl) rfl
theorem wd_149 : (Jvm.Cond.lays "FourVault$Trace" "FourVault$Trace" "left" "I") ∈ gtb := tg1 (List.mem_of_getElem? (i := 149) rfl) rfl
theorem wd_150 : (Jvm.Cond.soleField "FourVault$Trace" "left") ∈ gtb := tg1 (List.mem_of_getElem? (i := 150) rfl) rfl
theorem wd_151 : (Jvm.Cond.superclass "FourVault$Trace" "java/lang/Object") ∈ gtb := tg1 (List.mem_of_getElem? (i := 151) rfl) rfl
theorem wd_152 : (Jvm.Cond.classLink "FourVault" (52 : Nat) "FourVault$Vault") ∈ gtb := tg1 (List.mem_of_getElem? (i := 152) rfl) rfl
theorem wd_153 : (Jvm.Cond.methodLinkNest "FourVault" (54 : Nat) ({ cls := "FourVault$Vault", name := "<init>", desc := "()V" } : Jvm.MethodName) "FourVault") ∈ lw_tbl := tm1 (List.mem_of_getElem? (i := 153) rfl)
theorem wd_154 : (Jvm.Cond.fieldLink "FourVault" (13 : Nat) "FourVault" "sheets" "[LFourVault$Row;") ∈ gtb := tg1 (List.mem_of_getElem? (i := 154) rfl) rfl
theorem wd_155 : (Jvm.Cond.fieldLink "FourVault" (20 : Nat) "FourVault" "reader" "LFourVault$Reader;") ∈ gtb := tg1 (List.mem_of_getElem? (i := 155) rfl) rfl
theorem wd_156 : (Jvm.Cond.fieldLink "FourVault" (27 : Nat) "FourVault" "readings" "LFourVault$Readings;") ∈ gtb := tg1 (List.mem_of_getElem? (i := 156) rfl) rfl
theorem wd_157 : (Jvm.Cond.fieldLink "FourVault" (34 : Nat) "FourVault" "told" "LFourVault$Night;") ∈ gtb := tg1 (List.mem_of_getElem? (i := 157) rfl) rfl
theorem wd_158 : (Jvm.Cond.fieldLink "FourVault" (41 : Nat) "FourVault" "sending" "LFourVault$Sending;") ∈ gtb := tg1 (List.mem_of_getElem? (i := 158) rfl) rfl
theorem wd_159 : (Jvm.Cond.fieldLink "FourVault" (48 : Nat) "FourVault" "trace" "LFourVault$Trace;") ∈ gtb := tg1 (List.mem_of_getElem? (i := 159) rfl) rfl
theorem wd_160 : (Jvm.Cond.fieldLink "FourVault" (55 : Nat) "FourVault" "kept" "LFourVault$Vault;") ∈ gtb := tg1 (List.mem_of_getElem? (i := 160) rfl) rfl
theorem wd_161 : (Jvm.Cond.fieldLink "FourVault" (59 : Nat) "FourVault" "fault" "I") ∈ gtb := tg1 (List.mem_of_getElem? (i := 161) rfl) rfl
theorem wd_162 : (Jvm.Cond.laysFinal "FourVault" "FourVault" "sheets" "[LFourVault$Row;") ∈ gtb := tg1 (List.mem_of_getElem? (i := 162) rfl) rfl
theorem wd_163 : (Jvm.Cond.soleField "FourVault" "sheets") ∈ gtb := tg1 (List.mem_of_getElem? (i := 163) rfl) rfl
theorem wd_164 : (Jvm.Cond.laysFinal "FourVault" "FourVault" "reader" "LFourVault$Reader;") ∈ gtb := tg1 (List.mem_of_getElem? (i := 164) rfl) rfl
theorem wd_165 : (Jvm.Cond.soleField "FourVault" "reader") ∈ gtb := tg1 (List.mem_of_getElem? (i := 165) rfl) rfl
theorem wd_166 : (Jvm.Cond.laysFinal "FourVault" "FourVault" "readings" "LFourVault$Readings;") ∈ gtb := tg1 (List.mem_of_getElem? (i := 166) rfl) rfl
theorem wd_167 : (Jvm.Cond.soleField "FourVault" "readings") ∈ gtb := tg1 (List.mem_of_getElem? (i := 167) rfl) rfl
theorem wd_168 : (Jvm.Cond.laysFinal "FourVault" "FourVault" "told" "LFourVault$Night;") ∈ gtb := tg1 (List.mem_of_getElem? (i := 168) rfl) rfl
theorem wd_169 : (Jvm.Cond.soleField "FourVault" "told") ∈ gtb := tg1 (List.mem_of_getElem? (i := 169) rfl) rfl
theorem wd_170 : (Jvm.Cond.laysFinal "FourVault" "FourVault" "sending" "LFourVault$Sending;") ∈ gtb := tg1 (List.mem_of_getElem? (i := 170) rfl) rfl
theorem wd_171 : (Jvm.Cond.soleField "FourVault" "sending") ∈ gtb := tg1 (List.mem_of_getElem? (i := 171) rfl) rfl
theorem wd_172 : (Jvm.Cond.laysFinal "FourVault" "FourVault" "trace" "LFourVault$Trace;") ∈ gtb := tg1 (List.mem_of_getElem? (i := 172) rfl) rfl
theorem wd_173 : (Jvm.Cond.soleField "FourVault" "trace") ∈ gtb := tg1 (List.mem_of_getElem? (i := 173) rfl) rfl
theorem wd_174 : (Jvm.Cond.lays "FourVault" "FourVault" "kept" "LFourVault$Vault;") ∈ gtb := tg1 (List.mem_of_getElem? (i := 174) rfl) rfl
theorem wd_175 : (Jvm.Cond.soleField "FourVault" "kept") ∈ gtb := tg1 (List.mem_of_getElem? (i := 175) rfl) rfl
theorem wd_176 : (Jvm.Cond.lays "FourVault" "FourVault" "fault" "I") ∈ gtb := tg1 (List.mem_of_getElem? (i := 176) rfl) rfl
theorem wd_177 : (Jvm.Cond.soleField "FourVault" "fault") ∈ gtb := tg1 (List.mem_of_getElem? (i := 177) rfl) rfl
theorem wd_178 : (Jvm.Cond.superclass "FourVault" "java/lang/Object") ∈ gtb := tg1 (List.mem_of_getElem? (i := 178) rfl) rfl
theorem wd_179 : (Jvm.Cond.methodLink "FourVaultLaw" (13 : Nat) ({ cls := "FourVault", name := "vault", desc := "(IIII)I" } : Jvm.MethodName)) ∈ gtb := tg1 (List.mem_of_getElem? (i := 179) rfl) rfl
theorem wd_180 : (Jvm.Cond.instanceMethod ({ cls := "FourVault", name := "vault", desc := "(IIII)I" } : Jvm.MethodName)) ∈ gtb := tg1 (List.mem_of_getElem? (i := 180) rfl) rfl
theorem wd_181 : (Jvm.Cond.selects "FourVault" ({ cls := "FourVault", name := "vault", desc := "(IIII)I" } : Jvm.MethodName) ({ cls := "FourVault", name := "vault", desc := "(IIII)I" } : Jvm.MethodName)) ∈ gtb := tg1 (List.mem_of_getElem? (i := 181) rfl) rfl
theorem wd_182 : (Jvm.Cond.code ({ cls := "FourVault", name := "vault", desc := "(IIII)I" } : Jvm.MethodName) prog_1_method_2_code (7 : Nat) (Option.some Jvm.ClassFile.FieldType.int)) ∈ gtb := tg1 (List.mem_of_getElem? (i := 182) rfl) rfl
theorem wd_183 : (Jvm.Cond.methodLink "FourVault" (63 : Nat) ({ cls := "FourVault", name := "isSheet", desc := "(I)Z" } : Jvm.MethodName)) ∈ gtb := tg1 (List.mem_of_getElem? (i := 183) rfl) rfl
theorem wd_184 : (Jvm.Cond.static ({ cls := "FourVault", name := "isSheet", desc := "(I)Z" } : Jvm.MethodName)) ∈ gtb := tg1 (List.mem_of_getElem? (i := 184) rfl) rfl
theorem wd_185 : (Jvm.Cond.code ({ cls := "FourVault", name := "isSheet", desc := "(I)Z" } : Jvm.MethodName) prog_1_method_36_code (1 : Nat) (Option.some Jvm.ClassFile.FieldType.boolean)) ∈ gtb := tg1 (List.mem_of_getElem? (i := 185) rfl) rfl
theorem wd_186 : (Jvm.Cond.methodLink "FourVault" (67 : Nat) ({ cls := "FourVault", name := "isLane", desc := "(I)Z" } : Jvm.MethodName)) ∈ gtb := tg1 (List.mem_of_getElem? (i := 186) rfl) rfl
theorem wd_187 : (Jvm.Cond.static ({ cls := "FourVault", name := "isLane", desc := "(I)Z" } : Jvm.MethodName)) ∈ gtb := tg1 (List.mem_of_getElem? (i := 187) rfl) rfl
theorem wd_188 : (Jvm.Cond.code ({ cls := "FourVault", name := "isLane", desc := "(I)Z" } : Jvm.MethodName) prog_1_method_37_code (1 : Nat) (Option.some Jvm.ClassFile.FieldType.boolean)) ∈ gtb := tg1 (List.mem_of_getElem? (i := 188) rfl) rfl
theorem wd_189 : (Jvm.Cond.methodLink "FourVault" (70 : Nat) ({ cls := "FourVault", name := "faulted", desc := "(I)I" } : Jvm.MethodName)) ∈ gtb := tg1 (List.mem_of_getElem? (i := 189) rfl) rfl
theorem wd_190 : (Jvm.Cond.privateMethod ({ cls := "FourVault", name := "faulted", desc := "(I)I" } : Jvm.MethodName)) ∈ lw_tbl := tm1 (List.mem_of_getElem? (i := 190) rfl)
theorem wd_191 : (Jvm.Cond.instanceMethod ({ cls := "FourVault", name := "faulted", desc := "(I)I" } : Jvm.MethodName)) ∈ gtb := tg1 (List.mem_of_getElem? (i := 191) rfl) rfl
theorem wd_192 : (Jvm.Cond.code ({ cls := "FourVault", name := "faulted", desc := "(I)I" } : Jvm.MethodName) prog_1_method_34_code (2 : Nat) (Option.some Jvm.ClassFile.FieldType.int)) ∈ gtb := tg1 (List.mem_of_getElem? (i := 192) rfl) rfl
theorem wd_193 : (Jvm.Cond.methodLink "FourVault" (77 : Nat) ({ cls := "FourVault$Row", name := "hasCells", desc := "(II)Z" } : Jvm.MethodName)) ∈ gtb := tg1 (List.mem_of_getElem? (i := 193) rfl) rfl
theorem wd_194 : (Jvm.Cond.instanceMethod ({ cls := "FourVault$Row", name := "hasCells", desc := "(II)Z" } : Jvm.MethodName)) ∈ gtb := tg1 (List.mem_of_getElem? (i := 194) rfl) rfl
theorem wd_195 : (Jvm.Cond.selects "FourVault$Row" ({ cls := "FourVault$Row", name := "hasCells", desc := "(II)Z" } : Jvm.MethodName) ({ cls := "FourVault$Row", name := "hasCells", desc := "(II)Z" } : Jvm.MethodName)) ∈ gtb := tg1 (List.mem_of_getElem? (i := 195) rfl) rfl
theorem wd_196 : (Jvm.Cond.code ({ cls := "FourVault$Row", name := "hasCells", desc := "(II)Z" } : Jvm.MethodName) prog_5_method_2_code (3 : Nat) (Option.some Jvm.ClassFile.FieldType.boolean)) ∈ gtb := tg1 (List.mem_of_getElem? (i := 196) rfl) rfl
theorem wd_197 : (Jvm.Cond.methodLink "FourVault" (81 : Nat) ({ cls := "FourVault$Reader", name := "readAll", desc := "(LFourVault$Row;II)I" } : Jvm.MethodName)) ∈ gtb := tg1 (List.mem_of_getElem? (i := 197) rfl) rfl
theorem wd_198 : (Jvm.Cond.instanceMethod ({ cls := "FourVault$Reader", name := "readAll", desc := "(LFourVault$Row;II)I" } : Jvm.MethodName)) ∈ gtb := tg1 (List.mem_of_getElem? (i := 198) rfl) rfl
theorem wd_199 : (Jvm.Cond.selects "FourVault$Reader" ({ cls := "FourVault$Reader", name := "readAll", desc := "(LFourVault$Row;II)I" } : Jvm.MethodName) ({ cls := "FourVault$Reader", name := "readAll", desc := "(LFourVault$Row;II)I" } : Jvm.MethodName)) ∈ gtb := tg1 (List.mem_of_getElem? (i := 199) rfl) rfl
theorem wd_200 : (Jvm.Cond.code ({ cls := "FourVault$Reader", name := "readAll", desc := "(LFourVault$Row;II)I" } : Jvm.MethodName) prog_3_method_2_code (5 : Nat) (Option.some Jvm.ClassFile.FieldType.int)) ∈ gtb := tg1 (List.mem_of_getElem? (i := 200) rfl) rfl
theorem wd_201 : (Jvm.Cond.methodLink "FourVault$Reader" (28 : Nat) ({ cls := "FourVault$Vault", name := "clear", desc := "()V" } : Jvm.MethodName)) ∈ gtb := tg1 (List.mem_of_getElem? (i := 201) rfl) rfl
theorem wd_202 : (Jvm.Cond.instanceMethod ({ cls := "FourVault$Vault", name := "clear", desc := "()V" } : Jvm.MethodName)) ∈ gtb := tg1 (List.mem_of_getElem? (i := 202) rfl) rfl
theorem wd_203 : (Jvm.Cond.selects "FourVault$Vault" ({ cls := "FourVault$Vault", name := "clear", desc := "()V" } : Jvm.MethodName) ({ cls := "FourVault$Vault", name := "clear", desc := "()V" } : Jvm.MethodName)) ∈ gtb := tg1 (List.mem_of_getElem? (i := 203) rfl) rfl
theorem wd_204 : (Jvm.Cond.code ({ cls := "FourVault$Vault", name := "clear", desc := "()V" } : Jvm.MethodName) prog_10_method_2_code (1 : Nat) (Option.none : Option Jvm.ClassFile.FieldType)) ∈ gtb := tg1 (List.mem_of_getElem? (i := 204) rfl) rfl
theorem wd_205 : (Jvm.Cond.methodLink "FourVault$Reader" (37 : Nat) ({ cls := "FourVault$Reader", name := "takes", desc := "(I)Z" } : Jvm.MethodName)) ∈ gtb := tg1 (List.mem_of_getElem? (i := 205) rfl) rfl
theorem wd_206 : (Jvm.Cond.instanceMethod ({ cls := "FourVault$Reader", name := "takes", desc := "(I)Z" } : Jvm.MethodName)) ∈ gtb := tg1 (List.mem_of_getElem? (i := 206) rfl) rfl
theorem wd_207 : (Jvm.Cond.selects "FourVault$Reader" ({ cls := "FourVault$Reader", name := "takes", desc := "(I)Z" } : Jvm.MethodName) ({ cls := "FourVault$Reader", name := "takes", desc := "(I)Z" } : Jvm.MethodName)) ∈ gtb := tg1 (List.mem_of_getElem? (i := 207) rfl) rfl
theorem wd_208 : (Jvm.Cond.code ({ cls := "FourVault$Reader", name := "takes", desc := "(I)Z" } : Jvm.MethodName) prog_3_method_4_code (2 : Nat) (Option.some Jvm.ClassFile.FieldType.boolean)) ∈ gtb := tg1 (List.mem_of_getElem? (i := 208) rfl) rfl
theorem wd_209 : (Jvm.Cond.methodLink "FourVault$Reader" (41 : Nat) ({ cls := "FourVault$Reader", name := "goesOn", desc := "(ZI)Z" } : Jvm.MethodName)) ∈ gtb := tg1 (List.mem_of_getElem? (i := 209) rfl) rfl
theorem wd_210 : (Jvm.Cond.instanceMethod ({ cls := "FourVault$Reader", name := "goesOn", desc := "(ZI)Z" } : Jvm.MethodName)) ∈ gtb := tg1 (List.mem_of_getElem? (i := 210) rfl) rfl
theorem wd_211 : (Jvm.Cond.selects "FourVault$Reader" ({ cls := "FourVault$Reader", name := "goesOn", desc := "(ZI)Z" } : Jvm.MethodName) ({ cls := "FourVault$Reader", name := "goesOn", desc := "(ZI)Z" } : Jvm.MethodName)) ∈ gtb := tg1 (List.mem_of_getElem? (i := 211) rfl) rfl
theorem wd_212 : (Jvm.Cond.code ({ cls := "FourVault$Reader", name := "goesOn", desc := "(ZI)Z" } : Jvm.MethodName) prog_3_method_5_code (3 : Nat) (Option.some Jvm.ClassFile.FieldType.boolean)) ∈ gtb := tg1 (List.mem_of_getElem? (i := 212) rfl) rfl
theorem wd_213 : (Jvm.Cond.methodLink "FourVault$Reader" (45 : Nat) ({ cls := "FourVault$Reader", name := "takesGloom", desc := "(I)Z" } : Jvm.MethodName)) ∈ gtb := tg1 (List.mem_of_getElem? (i := 213) rfl) rfl
theorem wd_214 : (Jvm.Cond.instanceMethod ({ cls := "FourVault$Reader", name := "takesGloom", desc := "(I)Z" } : Jvm.MethodName)) ∈ gtb := tg1 (List.mem_of_getElem? (i := 214) rfl) rfl
theorem wd_215 : (Jvm.Cond.selects "FourVault$Reader" ({ cls := "FourVault$Reader", name := "takesGloom", desc := "(I)Z" } : Jvm.MethodName) ({ cls := "FourVault$Reader", name := "takesGloom", desc := "(I)Z" } : Jvm.MethodName)) ∈ gtb := tg1 (List.mem_of_getElem? (i := 215) rfl) rfl
theorem wd_216 : (Jvm.Cond.code ({ cls := "FourVault$Reader", name := "takesGloom", desc := "(I)Z" } : Jvm.MethodName) prog_3_method_6_code (2 : Nat) (Option.some Jvm.ClassFile.FieldType.boolean)) ∈ gtb := tg1 (List.mem_of_getElem? (i := 216) rfl) rfl
theorem wd_217 : (Jvm.Cond.methodLink "FourVault$Reader" (66 : Nat) ({ cls := "FourVault$Reader", name := "isDigit", desc := "(I)Z" } : Jvm.MethodName)) ∈ gtb := tg1 (List.mem_of_getElem? (i := 217) rfl) rfl
theorem wd_218 : (Jvm.Cond.static ({ cls := "FourVault$Reader", name := "isDigit", desc := "(I)Z" } : Jvm.MethodName)) ∈ gtb := tg1 (List.mem_of_getElem? (i := 218) rfl) rfl
theorem wd_219 : (Jvm.Cond.code ({ cls := "FourVault$Reader", name := "isDigit", desc := "(I)Z" } : Jvm.MethodName) prog_3_method_13_code (1 : Nat) (Option.some Jvm.ClassFile.FieldType.boolean)) ∈ gtb := tg1 (List.mem_of_getElem? (i := 219) rfl) rfl
theorem wd_220 : (Jvm.Cond.methodLink "FourVault$Reader" (48 : Nat) ({ cls := "FourVault$Reader", name := "takesKind", desc := "(I)Z" } : Jvm.MethodName)) ∈ gtb := tg1 (List.mem_of_getElem? (i := 220) rfl) rfl
theorem wd_221 : (Jvm.Cond.instanceMethod ({ cls := "FourVault$Reader", name := "takesKind", desc := "(I)Z" } : Jvm.MethodName)) ∈ gtb := tg1 (List.mem_of_getElem? (i := 221) rfl) rfl
theorem wd_222 : (Jvm.Cond.selects "FourVault$Reader" ({ cls := "FourVault$Reader", name := "takesKind", desc := "(I)Z" } : Jvm.MethodName) ({ cls := "FourVault$Reader", name := "takesKind", desc := "(I)Z" } : Jvm.MethodName)) ∈ gtb := tg1 (List.mem_of_getElem? (i := 222) rfl) rfl
theorem wd_223 : (Jvm.Cond.code ({ cls := "FourVault$Reader", name := "takesKind", desc := "(I)Z" } : Jvm.MethodName) prog_3_method_7_code (2 : Nat) (Option.some Jvm.ClassFile.FieldType.boolean)) ∈ gtb := tg1 (List.mem_of_getElem? (i := 223) rfl) rfl
theorem wd_224 : (Jvm.Cond.methodLink "FourVault$Reader" (51 : Nat) ({ cls := "FourVault$Reader", name := "takesTens", desc := "(I)Z" } : Jvm.MethodName)) ∈ gtb := tg1 (List.mem_of_getElem? (i := 224) rfl) rfl
theorem wd_225 : (Jvm.Cond.instanceMethod ({ cls := "FourVault$Reader", name := "takesTens", desc := "(I)Z" } : Jvm.MethodName)) ∈ gtb := tg1 (List.mem_of_getElem? (i := 225) rfl) rfl
theorem wd_226 : (Jvm.Cond.selects "FourVault$Reader" ({ cls := "FourVault$Reader", name := "takesTens", desc := "(I)Z" } : Jvm.MethodName) ({ cls := "FourVault$Reader", name := "takesTens", desc := "(I)Z" } : Jvm.MethodName)) ∈ gtb := tg1 (List.mem_of_getElem? (i := 226) rfl) rfl
theorem wd_227 : (Jvm.Cond.code ({ cls := "FourVault$Reader", name := "takesTens", desc := "(I)Z" } : Jvm.MethodName) prog_3_method_8_code (2 : Nat) (Option.some Jvm.ClassFile.FieldType.boolean)) ∈ gtb := tg1 (List.mem_of_getElem? (i := 227) rfl) rfl
theorem wd_228 : (Jvm.Cond.methodLink "FourVault$Reader" (54 : Nat) ({ cls := "FourVault$Reader", name := "takesOnes", desc := "(I)Z" } : Jvm.MethodName)) ∈ gtb := tg1 (List.mem_of_getElem? (i := 228) rfl) rfl
theorem wd_229 : (Jvm.Cond.instanceMethod ({ cls := "FourVault$Reader", name := "takesOnes", desc := "(I)Z" } : Jvm.MethodName)) ∈ gtb := tg1 (List.mem_of_getElem? (i := 229) rfl) rfl
theorem wd_230 : (Jvm.Cond.selects "FourVault$Reader" ({ cls := "FourVault$Reader", name := "takesOnes", desc := "(I)Z" } : Jvm.MethodName) ({ cls := "FourVault$Reader", name := "takesOnes", desc := "(I)Z" } : Jvm.MethodName)) ∈ gtb := tg1 (List.mem_of_getElem? (i := 230) rfl) rfl
theorem wd_231 : (Jvm.Cond.code ({ cls := "FourVault$Reader", name := "takesOnes", desc := "(I)Z" } : Jvm.MethodName) prog_3_method_9_code (2 : Nat) (Option.some Jvm.ClassFile.FieldType.boolean)) ∈ gtb := tg1 (List.mem_of_getElem? (i := 231) rfl) rfl
theorem wd_232 : (Jvm.Cond.methodLink "FourVault$Reader" (57 : Nat) ({ cls := "FourVault$Reader", name := "takesMind", desc := "(I)Z" } : Jvm.MethodName)) ∈ gtb := tg1 (List.mem_of_getElem? (i := 232) rfl) rfl
theorem wd_233 : (Jvm.Cond.instanceMethod ({ cls := "FourVault$Reader", name := "takesMind", desc := "(I)Z" } : Jvm.MethodName)) ∈ gtb := tg1 (List.mem_of_getElem? (i := 233) rfl) rfl
theorem wd_234 : (Jvm.Cond.selects "FourVault$Reader" ({ cls := "FourVault$Reader", name := "takesMind", desc := "(I)Z" } : Jvm.MethodName) ({ cls := "FourVault$Reader", name := "takesMind", desc := "(I)Z" } : Jvm.MethodName)) ∈ gtb := tg1 (List.mem_of_getElem? (i := 234) rfl) rfl
theorem wd_235 : (Jvm.Cond.code ({ cls := "FourVault$Reader", name := "takesMind", desc := "(I)Z" } : Jvm.MethodName) prog_3_method_10_code (3 : Nat) (Option.some Jvm.ClassFile.FieldType.boolean)) ∈ gtb := tg1 (List.mem_of_getElem? (i := 235) rfl) rfl
theorem wd_236 : (Jvm.Cond.methodLinkNest "FourVault$Reader" (82 : Nat) ({ cls := "FourVault", name := "newTaker", desc := "(IIII)LFourVault$Taker;" } : Jvm.MethodName) "FourVault") ∈ lw_tbl := tm1 (List.mem_of_getElem? (i := 236) rfl)
theorem wd_237 : (Jvm.Cond.static ({ cls := "FourVault", name := "newTaker", desc := "(IIII)LFourVault$Taker;" } : Jvm.MethodName)) ∈ gtb := tg1 (List.mem_of_getElem? (i := 237) rfl) rfl
theorem wd_238 : (Jvm.Cond.code ({ cls := "FourVault", name := "newTaker", desc := "(IIII)LFourVault$Taker;" } : Jvm.MethodName) prog_1_method_39_code (4 : Nat) (Option.some (Jvm.ClassFile.FieldType.object "FourVault$Taker"))) ∈ gtb := tg1 (List.mem_of_getElem? (i := 238) rfl) rfl
theorem wd_239 : (Jvm.Cond.classLink "FourVault" (226 : Nat) "FourVault$Singer") ∈ gtb := tg1 (List.mem_of_getElem? (i := 239) rfl) rfl
theorem wd_240 : (Jvm.Cond.instantiable "FourVault$Singer" (3 : Nat)) ∈ gtb := tg2 (List.mem_of_getElem? (i := 0) rfl) rfl
theorem wd_241 : (Jvm.Cond.methodLink "FourVault" (236 : Nat) ({ cls := "FourVault$Singer", name := "<init>", desc := "(III)V" } : Jvm.MethodName)) ∈ gtb := tg2 (List.mem_of_getElem? (i := 1) rfl) rfl
theorem wd_242 : (Jvm.Cond.instanceMethod ({ cls := "FourVault$Singer", name := "<init>", desc := "(III)V" } : Jvm.MethodName)) ∈ gtb := tg2 (List.mem_of_getElem? (i := 2) rfl) rfl
theorem wd_243 : (Jvm.Cond.code ({ cls := "FourVault$Singer", name := "<init>", desc := "(III)V" } : Jvm.MethodName) prog_7_method_1_code (4 : Nat) (Option.none : Option Jvm.ClassFile.FieldType)) ∈ gtb := tg2 (List.mem_of_getElem? (i := 3) rfl) rfl
theorem wd_244 : (Jvm.Cond.methodLink "FourVault$Singer" (3 : Nat) ({ cls := "FourVault$Taker", name := "<init>", desc := "(III)V" } : Jvm.MethodName)) ∈ gtb := tg2 (List.mem_of_getElem? (i := 4) rfl) rfl
theorem wd_245 : (Jvm.Cond.instanceMethod ({ cls := "FourVault$Taker", name := "<init>", desc := "(III)V" } : Jvm.MethodName)) ∈ gtb := tg2 (List.mem_of_getElem? (i := 5) rfl) rfl
theorem wd_246 : (Jvm.Cond.code ({ cls := "FourVault$Taker", name := "<init>", desc := "(III)V" } : Jvm.MethodName) prog_8_method_1_code (4 : Nat) (Option.none : Option Jvm.ClassFile.FieldType)) ∈ gtb := tg2 (List.mem_of_getElem? (i := 6) rfl) rfl
theorem wd_247 : (Jvm.Cond.methodLink "FourVault$Taker" (3 : Nat) ({ cls := "java/lang/Object", name := "<init>", desc := "()V" } : Jvm.MethodName)) ∈ gtb := tg2 (List.mem_of_getElem? (i := 7) rfl) rfl
theorem wd_248 : (Jvm.Cond.fieldLink "FourVault$Taker" (9 : Nat) "FourVault$Taker" "number" "I") ∈ gtb := tg2 (List.mem_of_getElem? (i := 8) rfl) rfl
theorem wd_249 : (Jvm.Cond.fieldLink "FourVault$Vault" (61 : Nat) "FourVault$Taker" "number" "I") ∈ gtb := tg2 (List.mem_of_getElem? (i := 9) rfl) rfl
theorem wd_250 : (Jvm.Cond.fieldLink "FourVault$Taker" (15 : Nat) "FourVault$Taker" "nerve" "I") ∈ gtb := tg2 (List.mem_of_getElem? (i := 10) rfl) rfl
theorem wd_251 : (Jvm.Cond.fieldLink "FourVault" (105 : Nat) "FourVault$Taker" "nerve" "I") ∈ gtb := tg2 (List.mem_of_getElem? (i := 11) rfl) rfl
theorem wd_252 : (Jvm.Cond.fieldLink "FourVault$Vault" (34 : Nat) "FourVault$Taker" "nerve" "I") ∈ gtb := tg2 (List.mem_of_getElem? (i := 12) rfl) rfl
theorem wd_253 : (Jvm.Cond.fieldLink "FourVault$Taker" (18 : Nat) "FourVault$Taker" "mind" "I") ∈ gtb := tg2 (List.mem_of_getElem? (i := 13) rfl) rfl
theorem wd_254 : (Jvm.Cond.fieldLink "FourVault$Widow" (9 : Nat) "FourVault$Widow" "mind" "I") ∈ gtb := tg2 (List.mem_of_getElem? (i := 14) rfl) rfl
theorem wd_255 : (Jvm.Cond.sameField "FourVault$Widow" "FourVault$Taker" "mind" "I") ∈ gtb := tg2 (List.mem_of_getElem? (i := 15) rfl) rfl
theorem wd_256 : (Jvm.Cond.fieldLink "FourVault$Singer" (9 : Nat) "FourVault$Singer" "mind" "I") ∈ gtb := tg2 (List.mem_of_getElem? (i := 16) rfl) rfl
theorem wd_257 : (Jvm.Cond.sameField "FourVault$Singer" "FourVault$Taker" "mind" "I") ∈ gtb := tg2 (List.mem_of_getElem? (i := 17) rfl) rfl
theorem wd_258 : (Jvm.Cond.fieldLink "FourVault" (108 : Nat) "FourVault$Taker" "mind" "I") ∈ gtb := tg2 (List.mem_of_getElem? (i := 18) rfl) rfl
theorem wd_259 : (Jvm.Cond.laysFinal "FourVault$Singer" "FourVault$Taker" "number" "I") ∈ gtb := tg2 (List.mem_of_getElem? (i := 19) rfl) rfl
theorem wd_260 : (Jvm.Cond.soleField "FourVault$Taker" "number") ∈ gtb := tg2 (List.mem_of_getElem? (i := 20) rfl) rfl
theorem wd_261 : (Jvm.Cond.lays "FourVault$Singer" "FourVault$Taker" "nerve" "I") ∈ gtb := tg2 (List.mem_of_getElem? (i := 21) rfl) rfl
theorem wd_262 : (Jvm.Cond.soleField "FourVault$Taker" "nerve") ∈ gtb := tg2 (List.mem_of_getElem? (i := 22) rfl) rfl
theorem wd_263 : (Jvm.Cond.lays "FourVault$Singer" "FourVault$Taker" "mind" "I") ∈ gtb := tg2 (List.mem_of_getElem? (i := 23) rfl) rfl
theorem wd_264 : (Jvm.Cond.soleField "FourVault$Taker" "mind") ∈ gtb := tg2 (List.mem_of_getElem? (i := 24) rfl) rfl
theorem wd_265 : (Jvm.Cond.superclass "FourVault$Singer" "FourVault$Taker") ∈ gtb := tg2 (List.mem_of_getElem? (i := 25) rfl) rfl
theorem wd_266 : (Jvm.Cond.classLink "FourVault" (228 : Nat) "FourVault$Widow") ∈ gtb := tg2 (List.mem_of_getElem? (i := 26) rfl) rfl
theorem wd_267 : (Jvm.Cond.instantiable "FourVault$Widow" (3 : Nat)) ∈ gtb := tg2 (List.mem_of_getElem? (i := 27) rfl) rfl
theorem wd_268 : (Jvm.Cond.methodLink "FourVault" (239 : Nat) ({ cls := "FourVault$Widow", name := "<init>", desc := "(III)V" } : Jvm.MethodName)) ∈ gtb := tg2 (List.mem_of_getElem? (i := 28) rfl) rfl
theorem wd_269 : (Jvm.Cond.instanceMethod ({ cls := "FourVault$Widow", name := "<init>", desc := "(III)V" } : Jvm.MethodName)) ∈ gtb := tg2 (List.mem_of_getElem? (i := 29) rfl) rfl
theorem wd_270 : (Jvm.Cond.code ({ cls := "FourVault$Widow", name := "<init>", desc := "(III)V" } : Jvm.MethodName) prog_11_method_1_code (4 : Nat) (Option.none : Option Jvm.ClassFile.FieldType)) ∈ gtb := tg2 (List.mem_of_getElem? (i := 30) rfl) rfl
theorem wd_271 : (Jvm.Cond.methodLink "FourVault$Widow" (3 : Nat) ({ cls := "FourVault$Singer", name := "<init>", desc := "(III)V" } : Jvm.MethodName)) ∈ gtb := tg2 (List.mem_of_getElem? (i := 31) rfl) rfl
theorem wd_272 : (Jvm.Cond.laysFinal "FourVault$Widow" "FourVault$Taker" "number" "I") ∈ gtb := tg2 (List.mem_of_getElem? (i := 32) rfl) rfl
theorem wd_273 : (Jvm.Cond.lays "FourVault$Widow" "FourVault$Taker" "nerve" "I") ∈ gtb := tg2 (List.mem_of_getElem? (i := 33) rfl) rfl
theorem wd_274 : (Jvm.Cond.lays "FourVault$Widow" "FourVault$Taker" "mind" "I") ∈ gtb := tg2 (List.mem_of_getElem? (i := 34) rfl) rfl
theorem wd_275 : (Jvm.Cond.superclass "FourVault$Widow" "FourVault$Singer") ∈ gtb := tg2 (List.mem_of_getElem? (i := 35) rfl) rfl
theorem wd_276 : (Jvm.Cond.classLink "FourVault" (100 : Nat) "FourVault$Taker") ∈ gtb := tg2 (List.mem_of_getElem? (i := 36) rfl) rfl
theorem wd_277 : (Jvm.Cond.instantiable "FourVault$Taker" (3 : Nat)) ∈ gtb := tg2 (List.mem_of_getElem? (i := 37) rfl) rfl
theorem wd_278 : (Jvm.Cond.methodLink "FourVault" (240 : Nat) ({ cls := "FourVault$Taker", name := "<init>", desc := "(III)V" } : Jvm.MethodName)) ∈ gtb := tg2 (List.mem_of_getElem? (i := 38) rfl) rfl
theorem wd_279 : (Jvm.Cond.laysFinal "FourVault$Taker" "FourVault$Taker" "number" "I") ∈ gtb := tg2 (List.mem_of_getElem? (i := 39) rfl) rfl
theorem wd_280 : (Jvm.Cond.lays "FourVault$Taker" "FourVault$Taker" "nerve" "I") ∈ gtb := tg2 (List.mem_of_getElem? (i := 40) rfl) rfl
theorem wd_281 : (Jvm.Cond.lays "FourVault$Taker" "FourVault$Taker" "mind" "I") ∈ gtb := tg2 (List.mem_of_getElem? (i := 41) rfl) rfl
theorem wd_282 : (Jvm.Cond.superclass "FourVault$Taker" "java/lang/Object") ∈ gtb := tg2 (List.mem_of_getElem? (i := 42) rfl) rfl
theorem wd_283 : (Jvm.Cond.methodLink "FourVault$Reader" (60 : Nat) ({ cls := "FourVault$Reader", name := "takesBehindTaker", desc := "(I)Z" } : Jvm.MethodName)) ∈ gtb := tg2 (List.mem_of_getElem? (i := 43) rfl) rfl
theorem wd_284 : (Jvm.Cond.instanceMethod ({ cls := "FourVault$Reader", name := "takesBehindTaker", desc := "(I)Z" } : Jvm.MethodName)) ∈ gtb := tg2 (List.mem_of_getElem? (i := 44) rfl) rfl
theorem wd_285 : (Jvm.Cond.selects "FourVault$Reader" ({ cls := "FourVault$Reader", name := "takesBehindTaker", desc := "(I)Z" } : Jvm.MethodName) ({ cls := "FourVault$Reader", name := "takesBehindTaker", desc := "(I)Z" } : Jvm.MethodName)) ∈ gtb := tg2 (List.mem_of_getElem? (i := 45) rfl) rfl
theorem wd_286 : (Jvm.Cond.code ({ cls := "FourVault$Reader", name := "takesBehindTaker", desc := "(I)Z" } : Jvm.MethodName) prog_3_method_11_code (2 : Nat) (Option.some Jvm.ClassFile.FieldType.boolean)) ∈ gtb := tg2 (List.mem_of_getElem? (i := 46) rfl) rfl
theorem wd_287 : (Jvm.Cond.methodLink "FourVault$Reader" (63 : Nat) ({ cls := "FourVault$Reader", name := "takesGood", desc := "(I)Z" } : Jvm.MethodName)) ∈ gtb := tg2 (List.mem_of_getElem? (i := 47) rfl) rfl
theorem wd_288 : (Jvm.Cond.instanceMethod ({ cls := "FourVault$Reader", name := "takesGood", desc := "(I)Z" } : Jvm.MethodName)) ∈ gtb := tg2 (List.mem_of_getElem? (i := 48) rfl) rfl
theorem wd_289 : (Jvm.Cond.selects "FourVault$Reader" ({ cls := "FourVault$Reader", name := "takesGood", desc := "(I)Z" } : Jvm.MethodName) ({ cls := "FourVault$Reader", name := "takesGood", desc := "(I)Z" } : Jvm.MethodName)) ∈ gtb := tg2 (List.mem_of_getElem? (i := 49) rfl) rfl
theorem wd_290 : (Jvm.Cond.code ({ cls := "FourVault$Reader", name := "takesGood", desc := "(I)Z" } : Jvm.MethodName) prog_3_method_12_code (2 : Nat) (Option.some Jvm.ClassFile.FieldType.boolean)) ∈ gtb := tg2 (List.mem_of_getElem? (i := 50) rfl) rfl
theorem wd_291 : (Jvm.Cond.methodLink "FourVault" (85 : Nat) ({ cls := "FourVault$Reader", name := "swap", desc := "(LFourVault$Vault;)LFourVault$Vault;" } : Jvm.MethodName)) ∈ gtb := tg2 (List.mem_of_getElem? (i := 51) rfl) rfl
theorem wd_292 : (Jvm.Cond.instanceMethod ({ cls := "FourVault$Reader", name := "swap", desc := "(LFourVault$Vault;)LFourVault$Vault;" } : Jvm.MethodName)) ∈ gtb := tg2 (List.mem_of_getElem? (i := 52) rfl) rfl
theorem wd_293 : (Jvm.Cond.selects "FourVault$Reader" ({ cls := "FourVault$Reader", name := "swap", desc := "(LFourVault$Vault;)LFourVault$Vault;" } : Jvm.MethodName) ({ cls := "FourVault$Reader", name := "swap", desc := "(LFourVault$Vault;)LFourVault$Vault;" } : Jvm.MethodName)) ∈ gtb := tg2 (List.mem_of_getElem? (i := 53) rfl) rfl
theorem wd_294 : (Jvm.Cond.code ({ cls := "FourVault$Reader", name := "swap", desc := "(LFourVault$Vault;)LFourVault$Vault;" } : Jvm.MethodName) prog_3_method_3_code (3 : Nat) (Option.some (Jvm.ClassFile.FieldType.object "FourVault$Vault"))) ∈ gtb := tg2 (List.mem_of_getElem? (i := 54) rfl) rfl
theorem wd_295 : (Jvm.Cond.methodLink "FourVaultLaw" (18 : Nat) ({ cls := "FourVault", name := "ofTaker", desc := "(II)I" } : Jvm.MethodName)) ∈ gtb := tg2 (List.mem_of_getElem? (i := 55) rfl) rfl
theorem wd_296 : (Jvm.Cond.instanceMethod ({ cls := "FourVault", name := "ofTaker", desc := "(II)I" } : Jvm.MethodName)) ∈ gtb := tg2 (List.mem_of_getElem? (i := 56) rfl) rfl
theorem wd_297 : (Jvm.Cond.selects "FourVault" ({ cls := "FourVault", name := "ofTaker", desc := "(II)I" } : Jvm.MethodName) ({ cls := "FourVault", name := "ofTaker", desc := "(II)I" } : Jvm.MethodName)) ∈ gtb := tg2 (List.mem_of_getElem? (i := 57) rfl) rfl
theorem wd_298 : (Jvm.Cond.code ({ cls := "FourVault", name := "ofTaker", desc := "(II)I" } : Jvm.MethodName) prog_1_method_3_code (4 : Nat) (Option.some Jvm.ClassFile.FieldType.int)) ∈ gtb := tg2 (List.mem_of_getElem? (i := 58) rfl) rfl
theorem wd_299 : (Jvm.Cond.methodLink "FourVault" (95 : Nat) ({ cls := "FourVault$Vault", name := "takerAt", desc := "(I)LFourVault$Taker;" } : Jvm.MethodName)) ∈ gtb := tg2 (List.mem_of_getElem? (i := 59) rfl) rfl
theorem wd_300 : (Jvm.Cond.instanceMethod ({ cls := "FourVault$Vault", name := "takerAt", desc := "(I)LFourVault$Taker;" } : Jvm.MethodName)) ∈ gtb := tg2 (List.mem_of_getElem? (i := 60) rfl) rfl
theorem wd_301 : (Jvm.Cond.selects "FourVault$Vault" ({ cls := "FourVault$Vault", name := "takerAt", desc := "(I)LFourVault$Taker;" } : Jvm.MethodName) ({ cls := "FourVault$Vault", name := "takerAt", desc := "(I)LFourVault$Taker;" } : Jvm.MethodName)) ∈ gtb := tg2 (List.mem_of_getElem? (i := 61) rfl) rfl
theorem wd_302 : (Jvm.Cond.code ({ cls := "FourVault$Vault", name := "takerAt", desc := "(I)LFourVault$Taker;" } : Jvm.MethodName) prog_10_method_6_code (2 : Nat) (Option.some (Jvm.ClassFile.FieldType.object "FourVault$Taker"))) ∈ gtb := tg2 (List.mem_of_getElem? (i := 62) rfl) rfl
theorem wd_303 : (Jvm.Cond.methodLink "FourVault" (99 : Nat) ({ cls := "FourVault$Taker", name := "kindNumber", desc := "()I" } : Jvm.MethodName)) ∈ gtb := tg2 (List.mem_of_getElem? (i := 63) rfl) rfl
theorem wd_304 : (Jvm.Cond.instanceMethod ({ cls := "FourVault$Taker", name := "kindNumber", desc := "()I" } : Jvm.MethodName)) ∈ gtb := tg2 (List.mem_of_getElem? (i := 64) rfl) rfl
theorem wd_305 : (Jvm.Cond.selects "FourVault$Taker" ({ cls := "FourVault$Taker", name := "kindNumber", desc := "()I" } : Jvm.MethodName) ({ cls := "FourVault$Taker", name := "kindNumber", desc := "()I" } : Jvm.MethodName)) ∈ gtb := tg2 (List.mem_of_getElem? (i := 65) rfl) rfl
theorem wd_306 : (Jvm.Cond.sameMethod "FourVault$Taker" "FourVault$Taker" "kindNumber" "()I") ∈ gtb := tg2 (List.mem_of_getElem? (i := 66) rfl) rfl
theorem wd_307 : (Jvm.Cond.selects "FourVault$Singer" ({ cls := "FourVault$Taker", name := "kindNumber", desc := "()I" } : Jvm.MethodName) ({ cls := "FourVault$Singer", name := "kindNumber", desc := "()I" } : Jvm.MethodName)) ∈ gtb := tg2 (List.mem_of_getElem? (i := 67) rfl) rfl
theorem wd_308 : (Jvm.Cond.instanceMethod ({ cls := "FourVault$Singer", name := "kindNumber", desc := "()I" } : Jvm.MethodName)) ∈ gtb := tg2 (List.mem_of_getElem? (i := 68) rfl) rfl
theorem wd_309 : (Jvm.Cond.code ({ cls := "FourVault$Singer", name := "kindNumber", desc := "()I" } : Jvm.MethodName) prog_7_method_2_code (1 : Nat) (Option.some Jvm.ClassFile.FieldType.int)) ∈ gtb := tg2 (List.mem_of_getElem? (i := 69) rfl) rfl
theorem wd_310 : (Jvm.Cond.selects "FourVault$Widow" ({ cls := "FourVault$Taker", name := "kindNumber", desc := "()I" } : Jvm.MethodName) ({ cls := "FourVault$Widow", name := "kindNumber", desc := "()I" } : Jvm.MethodName)) ∈ gtb := tg2 (List.mem_of_getElem? (i := 70) rfl) rfl
theorem wd_311 : (Jvm.Cond.instanceMethod ({ cls := "FourVault$Widow", name := "kindNumber", desc := "()I" } : Jvm.MethodName)) ∈ gtb := tg2 (List.mem_of_getElem? (i := 71) rfl) rfl
theorem wd_312 : (Jvm.Cond.code ({ cls := "FourVault$Widow", name := "kindNumber", desc := "()I" } : Jvm.MethodName) prog_11_method_2_code (1 : Nat) (Option.some Jvm.ClassFile.FieldType.int)) ∈ gtb := tg2 (List.mem_of_getElem? (i := 72) rfl) rfl
theorem wd_313 : (Jvm.Cond.code ({ cls := "FourVault$Taker", name := "kindNumber", desc := "()I" } : Jvm.MethodName) prog_8_method_2_code (1 : Nat) (Option.some Jvm.ClassFile.FieldType.int)) ∈ gtb := tg2 (List.mem_of_getElem? (i := 73) rfl) rfl
theorem wd_314 : (Jvm.Cond.methodLink "FourVaultLaw" (23 : Nat) ({ cls := "FourVault", name := "depth", desc := "(I)I" } : Jvm.MethodName)) ∈ gtb := tg2 (List.mem_of_getElem? (i := 74) rfl) rfl
theorem wd_315 : (Jvm.Cond.instanceMethod ({ cls := "FourVault", name := "depth", desc := "(I)I" } : Jvm.MethodName)) ∈ gtb := tg2 (List.mem_of_getElem? (i := 75) rfl) rfl
theorem wd_316 : (Jvm.Cond.selects "FourVault" ({ cls := "FourVault", name := "depth", desc := "(I)I" } : Jvm.MethodName) ({ cls := "FourVault", name := "depth", desc := "(I)I" } : Jvm.MethodName)) ∈ gtb := tg2 (List.mem_of_getElem? (i := 76) rfl) rfl
theorem wd_317 : (Jvm.Cond.code ({ cls := "FourVault", name := "depth", desc := "(I)I" } : Jvm.MethodName) prog_1_method_4_code (2 : Nat) (Option.some Jvm.ClassFile.FieldType.int)) ∈ gtb := tg2 (List.mem_of_getElem? (i := 77) rfl) rfl
theorem wd_318 : (Jvm.Cond.methodLink "FourVault" (111 : Nat) ({ cls := "FourVault$Vault", name := "isGood", desc := "(I)Z" } : Jvm.MethodName)) ∈ gtb := tg2 (List.mem_of_getElem? (i := 78) rfl) rfl
theorem wd_319 : (Jvm.Cond.instanceMethod ({ cls := "FourVault$Vault", name := "isGood", desc := "(I)Z" } : Jvm.MethodName)) ∈ gtb := tg2 (List.mem_of_getElem? (i := 79) rfl) rfl
theorem wd_320 : (Jvm.Cond.selects "FourVault$Vault" ({ cls := "FourVault$Vault", name := "isGood", desc := "(I)Z" } : Jvm.MethodName) ({ cls := "FourVault$Vault", name := "isGood", desc := "(I)Z" } : Jvm.MethodName)) ∈ gtb := tg2 (List.mem_of_getElem? (i := 80) rfl) rfl
theorem wd_321 : (Jvm.Cond.code ({ cls := "FourVault$Vault", name := "isGood", desc := "(I)Z" } : Jvm.MethodName) prog_10_method_5_code (2 : Nat) (Option.some Jvm.ClassFile.FieldType.boolean)) ∈ gtb := tg2 (List.mem_of_getElem? (i := 81) rfl) rfl
theorem wd_322 : (Jvm.Cond.methodLink "FourVaultLaw" (28 : Nat) ({ cls := "FourVault", name := "gloom", desc := "(I)I" } : Jvm.MethodName)) ∈ gtb := tg2 (List.mem_of_getElem? (i := 82) rfl) rfl
theorem wd_323 : (Jvm.Cond.instanceMethod ({ cls := "FourVault", name := "gloom", desc := "(I)I" } : Jvm.MethodName)) ∈ gtb := tg2 (List.mem_of_getElem? (i := 83) rfl) rfl
theorem wd_324 : (Jvm.Cond.selects "FourVault" ({ cls := "FourVault", name := "gloom", desc := "(I)I" } : Jvm.MethodName) ({ cls := "FourVault", name := "gloom", desc := "(I)I" } : Jvm.MethodName)) ∈ gtb := tg2 (List.mem_of_getElem? (i := 84) rfl) rfl
theorem wd_325 : (Jvm.Cond.code ({ cls := "FourVault", name := "gloom", desc := "(I)I" } : Jvm.MethodName) prog_1_method_5_code (2 : Nat) (Option.some Jvm.ClassFile.FieldType.int)) ∈ gtb := tg2 (List.mem_of_getElem? (i := 85) rfl) rfl
theorem wd_326 : (Jvm.Cond.methodLink "FourVault" (118 : Nat) ({ cls := "FourVault$Vault", name := "isPlace", desc := "(I)Z" } : Jvm.MethodName)) ∈ gtb := tg2 (List.mem_of_getElem? (i := 86) rfl) rfl
theorem wd_327 : (Jvm.Cond.instanceMethod ({ cls := "FourVault$Vault", name := "isPlace", desc := "(I)Z" } : Jvm.MethodName)) ∈ gtb := tg2 (List.mem_of_getElem? (i := 87) rfl) rfl
theorem wd_328 : (Jvm.Cond.selects "FourVault$Vault" ({ cls := "FourVault$Vault", name := "isPlace", desc := "(I)Z" } : Jvm.MethodName) ({ cls := "FourVault$Vault", name := "isPlace", desc := "(I)Z" } : Jvm.MethodName)) ∈ gtb := tg2 (List.mem_of_getElem? (i := 88) rfl) rfl
theorem wd_329 : (Jvm.Cond.code ({ cls := "FourVault$Vault", name := "isPlace", desc := "(I)Z" } : Jvm.MethodName) prog_10_method_4_code (2 : Nat) (Option.some Jvm.ClassFile.FieldType.boolean)) ∈ gtb := tg2 (List.mem_of_getElem? (i := 89) rfl) rfl
theorem wd_330 : (Jvm.Cond.methodLink "FourVaultLaw" (32 : Nat) ({ cls := "FourVault", name := "hush", desc := "(II)I" } : Jvm.MethodName)) ∈ gtb := tg2 (List.mem_of_getElem? (i := 90) rfl) rfl
theorem wd_331 : (Jvm.Cond.instanceMethod ({ cls := "FourVault", name := "hush", desc := "(II)I" } : Jvm.MethodName)) ∈ gtb := tg2 (List.mem_of_getElem? (i := 91) rfl) rfl
theorem wd_332 : (Jvm.Cond.selects "FourVault" ({ cls := "FourVault", name := "hush", desc := "(II)I" } : Jvm.MethodName) ({ cls := "FourVault", name := "hush", desc := "(II)I" } : Jvm.MethodName)) ∈ gtb := tg2 (List.mem_of_getElem? (i := 92) rfl) rfl
theorem wd_333 : (Jvm.Cond.code ({ cls := "FourVault", name := "hush", desc := "(II)I" } : Jvm.MethodName) prog_1_method_6_code (4 : Nat) (Option.some Jvm.ClassFile.FieldType.int)) ∈ gtb := tg2 (List.mem_of_getElem? (i := 93) rfl) rfl
theorem wd_334 : (Jvm.Cond.methodLink "FourVaultLaw" (36 : Nat) ({ cls := "FourVault", name := "think", desc := "(II)I" } : Jvm.MethodName)) ∈ gtb := tg2 (List.mem_of_getElem? (i := 94) rfl) rfl
theorem wd_335 : (Jvm.Cond.instanceMethod ({ cls := "FourVault", name := "think", desc := "(II)I" } : Jvm.MethodName)) ∈ gtb := tg2 (List.mem_of_getElem? (i := 95) rfl) rfl
theorem wd_336 : (Jvm.Cond.selects "FourVault" ({ cls := "FourVault", name := "think", desc := "(II)I" } : Jvm.MethodName) ({ cls := "FourVault", name := "think", desc := "(II)I" } : Jvm.MethodName)) ∈ gtb := tg2 (List.mem_of_getElem? (i := 96) rfl) rfl
theorem wd_337 : (Jvm.Cond.code ({ cls := "FourVault", name := "think", desc := "(II)I" } : Jvm.MethodName) prog_1_method_7_code (5 : Nat) (Option.some Jvm.ClassFile.FieldType.int)) ∈ gtb := tg2 (List.mem_of_getElem? (i := 97) rfl) rfl
theorem wd_338 : (Jvm.Cond.methodLink "FourVaultLaw" (40 : Nat) ({ cls := "FourVault", name := "brace", desc := "(II)I" } : Jvm.MethodName)) ∈ gtb := tg2 (List.mem_of_getElem? (i := 98) rfl) rfl
theorem wd_339 : (Jvm.Cond.instanceMethod ({ cls := "FourVault", name := "brace", desc := "(II)I" } : Jvm.MethodName)) ∈ gtb := tg2 (List.mem_of_getElem? (i := 99) rfl) rfl
theorem wd_340 : (Jvm.Cond.selects "FourVault" ({ cls := "FourVault", name := "brace", desc := "(II)I" } : Jvm.MethodName) ({ cls := "FourVault", name := "brace", desc := "(II)I" } : Jvm.MethodName)) ∈ gtb := tg2 (List.mem_of_getElem? (i := 100) rfl) rfl
theorem wd_341 : (Jvm.Cond.code ({ cls := "FourVault", name := "brace", desc := "(II)I" } : Jvm.MethodName) prog_1_method_8_code (5 : Nat) (Option.some Jvm.ClassFile.FieldType.int)) ∈ gtb := tg2 (List.mem_of_getElem? (i := 101) rfl) rfl
theorem wd_342 : (Jvm.Cond.methodLink "FourVaultLaw" (44 : Nat) ({ cls := "FourVault", name := "drain", desc := "(II)I" } : Jvm.MethodName)) ∈ gtb := tg2 (List.mem_of_getElem? (i := 102) rfl) rfl
theorem wd_343 : (Jvm.Cond.instanceMethod ({ cls := "FourVault", name := "drain", desc := "(II)I" } : Jvm.MethodName)) ∈ gtb := tg2 (List.mem_of_getElem? (i := 103) rfl) rfl
theorem wd_344 : (Jvm.Cond.selects "FourVault" ({ cls := "FourVault", name := "drain", desc := "(II)I" } : Jvm.MethodName) ({ cls := "FourVault", name := "drain", desc := "(II)I" } : Jvm.MethodName)) ∈ gtb := tg2 (List.mem_of_getElem? (i := 104) rfl) rfl
theorem wd_345 : (Jvm.Cond.code ({ cls := "FourVault", name := "drain", desc := "(II)I" } : Jvm.MethodName) prog_1_method_9_code (4 : Nat) (Option.some Jvm.ClassFile.FieldType.int)) ∈ gtb := tg2 (List.mem_of_getElem? (i := 105) rfl) rfl
theorem wd_346 : (Jvm.Cond.methodLink "FourVault" (124 : Nat) ({ cls := "FourVault$Vault", name := "weightIn", desc := "(I)I" } : Jvm.MethodName)) ∈ gtb := tg2 (List.mem_of_getElem? (i := 106) rfl) rfl
theorem wd_347 : (Jvm.Cond.instanceMethod ({ cls := "FourVault$Vault", name := "weightIn", desc := "(I)I" } : Jvm.MethodName)) ∈ gtb := tg2 (List.mem_of_getElem? (i := 107) rfl) rfl
theorem wd_348 : (Jvm.Cond.selects "FourVault$Vault" ({ cls := "FourVault$Vault", name := "weightIn", desc := "(I)I" } : Jvm.MethodName) ({ cls := "FourVault$Vault", name := "weightIn", desc := "(I)I" } : Jvm.MethodName)) ∈ gtb := tg2 (List.mem_of_getElem? (i := 108) rfl) rfl
theorem wd_349 : (Jvm.Cond.code ({ cls := "FourVault$Vault", name := "weightIn", desc := "(I)I" } : Jvm.MethodName) prog_10_method_7_code (2 : Nat) (Option.some Jvm.ClassFile.FieldType.int)) ∈ gtb := tg2 (List.mem_of_getElem? (i := 109) rfl) rfl
theorem wd_350 : (Jvm.Cond.methodLink "FourVault" (127 : Nat) ({ cls := "FourVault$Taker", name := "drainBy", desc := "(I)I" } : Jvm.MethodName)) ∈ gtb := tg2 (List.mem_of_getElem? (i := 110) rfl) rfl
theorem wd_351 : (Jvm.Cond.instanceMethod ({ cls := "FourVault$Taker", name := "drainBy", desc := "(I)I" } : Jvm.MethodName)) ∈ gtb := tg2 (List.mem_of_getElem? (i := 111) rfl) rfl
theorem wd_352 : (Jvm.Cond.selects "FourVault$Taker" ({ cls := "FourVault$Taker", name := "drainBy", desc := "(I)I" } : Jvm.MethodName) ({ cls := "FourVault$Taker", name := "drainBy", desc := "(I)I" } : Jvm.MethodName)) ∈ gtb := tg2 (List.mem_of_getElem? (i := 112) rfl) rfl
theorem wd_353 : (Jvm.Cond.sameMethod "FourVault$Taker" "FourVault$Taker" "drainBy" "(I)I") ∈ gtb := tg2 (List.mem_of_getElem? (i := 113) rfl) rfl
theorem wd_354 : (Jvm.Cond.selects "FourVault$Singer" ({ cls := "FourVault$Taker", name := "drainBy", desc := "(I)I" } : Jvm.MethodName) ({ cls := "FourVault$Singer", name := "drainBy", desc := "(I)I" } : Jvm.MethodName)) ∈ gtb := tg2 (List.mem_of_getElem? (i := 114) rfl) rfl
theorem wd_355 : (Jvm.Cond.instanceMethod ({ cls := "FourVault$Singer", name := "drainBy", desc := "(I)I" } : Jvm.MethodName)) ∈ gtb := tg2 (List.mem_of_getElem? (i := 115) rfl) rfl
theorem wd_356 : (Jvm.Cond.code ({ cls := "FourVault$Singer", name := "drainBy", desc := "(I)I" } : Jvm.MethodName) prog_7_method_3_code (2 : Nat) (Option.some Jvm.ClassFile.FieldType.int)) ∈ gtb := tg2 (List.mem_of_getElem? (i := 116) rfl) rfl
theorem wd_357 : (Jvm.Cond.methodLink "FourVault$Singer" (15 : Nat) ({ cls := "java/lang/Math", name := "max", desc := "(II)I" } : Jvm.MethodName)) ∈ gtb := tg2 (List.mem_of_getElem? (i := 117) rfl) rfl
theorem wd_358 : (Jvm.Cond.static ({ cls := "java/lang/Math", name := "max", desc := "(II)I" } : Jvm.MethodName)) ∈ gtb := tg2 (List.mem_of_getElem? (i := 118) rfl) rfl
theorem wd_359 : (Jvm.Cond.code ({ cls := "java/lang/Math", name := "max", desc := "(II)I" } : Jvm.MethodName) prog_14_method_65_code (2 : Nat) (Option.some Jvm.ClassFile.FieldType.int)) ∈ gtb := tg2 (List.mem_of_getElem? (i := 119) rfl) rfl
theorem wd_360 : (Jvm.Cond.selects "FourVault$Widow" ({ cls := "FourVault$Taker", name := "drainBy", desc := "(I)I" } : Jvm.MethodName) ({ cls := "FourVault$Widow", name := "drainBy", desc := "(I)I" } : Jvm.MethodName)) ∈ gtb := tg2 (List.mem_of_getElem? (i := 120) rfl) rfl
theorem wd_361 : (Jvm.Cond.instanceMethod ({ cls := "FourVault$Widow", name := "drainBy", desc := "(I)I" } : Jvm.MethodName)) ∈ gtb := tg2 (List.mem_of_getElem? (i := 121) rfl) rfl
theorem wd_362 : (Jvm.Cond.code ({ cls := "FourVault$Widow", name := "drainBy", desc := "(I)I" } : Jvm.MethodName) prog_11_method_3_code (2 : Nat) (Option.some Jvm.ClassFile.FieldType.int)) ∈ gtb := tg2 (List.mem_of_getElem? (i := 122) rfl) rfl
theorem wd_363 : (Jvm.Cond.code ({ cls := "FourVault$Taker", name := "drainBy", desc := "(I)I" } : Jvm.MethodName) prog_8_method_3_code (2 : Nat) (Option.some Jvm.ClassFile.FieldType.int)) ∈ gtb := tg2 (List.mem_of_getElem? (i := 123) rfl) rfl
theorem wd_364 : (Jvm.Cond.methodLink "FourVaultLaw" (48 : Nat) ({ cls := "FourVault", name := "holds", desc := "(II)I" } : Jvm.MethodName)) ∈ gtb := tg2 (List.mem_of_getElem? (i := 124) rfl) rfl
theorem wd_365 : (Jvm.Cond.instanceMethod ({ cls := "FourVault", name := "holds", desc := "(II)I" } : Jvm.MethodName)) ∈ gtb := tg2 (List.mem_of_getElem? (i := 125) rfl) rfl
theorem wd_366 : (Jvm.Cond.selects "FourVault" ({ cls := "FourVault", name := "holds", desc := "(II)I" } : Jvm.MethodName) ({ cls := "FourVault", name := "holds", desc := "(II)I" } : Jvm.MethodName)) ∈ gtb := tg2 (List.mem_of_getElem? (i := 126) rfl) rfl
theorem wd_367 : (Jvm.Cond.code ({ cls := "FourVault", name := "holds", desc := "(II)I" } : Jvm.MethodName) prog_1_method_10_code (4 : Nat) (Option.some Jvm.ClassFile.FieldType.int)) ∈ gtb := tg2 (List.mem_of_getElem? (i := 127) rfl) rfl
theorem wd_368 : (Jvm.Cond.methodLink "FourVault" (130 : Nat) ({ cls := "FourVault", name := "isMinute", desc := "(I)Z" } : Jvm.MethodName)) ∈ gtb := tg2 (List.mem_of_getElem? (i := 128) rfl) rfl
theorem wd_369 : (Jvm.Cond.static ({ cls := "FourVault", name := "isMinute", desc := "(I)Z" } : Jvm.MethodName)) ∈ gtb := tg2 (List.mem_of_getElem? (i := 129) rfl) rfl
theorem wd_370 : (Jvm.Cond.code ({ cls := "FourVault", name := "isMinute", desc := "(I)Z" } : Jvm.MethodName) prog_1_method_38_code (1 : Nat) (Option.some Jvm.ClassFile.FieldType.boolean)) ∈ gtb := tg2 (List.mem_of_getElem? (i := 130) rfl) rfl
theorem wd_371 : (Jvm.Cond.methodLink "FourVault" (133 : Nat) ({ cls := "FourVault$Vault", name := "heldAlone", desc := "(LFourVault$Taker;I)I" } : Jvm.MethodName)) ∈ gtb := tg2 (List.mem_of_getElem? (i := 131) rfl) rfl
theorem wd_372 : (Jvm.Cond.instanceMethod ({ cls := "FourVault$Vault", name := "heldAlone", desc := "(LFourVault$Taker;I)I" } : Jvm.MethodName)) ∈ gtb := tg2 (List.mem_of_getElem? (i := 132) rfl) rfl
theorem wd_373 : (Jvm.Cond.selects "FourVault$Vault" ({ cls := "FourVault$Vault", name := "heldAlone", desc := "(LFourVault$Taker;I)I" } : Jvm.MethodName) ({ cls := "FourVault$Vault", name := "heldAlone", desc := "(LFourVault$Taker;I)I" } : Jvm.MethodName)) ∈ gtb := tg2 (List.mem_of_getElem? (i := 133) rfl) rfl
theorem wd_374 : (Jvm.Cond.code ({ cls := "FourVault$Vault", name := "heldAlone", desc := "(LFourVault$Taker;I)I" } : Jvm.MethodName) prog_10_method_8_code (5 : Nat) (Option.some Jvm.ClassFile.FieldType.int)) ∈ gtb := tg2 (List.mem_of_getElem? (i := 134) rfl) rfl
theorem wd_375 : (Jvm.Cond.methodLink "FourVault$Vault" (37 : Nat) ({ cls := "FourVault$Vault", name := "weightIn", desc := "(I)I" } : Jvm.MethodName)) ∈ gtb := tg2 (List.mem_of_getElem? (i := 135) rfl) rfl
theorem wd_376 : (Jvm.Cond.methodLink "FourVault$Vault" (41 : Nat) ({ cls := "FourVault$Taker", name := "drainBy", desc := "(I)I" } : Jvm.MethodName)) ∈ gtb := tg2 (List.mem_of_getElem? (i := 136) rfl) rfl
theorem wd_377 : (Jvm.Cond.methodLink "FourVaultLaw" (52 : Nat) ({ cls := "FourVault", name := "best", desc := "(II)I" } : Jvm.MethodName)) ∈ gtb := tg2 (List.mem_of_getElem? (i := 137) rfl) rfl
theorem wd_378 : (Jvm.Cond.instanceMethod ({ cls := "FourVault", name := "best", desc := "(II)I" } : Jvm.MethodName)) ∈ gtb := tg2 (List.mem_of_getElem? (i := 138) rfl) rfl
theorem wd_379 : (Jvm.Cond.selects "FourVault" ({ cls := "FourVault", name := "best", desc := "(II)I" } : Jvm.MethodName) ({ cls := "FourVault", name := "best", desc := "(II)I" } : Jvm.MethodName)) ∈ gtb := tg2 (List.mem_of_getElem? (i := 139) rfl) rfl
theorem wd_380 : (Jvm.Cond.code ({ cls := "FourVault", name := "best", desc := "(II)I" } : Jvm.MethodName) prog_1_method_11_code (5 : Nat) (Option.some Jvm.ClassFile.FieldType.int)) ∈ gtb := tg2 (List.mem_of_getElem? (i := 140) rfl) rfl
theorem wd_381 : (Jvm.Cond.methodLink "FourVault" (137 : Nat) ({ cls := "FourVault$Vault", name := "bestPlace", desc := "(LFourVault$Taker;)I" } : Jvm.MethodName)) ∈ gtb := tg2 (List.mem_of_getElem? (i := 141) rfl) rfl
theorem wd_382 : (Jvm.Cond.instanceMethod ({ cls := "FourVault$Vault", name := "bestPlace", desc := "(LFourVault$Taker;)I" } : Jvm.MethodName)) ∈ gtb := tg2 (List.mem_of_getElem? (i := 142) rfl) rfl
theorem wd_383 : (Jvm.Cond.selects "FourVault$Vault" ({ cls := "FourVault$Vault", name := "bestPlace", desc := "(LFourVault$Taker;)I" } : Jvm.MethodName) ({ cls := "FourVault$Vault", name := "bestPlace", desc := "(LFourVault$Taker;)I" } : Jvm.MethodName)) ∈ gtb := tg2 (List.mem_of_getElem? (i := 143) rfl) rfl
theorem wd_384 : (Jvm.Cond.code ({ cls := "FourVault$Vault", name := "bestPlace", desc := "(LFourVault$Taker;)I" } : Jvm.MethodName) prog_10_method_11_code (6 : Nat) (Option.some Jvm.ClassFile.FieldType.int)) ∈ gtb := tg2 (List.mem_of_getElem? (i := 144) rfl) rfl
theorem wd_385 : (Jvm.Cond.methodLink "FourVault$Vault" (54 : Nat) ({ cls := "FourVault$Vault", name := "heldAlone", desc := "(LFourVault$Taker;I)I" } : Jvm.MethodName)) ∈ gtb := tg2 (List.mem_of_getElem? (i := 145) rfl) rfl
theorem wd_386 : (Jvm.Cond.methodLink "FourVaultLaw" (56 : Nat) ({ cls := "FourVault", name := "together", desc := "(III)I" } : Jvm.MethodName)) ∈ gtb := tg2 (List.mem_of_getElem? (i := 146) rfl) rfl
theorem wd_387 : (Jvm.Cond.instanceMethod ({ cls := "FourVault", name := "together", desc := "(III)I" } : Jvm.MethodName)) ∈ gtb := tg2 (List.mem_of_getElem? (i := 147) rfl) rfl
theorem wd_388 : (Jvm.Cond.selects "FourVault" ({ cls := "FourVault", name := "together", desc := "(III)I" } : Jvm.MethodName) ({ cls := "FourVault", name := "together", desc := "(III)I" } : Jvm.MethodName)) ∈ gtb := tg2 (List.mem_of_getElem? (i := 148) rfl) rfl
theorem wd_389 : (Jvm.Cond.code ({ cls := "FourVault", name := "together", desc := "(III)I" } : Jvm.MethodName) prog_1_method_12_code (6 : Nat) (Option.some Jvm.ClassFile.FieldType.int)) ∈ gtb := tg2 (List.mem_of_getElem? (i := 149) rfl) rfl
theorem wd_390 : (Jvm.Cond.methodLink "FourVault" (141 : Nat) ({ cls := "FourVault$Vault", name := "heldByTwo", desc := "(LFourVault$Taker;LFourVault$Taker;I)I" } : Jvm.MethodName)) ∈ gtb := tg2 (List.mem_of_getElem? (i := 150) rfl) rfl
theorem wd_391 : (Jvm.Cond.instanceMethod ({ cls := "FourVault$Vault", name := "heldByTwo", desc := "(LFourVault$Taker;LFourVault$Taker;I)I" } : Jvm.MethodName)) ∈ gtb := tg2 (List.mem_of_getElem? (i := 151) rfl) rfl
theorem wd_392 : (Jvm.Cond.selects "FourVault$Vault" ({ cls := "FourVault$Vault", name := "heldByTwo", desc := "(LFourVault$Taker;LFourVault$Taker;I)I" } : Jvm.MethodName) ({ cls := "FourVault$Vault", name := "heldByTwo", desc := "(LFourVault$Taker;LFourVault$Taker;I)I" } : Jvm.MethodName)) ∈ gtb := tg2 (List.mem_of_getElem? (i := 152) rfl) rfl
theorem wd_393 : (Jvm.Cond.code ({ cls := "FourVault$Vault", name := "heldByTwo", desc := "(LFourVault$Taker;LFourVault$Taker;I)I" } : Jvm.MethodName) prog_10_method_10_code (4 : Nat) (Option.some Jvm.ClassFile.FieldType.int)) ∈ gtb := tg2 (List.mem_of_getElem? (i := 153) rfl) rfl
theorem wd_394 : (Jvm.Cond.methodLink "FourVault$Vault" (44 : Nat) ({ cls := "FourVault$Vault", name := "heldInPair", desc := "(LFourVault$Taker;I)I" } : Jvm.MethodName)) ∈ gtb := tg2 (List.mem_of_getElem? (i := 154) rfl) rfl
theorem wd_395 : (Jvm.Cond.instanceMethod ({ cls := "FourVault$Vault", name := "heldInPair", desc := "(LFourVault$Taker;I)I" } : Jvm.MethodName)) ∈ gtb := tg2 (List.mem_of_getElem? (i := 155) rfl) rfl
theorem wd_396 : (Jvm.Cond.selects "FourVault$Vault" ({ cls := "FourVault$Vault", name := "heldInPair", desc := "(LFourVault$Taker;I)I" } : Jvm.MethodName) ({ cls := "FourVault$Vault", name := "heldInPair", desc := "(LFourVault$Taker;I)I" } : Jvm.MethodName)) ∈ gtb := tg2 (List.mem_of_getElem? (i := 156) rfl) rfl
theorem wd_397 : (Jvm.Cond.code ({ cls := "FourVault$Vault", name := "heldInPair", desc := "(LFourVault$Taker;I)I" } : Jvm.MethodName) prog_10_method_9_code (5 : Nat) (Option.some Jvm.ClassFile.FieldType.int)) ∈ gtb := tg2 (List.mem_of_getElem? (i := 157) rfl) rfl
theorem wd_398 : (Jvm.Cond.methodLink "FourVault$Vault" (48 : Nat) ({ cls := "java/lang/Math", name := "min", desc := "(II)I" } : Jvm.MethodName)) ∈ gtb := tg2 (List.mem_of_getElem? (i := 158) rfl) rfl
theorem wd_399 : (Jvm.Cond.static ({ cls := "java/lang/Math", name := "min", desc := "(II)I" } : Jvm.MethodName)) ∈ gtb := tg2 (List.mem_of_getElem? (i := 159) rfl) rfl
theorem wd_400 : (Jvm.Cond.code ({ cls := "java/lang/Math", name := "min", desc := "(II)I" } : Jvm.MethodName) prog_14_method_69_code (2 : Nat) (Option.some Jvm.ClassFile.FieldType.int)) ∈ gtb := tg2 (List.mem_of_getElem? (i := 160) rfl) rfl
theorem wd_401 : (Jvm.Cond.methodLink "FourVaultLaw" (61 : Nat) ({ cls := "FourVault", name := "friend", desc := "(II)I" } : Jvm.MethodName)) ∈ gtb := tg2 (List.mem_of_getElem? (i := 161) rfl) rfl
theorem wd_402 : (Jvm.Cond.instanceMethod ({ cls := "FourVault", name := "friend", desc := "(II)I" } : Jvm.MethodName)) ∈ gtb := tg2 (List.mem_of_getElem? (i := 162) rfl) rfl
theorem wd_403 : (Jvm.Cond.selects "FourVault" ({ cls := "FourVault", name := "friend", desc := "(II)I" } : Jvm.MethodName) ({ cls := "FourVault", name := "friend", desc := "(II)I" } : Jvm.MethodName)) ∈ gtb := tg2 (List.mem_of_getElem? (i := 163) rfl) rfl
theorem wd_404 : (Jvm.Cond.code ({ cls := "FourVault", name := "friend", desc := "(II)I" } : Jvm.MethodName) prog_1_method_13_code (4 : Nat) (Option.some Jvm.ClassFile.FieldType.int)) ∈ gtb := tg2 (List.mem_of_getElem? (i := 164) rfl) rfl
theorem wd_405 : (Jvm.Cond.methodLink "FourVault" (145 : Nat) ({ cls := "FourVault$Vault", name := "bestFriend", desc := "(LFourVault$Taker;I)I" } : Jvm.MethodName)) ∈ gtb := tg2 (List.mem_of_getElem? (i := 165) rfl) rfl
theorem wd_406 : (Jvm.Cond.instanceMethod ({ cls := "FourVault$Vault", name := "bestFriend", desc := "(LFourVault$Taker;I)I" } : Jvm.MethodName)) ∈ gtb := tg2 (List.mem_of_getElem? (i := 166) rfl) rfl
theorem wd_407 : (Jvm.Cond.selects "FourVault$Vault" ({ cls := "FourVault$Vault", name := "bestFriend", desc := "(LFourVault$Taker;I)I" } : Jvm.MethodName) ({ cls := "FourVault$Vault", name := "bestFriend", desc := "(LFourVault$Taker;I)I" } : Jvm.MethodName)) ∈ gtb := tg2 (List.mem_of_getElem? (i := 167) rfl) rfl
theorem wd_408 : (Jvm.Cond.code ({ cls := "FourVault$Vault", name := "bestFriend", desc := "(LFourVault$Taker;I)I" } : Jvm.MethodName) prog_10_method_12_code (8 : Nat) (Option.some Jvm.ClassFile.FieldType.int)) ∈ gtb := tg2 (List.mem_of_getElem? (i := 168) rfl) rfl
theorem wd_409 : (Jvm.Cond.methodLink "FourVault$Vault" (57 : Nat) ({ cls := "FourVault$Vault", name := "takerAt", desc := "(I)LFourVault$Taker;" } : Jvm.MethodName)) ∈ gtb := tg2 (List.mem_of_getElem? (i := 169) rfl) rfl
theorem wd_410 : (Jvm.Cond.methodLink "FourVault$Vault" (64 : Nat) ({ cls := "FourVault$Vault", name := "heldByTwo", desc := "(LFourVault$Taker;LFourVault$Taker;I)I" } : Jvm.MethodName)) ∈ gtb := tg2 (List.mem_of_getElem? (i := 170) rfl) rfl
theorem wd_411 : (Jvm.Cond.methodLink "FourVaultLaw" (65 : Nat) ({ cls := "FourVault", name := "night", desc := "(IIIII)I" } : Jvm.MethodName)) ∈ gtb := tg2 (List.mem_of_getElem? (i := 171) rfl) rfl
theorem wd_412 : (Jvm.Cond.instanceMethod ({ cls := "FourVault", name := "night", desc := "(IIIII)I" } : Jvm.MethodName)) ∈ gtb := tg2 (List.mem_of_getElem? (i := 172) rfl) rfl
theorem wd_413 : (Jvm.Cond.selects "FourVault" ({ cls := "FourVault", name := "night", desc := "(IIIII)I" } : Jvm.MethodName) ({ cls := "FourVault", name := "night", desc := "(IIIII)I" } : Jvm.MethodName)) ∈ gtb := tg2 (List.mem_of_getElem? (i := 173) rfl) rfl
theorem wd_414 : (Jvm.Cond.code ({ cls := "FourVault", name := "night", desc := "(IIIII)I" } : Jvm.MethodName) prog_1_method_14_code (8 : Nat) (Option.some Jvm.ClassFile.FieldType.int)) ∈ gtb := tg2 (List.mem_of_getElem? (i := 174) rfl) rfl
theorem wd_415 : (Jvm.Cond.methodLink "FourVault" (148 : Nat) ({ cls := "FourVault$Night", name := "tells", desc := "(I)Z" } : Jvm.MethodName)) ∈ gtb := tg2 (List.mem_of_getElem? (i := 175) rfl) rfl
theorem wd_416 : (Jvm.Cond.static ({ cls := "FourVault$Night", name := "tells", desc := "(I)Z" } : Jvm.MethodName)) ∈ gtb := tg2 (List.mem_of_getElem? (i := 176) rfl) rfl
theorem wd_417 : (Jvm.Cond.code ({ cls := "FourVault$Night", name := "tells", desc := "(I)Z" } : Jvm.MethodName) prog_2_method_2_code (1 : Nat) (Option.some Jvm.ClassFile.FieldType.boolean)) ∈ gtb := tg2 (List.mem_of_getElem? (i := 177) rfl) rfl
theorem wd_418 : (Jvm.Cond.methodLink "FourVault" (151 : Nat) ({ cls := "FourVault$Vault", name := "stands", desc := "()Z" } : Jvm.MethodName)) ∈ gtb := tg2 (List.mem_of_getElem? (i := 178) rfl) rfl
theorem wd_419 : (Jvm.Cond.instanceMethod ({ cls := "FourVault$Vault", name := "stands", desc := "()Z" } : Jvm.MethodName)) ∈ gtb := tg2 (List.mem_of_getElem? (i := 179) rfl) rfl
theorem wd_420 : (Jvm.Cond.selects "FourVault$Vault" ({ cls := "FourVault$Vault", name := "stands", desc := "()Z" } : Jvm.MethodName) ({ cls := "FourVault$Vault", name := "stands", desc := "()Z" } : Jvm.MethodName)) ∈ gtb := tg2 (List.mem_of_getElem? (i := 180) rfl) rfl
theorem wd_421 : (Jvm.Cond.code ({ cls := "FourVault$Vault", name := "stands", desc := "()Z" } : Jvm.MethodName) prog_10_method_3_code (1 : Nat) (Option.some Jvm.ClassFile.FieldType.boolean)) ∈ gtb := tg2 (List.mem_of_getElem? (i := 181) rfl) rfl
theorem wd_422 : (Jvm.Cond.methodLink "FourVault" (155 : Nat) ({ cls := "FourVault$Night", name := "readPairs", desc := "(LFourVault$Vault;LFourVault$Row;II)I" } : Jvm.MethodName)) ∈ gtb := tg2 (List.mem_of_getElem? (i := 182) rfl) rfl
theorem wd_423 : (Jvm.Cond.instanceMethod ({ cls := "FourVault$Night", name := "readPairs", desc := "(LFourVault$Vault;LFourVault$Row;II)I" } : Jvm.MethodName)) ∈ gtb := tg2 (List.mem_of_getElem? (i := 183) rfl) rfl
theorem wd_424 : (Jvm.Cond.selects "FourVault$Night" ({ cls := "FourVault$Night", name := "readPairs", desc := "(LFourVault$Vault;LFourVault$Row;II)I" } : Jvm.MethodName) ({ cls := "FourVault$Night", name := "readPairs", desc := "(LFourVault$Vault;LFourVault$Row;II)I" } : Jvm.MethodName)) ∈ gtb := tg2 (List.mem_of_getElem? (i := 184) rfl) rfl
theorem wd_425 : (Jvm.Cond.code ({ cls := "FourVault$Night", name := "readPairs", desc := "(LFourVault$Vault;LFourVault$Row;II)I" } : Jvm.MethodName) prog_2_method_3_code (9 : Nat) (Option.some Jvm.ClassFile.FieldType.int)) ∈ gtb := tg2 (List.mem_of_getElem? (i := 185) rfl) rfl
theorem wd_426 : (Jvm.Cond.methodLink "FourVault$Night" (30 : Nat) ({ cls := "FourVault$Vault", name := "takerAt", desc := "(I)LFourVault$Taker;" } : Jvm.MethodName)) ∈ gtb := tg2 (List.mem_of_getElem? (i := 186) rfl) rfl
theorem wd_427 : (Jvm.Cond.methodLinkNest "FourVault$Night" (36 : Nat) ({ cls := "FourVault", name := "isMinute", desc := "(I)Z" } : Jvm.MethodName) "FourVault") ∈ lw_tbl := tm2 (List.mem_of_getElem? (i := 187) rfl)
theorem wd_428 : (Jvm.Cond.methodLink "FourVault$Night" (40 : Nat) ({ cls := "FourVault$Vault", name := "heldAlone", desc := "(LFourVault$Taker;I)I" } : Jvm.MethodName)) ∈ gtb := tg2 (List.mem_of_getElem? (i := 188) rfl) rfl
theorem wd_429 : (Jvm.Cond.methodLink "FourVault" (159 : Nat) ({ cls := "FourVault$Night", name := "answer", desc := "(LFourVault$Vault;I)I" } : Jvm.MethodName)) ∈ gtb := tg2 (List.mem_of_getElem? (i := 189) rfl) rfl
theorem wd_430 : (Jvm.Cond.instanceMethod ({ cls := "FourVault$Night", name := "answer", desc := "(LFourVault$Vault;I)I" } : Jvm.MethodName)) ∈ gtb := tg2 (List.mem_of_getElem? (i := 190) rfl) rfl
theorem wd_431 : (Jvm.Cond.selects "FourVault$Night" ({ cls := "FourVault$Night", name := "answer", desc := "(LFourVault$Vault;I)I" } : Jvm.MethodName) ({ cls := "FourVault$Night", name := "answer", desc := "(LFourVault$Vault;I)I" } : Jvm.MethodName)) ∈ gtb := tg2 (List.mem_of_getElem? (i := 191) rfl) rfl
theorem wd_432 : (Jvm.Cond.code ({ cls := "FourVault$Night", name := "answer", desc := "(LFourVault$Vault;I)I" } : Jvm.MethodName) prog_2_method_4_code (4 : Nat) (Option.some Jvm.ClassFile.FieldType.int)) ∈ gtb := tg2 (List.mem_of_getElem? (i := 192) rfl) rfl
theorem wd_433 : (Jvm.Cond.methodLink "FourVault$Night" (44 : Nat) ({ cls := "FourVault$Night", name := "firstWrong", desc := "()I" } : Jvm.MethodName)) ∈ gtb := tg2 (List.mem_of_getElem? (i := 193) rfl) rfl
theorem wd_434 : (Jvm.Cond.instanceMethod ({ cls := "FourVault$Night", name := "firstWrong", desc := "()I" } : Jvm.MethodName)) ∈ gtb := tg2 (List.mem_of_getElem? (i := 194) rfl) rfl
theorem wd_435 : (Jvm.Cond.selects "FourVault$Night" ({ cls := "FourVault$Night", name := "firstWrong", desc := "()I" } : Jvm.MethodName) ({ cls := "FourVault$Night", name := "firstWrong", desc := "()I" } : Jvm.MethodName)) ∈ gtb := tg2 (List.mem_of_getElem? (i := 195) rfl) rfl
theorem wd_436 : (Jvm.Cond.code ({ cls := "FourVault$Night", name := "firstWrong", desc := "()I" } : Jvm.MethodName) prog_2_method_5_code (2 : Nat) (Option.some Jvm.ClassFile.FieldType.int)) ∈ gtb := tg2 (List.mem_of_getElem? (i := 196) rfl) rfl
theorem wd_437 : (Jvm.Cond.methodLink "FourVault$Night" (61 : Nat) ({ cls := "FourVault$Night", name := "isStillIn", desc := "(I)Z" } : Jvm.MethodName)) ∈ gtb := tg2 (List.mem_of_getElem? (i := 197) rfl) rfl
theorem wd_438 : (Jvm.Cond.instanceMethod ({ cls := "FourVault$Night", name := "isStillIn", desc := "(I)Z" } : Jvm.MethodName)) ∈ gtb := tg2 (List.mem_of_getElem? (i := 198) rfl) rfl
theorem wd_439 : (Jvm.Cond.selects "FourVault$Night" ({ cls := "FourVault$Night", name := "isStillIn", desc := "(I)Z" } : Jvm.MethodName) ({ cls := "FourVault$Night", name := "isStillIn", desc := "(I)Z" } : Jvm.MethodName)) ∈ gtb := tg2 (List.mem_of_getElem? (i := 199) rfl) rfl
theorem wd_440 : (Jvm.Cond.code ({ cls := "FourVault$Night", name := "isStillIn", desc := "(I)Z" } : Jvm.MethodName) prog_2_method_6_code (3 : Nat) (Option.some Jvm.ClassFile.FieldType.boolean)) ∈ gtb := tg2 (List.mem_of_getElem? (i := 200) rfl) rfl
theorem wd_441 : (Jvm.Cond.methodLink "FourVault$Night" (48 : Nat) ({ cls := "FourVault$Night", name := "minutesOfAll", desc := "()I" } : Jvm.MethodName)) ∈ gtb := tg2 (List.mem_of_getElem? (i := 201) rfl) rfl
theorem wd_442 : (Jvm.Cond.instanceMethod ({ cls := "FourVault$Night", name := "minutesOfAll", desc := "()I" } : Jvm.MethodName)) ∈ gtb := tg2 (List.mem_of_getElem? (i := 202) rfl) rfl
theorem wd_443 : (Jvm.Cond.selects "FourVault$Night" ({ cls := "FourVault$Night", name := "minutesOfAll", desc := "()I" } : Jvm.MethodName) ({ cls := "FourVault$Night", name := "minutesOfAll", desc := "()I" } : Jvm.MethodName)) ∈ gtb := tg2 (List.mem_of_getElem? (i := 203) rfl) rfl
theorem wd_444 : (Jvm.Cond.code ({ cls := "FourVault$Night", name := "minutesOfAll", desc := "()I" } : Jvm.MethodName) prog_2_method_7_code (3 : Nat) (Option.some Jvm.ClassFile.FieldType.int)) ∈ gtb := tg2 (List.mem_of_getElem? (i := 204) rfl) rfl
theorem wd_445 : (Jvm.Cond.methodLink "FourVault$Night" (51 : Nat) ({ cls := "FourVault$Night", name := "latestEnd", desc := "()I" } : Jvm.MethodName)) ∈ gtb := tg2 (List.mem_of_getElem? (i := 205) rfl) rfl
theorem wd_446 : (Jvm.Cond.instanceMethod ({ cls := "FourVault$Night", name := "latestEnd", desc := "()I" } : Jvm.MethodName)) ∈ gtb := tg2 (List.mem_of_getElem? (i := 206) rfl) rfl
theorem wd_447 : (Jvm.Cond.selects "FourVault$Night" ({ cls := "FourVault$Night", name := "latestEnd", desc := "()I" } : Jvm.MethodName) ({ cls := "FourVault$Night", name := "latestEnd", desc := "()I" } : Jvm.MethodName)) ∈ gtb := tg2 (List.mem_of_getElem? (i := 207) rfl) rfl
theorem wd_448 : (Jvm.Cond.code ({ cls := "FourVault$Night", name := "latestEnd", desc := "()I" } : Jvm.MethodName) prog_2_method_9_code (3 : Nat) (Option.some Jvm.ClassFile.FieldType.int)) ∈ gtb := tg2 (List.mem_of_getElem? (i := 208) rfl) rfl
theorem wd_449 : (Jvm.Cond.methodLink "FourVault$Night" (64 : Nat) ({ cls := "java/lang/Math", name := "max", desc := "(II)I" } : Jvm.MethodName)) ∈ gtb := tg2 (List.mem_of_getElem? (i := 209) rfl) rfl
theorem wd_450 : (Jvm.Cond.methodLink "FourVault$Night" (54 : Nat) ({ cls := "FourVault$Night", name := "mostAtOnce", desc := "()I" } : Jvm.MethodName)) ∈ gtb := tg2 (List.mem_of_getElem? (i := 210) rfl) rfl
theorem wd_451 : (Jvm.Cond.instanceMethod ({ cls := "FourVault$Night", name := "mostAtOnce", desc := "()I" } : Jvm.MethodName)) ∈ gtb := tg2 (List.mem_of_getElem? (i := 211) rfl) rfl
theorem wd_452 : (Jvm.Cond.selects "FourVault$Night" ({ cls := "FourVault$Night", name := "mostAtOnce", desc := "()I" } : Jvm.MethodName) ({ cls := "FourVault$Night", name := "mostAtOnce", desc := "()I" } : Jvm.MethodName)) ∈ gtb := tg2 (List.mem_of_getElem? (i := 212) rfl) rfl
theorem wd_453 : (Jvm.Cond.code ({ cls := "FourVault$Night", name := "mostAtOnce", desc := "()I" } : Jvm.MethodName) prog_2_method_10_code (3 : Nat) (Option.some Jvm.ClassFile.FieldType.int)) ∈ gtb := tg2 (List.mem_of_getElem? (i := 213) rfl) rfl
theorem wd_454 : (Jvm.Cond.methodLink "FourVault$Night" (70 : Nat) ({ cls := "FourVault$Night", name := "inAt", desc := "(I)I" } : Jvm.MethodName)) ∈ gtb := tg2 (List.mem_of_getElem? (i := 214) rfl) rfl
theorem wd_455 : (Jvm.Cond.instanceMethod ({ cls := "FourVault$Night", name := "inAt", desc := "(I)I" } : Jvm.MethodName)) ∈ gtb := tg2 (List.mem_of_getElem? (i := 215) rfl) rfl
theorem wd_456 : (Jvm.Cond.selects "FourVault$Night" ({ cls := "FourVault$Night", name := "inAt", desc := "(I)I" } : Jvm.MethodName) ({ cls := "FourVault$Night", name := "inAt", desc := "(I)I" } : Jvm.MethodName)) ∈ gtb := tg2 (List.mem_of_getElem? (i := 216) rfl) rfl
theorem wd_457 : (Jvm.Cond.code ({ cls := "FourVault$Night", name := "inAt", desc := "(I)I" } : Jvm.MethodName) prog_2_method_11_code (4 : Nat) (Option.some Jvm.ClassFile.FieldType.int)) ∈ gtb := tg2 (List.mem_of_getElem? (i := 217) rfl) rfl
theorem wd_458 : (Jvm.Cond.methodLink "FourVault$Night" (57 : Nat) ({ cls := "FourVault$Night", name := "minutesOf", desc := "(I)I" } : Jvm.MethodName)) ∈ gtb := tg2 (List.mem_of_getElem? (i := 218) rfl) rfl
theorem wd_459 : (Jvm.Cond.instanceMethod ({ cls := "FourVault$Night", name := "minutesOf", desc := "(I)I" } : Jvm.MethodName)) ∈ gtb := tg2 (List.mem_of_getElem? (i := 219) rfl) rfl
theorem wd_460 : (Jvm.Cond.selects "FourVault$Night" ({ cls := "FourVault$Night", name := "minutesOf", desc := "(I)I" } : Jvm.MethodName) ({ cls := "FourVault$Night", name := "minutesOf", desc := "(I)I" } : Jvm.MethodName)) ∈ gtb := tg2 (List.mem_of_getElem? (i := 220) rfl) rfl
theorem wd_461 : (Jvm.Cond.code ({ cls := "FourVault$Night", name := "minutesOf", desc := "(I)I" } : Jvm.MethodName) prog_2_method_8_code (4 : Nat) (Option.some Jvm.ClassFile.FieldType.int)) ∈ gtb := tg2 (List.mem_of_getElem? (i := 221) rfl) rfl
theorem wd_462 : (Jvm.Cond.methodLink "FourVaultLaw" (70 : Nat) ({ cls := "FourVault", name := "gets", desc := "(II)I" } : Jvm.MethodName)) ∈ gtb := tg2 (List.mem_of_getElem? (i := 222) rfl) rfl
theorem wd_463 : (Jvm.Cond.instanceMethod ({ cls := "FourVault", name := "gets", desc := "(II)I" } : Jvm.MethodName)) ∈ gtb := tg2 (List.mem_of_getElem? (i := 223) rfl) rfl
theorem wd_464 : (Jvm.Cond.selects "FourVault" ({ cls := "FourVault", name := "gets", desc := "(II)I" } : Jvm.MethodName) ({ cls := "FourVault", name := "gets", desc := "(II)I" } : Jvm.MethodName)) ∈ gtb := tg2 (List.mem_of_getElem? (i := 224) rfl) rfl
theorem wd_465 : (Jvm.Cond.code ({ cls := "FourVault", name := "gets", desc := "(II)I" } : Jvm.MethodName) prog_1_method_15_code (4 : Nat) (Option.some Jvm.ClassFile.FieldType.int)) ∈ gtb := tg2 (List.mem_of_getElem? (i := 225) rfl) rfl
theorem wd_466 : (Jvm.Cond.methodLink "FourVault" (163 : Nat) ({ cls := "FourVault$Vault", name := "goodsGot", desc := "(LFourVault$Taker;I)I" } : Jvm.MethodName)) ∈ gtb := tg2 (List.mem_of_getElem? (i := 226) rfl) rfl
theorem wd_467 : (Jvm.Cond.instanceMethod ({ cls := "FourVault$Vault", name := "goodsGot", desc := "(LFourVault$Taker;I)I" } : Jvm.MethodName)) ∈ gtb := tg2 (List.mem_of_getElem? (i := 227) rfl) rfl
theorem wd_468 : (Jvm.Cond.selects "FourVault$Vault" ({ cls := "FourVault$Vault", name := "goodsGot", desc := "(LFourVault$Taker;I)I" } : Jvm.MethodName) ({ cls := "FourVault$Vault", name := "goodsGot", desc := "(LFourVault$Taker;I)I" } : Jvm.MethodName)) ∈ gtb := tg2 (List.mem_of_getElem? (i := 228) rfl) rfl
theorem wd_469 : (Jvm.Cond.code ({ cls := "FourVault$Vault", name := "goodsGot", desc := "(LFourVault$Taker;I)I" } : Jvm.MethodName) prog_10_method_13_code (6 : Nat) (Option.some Jvm.ClassFile.FieldType.int)) ∈ gtb := tg2 (List.mem_of_getElem? (i := 229) rfl) rfl
theorem wd_470 : (Jvm.Cond.methodLink "FourVaultLaw" (74 : Nat) ({ cls := "FourVault", name := "send", desc := "(II)I" } : Jvm.MethodName)) ∈ gtb := tg2 (List.mem_of_getElem? (i := 230) rfl) rfl
theorem wd_471 : (Jvm.Cond.instanceMethod ({ cls := "FourVault", name := "send", desc := "(II)I" } : Jvm.MethodName)) ∈ gtb := tg2 (List.mem_of_getElem? (i := 231) rfl) rfl
theorem wd_472 : (Jvm.Cond.selects "FourVault" ({ cls := "FourVault", name := "send", desc := "(II)I" } : Jvm.MethodName) ({ cls := "FourVault", name := "send", desc := "(II)I" } : Jvm.MethodName)) ∈ gtb := tg2 (List.mem_of_getElem? (i := 232) rfl) rfl
theorem wd_473 : (Jvm.Cond.code ({ cls := "FourVault", name := "send", desc := "(II)I" } : Jvm.MethodName) prog_1_method_16_code (3 : Nat) (Option.some Jvm.ClassFile.FieldType.int)) ∈ gtb := tg2 (List.mem_of_getElem? (i := 233) rfl) rfl
theorem wd_474 : (Jvm.Cond.methodLink "FourVault" (166 : Nat) ({ cls := "FourVault$Sending", name := "weigh", desc := "(LFourVault$Vault;I)V" } : Jvm.MethodName)) ∈ gtb := tg2 (List.mem_of_getElem? (i := 234) rfl) rfl
theorem wd_475 : (Jvm.Cond.instanceMethod ({ cls := "FourVault$Sending", name := "weigh", desc := "(LFourVault$Vault;I)V" } : Jvm.MethodName)) ∈ gtb := tg2 (List.mem_of_getElem? (i := 235) rfl) rfl
theorem wd_476 : (Jvm.Cond.selects "FourVault$Sending" ({ cls := "FourVault$Sending", name := "weigh", desc := "(LFourVault$Vault;I)V" } : Jvm.MethodName) ({ cls := "FourVault$Sending", name := "weigh", desc := "(LFourVault$Vault;I)V" } : Jvm.MethodName)) ∈ gtb := tg2 (List.mem_of_getElem? (i := 236) rfl) rfl
theorem wd_477 : (Jvm.Cond.code ({ cls := "FourVault$Sending", name := "weigh", desc := "(LFourVault$Vault;I)V" } : Jvm.MethodName) prog_6_method_2_code (7 : Nat) (Option.none : Option Jvm.ClassFile.FieldType)) ∈ gtb := tg2 (List.mem_of_getElem? (i := 237) rfl) rfl
theorem wd_478 : (Jvm.Cond.methodLink "FourVault$Sending" (26 : Nat) ({ cls := "FourVault$Vault", name := "takerAt", desc := "(I)LFourVault$Taker;" } : Jvm.MethodName)) ∈ gtb := tg2 (List.mem_of_getElem? (i := 238) rfl) rfl
theorem wd_479 : (Jvm.Cond.methodLink "FourVault$Sending" (30 : Nat) ({ cls := "FourVault$Vault", name := "goodsGot", desc := "(LFourVault$Taker;I)I" } : Jvm.MethodName)) ∈ gtb := tg2 (List.mem_of_getElem? (i := 239) rfl) rfl
theorem wd_480 : (Jvm.Cond.methodLink "FourVault$Sending" (34 : Nat) ({ cls := "FourVault$Sending", name := "mostWith", desc := "(LFourVault$Vault;II)I" } : Jvm.MethodName)) ∈ gtb := tg3 (List.mem_of_getElem? (i := 0) rfl) rfl
theorem wd_481 : (Jvm.Cond.instanceMethod ({ cls := "FourVault$Sending", name := "mostWith", desc := "(LFourVault$Vault;II)I" } : Jvm.MethodName)) ∈ gtb := tg3 (List.mem_of_getElem? (i := 1) rfl) rfl
theorem wd_482 : (Jvm.Cond.selects "FourVault$Sending" ({ cls := "FourVault$Sending", name := "mostWith", desc := "(LFourVault$Vault;II)I" } : Jvm.MethodName) ({ cls := "FourVault$Sending", name := "mostWith", desc := "(LFourVault$Vault;II)I" } : Jvm.MethodName)) ∈ gtb := tg3 (List.mem_of_getElem? (i := 2) rfl) rfl
theorem wd_483 : (Jvm.Cond.code ({ cls := "FourVault$Sending", name := "mostWith", desc := "(LFourVault$Vault;II)I" } : Jvm.MethodName) prog_6_method_3_code (6 : Nat) (Option.some Jvm.ClassFile.FieldType.int)) ∈ gtb := tg3 (List.mem_of_getElem? (i := 3) rfl) rfl
theorem wd_484 : (Jvm.Cond.methodLink "FourVault$Sending" (41 : Nat) ({ cls := "FourVault$Sending", name := "isFree", desc := "(III)Z" } : Jvm.MethodName)) ∈ gtb := tg3 (List.mem_of_getElem? (i := 4) rfl) rfl
theorem wd_485 : (Jvm.Cond.instanceMethod ({ cls := "FourVault$Sending", name := "isFree", desc := "(III)Z" } : Jvm.MethodName)) ∈ gtb := tg3 (List.mem_of_getElem? (i := 5) rfl) rfl
theorem wd_486 : (Jvm.Cond.selects "FourVault$Sending" ({ cls := "FourVault$Sending", name := "isFree", desc := "(III)Z" } : Jvm.MethodName) ({ cls := "FourVault$Sending", name := "isFree", desc := "(III)Z" } : Jvm.MethodName)) ∈ gtb := tg3 (List.mem_of_getElem? (i := 6) rfl) rfl
theorem wd_487 : (Jvm.Cond.code ({ cls := "FourVault$Sending", name := "isFree", desc := "(III)Z" } : Jvm.MethodName) prog_6_method_4_code (4 : Nat) (Option.some Jvm.ClassFile.FieldType.boolean)) ∈ gtb := tg3 (List.mem_of_getElem? (i := 7) rfl) rfl
theorem wd_488 : (Jvm.Cond.methodLink "FourVault$Sending" (45 : Nat) ({ cls := "FourVault$Sending", name := "withGood", desc := "(LFourVault$Vault;III)I" } : Jvm.MethodName)) ∈ gtb := tg3 (List.mem_of_getElem? (i := 8) rfl) rfl
theorem wd_489 : (Jvm.Cond.instanceMethod ({ cls := "FourVault$Sending", name := "withGood", desc := "(LFourVault$Vault;III)I" } : Jvm.MethodName)) ∈ gtb := tg3 (List.mem_of_getElem? (i := 9) rfl) rfl
theorem wd_490 : (Jvm.Cond.selects "FourVault$Sending" ({ cls := "FourVault$Sending", name := "withGood", desc := "(LFourVault$Vault;III)I" } : Jvm.MethodName) ({ cls := "FourVault$Sending", name := "withGood", desc := "(LFourVault$Vault;III)I" } : Jvm.MethodName)) ∈ gtb := tg3 (List.mem_of_getElem? (i := 10) rfl) rfl
theorem wd_491 : (Jvm.Cond.code ({ cls := "FourVault$Sending", name := "withGood", desc := "(LFourVault$Vault;III)I" } : Jvm.MethodName) prog_6_method_5_code (5 : Nat) (Option.some Jvm.ClassFile.FieldType.int)) ∈ gtb := tg3 (List.mem_of_getElem? (i := 11) rfl) rfl
theorem wd_492 : (Jvm.Cond.methodLink "FourVault$Sending" (49 : Nat) ({ cls := "java/lang/Math", name := "max", desc := "(II)I" } : Jvm.MethodName)) ∈ gtb := tg3 (List.mem_of_getElem? (i := 12) rfl) rfl
theorem wd_493 : (Jvm.Cond.methodLink "FourVault" (170 : Nat) ({ cls := "FourVault$Sending", name := "most", desc := "()I" } : Jvm.MethodName)) ∈ gtb := tg3 (List.mem_of_getElem? (i := 13) rfl) rfl
theorem wd_494 : (Jvm.Cond.instanceMethod ({ cls := "FourVault$Sending", name := "most", desc := "()I" } : Jvm.MethodName)) ∈ gtb := tg3 (List.mem_of_getElem? (i := 14) rfl) rfl
theorem wd_495 : (Jvm.Cond.selects "FourVault$Sending" ({ cls := "FourVault$Sending", name := "most", desc := "()I" } : Jvm.MethodName) ({ cls := "FourVault$Sending", name := "most", desc := "()I" } : Jvm.MethodName)) ∈ gtb := tg3 (List.mem_of_getElem? (i := 15) rfl) rfl
theorem wd_496 : (Jvm.Cond.code ({ cls := "FourVault$Sending", name := "most", desc := "()I" } : Jvm.MethodName) prog_6_method_6_code (1 : Nat) (Option.some Jvm.ClassFile.FieldType.int)) ∈ gtb := tg3 (List.mem_of_getElem? (i := 16) rfl) rfl
theorem wd_497 : (Jvm.Cond.methodLink "FourVault" (173 : Nat) ({ cls := "FourVault$Sending", name := "goodOf", desc := "(LFourVault$Vault;I)I" } : Jvm.MethodName)) ∈ gtb := tg3 (List.mem_of_getElem? (i := 17) rfl) rfl
theorem wd_498 : (Jvm.Cond.instanceMethod ({ cls := "FourVault$Sending", name := "goodOf", desc := "(LFourVault$Vault;I)I" } : Jvm.MethodName)) ∈ gtb := tg3 (List.mem_of_getElem? (i := 18) rfl) rfl
theorem wd_499 : (Jvm.Cond.selects "FourVault$Sending" ({ cls := "FourVault$Sending", name := "goodOf", desc := "(LFourVault$Vault;I)I" } : Jvm.MethodName) ({ cls := "FourVault$Sending", name := "goodOf", desc := "(LFourVault$Vault;I)I" } : Jvm.MethodName)) ∈ gtb := tg3 (List.mem_of_getElem? (i := 19) rfl) rfl
theorem wd_500 : (Jvm.Cond.code ({ cls := "FourVault$Sending", name := "goodOf", desc := "(LFourVault$Vault;I)I" } : Jvm.MethodName) prog_6_method_7_code (6 : Nat) (Option.some Jvm.ClassFile.FieldType.int)) ∈ gtb := tg3 (List.mem_of_getElem? (i := 20) rfl) rfl
theorem wd_501 : (Jvm.Cond.methodLink "FourVault$Sending" (58 : Nat) ({ cls := "FourVault$Sending", name := "firstGood", desc := "(LFourVault$Vault;II)I" } : Jvm.MethodName)) ∈ gtb := tg3 (List.mem_of_getElem? (i := 21) rfl) rfl
theorem wd_502 : (Jvm.Cond.instanceMethod ({ cls := "FourVault$Sending", name := "firstGood", desc := "(LFourVault$Vault;II)I" } : Jvm.MethodName)) ∈ gtb := tg3 (List.mem_of_getElem? (i := 22) rfl) rfl
theorem wd_503 : (Jvm.Cond.selects "FourVault$Sending" ({ cls := "FourVault$Sending", name := "firstGood", desc := "(LFourVault$Vault;II)I" } : Jvm.MethodName) ({ cls := "FourVault$Sending", name := "firstGood", desc := "(LFourVault$Vault;II)I" } : Jvm.MethodName)) ∈ gtb := tg3 (List.mem_of_getElem? (i := 23) rfl) rfl
theorem wd_504 : (Jvm.Cond.code ({ cls := "FourVault$Sending", name := "firstGood", desc := "(LFourVault$Vault;II)I" } : Jvm.MethodName) prog_6_method_8_code (5 : Nat) (Option.some Jvm.ClassFile.FieldType.int)) ∈ gtb := tg3 (List.mem_of_getElem? (i := 24) rfl) rfl
theorem wd_505 : (Jvm.Cond.methodLink "FourVaultLaw" (78 : Nat) ({ cls := "FourVault", name := "reading", desc := "(III)I" } : Jvm.MethodName)) ∈ gtb := tg3 (List.mem_of_getElem? (i := 25) rfl) rfl
theorem wd_506 : (Jvm.Cond.instanceMethod ({ cls := "FourVault", name := "reading", desc := "(III)I" } : Jvm.MethodName)) ∈ gtb := tg3 (List.mem_of_getElem? (i := 26) rfl) rfl
theorem wd_507 : (Jvm.Cond.selects "FourVault" ({ cls := "FourVault", name := "reading", desc := "(III)I" } : Jvm.MethodName) ({ cls := "FourVault", name := "reading", desc := "(III)I" } : Jvm.MethodName)) ∈ gtb := tg3 (List.mem_of_getElem? (i := 27) rfl) rfl
theorem wd_508 : (Jvm.Cond.code ({ cls := "FourVault", name := "reading", desc := "(III)I" } : Jvm.MethodName) prog_1_method_17_code (4 : Nat) (Option.some Jvm.ClassFile.FieldType.int)) ∈ gtb := tg3 (List.mem_of_getElem? (i := 28) rfl) rfl
theorem wd_509 : (Jvm.Cond.methodLink "FourVault" (176 : Nat) ({ cls := "FourVault$Readings", name := "add", desc := "(III)I" } : Jvm.MethodName)) ∈ gtb := tg3 (List.mem_of_getElem? (i := 29) rfl) rfl
theorem wd_510 : (Jvm.Cond.instanceMethod ({ cls := "FourVault$Readings", name := "add", desc := "(III)I" } : Jvm.MethodName)) ∈ gtb := tg3 (List.mem_of_getElem? (i := 30) rfl) rfl
theorem wd_511 : (Jvm.Cond.selects "FourVault$Readings" ({ cls := "FourVault$Readings", name := "add", desc := "(III)I" } : Jvm.MethodName) ({ cls := "FourVault$Readings", name := "add", desc := "(III)I" } : Jvm.MethodName)) ∈ gtb := tg3 (List.mem_of_getElem? (i := 31) rfl) rfl
theorem wd_512 : (Jvm.Cond.code ({ cls := "FourVault$Readings", name := "add", desc := "(III)I" } : Jvm.MethodName) prog_4_method_2_code (4 : Nat) (Option.some Jvm.ClassFile.FieldType.int)) ∈ gtb := tg3 (List.mem_of_getElem? (i := 32) rfl) rfl
theorem wd_513 : (Jvm.Cond.methodLink "FourVaultLaw" (82 : Nat) ({ cls := "FourVault", name := "back", desc := "(I)I" } : Jvm.MethodName)) ∈ gtb := tg3 (List.mem_of_getElem? (i := 33) rfl) rfl
theorem wd_514 : (Jvm.Cond.instanceMethod ({ cls := "FourVault", name := "back", desc := "(I)I" } : Jvm.MethodName)) ∈ gtb := tg3 (List.mem_of_getElem? (i := 34) rfl) rfl
theorem wd_515 : (Jvm.Cond.selects "FourVault" ({ cls := "FourVault", name := "back", desc := "(I)I" } : Jvm.MethodName) ({ cls := "FourVault", name := "back", desc := "(I)I" } : Jvm.MethodName)) ∈ gtb := tg3 (List.mem_of_getElem? (i := 35) rfl) rfl
theorem wd_516 : (Jvm.Cond.code ({ cls := "FourVault", name := "back", desc := "(I)I" } : Jvm.MethodName) prog_1_method_18_code (2 : Nat) (Option.some Jvm.ClassFile.FieldType.int)) ∈ gtb := tg3 (List.mem_of_getElem? (i := 36) rfl) rfl
theorem wd_517 : (Jvm.Cond.methodLink "FourVaultLaw" (86 : Nat) ({ cls := "FourVault", name := "minds", desc := "(I)I" } : Jvm.MethodName)) ∈ gtb := tg3 (List.mem_of_getElem? (i := 37) rfl) rfl
theorem wd_518 : (Jvm.Cond.instanceMethod ({ cls := "FourVault", name := "minds", desc := "(I)I" } : Jvm.MethodName)) ∈ gtb := tg3 (List.mem_of_getElem? (i := 38) rfl) rfl
theorem wd_519 : (Jvm.Cond.selects "FourVault" ({ cls := "FourVault", name := "minds", desc := "(I)I" } : Jvm.MethodName) ({ cls := "FourVault", name := "minds", desc := "(I)I" } : Jvm.MethodName)) ∈ gtb := tg3 (List.mem_of_getElem? (i := 39) rfl) rfl
theorem wd_520 : (Jvm.Cond.code ({ cls := "FourVault", name := "minds", desc := "(I)I" } : Jvm.MethodName) prog_1_method_19_code (6 : Nat) (Option.some Jvm.ClassFile.FieldType.int)) ∈ gtb := tg3 (List.mem_of_getElem? (i := 40) rfl) rfl
theorem wd_521 : (Jvm.Cond.methodLink "FourVault" (180 : Nat) ({ cls := "FourVault$Readings", name := "allAreSo", desc := "(LFourVault$Vault;)Z" } : Jvm.MethodName)) ∈ gtb := tg3 (List.mem_of_getElem? (i := 41) rfl) rfl
theorem wd_522 : (Jvm.Cond.instanceMethod ({ cls := "FourVault$Readings", name := "allAreSo", desc := "(LFourVault$Vault;)Z" } : Jvm.MethodName)) ∈ gtb := tg3 (List.mem_of_getElem? (i := 42) rfl) rfl
theorem wd_523 : (Jvm.Cond.selects "FourVault$Readings" ({ cls := "FourVault$Readings", name := "allAreSo", desc := "(LFourVault$Vault;)Z" } : Jvm.MethodName) ({ cls := "FourVault$Readings", name := "allAreSo", desc := "(LFourVault$Vault;)Z" } : Jvm.MethodName)) ∈ gtb := tg3 (List.mem_of_getElem? (i := 43) rfl) rfl
theorem wd_524 : (Jvm.Cond.code ({ cls := "FourVault$Readings", name := "allAreSo", desc := "(LFourVault$Vault;)Z" } : Jvm.MethodName) prog_4_method_3_code (4 : Nat) (Option.some Jvm.ClassFile.FieldType.boolean)) ∈ gtb := tg3 (List.mem_of_getElem? (i := 44) rfl) rfl
theorem wd_525 : (Jvm.Cond.methodLink "FourVault$Readings" (25 : Nat) ({ cls := "FourVault$Vault", name := "takerAt", desc := "(I)LFourVault$Taker;" } : Jvm.MethodName)) ∈ gtb := tg3 (List.mem_of_getElem? (i := 45) rfl) rfl
theorem wd_526 : (Jvm.Cond.methodLink "FourVault$Readings" (31 : Nat) ({ cls := "FourVault$Vault", name := "heldAlone", desc := "(LFourVault$Taker;I)I" } : Jvm.MethodName)) ∈ gtb := tg3 (List.mem_of_getElem? (i := 46) rfl) rfl
theorem wd_527 : (Jvm.Cond.methodLink "FourVaultLaw" (90 : Nat) ({ cls := "FourVault", name := "kinds", desc := "(I)I" } : Jvm.MethodName)) ∈ gtb := tg3 (List.mem_of_getElem? (i := 47) rfl) rfl
theorem wd_528 : (Jvm.Cond.instanceMethod ({ cls := "FourVault", name := "kinds", desc := "(I)I" } : Jvm.MethodName)) ∈ gtb := tg3 (List.mem_of_getElem? (i := 48) rfl) rfl
theorem wd_529 : (Jvm.Cond.selects "FourVault" ({ cls := "FourVault", name := "kinds", desc := "(I)I" } : Jvm.MethodName) ({ cls := "FourVault", name := "kinds", desc := "(I)I" } : Jvm.MethodName)) ∈ gtb := tg3 (List.mem_of_getElem? (i := 49) rfl) rfl
theorem wd_530 : (Jvm.Cond.code ({ cls := "FourVault", name := "kinds", desc := "(I)I" } : Jvm.MethodName) prog_1_method_20_code (5 : Nat) (Option.some Jvm.ClassFile.FieldType.int)) ∈ gtb := tg3 (List.mem_of_getElem? (i := 50) rfl) rfl
theorem wd_531 : (Jvm.Cond.methodLink "FourVault" (188 : Nat) ({ cls := "FourVault", name := "newTaker", desc := "(IIII)LFourVault$Taker;" } : Jvm.MethodName)) ∈ gtb := tg3 (List.mem_of_getElem? (i := 51) rfl) rfl
theorem wd_532 : (Jvm.Cond.methodLink "FourVaultLaw" (94 : Nat) ({ cls := "FourVault", name := "glooms", desc := "(I)I" } : Jvm.MethodName)) ∈ gtb := tg3 (List.mem_of_getElem? (i := 52) rfl) rfl
theorem wd_533 : (Jvm.Cond.instanceMethod ({ cls := "FourVault", name := "glooms", desc := "(I)I" } : Jvm.MethodName)) ∈ gtb := tg3 (List.mem_of_getElem? (i := 53) rfl) rfl
theorem wd_534 : (Jvm.Cond.selects "FourVault" ({ cls := "FourVault", name := "glooms", desc := "(I)I" } : Jvm.MethodName) ({ cls := "FourVault", name := "glooms", desc := "(I)I" } : Jvm.MethodName)) ∈ gtb := tg3 (List.mem_of_getElem? (i := 54) rfl) rfl
theorem wd_535 : (Jvm.Cond.code ({ cls := "FourVault", name := "glooms", desc := "(I)I" } : Jvm.MethodName) prog_1_method_21_code (5 : Nat) (Option.some Jvm.ClassFile.FieldType.int)) ∈ gtb := tg3 (List.mem_of_getElem? (i := 55) rfl) rfl
theorem wd_536 : (Jvm.Cond.methodLink "FourVaultLaw" (98 : Nat) ({ cls := "FourVault", name := "odds", desc := "(III)J" } : Jvm.MethodName)) ∈ gtb := tg3 (List.mem_of_getElem? (i := 56) rfl) rfl
theorem wd_537 : (Jvm.Cond.instanceMethod ({ cls := "FourVault", name := "odds", desc := "(III)J" } : Jvm.MethodName)) ∈ gtb := tg3 (List.mem_of_getElem? (i := 57) rfl) rfl
theorem wd_538 : (Jvm.Cond.selects "FourVault" ({ cls := "FourVault", name := "odds", desc := "(III)J" } : Jvm.MethodName) ({ cls := "FourVault", name := "odds", desc := "(III)J" } : Jvm.MethodName)) ∈ gtb := tg3 (List.mem_of_getElem? (i := 58) rfl) rfl
theorem wd_539 : (Jvm.Cond.code ({ cls := "FourVault", name := "odds", desc := "(III)J" } : Jvm.MethodName) prog_1_method_22_code (7 : Nat) (Option.some Jvm.ClassFile.FieldType.long)) ∈ gtb := tg3 (List.mem_of_getElem? (i := 59) rfl) rfl
theorem wd_540 : (Jvm.Cond.constantLong "FourVault" (192 : Nat) (-9223372036854775808 : Int64)) ∈ gtb := tg3 (List.mem_of_getElem? (i := 60) rfl) rfl
theorem wd_541 : (Jvm.Cond.methodLink "FourVault" (194 : Nat) ({ cls := "FourVault$Vault", name := "setsHeld", desc := "(LFourVault$Taker;I)I" } : Jvm.MethodName)) ∈ gtb := tg3 (List.mem_of_getElem? (i := 61) rfl) rfl
theorem wd_542 : (Jvm.Cond.instanceMethod ({ cls := "FourVault$Vault", name := "setsHeld", desc := "(LFourVault$Taker;I)I" } : Jvm.MethodName)) ∈ gtb := tg3 (List.mem_of_getElem? (i := 62) rfl) rfl
theorem wd_543 : (Jvm.Cond.selects "FourVault$Vault" ({ cls := "FourVault$Vault", name := "setsHeld", desc := "(LFourVault$Taker;I)I" } : Jvm.MethodName) ({ cls := "FourVault$Vault", name := "setsHeld", desc := "(LFourVault$Taker;I)I" } : Jvm.MethodName)) ∈ gtb := tg3 (List.mem_of_getElem? (i := 63) rfl) rfl
theorem wd_544 : (Jvm.Cond.code ({ cls := "FourVault$Vault", name := "setsHeld", desc := "(LFourVault$Taker;I)I" } : Jvm.MethodName) prog_10_method_14_code (5 : Nat) (Option.some Jvm.ClassFile.FieldType.int)) ∈ gtb := tg3 (List.mem_of_getElem? (i := 64) rfl) rfl
theorem wd_545 : (Jvm.Cond.methodLink "FourVault$Vault" (68 : Nat) ({ cls := "FourVault$Vault", name := "drainIfOnly", desc := "(ILFourVault$Taker;I)I" } : Jvm.MethodName)) ∈ gtb := tg3 (List.mem_of_getElem? (i := 65) rfl) rfl
theorem wd_546 : (Jvm.Cond.instanceMethod ({ cls := "FourVault$Vault", name := "drainIfOnly", desc := "(ILFourVault$Taker;I)I" } : Jvm.MethodName)) ∈ gtb := tg3 (List.mem_of_getElem? (i := 66) rfl) rfl
theorem wd_547 : (Jvm.Cond.selects "FourVault$Vault" ({ cls := "FourVault$Vault", name := "drainIfOnly", desc := "(ILFourVault$Taker;I)I" } : Jvm.MethodName) ({ cls := "FourVault$Vault", name := "drainIfOnly", desc := "(ILFourVault$Taker;I)I" } : Jvm.MethodName)) ∈ gtb := tg3 (List.mem_of_getElem? (i := 67) rfl) rfl
theorem wd_548 : (Jvm.Cond.code ({ cls := "FourVault$Vault", name := "drainIfOnly", desc := "(ILFourVault$Taker;I)I" } : Jvm.MethodName) prog_10_method_15_code (8 : Nat) (Option.some Jvm.ClassFile.FieldType.int)) ∈ gtb := tg3 (List.mem_of_getElem? (i := 68) rfl) rfl
theorem wd_549 : (Jvm.Cond.methodLink "FourVaultLaw" (103 : Nat) ({ cls := "FourVault", name := "sheet", desc := "(III)I" } : Jvm.MethodName)) ∈ gtb := tg3 (List.mem_of_getElem? (i := 69) rfl) rfl
theorem wd_550 : (Jvm.Cond.instanceMethod ({ cls := "FourVault", name := "sheet", desc := "(III)I" } : Jvm.MethodName)) ∈ gtb := tg3 (List.mem_of_getElem? (i := 70) rfl) rfl
theorem wd_551 : (Jvm.Cond.selects "FourVault" ({ cls := "FourVault", name := "sheet", desc := "(III)I" } : Jvm.MethodName) ({ cls := "FourVault", name := "sheet", desc := "(III)I" } : Jvm.MethodName)) ∈ gtb := tg3 (List.mem_of_getElem? (i := 71) rfl) rfl
theorem wd_552 : (Jvm.Cond.code ({ cls := "FourVault", name := "sheet", desc := "(III)I" } : Jvm.MethodName) prog_1_method_23_code (4 : Nat) (Option.some Jvm.ClassFile.FieldType.int)) ∈ gtb := tg3 (List.mem_of_getElem? (i := 72) rfl) rfl
theorem wd_553 : (Jvm.Cond.instantiable "FourVault$Row" (2 : Nat)) ∈ gtb := tg3 (List.mem_of_getElem? (i := 73) rfl) rfl
theorem wd_554 : (Jvm.Cond.methodLink "FourVault" (200 : Nat) ({ cls := "FourVault$Row", name := "<init>", desc := "(II)V" } : Jvm.MethodName)) ∈ gtb := tg3 (List.mem_of_getElem? (i := 74) rfl) rfl
theorem wd_555 : (Jvm.Cond.instanceMethod ({ cls := "FourVault$Row", name := "<init>", desc := "(II)V" } : Jvm.MethodName)) ∈ gtb := tg3 (List.mem_of_getElem? (i := 75) rfl) rfl
theorem wd_556 : (Jvm.Cond.code ({ cls := "FourVault$Row", name := "<init>", desc := "(II)V" } : Jvm.MethodName) prog_5_method_1_code (3 : Nat) (Option.none : Option Jvm.ClassFile.FieldType)) ∈ gtb := tg3 (List.mem_of_getElem? (i := 76) rfl) rfl
theorem wd_557 : (Jvm.Cond.methodLink "FourVault$Row" (3 : Nat) ({ cls := "java/lang/Object", name := "<init>", desc := "()V" } : Jvm.MethodName)) ∈ gtb := tg3 (List.mem_of_getElem? (i := 77) rfl) rfl
theorem wd_558 : (Jvm.Cond.methodLink "FourVault$Row" (15 : Nat) ({ cls := "java/lang/Math", name := "max", desc := "(II)I" } : Jvm.MethodName)) ∈ gtb := tg3 (List.mem_of_getElem? (i := 78) rfl) rfl
theorem wd_559 : (Jvm.Cond.fieldLink "FourVault$Row" (9 : Nat) "FourVault$Row" "lane" "I") ∈ gtb := tg3 (List.mem_of_getElem? (i := 79) rfl) rfl
theorem wd_560 : (Jvm.Cond.fieldLink "FourVault" (74 : Nat) "FourVault$Row" "lane" "I") ∈ gtb := tg3 (List.mem_of_getElem? (i := 80) rfl) rfl
theorem wd_561 : (Jvm.Cond.fieldLink "FourVault$Row" (21 : Nat) "FourVault$Row" "cells" "[I") ∈ gtb := tg3 (List.mem_of_getElem? (i := 81) rfl) rfl
theorem wd_562 : (Jvm.Cond.fieldLink "FourVault$Reader" (31 : Nat) "FourVault$Row" "cells" "[I") ∈ gtb := tg3 (List.mem_of_getElem? (i := 82) rfl) rfl
theorem wd_563 : (Jvm.Cond.fieldLink "FourVault$Night" (25 : Nat) "FourVault$Row" "cells" "[I") ∈ gtb := tg3 (List.mem_of_getElem? (i := 83) rfl) rfl
theorem wd_564 : (Jvm.Cond.fieldLink "FourVault" (203 : Nat) "FourVault$Row" "cells" "[I") ∈ gtb := tg3 (List.mem_of_getElem? (i := 84) rfl) rfl
theorem wd_565 : (Jvm.Cond.laysFinal "FourVault$Row" "FourVault$Row" "lane" "I") ∈ gtb := tg3 (List.mem_of_getElem? (i := 85) rfl) rfl
theorem wd_566 : (Jvm.Cond.soleField "FourVault$Row" "lane") ∈ gtb := tg3 (List.mem_of_getElem? (i := 86) rfl) rfl
theorem wd_567 : (Jvm.Cond.laysFinal "FourVault$Row" "FourVault$Row" "cells" "[I") ∈ gtb := tg3 (List.mem_of_getElem? (i := 87) rfl) rfl
theorem wd_568 : (Jvm.Cond.soleField "FourVault$Row" "cells") ∈ gtb := tg3 (List.mem_of_getElem? (i := 88) rfl) rfl
theorem wd_569 : (Jvm.Cond.superclass "FourVault$Row" "java/lang/Object") ∈ gtb := tg3 (List.mem_of_getElem? (i := 89) rfl) rfl
theorem wd_570 : (Jvm.Cond.methodLink "FourVaultLaw" (107 : Nat) ({ cls := "FourVault", name := "lose", desc := "(I)I" } : Jvm.MethodName)) ∈ gtb := tg3 (List.mem_of_getElem? (i := 90) rfl) rfl
theorem wd_571 : (Jvm.Cond.instanceMethod ({ cls := "FourVault", name := "lose", desc := "(I)I" } : Jvm.MethodName)) ∈ gtb := tg3 (List.mem_of_getElem? (i := 91) rfl) rfl
theorem wd_572 : (Jvm.Cond.selects "FourVault" ({ cls := "FourVault", name := "lose", desc := "(I)I" } : Jvm.MethodName) ({ cls := "FourVault", name := "lose", desc := "(I)I" } : Jvm.MethodName)) ∈ gtb := tg3 (List.mem_of_getElem? (i := 92) rfl) rfl
theorem wd_573 : (Jvm.Cond.code ({ cls := "FourVault", name := "lose", desc := "(I)I" } : Jvm.MethodName) prog_1_method_24_code (3 : Nat) (Option.some Jvm.ClassFile.FieldType.int)) ∈ gtb := tg3 (List.mem_of_getElem? (i := 93) rfl) rfl
theorem wd_574 : (Jvm.Cond.methodLink "FourVaultLaw" (111 : Nat) ({ cls := "FourVault", name := "put", desc := "(III)I" } : Jvm.MethodName)) ∈ gtb := tg3 (List.mem_of_getElem? (i := 94) rfl) rfl
theorem wd_575 : (Jvm.Cond.instanceMethod ({ cls := "FourVault", name := "put", desc := "(III)I" } : Jvm.MethodName)) ∈ gtb := tg3 (List.mem_of_getElem? (i := 95) rfl) rfl
theorem wd_576 : (Jvm.Cond.selects "FourVault" ({ cls := "FourVault", name := "put", desc := "(III)I" } : Jvm.MethodName) ({ cls := "FourVault", name := "put", desc := "(III)I" } : Jvm.MethodName)) ∈ gtb := tg3 (List.mem_of_getElem? (i := 96) rfl) rfl
theorem wd_577 : (Jvm.Cond.code ({ cls := "FourVault", name := "put", desc := "(III)I" } : Jvm.MethodName) prog_1_method_25_code (5 : Nat) (Option.some Jvm.ClassFile.FieldType.int)) ∈ gtb := tg3 (List.mem_of_getElem? (i := 97) rfl) rfl
theorem wd_578 : (Jvm.Cond.methodLink "FourVault" (206 : Nat) ({ cls := "FourVault$Row", name := "cut", desc := "(I)I" } : Jvm.MethodName)) ∈ gtb := tg3 (List.mem_of_getElem? (i := 98) rfl) rfl
theorem wd_579 : (Jvm.Cond.instanceMethod ({ cls := "FourVault$Row", name := "cut", desc := "(I)I" } : Jvm.MethodName)) ∈ gtb := tg3 (List.mem_of_getElem? (i := 99) rfl) rfl
theorem wd_580 : (Jvm.Cond.selects "FourVault$Row" ({ cls := "FourVault$Row", name := "cut", desc := "(I)I" } : Jvm.MethodName) ({ cls := "FourVault$Row", name := "cut", desc := "(I)I" } : Jvm.MethodName)) ∈ gtb := tg3 (List.mem_of_getElem? (i := 100) rfl) rfl
theorem wd_581 : (Jvm.Cond.code ({ cls := "FourVault$Row", name := "cut", desc := "(I)I" } : Jvm.MethodName) prog_5_method_3_code (2 : Nat) (Option.some Jvm.ClassFile.FieldType.int)) ∈ gtb := tg3 (List.mem_of_getElem? (i := 101) rfl) rfl
theorem wd_582 : (Jvm.Cond.methodLink "FourVaultLaw" (115 : Nat) ({ cls := "FourVault", name := "cell", desc := "(III)J" } : Jvm.MethodName)) ∈ gtb := tg3 (List.mem_of_getElem? (i := 102) rfl) rfl
theorem wd_583 : (Jvm.Cond.instanceMethod ({ cls := "FourVault", name := "cell", desc := "(III)J" } : Jvm.MethodName)) ∈ gtb := tg3 (List.mem_of_getElem? (i := 103) rfl) rfl
theorem wd_584 : (Jvm.Cond.selects "FourVault" ({ cls := "FourVault", name := "cell", desc := "(III)J" } : Jvm.MethodName) ({ cls := "FourVault", name := "cell", desc := "(III)J" } : Jvm.MethodName)) ∈ gtb := tg3 (List.mem_of_getElem? (i := 104) rfl) rfl
theorem wd_585 : (Jvm.Cond.code ({ cls := "FourVault", name := "cell", desc := "(III)J" } : Jvm.MethodName) prog_1_method_26_code (5 : Nat) (Option.some Jvm.ClassFile.FieldType.long)) ∈ gtb := tg3 (List.mem_of_getElem? (i := 105) rfl) rfl
theorem wd_586 : (Jvm.Cond.methodLink "FourVault" (209 : Nat) ({ cls := "FourVault", name := "lost", desc := "(I)J" } : Jvm.MethodName)) ∈ gtb := tg3 (List.mem_of_getElem? (i := 106) rfl) rfl
theorem wd_587 : (Jvm.Cond.privateMethod ({ cls := "FourVault", name := "lost", desc := "(I)J" } : Jvm.MethodName)) ∈ lw_tbl := tm3 (List.mem_of_getElem? (i := 107) rfl)
theorem wd_588 : (Jvm.Cond.instanceMethod ({ cls := "FourVault", name := "lost", desc := "(I)J" } : Jvm.MethodName)) ∈ gtb := tg3 (List.mem_of_getElem? (i := 108) rfl) rfl
theorem wd_589 : (Jvm.Cond.code ({ cls := "FourVault", name := "lost", desc := "(I)J" } : Jvm.MethodName) prog_1_method_35_code (2 : Nat) (Option.some Jvm.ClassFile.FieldType.long)) ∈ gtb := tg3 (List.mem_of_getElem? (i := 109) rfl) rfl
theorem wd_590 : (Jvm.Cond.methodLink "FourVaultLaw" (119 : Nat) ({ cls := "FourVault", name := "copy", desc := "(IIIII)I" } : Jvm.MethodName)) ∈ gtb := tg3 (List.mem_of_getElem? (i := 110) rfl) rfl
theorem wd_591 : (Jvm.Cond.instanceMethod ({ cls := "FourVault", name := "copy", desc := "(IIIII)I" } : Jvm.MethodName)) ∈ gtb := tg3 (List.mem_of_getElem? (i := 111) rfl) rfl
theorem wd_592 : (Jvm.Cond.selects "FourVault" ({ cls := "FourVault", name := "copy", desc := "(IIIII)I" } : Jvm.MethodName) ({ cls := "FourVault", name := "copy", desc := "(IIIII)I" } : Jvm.MethodName)) ∈ gtb := tg3 (List.mem_of_getElem? (i := 112) rfl) rfl
theorem wd_593 : (Jvm.Cond.code ({ cls := "FourVault", name := "copy", desc := "(IIIII)I" } : Jvm.MethodName) prog_1_method_27_code (8 : Nat) (Option.some Jvm.ClassFile.FieldType.int)) ∈ gtb := tg3 (List.mem_of_getElem? (i := 113) rfl) rfl
theorem wd_594 : (Jvm.Cond.methodLink "FourVault" (213 : Nat) ({ cls := "java/lang/System", name := "arraycopy", desc := "(Ljava/lang/Object;ILjava/lang/Object;II)V" } : Jvm.MethodName)) ∈ gtb := tg3 (List.mem_of_getElem? (i := 114) rfl) rfl
theorem wd_595 : (Jvm.Cond.static ({ cls := "java/lang/System", name := "arraycopy", desc := "(Ljava/lang/Object;ILjava/lang/Object;II)V" } : Jvm.MethodName)) ∈ gtb := tg3 (List.mem_of_getElem? (i := 115) rfl) rfl
theorem wd_596 : (Jvm.Cond.native ({ cls := "java/lang/System", name := "arraycopy", desc := "(Ljava/lang/Object;ILjava/lang/Object;II)V" } : Jvm.MethodName)) ∈ gtb := tg3 (List.mem_of_getElem? (i := 116) rfl) rfl
theorem wd_597 : (Jvm.Cond.methodLink "FourVaultLaw" (123 : Nat) ({ cls := "FourVault", name := "tell", desc := "(I)I" } : Jvm.MethodName)) ∈ gtb := tg3 (List.mem_of_getElem? (i := 117) rfl) rfl
theorem wd_598 : (Jvm.Cond.instanceMethod ({ cls := "FourVault", name := "tell", desc := "(I)I" } : Jvm.MethodName)) ∈ gtb := tg3 (List.mem_of_getElem? (i := 118) rfl) rfl
theorem wd_599 : (Jvm.Cond.selects "FourVault" ({ cls := "FourVault", name := "tell", desc := "(I)I" } : Jvm.MethodName) ({ cls := "FourVault", name := "tell", desc := "(I)I" } : Jvm.MethodName)) ∈ gtb := tg3 (List.mem_of_getElem? (i := 119) rfl) rfl
theorem wd_600 : (Jvm.Cond.code ({ cls := "FourVault", name := "tell", desc := "(I)I" } : Jvm.MethodName) prog_1_method_28_code (3 : Nat) (Option.some Jvm.ClassFile.FieldType.int)) ∈ gtb := tg3 (List.mem_of_getElem? (i := 120) rfl) rfl
theorem wd_601 : (Jvm.Cond.methodLink "FourVault" (219 : Nat) ({ cls := "FourVault$Taker", name := "telling", desc := "(LFourVault$Trace;)I" } : Jvm.MethodName)) ∈ gtb := tg3 (List.mem_of_getElem? (i := 121) rfl) rfl
theorem wd_602 : (Jvm.Cond.instanceMethod ({ cls := "FourVault$Taker", name := "telling", desc := "(LFourVault$Trace;)I" } : Jvm.MethodName)) ∈ gtb := tg3 (List.mem_of_getElem? (i := 122) rfl) rfl
theorem wd_603 : (Jvm.Cond.selects "FourVault$Taker" ({ cls := "FourVault$Taker", name := "telling", desc := "(LFourVault$Trace;)I" } : Jvm.MethodName) ({ cls := "FourVault$Taker", name := "telling", desc := "(LFourVault$Trace;)I" } : Jvm.MethodName)) ∈ gtb := tg3 (List.mem_of_getElem? (i := 123) rfl) rfl
theorem wd_604 : (Jvm.Cond.sameMethod "FourVault$Taker" "FourVault$Taker" "telling" "(LFourVault$Trace;)I") ∈ gtb := tg3 (List.mem_of_getElem? (i := 124) rfl) rfl
theorem wd_605 : (Jvm.Cond.selects "FourVault$Singer" ({ cls := "FourVault$Taker", name := "telling", desc := "(LFourVault$Trace;)I" } : Jvm.MethodName) ({ cls := "FourVault$Singer", name := "telling", desc := "(LFourVault$Trace;)I" } : Jvm.MethodName)) ∈ gtb := tg3 (List.mem_of_getElem? (i := 125) rfl) rfl
theorem wd_606 : (Jvm.Cond.instanceMethod ({ cls := "FourVault$Singer", name := "telling", desc := "(LFourVault$Trace;)I" } : Jvm.MethodName)) ∈ gtb := tg3 (List.mem_of_getElem? (i := 126) rfl) rfl
theorem wd_607 : (Jvm.Cond.code ({ cls := "FourVault$Singer", name := "telling", desc := "(LFourVault$Trace;)I" } : Jvm.MethodName) prog_7_method_4_code (2 : Nat) (Option.some Jvm.ClassFile.FieldType.int)) ∈ gtb := tg3 (List.mem_of_getElem? (i := 127) rfl) rfl
theorem wd_608 : (Jvm.Cond.methodLink "FourVault$Singer" (21 : Nat) ({ cls := "FourVault$Trace", name := "leave", desc := "(I)V" } : Jvm.MethodName)) ∈ gtb := tg3 (List.mem_of_getElem? (i := 128) rfl) rfl
theorem wd_609 : (Jvm.Cond.instanceMethod ({ cls := "FourVault$Trace", name := "leave", desc := "(I)V" } : Jvm.MethodName)) ∈ gtb := tg3 (List.mem_of_getElem? (i := 129) rfl) rfl
theorem wd_610 : (Jvm.Cond.selects "FourVault$Trace" ({ cls := "FourVault$Trace", name := "leave", desc := "(I)V" } : Jvm.MethodName) ({ cls := "FourVault$Trace", name := "leave", desc := "(I)V" } : Jvm.MethodName)) ∈ gtb := tg3 (List.mem_of_getElem? (i := 130) rfl) rfl
theorem wd_611 : (Jvm.Cond.code ({ cls := "FourVault$Trace", name := "leave", desc := "(I)V" } : Jvm.MethodName) prog_9_method_2_code (2 : Nat) (Option.none : Option Jvm.ClassFile.FieldType)) ∈ gtb := tg3 (List.mem_of_getElem? (i := 131) rfl) rfl
theorem wd_612 : (Jvm.Cond.methodLink "FourVault$Singer" (27 : Nat) ({ cls := "FourVault$Singer", name := "takersTelling", desc := "(LFourVault$Trace;)I" } : Jvm.MethodName)) ∈ gtb := tg3 (List.mem_of_getElem? (i := 132) rfl) rfl
theorem wd_613 : (Jvm.Cond.sameMethod "FourVault$Singer" "FourVault$Taker" "takersTelling" "(LFourVault$Trace;)I") ∈ gtb := tg3 (List.mem_of_getElem? (i := 133) rfl) rfl
theorem wd_614 : (Jvm.Cond.declares ({ cls := "FourVault$Taker", name := "takersTelling", desc := "(LFourVault$Trace;)I" } : Jvm.MethodName)) ∈ lw_tbl := tm3 (List.mem_of_getElem? (i := 134) rfl)
theorem wd_615 : (Jvm.Cond.selects "FourVault$Singer" ({ cls := "FourVault$Singer", name := "takersTelling", desc := "(LFourVault$Trace;)I" } : Jvm.MethodName) ({ cls := "FourVault$Taker", name := "takersTelling", desc := "(LFourVault$Trace;)I" } : Jvm.MethodName)) ∈ gtb := tg3 (List.mem_of_getElem? (i := 135) rfl) rfl
theorem wd_616 : (Jvm.Cond.selects "FourVault$Widow" ({ cls := "FourVault$Singer", name := "takersTelling", desc := "(LFourVault$Trace;)I" } : Jvm.MethodName) ({ cls := "FourVault$Taker", name := "takersTelling", desc := "(LFourVault$Trace;)I" } : Jvm.MethodName)) ∈ gtb := tg3 (List.mem_of_getElem? (i := 136) rfl) rfl
theorem wd_617 : (Jvm.Cond.instanceMethod ({ cls := "FourVault$Taker", name := "takersTelling", desc := "(LFourVault$Trace;)I" } : Jvm.MethodName)) ∈ gtb := tg3 (List.mem_of_getElem? (i := 137) rfl) rfl
theorem wd_618 : (Jvm.Cond.code ({ cls := "FourVault$Taker", name := "takersTelling", desc := "(LFourVault$Trace;)I" } : Jvm.MethodName) prog_8_method_5_code (2 : Nat) (Option.some Jvm.ClassFile.FieldType.int)) ∈ gtb := tg3 (List.mem_of_getElem? (i := 138) rfl) rfl
theorem wd_619 : (Jvm.Cond.methodLink "FourVault$Taker" (25 : Nat) ({ cls := "FourVault$Trace", name := "leave", desc := "(I)V" } : Jvm.MethodName)) ∈ gtb := tg3 (List.mem_of_getElem? (i := 139) rfl) rfl
theorem wd_620 : (Jvm.Cond.selects "FourVault$Widow" ({ cls := "FourVault$Taker", name := "telling", desc := "(LFourVault$Trace;)I" } : Jvm.MethodName) ({ cls := "FourVault$Widow", name := "telling", desc := "(LFourVault$Trace;)I" } : Jvm.MethodName)) ∈ gtb := tg3 (List.mem_of_getElem? (i := 140) rfl) rfl
theorem wd_621 : (Jvm.Cond.instanceMethod ({ cls := "FourVault$Widow", name := "telling", desc := "(LFourVault$Trace;)I" } : Jvm.MethodName)) ∈ gtb := tg3 (List.mem_of_getElem? (i := 141) rfl) rfl
theorem wd_622 : (Jvm.Cond.code ({ cls := "FourVault$Widow", name := "telling", desc := "(LFourVault$Trace;)I" } : Jvm.MethodName) prog_11_method_4_code (3 : Nat) (Option.some Jvm.ClassFile.FieldType.int)) ∈ gtb := tg3 (List.mem_of_getElem? (i := 142) rfl) rfl
theorem wd_623 : (Jvm.Cond.methodLink "FourVault$Widow" (15 : Nat) ({ cls := "FourVault$Trace", name := "leave", desc := "(I)V" } : Jvm.MethodName)) ∈ gtb := tg3 (List.mem_of_getElem? (i := 143) rfl) rfl
theorem wd_624 : (Jvm.Cond.methodLink "FourVault$Widow" (21 : Nat) ({ cls := "FourVault$Singer", name := "telling", desc := "(LFourVault$Trace;)I" } : Jvm.MethodName)) ∈ gtb := tg3 (List.mem_of_getElem? (i := 144) rfl) rfl
theorem wd_625 : (Jvm.Cond.methodLink "FourVault$Widow" (25 : Nat) ({ cls := "FourVault$Widow", name := "takersTelling", desc := "(LFourVault$Trace;)I" } : Jvm.MethodName)) ∈ gtb := tg3 (List.mem_of_getElem? (i := 145) rfl) rfl
theorem wd_626 : (Jvm.Cond.sameMethod "FourVault$Widow" "FourVault$Taker" "takersTelling" "(LFourVault$Trace;)I") ∈ gtb := tg3 (List.mem_of_getElem? (i := 146) rfl) rfl
theorem wd_627 : (Jvm.Cond.selects "FourVault$Widow" ({ cls := "FourVault$Widow", name := "takersTelling", desc := "(LFourVault$Trace;)I" } : Jvm.MethodName) ({ cls := "FourVault$Taker", name := "takersTelling", desc := "(LFourVault$Trace;)I" } : Jvm.MethodName)) ∈ gtb := tg3 (List.mem_of_getElem? (i := 147) rfl) rfl
theorem wd_628 : (Jvm.Cond.code ({ cls := "FourVault$Taker", name := "telling", desc := "(LFourVault$Trace;)I" } : Jvm.MethodName) prog_8_method_4_code (2 : Nat) (Option.some Jvm.ClassFile.FieldType.int)) ∈ gtb := tg3 (List.mem_of_getElem? (i := 148) rfl) rfl
theorem wd_629 : (Jvm.Cond.methodLink "FourVault$Taker" (21 : Nat) ({ cls := "FourVault$Taker", name := "takersTelling", desc := "(LFourVault$Trace;)I" } : Jvm.MethodName)) ∈ gtb := tg3 (List.mem_of_getElem? (i := 149) rfl) rfl
theorem wd_630 : (Jvm.Cond.methodLink "FourVaultLaw" (127 : Nat) ({ cls := "FourVault", name := "ring", desc := "(I)I" } : Jvm.MethodName)) ∈ gtb := tg3 (List.mem_of_getElem? (i := 150) rfl) rfl
theorem wd_631 : (Jvm.Cond.instanceMethod ({ cls := "FourVault", name := "ring", desc := "(I)I" } : Jvm.MethodName)) ∈ gtb := tg3 (List.mem_of_getElem? (i := 151) rfl) rfl
theorem wd_632 : (Jvm.Cond.selects "FourVault" ({ cls := "FourVault", name := "ring", desc := "(I)I" } : Jvm.MethodName) ({ cls := "FourVault", name := "ring", desc := "(I)I" } : Jvm.MethodName)) ∈ gtb := tg3 (List.mem_of_getElem? (i := 152) rfl) rfl
theorem wd_633 : (Jvm.Cond.code ({ cls := "FourVault", name := "ring", desc := "(I)I" } : Jvm.MethodName) prog_1_method_29_code (3 : Nat) (Option.some Jvm.ClassFile.FieldType.int)) ∈ gtb := tg3 (List.mem_of_getElem? (i := 153) rfl) rfl
theorem wd_634 : (Jvm.Cond.methodLink "FourVault" (223 : Nat) ({ cls := "FourVault$Taker", name := "rung", desc := "(LFourVault$Trace;)I" } : Jvm.MethodName)) ∈ gtb := tg3 (List.mem_of_getElem? (i := 154) rfl) rfl
theorem wd_635 : (Jvm.Cond.instanceMethod ({ cls := "FourVault$Taker", name := "rung", desc := "(LFourVault$Trace;)I" } : Jvm.MethodName)) ∈ gtb := tg3 (List.mem_of_getElem? (i := 155) rfl) rfl
theorem wd_636 : (Jvm.Cond.selects "FourVault$Taker" ({ cls := "FourVault$Taker", name := "rung", desc := "(LFourVault$Trace;)I" } : Jvm.MethodName) ({ cls := "FourVault$Taker", name := "rung", desc := "(LFourVault$Trace;)I" } : Jvm.MethodName)) ∈ gtb := tg3 (List.mem_of_getElem? (i := 156) rfl) rfl
theorem wd_637 : (Jvm.Cond.sameMethod "FourVault$Taker" "FourVault$Taker" "rung" "(LFourVault$Trace;)I") ∈ gtb := tg3 (List.mem_of_getElem? (i := 157) rfl) rfl
theorem wd_638 : (Jvm.Cond.selects "FourVault$Singer" ({ cls := "FourVault$Taker", name := "rung", desc := "(LFourVault$Trace;)I" } : Jvm.MethodName) ({ cls := "FourVault$Taker", name := "rung", desc := "(LFourVault$Trace;)I" } : Jvm.MethodName)) ∈ gtb := tg3 (List.mem_of_getElem? (i := 158) rfl) rfl
theorem wd_639 : (Jvm.Cond.selects "FourVault$Widow" ({ cls := "FourVault$Taker", name := "rung", desc := "(LFourVault$Trace;)I" } : Jvm.MethodName) ({ cls := "FourVault$Widow", name := "rung", desc := "(LFourVault$Trace;)I" } : Jvm.MethodName)) ∈ gtb := tg3 (List.mem_of_getElem? (i := 159) rfl) rfl
theorem wd_640 : (Jvm.Cond.instanceMethod ({ cls := "FourVault$Widow", name := "rung", desc := "(LFourVault$Trace;)I" } : Jvm.MethodName)) ∈ gtb := tg3 (List.mem_of_getElem? (i := 160) rfl) rfl
theorem wd_641 : (Jvm.Cond.code ({ cls := "FourVault$Widow", name := "rung", desc := "(LFourVault$Trace;)I" } : Jvm.MethodName) prog_11_method_5_code (2 : Nat) (Option.some Jvm.ClassFile.FieldType.int)) ∈ gtb := tg3 (List.mem_of_getElem? (i := 161) rfl) rfl
theorem wd_642 : (Jvm.Cond.code ({ cls := "FourVault$Taker", name := "rung", desc := "(LFourVault$Trace;)I" } : Jvm.MethodName) prog_8_method_6_code (2 : Nat) (Option.some Jvm.ClassFile.FieldType.int)) ∈ gtb := tg3 (List.mem_of_getElem? (i := 162) rfl) rfl
theorem wd_643 : (Jvm.Cond.methodLink "FourVaultLaw" (131 : Nat) ({ cls := "FourVault", name := "as", desc := "(II)I" } : Jvm.MethodName)) ∈ gtb := tg3 (List.mem_of_getElem? (i := 163) rfl) rfl
theorem wd_644 : (Jvm.Cond.instanceMethod ({ cls := "FourVault", name := "as", desc := "(II)I" } : Jvm.MethodName)) ∈ gtb := tg3 (List.mem_of_getElem? (i := 164) rfl) rfl
theorem wd_645 : (Jvm.Cond.selects "FourVault" ({ cls := "FourVault", name := "as", desc := "(II)I" } : Jvm.MethodName) ({ cls := "FourVault", name := "as", desc := "(II)I" } : Jvm.MethodName)) ∈ gtb := tg3 (List.mem_of_getElem? (i := 165) rfl) rfl
theorem wd_646 : (Jvm.Cond.code ({ cls := "FourVault", name := "as", desc := "(II)I" } : Jvm.MethodName) prog_1_method_30_code (4 : Nat) (Option.some Jvm.ClassFile.FieldType.int)) ∈ gtb := tg3 (List.mem_of_getElem? (i := 166) rfl) rfl
theorem wd_647 : (Jvm.Cond.methodLink "FourVaultLaw" (135 : Nat) ({ cls := "FourVault", name := "trace", desc := "()I" } : Jvm.MethodName)) ∈ gtb := tg3 (List.mem_of_getElem? (i := 167) rfl) rfl
theorem wd_648 : (Jvm.Cond.instanceMethod ({ cls := "FourVault", name := "trace", desc := "()I" } : Jvm.MethodName)) ∈ gtb := tg3 (List.mem_of_getElem? (i := 168) rfl) rfl
theorem wd_649 : (Jvm.Cond.selects "FourVault" ({ cls := "FourVault", name := "trace", desc := "()I" } : Jvm.MethodName) ({ cls := "FourVault", name := "trace", desc := "()I" } : Jvm.MethodName)) ∈ gtb := tg3 (List.mem_of_getElem? (i := 169) rfl) rfl
theorem wd_650 : (Jvm.Cond.code ({ cls := "FourVault", name := "trace", desc := "()I" } : Jvm.MethodName) prog_1_method_31_code (1 : Nat) (Option.some Jvm.ClassFile.FieldType.int)) ∈ gtb := tg3 (List.mem_of_getElem? (i := 170) rfl) rfl
theorem wd_651 : (Jvm.Cond.methodLink "FourVaultLaw" (140 : Nat) ({ cls := "FourVault", name := "fault", desc := "()I" } : Jvm.MethodName)) ∈ gtb := tg3 (List.mem_of_getElem? (i := 171) rfl) rfl
theorem wd_652 : (Jvm.Cond.instanceMethod ({ cls := "FourVault", name := "fault", desc := "()I" } : Jvm.MethodName)) ∈ gtb := tg3 (List.mem_of_getElem? (i := 172) rfl) rfl
theorem wd_653 : (Jvm.Cond.selects "FourVault" ({ cls := "FourVault", name := "fault", desc := "()I" } : Jvm.MethodName) ({ cls := "FourVault", name := "fault", desc := "()I" } : Jvm.MethodName)) ∈ gtb := tg3 (List.mem_of_getElem? (i := 173) rfl) rfl
theorem wd_654 : (Jvm.Cond.code ({ cls := "FourVault", name := "fault", desc := "()I" } : Jvm.MethodName) prog_1_method_32_code (1 : Nat) (Option.some Jvm.ClassFile.FieldType.int)) ∈ gtb := tg3 (List.mem_of_getElem? (i := 174) rfl) rfl
theorem wd_655 : (Jvm.Cond.methodLink "FourVaultLaw" (144 : Nat) ({ cls := "FourVault", name := "many", desc := "(I)I" } : Jvm.MethodName)) ∈ gtb := tg3 (List.mem_of_getElem? (i := 175) rfl) rfl
theorem wd_656 : (Jvm.Cond.instanceMethod ({ cls := "FourVault", name := "many", desc := "(I)I" } : Jvm.MethodName)) ∈ gtb := tg3 (List.mem_of_getElem? (i := 176) rfl) rfl
theorem wd_657 : (Jvm.Cond.selects "FourVault" ({ cls := "FourVault", name := "many", desc := "(I)I" } : Jvm.MethodName) ({ cls := "FourVault", name := "many", desc := "(I)I" } : Jvm.MethodName)) ∈ gtb := tg3 (List.mem_of_getElem? (i := 177) rfl) rfl
theorem wd_658 : (Jvm.Cond.code ({ cls := "FourVault", name := "many", desc := "(I)I" } : Jvm.MethodName) prog_1_method_33_code (2 : Nat) (Option.some Jvm.ClassFile.FieldType.int)) ∈ gtb := tg3 (List.mem_of_getElem? (i := 178) rfl) rfl
theorem wd_659 : (Jvm.Cond.classLink "FourVaultLaw" (10 : Nat) "FourVaultModel") ∈ gtb := tg3 (List.mem_of_getElem? (i := 179) rfl) rfl
theorem wd_660 : (Jvm.Cond.instantiable "FourVaultModel" (35 : Nat)) ∈ gtb := tg3 (List.mem_of_getElem? (i := 180) rfl) rfl
theorem wd_661 : (Jvm.Cond.methodLink "FourVaultLaw" (12 : Nat) ({ cls := "FourVaultModel", name := "<init>", desc := "()V" } : Jvm.MethodName)) ∈ gtb := tg3 (List.mem_of_getElem? (i := 181) rfl) rfl
theorem wd_662 : (Jvm.Cond.instanceMethod ({ cls := "FourVaultModel", name := "<init>", desc := "()V" } : Jvm.MethodName)) ∈ gtb := tg3 (List.mem_of_getElem? (i := 182) rfl) rfl
theorem wd_663 : (Jvm.Cond.code ({ cls := "FourVaultModel", name := "<init>", desc := "()V" } : Jvm.MethodName) prog_13_method_1_code (1 : Nat) (Option.none : Option Jvm.ClassFile.FieldType)) ∈ gtb := tg3 (List.mem_of_getElem? (i := 183) rfl) rfl
theorem wd_664 : (Jvm.Cond.methodLink "FourVaultModel" (1 : Nat) ({ cls := "java/lang/Object", name := "<init>", desc := "()V" } : Jvm.MethodName)) ∈ gtb := tg3 (List.mem_of_getElem? (i := 184) rfl) rfl
theorem wd_665 : (Jvm.Cond.fieldLink "FourVaultModel" (76 : Nat) "FourVaultModel" "fault" "I") ∈ gtb := tg3 (List.mem_of_getElem? (i := 185) rfl) rfl
theorem wd_666 : (Jvm.Cond.fieldLink "FourVaultModel" (204 : Nat) "FourVaultModel" "trace" "I") ∈ gtb := tg3 (List.mem_of_getElem? (i := 186) rfl) rfl
theorem wd_667 : (Jvm.Cond.fieldLink "FourVaultModel" (9 : Nat) "FourVaultModel" "sorts" "[I") ∈ gtb := tg3 (List.mem_of_getElem? (i := 187) rfl) rfl
theorem wd_668 : (Jvm.Cond.fieldLink "FourVaultModel" (13 : Nat) "FourVaultModel" "sheetLong" "[I") ∈ gtb := tg3 (List.mem_of_getElem? (i := 188) rfl) rfl
theorem wd_669 : (Jvm.Cond.fieldLink "FourVaultModel" (16 : Nat) "FourVaultModel" "cells" "[I") ∈ gtb := tg3 (List.mem_of_getElem? (i := 189) rfl) rfl
theorem wd_670 : (Jvm.Cond.fieldLink "FourVaultModel" (89 : Nat) "FourVaultModel" "places" "I") ∈ gtb := tg3 (List.mem_of_getElem? (i := 190) rfl) rfl
theorem wd_671 : (Jvm.Cond.fieldLink "FourVaultModel" (86 : Nat) "FourVaultModel" "takers" "I") ∈ gtb := tg3 (List.mem_of_getElem? (i := 191) rfl) rfl
theorem wd_672 : (Jvm.Cond.fieldLink "FourVaultModel" (125 : Nat) "FourVaultModel" "goods" "I") ∈ gtb := tg3 (List.mem_of_getElem? (i := 192) rfl) rfl
theorem wd_673 : (Jvm.Cond.fieldLink "FourVaultModel" (19 : Nat) "FourVaultModel" "gloomOf" "[I") ∈ gtb := tg3 (List.mem_of_getElem? (i := 193) rfl) rfl
theorem wd_674 : (Jvm.Cond.fieldLink "FourVaultModel" (22 : Nat) "FourVaultModel" "kind" "[I") ∈ gtb := tg3 (List.mem_of_getElem? (i := 194) rfl) rfl
theorem wd_675 : (Jvm.Cond.fieldLink "FourVaultModel" (25 : Nat) "FourVaultModel" "nerve" "[I") ∈ gtb := tg3 (List.mem_of_getElem? (i := 195) rfl) rfl
theorem wd_676 : (Jvm.Cond.fieldLink "FourVaultModel" (28 : Nat) "FourVaultModel" "mind" "[I") ∈ gtb := tg3 (List.mem_of_getElem? (i := 196) rfl) rfl
theorem wd_677 : (Jvm.Cond.fieldLink "FourVaultModel" (31 : Nat) "FourVaultModel" "depthOf" "[I") ∈ gtb := tg3 (List.mem_of_getElem? (i := 197) rfl) rfl
theorem wd_678 : (Jvm.Cond.fieldLink "FourVaultModel" (92 : Nat) "FourVaultModel" "at" "I") ∈ gtb := tg3 (List.mem_of_getElem? (i := 198) rfl) rfl
theorem wd_679 : (Jvm.Cond.fieldLink "FourVaultModel" (116 : Nat) "FourVaultModel" "readPlaces" "I") ∈ gtb := tg3 (List.mem_of_getElem? (i := 199) rfl) rfl
theorem wd_680 : (Jvm.Cond.fieldLink "FourVaultModel" (119 : Nat) "FourVaultModel" "readTakers" "I") ∈ gtb := tg3 (List.mem_of_getElem? (i := 200) rfl) rfl
theorem wd_681 : (Jvm.Cond.fieldLink "FourVaultModel" (122 : Nat) "FourVaultModel" "readGoods" "I") ∈ gtb := tg3 (List.mem_of_getElem? (i := 201) rfl) rfl
theorem wd_682 : (Jvm.Cond.fieldLink "FourVaultModel" (34 : Nat) "FourVaultModel" "readGloom" "[I") ∈ gtb := tg3 (List.mem_of_getElem? (i := 202) rfl) rfl
theorem wd_683 : (Jvm.Cond.fieldLink "FourVaultModel" (37 : Nat) "FourVaultModel" "readKind" "[I") ∈ gtb := tg3 (List.mem_of_getElem? (i := 203) rfl) rfl
theorem wd_684 : (Jvm.Cond.fieldLink "FourVaultModel" (40 : Nat) "FourVaultModel" "readNerve" "[I") ∈ gtb := tg3 (List.mem_of_getElem? (i := 204) rfl) rfl
theorem wd_685 : (Jvm.Cond.fieldLink "FourVaultModel" (43 : Nat) "FourVaultModel" "readMind" "[I") ∈ gtb := tg3 (List.mem_of_getElem? (i := 205) rfl) rfl
theorem wd_686 : (Jvm.Cond.fieldLink "FourVaultModel" (46 : Nat) "FourVaultModel" "readDepth" "[I") ∈ gtb := tg3 (List.mem_of_getElem? (i := 206) rfl) rfl
theorem wd_687 : (Jvm.Cond.fieldLink "FourVaultModel" (154 : Nat) "FourVaultModel" "light" "I") ∈ gtb := tg3 (List.mem_of_getElem? (i := 207) rfl) rfl
theorem wd_688 : (Jvm.Cond.fieldLink "FourVaultModel" (170 : Nat) "FourVaultModel" "all" "I") ∈ gtb := tg3 (List.mem_of_getElem? (i := 208) rfl) rfl
theorem wd_689 : (Jvm.Cond.fieldLink "FourVaultModel" (173 : Nat) "FourVaultModel" "latest" "I") ∈ gtb := tg3 (List.mem_of_getElem? (i := 209) rfl) rfl
theorem wd_690 : (Jvm.Cond.fieldLink "FourVaultModel" (49 : Nat) "FourVaultModel" "comesOut" "[I") ∈ gtb := tg3 (List.mem_of_getElem? (i := 210) rfl) rfl
theorem wd_691 : (Jvm.Cond.fieldLink "FourVaultModel" (52 : Nat) "FourVaultModel" "held" "[I") ∈ gtb := tg3 (List.mem_of_getElem? (i := 211) rfl) rfl
theorem wd_692 : (Jvm.Cond.fieldLink "FourVaultModel" (55 : Nat) "FourVaultModel" "inside" "[I") ∈ gtb := tg3 (List.mem_of_getElem? (i := 212) rfl) rfl
theorem wd_693 : (Jvm.Cond.fieldLink "FourVaultModel" (58 : Nat) "FourVaultModel" "canGet" "[I") ∈ gtb := tg3 (List.mem_of_getElem? (i := 213) rfl) rfl
theorem wd_694 : (Jvm.Cond.fieldLink "FourVaultModel" (61 : Nat) "FourVaultModel" "row" "[I") ∈ gtb := tg3 (List.mem_of_getElem? (i := 214) rfl) rfl
theorem wd_695 : (Jvm.Cond.fieldLink "FourVaultModel" (64 : Nat) "FourVaultModel" "found" "[I") ∈ gtb := tg3 (List.mem_of_getElem? (i := 215) rfl) rfl
theorem wd_696 : (Jvm.Cond.fieldLink "FourVaultModel" (128 : Nat) "FourVaultModel" "readings" "I") ∈ gtb := tg3 (List.mem_of_getElem? (i := 216) rfl) rfl
theorem wd_697 : (Jvm.Cond.fieldLink "FourVaultModel" (67 : Nat) "FourVaultModel" "readWho" "[I") ∈ gtb := tg3 (List.mem_of_getElem? (i := 217) rfl) rfl
theorem wd_698 : (Jvm.Cond.fieldLink "FourVaultModel" (70 : Nat) "FourVaultModel" "readWhen" "[I") ∈ gtb := tg3 (List.mem_of_getElem? (i := 218) rfl) rfl
theorem wd_699 : (Jvm.Cond.fieldLink "FourVaultModel" (73 : Nat) "FourVaultModel" "readHeld" "[I") ∈ gtb := tg3 (List.mem_of_getElem? (i := 219) rfl) rfl
theorem wd_700 : (Jvm.Cond.lays "FourVaultModel" "FourVaultModel" "fault" "I") ∈ gtb := tg3 (List.mem_of_getElem? (i := 220) rfl) rfl
theorem wd_701 : (Jvm.Cond.soleField "FourVaultModel" "fault") ∈ gtb := tg3 (List.mem_of_getElem? (i := 221) rfl) rfl
theorem wd_702 : (Jvm.Cond.lays "FourVaultModel" "FourVaultModel" "trace" "I") ∈ gtb := tg3 (List.mem_of_getElem? (i := 222) rfl) rfl
theorem wd_703 : (Jvm.Cond.soleField "FourVaultModel" "trace") ∈ gtb := tg3 (List.mem_of_getElem? (i := 223) rfl) rfl
theorem wd_704 : (Jvm.Cond.laysFinal "FourVaultModel" "FourVaultModel" "sorts" "[I") ∈ gtb := tg3 (List.mem_of_getElem? (i := 224) rfl) rfl
theorem wd_705 : (Jvm.Cond.soleField "FourVaultModel" "sorts") ∈ gtb := tg3 (List.mem_of_getElem? (i := 225) rfl) rfl
theorem wd_706 : (Jvm.Cond.laysFinal "FourVaultModel" "FourVaultModel" "sheetLong" "[I") ∈ gtb := tg3 (List.mem_of_getElem? (i := 226) rfl) rfl
theorem wd_707 : (Jvm.Cond.soleField "FourVaultModel" "sheetLong") ∈ gtb := tg3 (List.mem_of_getElem? (i := 227) rfl) rfl
theorem wd_708 : (Jvm.Cond.laysFinal "FourVaultModel" "FourVaultModel" "cells" "[I") ∈ gtb := tg3 (List.mem_of_getElem? (i := 228) rfl) rfl
theorem wd_709 : (Jvm.Cond.soleField "FourVaultModel" "cells") ∈ gtb := tg3 (List.mem_of_getElem? (i := 229) rfl) rfl
theorem wd_710 : (Jvm.Cond.lays "FourVaultModel" "FourVaultModel" "places" "I") ∈ gtb := tg3 (List.mem_of_getElem? (i := 230) rfl) rfl
theorem wd_711 : (Jvm.Cond.soleField "FourVaultModel" "places") ∈ gtb := tg3 (List.mem_of_getElem? (i := 231) rfl) rfl
theorem wd_712 : (Jvm.Cond.lays "FourVaultModel" "FourVaultModel" "takers" "I") ∈ gtb := tg3 (List.mem_of_getElem? (i := 232) rfl) rfl
theorem wd_713 : (Jvm.Cond.soleField "FourVaultModel" "takers") ∈ gtb := tg3 (List.mem_of_getElem? (i := 233) rfl) rfl
theorem wd_714 : (Jvm.Cond.lays "FourVaultModel" "FourVaultModel" "goods" "I") ∈ gtb := tg3 (List.mem_of_getElem? (i := 234) rfl) rfl
theorem wd_715 : (Jvm.Cond.soleField "FourVaultModel" "goods") ∈ gtb := tg3 (List.mem_of_getElem? (i := 235) rfl) rfl
theorem wd_716 : (Jvm.Cond.laysFinal "FourVaultModel" "FourVaultModel" "gloomOf" "[I") ∈ gtb := tg3 (List.mem_of_getElem? (i := 236) rfl) rfl
theorem wd_717 : (Jvm.Cond.soleField "FourVaultModel" "gloomOf") ∈ gtb := tg3 (List.mem_of_getElem? (i := 237) rfl) rfl
theorem wd_718 : (Jvm.Cond.laysFinal "FourVaultModel" "FourVaultModel" "kind" "[I") ∈ gtb := tg3 (List.mem_of_getElem? (i := 238) rfl) rfl
theorem wd_719 : (Jvm.Cond.soleField "FourVaultModel" "kind") ∈ gtb := tg3 (List.mem_of_getElem? (i := 239) rfl) rfl
theorem wd_720 : (Jvm.Cond.laysFinal "FourVaultModel" "FourVaultModel" "nerve" "[I") ∈ gtb := tg4 (List.mem_of_getElem? (i := 0) rfl) rfl
theorem wd_721 : (Jvm.Cond.soleField "FourVaultModel" "nerve") ∈ gtb := tg4 (List.mem_of_getElem? (i := 1) rfl) rfl
theorem wd_722 : (Jvm.Cond.laysFinal "FourVaultModel" "FourVaultModel" "mind" "[I") ∈ gtb := tg4 (List.mem_of_getElem? (i := 2) rfl) rfl
theorem wd_723 : (Jvm.Cond.soleField "FourVaultModel" "mind") ∈ gtb := tg4 (List.mem_of_getElem? (i := 3) rfl) rfl
theorem wd_724 : (Jvm.Cond.laysFinal "FourVaultModel" "FourVaultModel" "depthOf" "[I") ∈ gtb := tg4 (List.mem_of_getElem? (i := 4) rfl) rfl
theorem wd_725 : (Jvm.Cond.soleField "FourVaultModel" "depthOf") ∈ gtb := tg4 (List.mem_of_getElem? (i := 5) rfl) rfl
theorem wd_726 : (Jvm.Cond.lays "FourVaultModel" "FourVaultModel" "at" "I") ∈ gtb := tg4 (List.mem_of_getElem? (i := 6) rfl) rfl
theorem wd_727 : (Jvm.Cond.soleField "FourVaultModel" "at") ∈ gtb := tg4 (List.mem_of_getElem? (i := 7) rfl) rfl
theorem wd_728 : (Jvm.Cond.lays "FourVaultModel" "FourVaultModel" "readPlaces" "I") ∈ gtb := tg4 (List.mem_of_getElem? (i := 8) rfl) rfl
theorem wd_729 : (Jvm.Cond.soleField "FourVaultModel" "readPlaces") ∈ gtb := tg4 (List.mem_of_getElem? (i := 9) rfl) rfl
theorem wd_730 : (Jvm.Cond.lays "FourVaultModel" "FourVaultModel" "readTakers" "I") ∈ gtb := tg4 (List.mem_of_getElem? (i := 10) rfl) rfl
theorem wd_731 : (Jvm.Cond.soleField "FourVaultModel" "readTakers") ∈ gtb := tg4 (List.mem_of_getElem? (i := 11) rfl) rfl
theorem wd_732 : (Jvm.Cond.lays "FourVaultModel" "FourVaultModel" "readGoods" "I") ∈ gtb := tg4 (List.mem_of_getElem? (i := 12) rfl) rfl
theorem wd_733 : (Jvm.Cond.soleField "FourVaultModel" "readGoods") ∈ gtb := tg4 (List.mem_of_getElem? (i := 13) rfl) rfl
theorem wd_734 : (Jvm.Cond.laysFinal "FourVaultModel" "FourVaultModel" "readGloom" "[I") ∈ gtb := tg4 (List.mem_of_getElem? (i := 14) rfl) rfl
theorem wd_735 : (Jvm.Cond.soleField "FourVaultModel" "readGloom") ∈ gtb := tg4 (List.mem_of_getElem? (i := 15) rfl) rfl
theorem wd_736 : (Jvm.Cond.laysFinal "FourVaultModel" "FourVaultModel" "readKind" "[I") ∈ gtb := tg4 (List.mem_of_getElem? (i := 16) rfl) rfl
theorem wd_737 : (Jvm.Cond.soleField "FourVaultModel" "readKind") ∈ gtb := tg4 (List.mem_of_getElem? (i := 17) rfl) rfl
theorem wd_738 : (Jvm.Cond.laysFinal "FourVaultModel" "FourVaultModel" "readNerve" "[I") ∈ gtb := tg4 (List.mem_of_getElem? (i := 18) rfl) rfl
theorem wd_739 : (Jvm.Cond.soleField "FourVaultModel" "readNerve") ∈ gtb := tg4 (List.mem_of_getElem? (i := 19) rfl) rfl
theorem wd_740 : (Jvm.Cond.laysFinal "FourVaultModel" "FourVaultModel" "readMind" "[I") ∈ gtb := tg4 (List.mem_of_getElem? (i := 20) rfl) rfl
theorem wd_741 : (Jvm.Cond.soleField "FourVaultModel" "readMind") ∈ gtb := tg4 (List.mem_of_getElem? (i := 21) rfl) rfl
theorem wd_742 : (Jvm.Cond.laysFinal "FourVaultModel" "FourVaultModel" "readDepth" "[I") ∈ gtb := tg4 (List.mem_of_getElem? (i := 22) rfl) rfl
theorem wd_743 : (Jvm.Cond.soleField "FourVaultModel" "readDepth") ∈ gtb := tg4 (List.mem_of_getElem? (i := 23) rfl) rfl
theorem wd_744 : (Jvm.Cond.lays "FourVaultModel" "FourVaultModel" "light" "I") ∈ gtb := tg4 (List.mem_of_getElem? (i := 24) rfl) rfl
theorem wd_745 : (Jvm.Cond.soleField "FourVaultModel" "light") ∈ gtb := tg4 (List.mem_of_getElem? (i := 25) rfl) rfl
theorem wd_746 : (Jvm.Cond.lays "FourVaultModel" "FourVaultModel" "all" "I") ∈ gtb := tg4 (List.mem_of_getElem? (i := 26) rfl) rfl
theorem wd_747 : (Jvm.Cond.soleField "FourVaultModel" "all") ∈ gtb := tg4 (List.mem_of_getElem? (i := 27) rfl) rfl
theorem wd_748 : (Jvm.Cond.lays "FourVaultModel" "FourVaultModel" "latest" "I") ∈ gtb := tg4 (List.mem_of_getElem? (i := 28) rfl) rfl
theorem wd_749 : (Jvm.Cond.soleField "FourVaultModel" "latest") ∈ gtb := tg4 (List.mem_of_getElem? (i := 29) rfl) rfl
theorem wd_750 : (Jvm.Cond.laysFinal "FourVaultModel" "FourVaultModel" "comesOut" "[I") ∈ gtb := tg4 (List.mem_of_getElem? (i := 30) rfl) rfl
theorem wd_751 : (Jvm.Cond.soleField "FourVaultModel" "comesOut") ∈ gtb := tg4 (List.mem_of_getElem? (i := 31) rfl) rfl
theorem wd_752 : (Jvm.Cond.laysFinal "FourVaultModel" "FourVaultModel" "held" "[I") ∈ gtb := tg4 (List.mem_of_getElem? (i := 32) rfl) rfl
theorem wd_753 : (Jvm.Cond.soleField "FourVaultModel" "held") ∈ gtb := tg4 (List.mem_of_getElem? (i := 33) rfl) rfl
theorem wd_754 : (Jvm.Cond.laysFinal "FourVaultModel" "FourVaultModel" "inside" "[I") ∈ gtb := tg4 (List.mem_of_getElem? (i := 34) rfl) rfl
theorem wd_755 : (Jvm.Cond.soleField "FourVaultModel" "inside") ∈ gtb := tg4 (List.mem_of_getElem? (i := 35) rfl) rfl
theorem wd_756 : (Jvm.Cond.laysFinal "FourVaultModel" "FourVaultModel" "canGet" "[I") ∈ gtb := tg4 (List.mem_of_getElem? (i := 36) rfl) rfl
theorem wd_757 : (Jvm.Cond.soleField "FourVaultModel" "canGet") ∈ gtb := tg4 (List.mem_of_getElem? (i := 37) rfl) rfl
theorem wd_758 : (Jvm.Cond.laysFinal "FourVaultModel" "FourVaultModel" "row" "[I") ∈ gtb := tg4 (List.mem_of_getElem? (i := 38) rfl) rfl
theorem wd_759 : (Jvm.Cond.soleField "FourVaultModel" "row") ∈ gtb := tg4 (List.mem_of_getElem? (i := 39) rfl) rfl
theorem wd_760 : (Jvm.Cond.laysFinal "FourVaultModel" "FourVaultModel" "found" "[I") ∈ gtb := tg4 (List.mem_of_getElem? (i := 40) rfl) rfl
theorem wd_761 : (Jvm.Cond.soleField "FourVaultModel" "found") ∈ gtb := tg4 (List.mem_of_getElem? (i := 41) rfl) rfl
theorem wd_762 : (Jvm.Cond.lays "FourVaultModel" "FourVaultModel" "readings" "I") ∈ gtb := tg4 (List.mem_of_getElem? (i := 42) rfl) rfl
theorem wd_763 : (Jvm.Cond.soleField "FourVaultModel" "readings") ∈ gtb := tg4 (List.mem_of_getElem? (i := 43) rfl) rfl
theorem wd_764 : (Jvm.Cond.laysFinal "FourVaultModel" "FourVaultModel" "readWho" "[I") ∈ gtb := tg4 (List.mem_of_getElem? (i := 44) rfl) rfl
theorem wd_765 : (Jvm.Cond.soleField "FourVaultModel" "readWho") ∈ gtb := tg4 (List.mem_of_getElem? (i := 45) rfl) rfl
theorem wd_766 : (Jvm.Cond.laysFinal "FourVaultModel" "FourVaultModel" "readWhen" "[I") ∈ gtb := tg4 (List.mem_of_getElem? (i := 46) rfl) rfl
theorem wd_767 : (Jvm.Cond.soleField "FourVaultModel" "readWhen") ∈ gtb := tg4 (List.mem_of_getElem? (i := 47) rfl) rfl
theorem wd_768 : (Jvm.Cond.laysFinal "FourVaultModel" "FourVaultModel" "readHeld" "[I") ∈ gtb := tg4 (List.mem_of_getElem? (i := 48) rfl) rfl
theorem wd_769 : (Jvm.Cond.soleField "FourVaultModel" "readHeld") ∈ gtb := tg4 (List.mem_of_getElem? (i := 49) rfl) rfl
theorem wd_770 : (Jvm.Cond.superclass "FourVaultModel" "java/lang/Object") ∈ gtb := tg4 (List.mem_of_getElem? (i := 50) rfl) rfl
theorem wd_771 : (Jvm.Cond.methodLink "FourVaultLaw" (17 : Nat) ({ cls := "FourVaultModel", name := "vault", desc := "(IIII)I" } : Jvm.MethodName)) ∈ gtb := tg4 (List.mem_of_getElem? (i := 51) rfl) rfl
theorem wd_772 : (Jvm.Cond.instanceMethod ({ cls := "FourVaultModel", name := "vault", desc := "(IIII)I" } : Jvm.MethodName)) ∈ gtb := tg4 (List.mem_of_getElem? (i := 52) rfl) rfl
theorem wd_773 : (Jvm.Cond.selects "FourVaultModel" ({ cls := "FourVaultModel", name := "vault", desc := "(IIII)I" } : Jvm.MethodName) ({ cls := "FourVaultModel", name := "vault", desc := "(IIII)I" } : Jvm.MethodName)) ∈ gtb := tg4 (List.mem_of_getElem? (i := 53) rfl) rfl
theorem wd_774 : (Jvm.Cond.code ({ cls := "FourVaultModel", name := "vault", desc := "(IIII)I" } : Jvm.MethodName) prog_13_method_13_code (7 : Nat) (Option.some Jvm.ClassFile.FieldType.int)) ∈ gtb := tg4 (List.mem_of_getElem? (i := 54) rfl) rfl
theorem wd_775 : (Jvm.Cond.methodLink "FourVaultModel" (95 : Nat) ({ cls := "FourVaultModel", name := "isSheet", desc := "(I)Z" } : Jvm.MethodName)) ∈ gtb := tg4 (List.mem_of_getElem? (i := 55) rfl) rfl
theorem wd_776 : (Jvm.Cond.static ({ cls := "FourVaultModel", name := "isSheet", desc := "(I)Z" } : Jvm.MethodName)) ∈ gtb := tg4 (List.mem_of_getElem? (i := 56) rfl) rfl
theorem wd_777 : (Jvm.Cond.code ({ cls := "FourVaultModel", name := "isSheet", desc := "(I)Z" } : Jvm.MethodName) prog_13_method_6_code (1 : Nat) (Option.some Jvm.ClassFile.FieldType.boolean)) ∈ gtb := tg4 (List.mem_of_getElem? (i := 57) rfl) rfl
theorem wd_778 : (Jvm.Cond.methodLink "FourVaultModel" (82 : Nat) ({ cls := "FourVaultModel", name := "within", desc := "(III)Z" } : Jvm.MethodName)) ∈ gtb := tg4 (List.mem_of_getElem? (i := 58) rfl) rfl
theorem wd_779 : (Jvm.Cond.static ({ cls := "FourVaultModel", name := "within", desc := "(III)Z" } : Jvm.MethodName)) ∈ gtb := tg4 (List.mem_of_getElem? (i := 59) rfl) rfl
theorem wd_780 : (Jvm.Cond.code ({ cls := "FourVaultModel", name := "within", desc := "(III)Z" } : Jvm.MethodName) prog_13_method_5_code (3 : Nat) (Option.some Jvm.ClassFile.FieldType.boolean)) ∈ gtb := tg4 (List.mem_of_getElem? (i := 60) rfl) rfl
theorem wd_781 : (Jvm.Cond.methodLink "FourVaultModel" (99 : Nat) ({ cls := "FourVaultModel", name := "isSort", desc := "(I)Z" } : Jvm.MethodName)) ∈ gtb := tg4 (List.mem_of_getElem? (i := 61) rfl) rfl
theorem wd_782 : (Jvm.Cond.static ({ cls := "FourVaultModel", name := "isSort", desc := "(I)Z" } : Jvm.MethodName)) ∈ gtb := tg4 (List.mem_of_getElem? (i := 62) rfl) rfl
theorem wd_783 : (Jvm.Cond.code ({ cls := "FourVaultModel", name := "isSort", desc := "(I)Z" } : Jvm.MethodName) prog_13_method_7_code (1 : Nat) (Option.some Jvm.ClassFile.FieldType.boolean)) ∈ gtb := tg4 (List.mem_of_getElem? (i := 63) rfl) rfl
theorem wd_784 : (Jvm.Cond.methodLink "FourVaultModel" (102 : Nat) ({ cls := "FourVaultModel", name := "against", desc := "(IIII)I" } : Jvm.MethodName)) ∈ gtb := tg4 (List.mem_of_getElem? (i := 64) rfl) rfl
theorem wd_785 : (Jvm.Cond.privateMethod ({ cls := "FourVaultModel", name := "against", desc := "(IIII)I" } : Jvm.MethodName)) ∈ lw_tbl := tm4 (List.mem_of_getElem? (i := 65) rfl)
theorem wd_786 : (Jvm.Cond.instanceMethod ({ cls := "FourVaultModel", name := "against", desc := "(IIII)I" } : Jvm.MethodName)) ∈ gtb := tg4 (List.mem_of_getElem? (i := 66) rfl) rfl
theorem wd_787 : (Jvm.Cond.code ({ cls := "FourVaultModel", name := "against", desc := "(IIII)I" } : Jvm.MethodName) prog_13_method_8_code (5 : Nat) (Option.some Jvm.ClassFile.FieldType.int)) ∈ gtb := tg4 (List.mem_of_getElem? (i := 67) rfl) rfl
theorem wd_788 : (Jvm.Cond.methodLink "FourVaultModel" (106 : Nat) ({ cls := "FourVaultModel", name := "fails", desc := "(I)I" } : Jvm.MethodName)) ∈ gtb := tg4 (List.mem_of_getElem? (i := 68) rfl) rfl
theorem wd_789 : (Jvm.Cond.privateMethod ({ cls := "FourVaultModel", name := "fails", desc := "(I)I" } : Jvm.MethodName)) ∈ lw_tbl := tm4 (List.mem_of_getElem? (i := 69) rfl)
theorem wd_790 : (Jvm.Cond.instanceMethod ({ cls := "FourVaultModel", name := "fails", desc := "(I)I" } : Jvm.MethodName)) ∈ gtb := tg4 (List.mem_of_getElem? (i := 70) rfl) rfl
theorem wd_791 : (Jvm.Cond.code ({ cls := "FourVaultModel", name := "fails", desc := "(I)I" } : Jvm.MethodName) prog_13_method_3_code (2 : Nat) (Option.some Jvm.ClassFile.FieldType.int)) ∈ gtb := tg4 (List.mem_of_getElem? (i := 71) rfl) rfl
theorem wd_792 : (Jvm.Cond.methodLink "FourVaultModel" (110 : Nat) ({ cls := "FourVaultModel", name := "readVault", desc := "(I)Z" } : Jvm.MethodName)) ∈ gtb := tg4 (List.mem_of_getElem? (i := 72) rfl) rfl
theorem wd_793 : (Jvm.Cond.privateMethod ({ cls := "FourVaultModel", name := "readVault", desc := "(I)Z" } : Jvm.MethodName)) ∈ lw_tbl := tm4 (List.mem_of_getElem? (i := 73) rfl)
theorem wd_794 : (Jvm.Cond.instanceMethod ({ cls := "FourVaultModel", name := "readVault", desc := "(I)Z" } : Jvm.MethodName)) ∈ gtb := tg4 (List.mem_of_getElem? (i := 74) rfl) rfl
theorem wd_795 : (Jvm.Cond.code ({ cls := "FourVaultModel", name := "readVault", desc := "(I)Z" } : Jvm.MethodName) prog_13_method_15_code (2 : Nat) (Option.some Jvm.ClassFile.FieldType.boolean)) ∈ gtb := tg4 (List.mem_of_getElem? (i := 75) rfl) rfl
theorem wd_796 : (Jvm.Cond.methodLink "FourVaultModel" (131 : Nat) ({ cls := "FourVaultModel", name := "isSign", desc := "(II)Z" } : Jvm.MethodName)) ∈ gtb := tg4 (List.mem_of_getElem? (i := 76) rfl) rfl
theorem wd_797 : (Jvm.Cond.privateMethod ({ cls := "FourVaultModel", name := "isSign", desc := "(II)Z" } : Jvm.MethodName)) ∈ lw_tbl := tm4 (List.mem_of_getElem? (i := 77) rfl)
theorem wd_798 : (Jvm.Cond.instanceMethod ({ cls := "FourVaultModel", name := "isSign", desc := "(II)Z" } : Jvm.MethodName)) ∈ gtb := tg4 (List.mem_of_getElem? (i := 78) rfl) rfl
theorem wd_799 : (Jvm.Cond.code ({ cls := "FourVaultModel", name := "isSign", desc := "(II)Z" } : Jvm.MethodName) prog_13_method_12_code (3 : Nat) (Option.some Jvm.ClassFile.FieldType.boolean)) ∈ gtb := tg4 (List.mem_of_getElem? (i := 79) rfl) rfl
theorem wd_800 : (Jvm.Cond.methodLink "FourVaultModel" (135 : Nat) ({ cls := "FourVaultModel", name := "readTheGloom", desc := "(I)Z" } : Jvm.MethodName)) ∈ gtb := tg4 (List.mem_of_getElem? (i := 80) rfl) rfl
theorem wd_801 : (Jvm.Cond.privateMethod ({ cls := "FourVaultModel", name := "readTheGloom", desc := "(I)Z" } : Jvm.MethodName)) ∈ lw_tbl := tm4 (List.mem_of_getElem? (i := 81) rfl)
theorem wd_802 : (Jvm.Cond.instanceMethod ({ cls := "FourVaultModel", name := "readTheGloom", desc := "(I)Z" } : Jvm.MethodName)) ∈ gtb := tg4 (List.mem_of_getElem? (i := 82) rfl) rfl
theorem wd_803 : (Jvm.Cond.code ({ cls := "FourVaultModel", name := "readTheGloom", desc := "(I)Z" } : Jvm.MethodName) prog_13_method_16_code (3 : Nat) (Option.some Jvm.ClassFile.FieldType.boolean)) ∈ gtb := tg4 (List.mem_of_getElem? (i := 83) rfl) rfl
theorem wd_804 : (Jvm.Cond.methodLink "FourVaultModel" (144 : Nat) ({ cls := "FourVaultModel", name := "digit", desc := "(II)I" } : Jvm.MethodName)) ∈ gtb := tg4 (List.mem_of_getElem? (i := 84) rfl) rfl
theorem wd_805 : (Jvm.Cond.privateMethod ({ cls := "FourVaultModel", name := "digit", desc := "(II)I" } : Jvm.MethodName)) ∈ lw_tbl := tm4 (List.mem_of_getElem? (i := 85) rfl)
theorem wd_806 : (Jvm.Cond.instanceMethod ({ cls := "FourVaultModel", name := "digit", desc := "(II)I" } : Jvm.MethodName)) ∈ gtb := tg4 (List.mem_of_getElem? (i := 86) rfl) rfl
theorem wd_807 : (Jvm.Cond.code ({ cls := "FourVaultModel", name := "digit", desc := "(II)I" } : Jvm.MethodName) prog_13_method_11_code (3 : Nat) (Option.some Jvm.ClassFile.FieldType.int)) ∈ gtb := tg4 (List.mem_of_getElem? (i := 87) rfl) rfl
theorem wd_808 : (Jvm.Cond.methodLink "FourVaultModel" (138 : Nat) ({ cls := "FourVaultModel", name := "readTaker", desc := "(I)Z" } : Jvm.MethodName)) ∈ gtb := tg4 (List.mem_of_getElem? (i := 88) rfl) rfl
theorem wd_809 : (Jvm.Cond.privateMethod ({ cls := "FourVaultModel", name := "readTaker", desc := "(I)Z" } : Jvm.MethodName)) ∈ lw_tbl := tm4 (List.mem_of_getElem? (i := 89) rfl)
theorem wd_810 : (Jvm.Cond.instanceMethod ({ cls := "FourVaultModel", name := "readTaker", desc := "(I)Z" } : Jvm.MethodName)) ∈ gtb := tg4 (List.mem_of_getElem? (i := 90) rfl) rfl
theorem wd_811 : (Jvm.Cond.code ({ cls := "FourVaultModel", name := "readTaker", desc := "(I)Z" } : Jvm.MethodName) prog_13_method_17_code (5 : Nat) (Option.some Jvm.ClassFile.FieldType.boolean)) ∈ gtb := tg4 (List.mem_of_getElem? (i := 91) rfl) rfl
theorem wd_812 : (Jvm.Cond.methodLink "FourVaultModel" (141 : Nat) ({ cls := "FourVaultModel", name := "readTheGoods", desc := "(I)Z" } : Jvm.MethodName)) ∈ gtb := tg4 (List.mem_of_getElem? (i := 92) rfl) rfl
theorem wd_813 : (Jvm.Cond.privateMethod ({ cls := "FourVaultModel", name := "readTheGoods", desc := "(I)Z" } : Jvm.MethodName)) ∈ lw_tbl := tm4 (List.mem_of_getElem? (i := 93) rfl)
theorem wd_814 : (Jvm.Cond.instanceMethod ({ cls := "FourVaultModel", name := "readTheGoods", desc := "(I)Z" } : Jvm.MethodName)) ∈ gtb := tg4 (List.mem_of_getElem? (i := 94) rfl) rfl
theorem wd_815 : (Jvm.Cond.code ({ cls := "FourVaultModel", name := "readTheGoods", desc := "(I)Z" } : Jvm.MethodName) prog_13_method_18_code (3 : Nat) (Option.some Jvm.ClassFile.FieldType.boolean)) ∈ gtb := tg4 (List.mem_of_getElem? (i := 95) rfl) rfl
theorem wd_816 : (Jvm.Cond.methodLink "FourVaultModel" (113 : Nat) ({ cls := "FourVaultModel", name := "takeVault", desc := "()V" } : Jvm.MethodName)) ∈ gtb := tg4 (List.mem_of_getElem? (i := 96) rfl) rfl
theorem wd_817 : (Jvm.Cond.privateMethod ({ cls := "FourVaultModel", name := "takeVault", desc := "()V" } : Jvm.MethodName)) ∈ lw_tbl := tm4 (List.mem_of_getElem? (i := 97) rfl)
theorem wd_818 : (Jvm.Cond.instanceMethod ({ cls := "FourVaultModel", name := "takeVault", desc := "()V" } : Jvm.MethodName)) ∈ gtb := tg4 (List.mem_of_getElem? (i := 98) rfl) rfl
theorem wd_819 : (Jvm.Cond.code ({ cls := "FourVaultModel", name := "takeVault", desc := "()V" } : Jvm.MethodName) prog_13_method_14_code (2 : Nat) (Option.none : Option Jvm.ClassFile.FieldType)) ∈ gtb := tg4 (List.mem_of_getElem? (i := 99) rfl) rfl
theorem wd_820 : (Jvm.Cond.methodLink "FourVaultLaw" (22 : Nat) ({ cls := "FourVaultModel", name := "ofTaker", desc := "(II)I" } : Jvm.MethodName)) ∈ gtb := tg4 (List.mem_of_getElem? (i := 100) rfl) rfl
theorem wd_821 : (Jvm.Cond.instanceMethod ({ cls := "FourVaultModel", name := "ofTaker", desc := "(II)I" } : Jvm.MethodName)) ∈ gtb := tg4 (List.mem_of_getElem? (i := 101) rfl) rfl
theorem wd_822 : (Jvm.Cond.selects "FourVaultModel" ({ cls := "FourVaultModel", name := "ofTaker", desc := "(II)I" } : Jvm.MethodName) ({ cls := "FourVaultModel", name := "ofTaker", desc := "(II)I" } : Jvm.MethodName)) ∈ gtb := tg4 (List.mem_of_getElem? (i := 102) rfl) rfl
theorem wd_823 : (Jvm.Cond.code ({ cls := "FourVaultModel", name := "ofTaker", desc := "(II)I" } : Jvm.MethodName) prog_13_method_19_code (3 : Nat) (Option.some Jvm.ClassFile.FieldType.int)) ∈ gtb := tg4 (List.mem_of_getElem? (i := 103) rfl) rfl
theorem wd_824 : (Jvm.Cond.methodLink "FourVaultModel" (148 : Nat) ({ cls := "FourVaultModel", name := "isTaker", desc := "(I)Z" } : Jvm.MethodName)) ∈ gtb := tg4 (List.mem_of_getElem? (i := 104) rfl) rfl
theorem wd_825 : (Jvm.Cond.privateMethod ({ cls := "FourVaultModel", name := "isTaker", desc := "(I)Z" } : Jvm.MethodName)) ∈ lw_tbl := tm4 (List.mem_of_getElem? (i := 105) rfl)
theorem wd_826 : (Jvm.Cond.instanceMethod ({ cls := "FourVaultModel", name := "isTaker", desc := "(I)Z" } : Jvm.MethodName)) ∈ gtb := tg4 (List.mem_of_getElem? (i := 106) rfl) rfl
theorem wd_827 : (Jvm.Cond.code ({ cls := "FourVaultModel", name := "isTaker", desc := "(I)Z" } : Jvm.MethodName) prog_13_method_9_code (2 : Nat) (Option.some Jvm.ClassFile.FieldType.boolean)) ∈ gtb := tg4 (List.mem_of_getElem? (i := 107) rfl) rfl
theorem wd_828 : (Jvm.Cond.methodLink "FourVaultLaw" (27 : Nat) ({ cls := "FourVaultModel", name := "depth", desc := "(I)I" } : Jvm.MethodName)) ∈ gtb := tg4 (List.mem_of_getElem? (i := 108) rfl) rfl
theorem wd_829 : (Jvm.Cond.instanceMethod ({ cls := "FourVaultModel", name := "depth", desc := "(I)I" } : Jvm.MethodName)) ∈ gtb := tg4 (List.mem_of_getElem? (i := 109) rfl) rfl
theorem wd_830 : (Jvm.Cond.selects "FourVaultModel" ({ cls := "FourVaultModel", name := "depth", desc := "(I)I" } : Jvm.MethodName) ({ cls := "FourVaultModel", name := "depth", desc := "(I)I" } : Jvm.MethodName)) ∈ gtb := tg4 (List.mem_of_getElem? (i := 110) rfl) rfl
theorem wd_831 : (Jvm.Cond.code ({ cls := "FourVaultModel", name := "depth", desc := "(I)I" } : Jvm.MethodName) prog_13_method_20_code (2 : Nat) (Option.some Jvm.ClassFile.FieldType.int)) ∈ gtb := tg4 (List.mem_of_getElem? (i := 111) rfl) rfl
theorem wd_832 : (Jvm.Cond.methodLink "FourVaultLaw" (31 : Nat) ({ cls := "FourVaultModel", name := "gloom", desc := "(I)I" } : Jvm.MethodName)) ∈ gtb := tg4 (List.mem_of_getElem? (i := 112) rfl) rfl
theorem wd_833 : (Jvm.Cond.instanceMethod ({ cls := "FourVaultModel", name := "gloom", desc := "(I)I" } : Jvm.MethodName)) ∈ gtb := tg4 (List.mem_of_getElem? (i := 113) rfl) rfl
theorem wd_834 : (Jvm.Cond.selects "FourVaultModel" ({ cls := "FourVaultModel", name := "gloom", desc := "(I)I" } : Jvm.MethodName) ({ cls := "FourVaultModel", name := "gloom", desc := "(I)I" } : Jvm.MethodName)) ∈ gtb := tg4 (List.mem_of_getElem? (i := 114) rfl) rfl
theorem wd_835 : (Jvm.Cond.code ({ cls := "FourVaultModel", name := "gloom", desc := "(I)I" } : Jvm.MethodName) prog_13_method_21_code (2 : Nat) (Option.some Jvm.ClassFile.FieldType.int)) ∈ gtb := tg4 (List.mem_of_getElem? (i := 115) rfl) rfl
theorem wd_836 : (Jvm.Cond.methodLink "FourVaultModel" (151 : Nat) ({ cls := "FourVaultModel", name := "isPlace", desc := "(I)Z" } : Jvm.MethodName)) ∈ gtb := tg4 (List.mem_of_getElem? (i := 116) rfl) rfl
theorem wd_837 : (Jvm.Cond.privateMethod ({ cls := "FourVaultModel", name := "isPlace", desc := "(I)Z" } : Jvm.MethodName)) ∈ lw_tbl := tm4 (List.mem_of_getElem? (i := 117) rfl)
theorem wd_838 : (Jvm.Cond.instanceMethod ({ cls := "FourVaultModel", name := "isPlace", desc := "(I)Z" } : Jvm.MethodName)) ∈ gtb := tg4 (List.mem_of_getElem? (i := 118) rfl) rfl
theorem wd_839 : (Jvm.Cond.code ({ cls := "FourVaultModel", name := "isPlace", desc := "(I)Z" } : Jvm.MethodName) prog_13_method_10_code (2 : Nat) (Option.some Jvm.ClassFile.FieldType.boolean)) ∈ gtb := tg4 (List.mem_of_getElem? (i := 119) rfl) rfl
theorem wd_840 : (Jvm.Cond.methodLink "FourVaultLaw" (35 : Nat) ({ cls := "FourVaultModel", name := "hush", desc := "(II)I" } : Jvm.MethodName)) ∈ gtb := tg4 (List.mem_of_getElem? (i := 120) rfl) rfl
theorem wd_841 : (Jvm.Cond.instanceMethod ({ cls := "FourVaultModel", name := "hush", desc := "(II)I" } : Jvm.MethodName)) ∈ gtb := tg4 (List.mem_of_getElem? (i := 121) rfl) rfl
theorem wd_842 : (Jvm.Cond.selects "FourVaultModel" ({ cls := "FourVaultModel", name := "hush", desc := "(II)I" } : Jvm.MethodName) ({ cls := "FourVaultModel", name := "hush", desc := "(II)I" } : Jvm.MethodName)) ∈ gtb := tg4 (List.mem_of_getElem? (i := 122) rfl) rfl
theorem wd_843 : (Jvm.Cond.code ({ cls := "FourVaultModel", name := "hush", desc := "(II)I" } : Jvm.MethodName) prog_13_method_22_code (4 : Nat) (Option.some Jvm.ClassFile.FieldType.int)) ∈ gtb := tg4 (List.mem_of_getElem? (i := 123) rfl) rfl
theorem wd_844 : (Jvm.Cond.methodLink "FourVaultLaw" (39 : Nat) ({ cls := "FourVaultModel", name := "think", desc := "(II)I" } : Jvm.MethodName)) ∈ gtb := tg4 (List.mem_of_getElem? (i := 124) rfl) rfl
theorem wd_845 : (Jvm.Cond.instanceMethod ({ cls := "FourVaultModel", name := "think", desc := "(II)I" } : Jvm.MethodName)) ∈ gtb := tg4 (List.mem_of_getElem? (i := 125) rfl) rfl
theorem wd_846 : (Jvm.Cond.selects "FourVaultModel" ({ cls := "FourVaultModel", name := "think", desc := "(II)I" } : Jvm.MethodName) ({ cls := "FourVaultModel", name := "think", desc := "(II)I" } : Jvm.MethodName)) ∈ gtb := tg4 (List.mem_of_getElem? (i := 126) rfl) rfl
theorem wd_847 : (Jvm.Cond.code ({ cls := "FourVaultModel", name := "think", desc := "(II)I" } : Jvm.MethodName) prog_13_method_23_code (4 : Nat) (Option.some Jvm.ClassFile.FieldType.int)) ∈ gtb := tg4 (List.mem_of_getElem? (i := 127) rfl) rfl
theorem wd_848 : (Jvm.Cond.methodLink "FourVaultLaw" (43 : Nat) ({ cls := "FourVaultModel", name := "brace", desc := "(II)I" } : Jvm.MethodName)) ∈ gtb := tg4 (List.mem_of_getElem? (i := 128) rfl) rfl
theorem wd_849 : (Jvm.Cond.instanceMethod ({ cls := "FourVaultModel", name := "brace", desc := "(II)I" } : Jvm.MethodName)) ∈ gtb := tg4 (List.mem_of_getElem? (i := 129) rfl) rfl
theorem wd_850 : (Jvm.Cond.selects "FourVaultModel" ({ cls := "FourVaultModel", name := "brace", desc := "(II)I" } : Jvm.MethodName) ({ cls := "FourVaultModel", name := "brace", desc := "(II)I" } : Jvm.MethodName)) ∈ gtb := tg4 (List.mem_of_getElem? (i := 130) rfl) rfl
theorem wd_851 : (Jvm.Cond.code ({ cls := "FourVaultModel", name := "brace", desc := "(II)I" } : Jvm.MethodName) prog_13_method_24_code (4 : Nat) (Option.some Jvm.ClassFile.FieldType.int)) ∈ gtb := tg4 (List.mem_of_getElem? (i := 131) rfl) rfl
theorem wd_852 : (Jvm.Cond.methodLink "FourVaultLaw" (47 : Nat) ({ cls := "FourVaultModel", name := "drain", desc := "(II)I" } : Jvm.MethodName)) ∈ gtb := tg4 (List.mem_of_getElem? (i := 132) rfl) rfl
theorem wd_853 : (Jvm.Cond.instanceMethod ({ cls := "FourVaultModel", name := "drain", desc := "(II)I" } : Jvm.MethodName)) ∈ gtb := tg4 (List.mem_of_getElem? (i := 133) rfl) rfl
theorem wd_854 : (Jvm.Cond.selects "FourVaultModel" ({ cls := "FourVaultModel", name := "drain", desc := "(II)I" } : Jvm.MethodName) ({ cls := "FourVaultModel", name := "drain", desc := "(II)I" } : Jvm.MethodName)) ∈ gtb := tg4 (List.mem_of_getElem? (i := 134) rfl) rfl
theorem wd_855 : (Jvm.Cond.code ({ cls := "FourVaultModel", name := "drain", desc := "(II)I" } : Jvm.MethodName) prog_13_method_26_code (3 : Nat) (Option.some Jvm.ClassFile.FieldType.int)) ∈ gtb := tg4 (List.mem_of_getElem? (i := 135) rfl) rfl
theorem wd_856 : (Jvm.Cond.methodLink "FourVaultModel" (157 : Nat) ({ cls := "FourVaultModel", name := "drainOf", desc := "(II)I" } : Jvm.MethodName)) ∈ gtb := tg4 (List.mem_of_getElem? (i := 136) rfl) rfl
theorem wd_857 : (Jvm.Cond.privateMethod ({ cls := "FourVaultModel", name := "drainOf", desc := "(II)I" } : Jvm.MethodName)) ∈ lw_tbl := tm4 (List.mem_of_getElem? (i := 137) rfl)
theorem wd_858 : (Jvm.Cond.instanceMethod ({ cls := "FourVaultModel", name := "drainOf", desc := "(II)I" } : Jvm.MethodName)) ∈ gtb := tg4 (List.mem_of_getElem? (i := 138) rfl) rfl
theorem wd_859 : (Jvm.Cond.code ({ cls := "FourVaultModel", name := "drainOf", desc := "(II)I" } : Jvm.MethodName) prog_13_method_25_code (5 : Nat) (Option.some Jvm.ClassFile.FieldType.int)) ∈ gtb := tg4 (List.mem_of_getElem? (i := 139) rfl) rfl
theorem wd_860 : (Jvm.Cond.methodLink "FourVaultLaw" (51 : Nat) ({ cls := "FourVaultModel", name := "holds", desc := "(II)I" } : Jvm.MethodName)) ∈ gtb := tg4 (List.mem_of_getElem? (i := 140) rfl) rfl
theorem wd_861 : (Jvm.Cond.instanceMethod ({ cls := "FourVaultModel", name := "holds", desc := "(II)I" } : Jvm.MethodName)) ∈ gtb := tg4 (List.mem_of_getElem? (i := 141) rfl) rfl
theorem wd_862 : (Jvm.Cond.selects "FourVaultModel" ({ cls := "FourVaultModel", name := "holds", desc := "(II)I" } : Jvm.MethodName) ({ cls := "FourVaultModel", name := "holds", desc := "(II)I" } : Jvm.MethodName)) ∈ gtb := tg4 (List.mem_of_getElem? (i := 142) rfl) rfl
theorem wd_863 : (Jvm.Cond.code ({ cls := "FourVaultModel", name := "holds", desc := "(II)I" } : Jvm.MethodName) prog_13_method_29_code (3 : Nat) (Option.some Jvm.ClassFile.FieldType.int)) ∈ gtb := tg4 (List.mem_of_getElem? (i := 143) rfl) rfl
theorem wd_864 : (Jvm.Cond.methodLink "FourVaultModel" (160 : Nat) ({ cls := "FourVaultModel", name := "isMinute", desc := "(I)Z" } : Jvm.MethodName)) ∈ gtb := tg4 (List.mem_of_getElem? (i := 144) rfl) rfl
theorem wd_865 : (Jvm.Cond.static ({ cls := "FourVaultModel", name := "isMinute", desc := "(I)Z" } : Jvm.MethodName)) ∈ gtb := tg4 (List.mem_of_getElem? (i := 145) rfl) rfl
theorem wd_866 : (Jvm.Cond.code ({ cls := "FourVaultModel", name := "isMinute", desc := "(I)Z" } : Jvm.MethodName) prog_13_method_28_code (1 : Nat) (Option.some Jvm.ClassFile.FieldType.boolean)) ∈ gtb := tg4 (List.mem_of_getElem? (i := 146) rfl) rfl
theorem wd_867 : (Jvm.Cond.methodLink "FourVaultModel" (163 : Nat) ({ cls := "FourVaultModel", name := "holdsBy", desc := "(III)I" } : Jvm.MethodName)) ∈ gtb := tg4 (List.mem_of_getElem? (i := 147) rfl) rfl
theorem wd_868 : (Jvm.Cond.privateMethod ({ cls := "FourVaultModel", name := "holdsBy", desc := "(III)I" } : Jvm.MethodName)) ∈ lw_tbl := tm4 (List.mem_of_getElem? (i := 148) rfl)
theorem wd_869 : (Jvm.Cond.instanceMethod ({ cls := "FourVaultModel", name := "holdsBy", desc := "(III)I" } : Jvm.MethodName)) ∈ gtb := tg4 (List.mem_of_getElem? (i := 149) rfl) rfl
theorem wd_870 : (Jvm.Cond.code ({ cls := "FourVaultModel", name := "holdsBy", desc := "(III)I" } : Jvm.MethodName) prog_13_method_27_code (6 : Nat) (Option.some Jvm.ClassFile.FieldType.int)) ∈ gtb := tg4 (List.mem_of_getElem? (i := 150) rfl) rfl
theorem wd_871 : (Jvm.Cond.methodLink "FourVaultLaw" (55 : Nat) ({ cls := "FourVaultModel", name := "best", desc := "(II)I" } : Jvm.MethodName)) ∈ gtb := tg4 (List.mem_of_getElem? (i := 151) rfl) rfl
theorem wd_872 : (Jvm.Cond.instanceMethod ({ cls := "FourVaultModel", name := "best", desc := "(II)I" } : Jvm.MethodName)) ∈ gtb := tg4 (List.mem_of_getElem? (i := 152) rfl) rfl
theorem wd_873 : (Jvm.Cond.selects "FourVaultModel" ({ cls := "FourVaultModel", name := "best", desc := "(II)I" } : Jvm.MethodName) ({ cls := "FourVaultModel", name := "best", desc := "(II)I" } : Jvm.MethodName)) ∈ gtb := tg4 (List.mem_of_getElem? (i := 153) rfl) rfl
theorem wd_874 : (Jvm.Cond.code ({ cls := "FourVaultModel", name := "best", desc := "(II)I" } : Jvm.MethodName) prog_13_method_30_code (5 : Nat) (Option.some Jvm.ClassFile.FieldType.int)) ∈ gtb := tg4 (List.mem_of_getElem? (i := 154) rfl) rfl
theorem wd_875 : (Jvm.Cond.methodLink "FourVaultLaw" (60 : Nat) ({ cls := "FourVaultModel", name := "together", desc := "(III)I" } : Jvm.MethodName)) ∈ gtb := tg4 (List.mem_of_getElem? (i := 155) rfl) rfl
theorem wd_876 : (Jvm.Cond.instanceMethod ({ cls := "FourVaultModel", name := "together", desc := "(III)I" } : Jvm.MethodName)) ∈ gtb := tg4 (List.mem_of_getElem? (i := 156) rfl) rfl
theorem wd_877 : (Jvm.Cond.selects "FourVaultModel" ({ cls := "FourVaultModel", name := "together", desc := "(III)I" } : Jvm.MethodName) ({ cls := "FourVaultModel", name := "together", desc := "(III)I" } : Jvm.MethodName)) ∈ gtb := tg4 (List.mem_of_getElem? (i := 157) rfl) rfl
theorem wd_878 : (Jvm.Cond.code ({ cls := "FourVaultModel", name := "together", desc := "(III)I" } : Jvm.MethodName) prog_13_method_32_code (4 : Nat) (Option.some Jvm.ClassFile.FieldType.int)) ∈ gtb := tg4 (List.mem_of_getElem? (i := 158) rfl) rfl
theorem wd_879 : (Jvm.Cond.methodLink "FourVaultModel" (167 : Nat) ({ cls := "FourVaultModel", name := "bothHold", desc := "(III)I" } : Jvm.MethodName)) ∈ gtb := tg4 (List.mem_of_getElem? (i := 159) rfl) rfl
theorem wd_880 : (Jvm.Cond.privateMethod ({ cls := "FourVaultModel", name := "bothHold", desc := "(III)I" } : Jvm.MethodName)) ∈ lw_tbl := tm4 (List.mem_of_getElem? (i := 160) rfl)
theorem wd_881 : (Jvm.Cond.instanceMethod ({ cls := "FourVaultModel", name := "bothHold", desc := "(III)I" } : Jvm.MethodName)) ∈ gtb := tg4 (List.mem_of_getElem? (i := 161) rfl) rfl
theorem wd_882 : (Jvm.Cond.code ({ cls := "FourVaultModel", name := "bothHold", desc := "(III)I" } : Jvm.MethodName) prog_13_method_31_code (6 : Nat) (Option.some Jvm.ClassFile.FieldType.int)) ∈ gtb := tg4 (List.mem_of_getElem? (i := 162) rfl) rfl
theorem wd_883 : (Jvm.Cond.methodLink "FourVaultLaw" (64 : Nat) ({ cls := "FourVaultModel", name := "friend", desc := "(II)I" } : Jvm.MethodName)) ∈ gtb := tg4 (List.mem_of_getElem? (i := 163) rfl) rfl
theorem wd_884 : (Jvm.Cond.instanceMethod ({ cls := "FourVaultModel", name := "friend", desc := "(II)I" } : Jvm.MethodName)) ∈ gtb := tg4 (List.mem_of_getElem? (i := 164) rfl) rfl
theorem wd_885 : (Jvm.Cond.selects "FourVaultModel" ({ cls := "FourVaultModel", name := "friend", desc := "(II)I" } : Jvm.MethodName) ({ cls := "FourVaultModel", name := "friend", desc := "(II)I" } : Jvm.MethodName)) ∈ gtb := tg4 (List.mem_of_getElem? (i := 165) rfl) rfl
theorem wd_886 : (Jvm.Cond.code ({ cls := "FourVaultModel", name := "friend", desc := "(II)I" } : Jvm.MethodName) prog_13_method_33_code (5 : Nat) (Option.some Jvm.ClassFile.FieldType.int)) ∈ gtb := tg4 (List.mem_of_getElem? (i := 166) rfl) rfl
theorem wd_887 : (Jvm.Cond.methodLink "FourVaultLaw" (69 : Nat) ({ cls := "FourVaultModel", name := "night", desc := "(IIIII)I" } : Jvm.MethodName)) ∈ gtb := tg4 (List.mem_of_getElem? (i := 167) rfl) rfl
theorem wd_888 : (Jvm.Cond.instanceMethod ({ cls := "FourVaultModel", name := "night", desc := "(IIIII)I" } : Jvm.MethodName)) ∈ gtb := tg4 (List.mem_of_getElem? (i := 168) rfl) rfl
theorem wd_889 : (Jvm.Cond.selects "FourVaultModel" ({ cls := "FourVaultModel", name := "night", desc := "(IIIII)I" } : Jvm.MethodName) ({ cls := "FourVaultModel", name := "night", desc := "(IIIII)I" } : Jvm.MethodName)) ∈ gtb := tg4 (List.mem_of_getElem? (i := 169) rfl) rfl
theorem wd_890 : (Jvm.Cond.code ({ cls := "FourVaultModel", name := "night", desc := "(IIIII)I" } : Jvm.MethodName) prog_13_method_35_code (9 : Nat) (Option.some Jvm.ClassFile.FieldType.int)) ∈ gtb := tg4 (List.mem_of_getElem? (i := 170) rfl) rfl
theorem wd_891 : (Jvm.Cond.methodLink "FourVaultModel" (176 : Nat) ({ cls := "FourVaultModel", name := "goNight", desc := "(II)I" } : Jvm.MethodName)) ∈ gtb := tg4 (List.mem_of_getElem? (i := 171) rfl) rfl
theorem wd_892 : (Jvm.Cond.privateMethod ({ cls := "FourVaultModel", name := "goNight", desc := "(II)I" } : Jvm.MethodName)) ∈ lw_tbl := tm4 (List.mem_of_getElem? (i := 172) rfl)
theorem wd_893 : (Jvm.Cond.instanceMethod ({ cls := "FourVaultModel", name := "goNight", desc := "(II)I" } : Jvm.MethodName)) ∈ gtb := tg4 (List.mem_of_getElem? (i := 173) rfl) rfl
theorem wd_894 : (Jvm.Cond.code ({ cls := "FourVaultModel", name := "goNight", desc := "(II)I" } : Jvm.MethodName) prog_13_method_34_code (8 : Nat) (Option.some Jvm.ClassFile.FieldType.int)) ∈ gtb := tg4 (List.mem_of_getElem? (i := 174) rfl) rfl
theorem wd_895 : (Jvm.Cond.methodLink "FourVaultModel" (179 : Nat) ({ cls := "FourVaultModel", name := "tellNight", desc := "(I)I" } : Jvm.MethodName)) ∈ gtb := tg4 (List.mem_of_getElem? (i := 175) rfl) rfl
theorem wd_896 : (Jvm.Cond.privateMethod ({ cls := "FourVaultModel", name := "tellNight", desc := "(I)I" } : Jvm.MethodName)) ∈ lw_tbl := tm4 (List.mem_of_getElem? (i := 176) rfl)
theorem wd_897 : (Jvm.Cond.instanceMethod ({ cls := "FourVaultModel", name := "tellNight", desc := "(I)I" } : Jvm.MethodName)) ∈ gtb := tg4 (List.mem_of_getElem? (i := 177) rfl) rfl
theorem wd_898 : (Jvm.Cond.code ({ cls := "FourVaultModel", name := "tellNight", desc := "(I)I" } : Jvm.MethodName) prog_13_method_36_code (4 : Nat) (Option.some Jvm.ClassFile.FieldType.int)) ∈ gtb := tg4 (List.mem_of_getElem? (i := 178) rfl) rfl
theorem wd_899 : (Jvm.Cond.methodLink "FourVaultLaw" (73 : Nat) ({ cls := "FourVaultModel", name := "gets", desc := "(II)I" } : Jvm.MethodName)) ∈ gtb := tg4 (List.mem_of_getElem? (i := 179) rfl) rfl
theorem wd_900 : (Jvm.Cond.instanceMethod ({ cls := "FourVaultModel", name := "gets", desc := "(II)I" } : Jvm.MethodName)) ∈ gtb := tg4 (List.mem_of_getElem? (i := 180) rfl) rfl
theorem wd_901 : (Jvm.Cond.selects "FourVaultModel" ({ cls := "FourVaultModel", name := "gets", desc := "(II)I" } : Jvm.MethodName) ({ cls := "FourVaultModel", name := "gets", desc := "(II)I" } : Jvm.MethodName)) ∈ gtb := tg4 (List.mem_of_getElem? (i := 181) rfl) rfl
theorem wd_902 : (Jvm.Cond.code ({ cls := "FourVaultModel", name := "gets", desc := "(II)I" } : Jvm.MethodName) prog_13_method_38_code (3 : Nat) (Option.some Jvm.ClassFile.FieldType.int)) ∈ gtb := tg4 (List.mem_of_getElem? (i := 182) rfl) rfl
theorem wd_903 : (Jvm.Cond.methodLink "FourVaultModel" (182 : Nat) ({ cls := "FourVaultModel", name := "getsOf", desc := "(II)I" } : Jvm.MethodName)) ∈ gtb := tg4 (List.mem_of_getElem? (i := 183) rfl) rfl
theorem wd_904 : (Jvm.Cond.privateMethod ({ cls := "FourVaultModel", name := "getsOf", desc := "(II)I" } : Jvm.MethodName)) ∈ lw_tbl := tm4 (List.mem_of_getElem? (i := 184) rfl)
theorem wd_905 : (Jvm.Cond.instanceMethod ({ cls := "FourVaultModel", name := "getsOf", desc := "(II)I" } : Jvm.MethodName)) ∈ gtb := tg4 (List.mem_of_getElem? (i := 185) rfl) rfl
theorem wd_906 : (Jvm.Cond.code ({ cls := "FourVaultModel", name := "getsOf", desc := "(II)I" } : Jvm.MethodName) prog_13_method_37_code (6 : Nat) (Option.some Jvm.ClassFile.FieldType.int)) ∈ gtb := tg4 (List.mem_of_getElem? (i := 186) rfl) rfl
theorem wd_907 : (Jvm.Cond.methodLink "FourVaultLaw" (77 : Nat) ({ cls := "FourVaultModel", name := "send", desc := "(II)I" } : Jvm.MethodName)) ∈ gtb := tg4 (List.mem_of_getElem? (i := 187) rfl) rfl
theorem wd_908 : (Jvm.Cond.instanceMethod ({ cls := "FourVaultModel", name := "send", desc := "(II)I" } : Jvm.MethodName)) ∈ gtb := tg4 (List.mem_of_getElem? (i := 188) rfl) rfl
theorem wd_909 : (Jvm.Cond.selects "FourVaultModel" ({ cls := "FourVaultModel", name := "send", desc := "(II)I" } : Jvm.MethodName) ({ cls := "FourVaultModel", name := "send", desc := "(II)I" } : Jvm.MethodName)) ∈ gtb := tg4 (List.mem_of_getElem? (i := 189) rfl) rfl
theorem wd_910 : (Jvm.Cond.code ({ cls := "FourVaultModel", name := "send", desc := "(II)I" } : Jvm.MethodName) prog_13_method_41_code (4 : Nat) (Option.some Jvm.ClassFile.FieldType.int)) ∈ gtb := tg4 (List.mem_of_getElem? (i := 190) rfl) rfl
theorem wd_911 : (Jvm.Cond.methodLink "FourVaultModel" (189 : Nat) ({ cls := "FourVaultModel", name := "findSend", desc := "(I)I" } : Jvm.MethodName)) ∈ gtb := tg4 (List.mem_of_getElem? (i := 191) rfl) rfl
theorem wd_912 : (Jvm.Cond.privateMethod ({ cls := "FourVaultModel", name := "findSend", desc := "(I)I" } : Jvm.MethodName)) ∈ lw_tbl := tm4 (List.mem_of_getElem? (i := 192) rfl)
theorem wd_913 : (Jvm.Cond.instanceMethod ({ cls := "FourVaultModel", name := "findSend", desc := "(I)I" } : Jvm.MethodName)) ∈ gtb := tg4 (List.mem_of_getElem? (i := 193) rfl) rfl
theorem wd_914 : (Jvm.Cond.code ({ cls := "FourVaultModel", name := "findSend", desc := "(I)I" } : Jvm.MethodName) prog_13_method_40_code (8 : Nat) (Option.some Jvm.ClassFile.FieldType.int)) ∈ gtb := tg4 (List.mem_of_getElem? (i := 194) rfl) rfl
theorem wd_915 : (Jvm.Cond.methodLink "FourVaultModel" (185 : Nat) ({ cls := "FourVaultModel", name := "worthOfRow", desc := "()I" } : Jvm.MethodName)) ∈ gtb := tg4 (List.mem_of_getElem? (i := 195) rfl) rfl
theorem wd_916 : (Jvm.Cond.privateMethod ({ cls := "FourVaultModel", name := "worthOfRow", desc := "()I" } : Jvm.MethodName)) ∈ lw_tbl := tm4 (List.mem_of_getElem? (i := 196) rfl)
theorem wd_917 : (Jvm.Cond.instanceMethod ({ cls := "FourVaultModel", name := "worthOfRow", desc := "()I" } : Jvm.MethodName)) ∈ gtb := tg4 (List.mem_of_getElem? (i := 197) rfl) rfl
theorem wd_918 : (Jvm.Cond.code ({ cls := "FourVaultModel", name := "worthOfRow", desc := "()I" } : Jvm.MethodName) prog_13_method_39_code (4 : Nat) (Option.some Jvm.ClassFile.FieldType.int)) ∈ gtb := tg4 (List.mem_of_getElem? (i := 198) rfl) rfl
theorem wd_919 : (Jvm.Cond.methodLink "FourVaultLaw" (81 : Nat) ({ cls := "FourVaultModel", name := "reading", desc := "(III)I" } : Jvm.MethodName)) ∈ gtb := tg4 (List.mem_of_getElem? (i := 199) rfl) rfl
theorem wd_920 : (Jvm.Cond.instanceMethod ({ cls := "FourVaultModel", name := "reading", desc := "(III)I" } : Jvm.MethodName)) ∈ gtb := tg4 (List.mem_of_getElem? (i := 200) rfl) rfl
theorem wd_921 : (Jvm.Cond.selects "FourVaultModel" ({ cls := "FourVaultModel", name := "reading", desc := "(III)I" } : Jvm.MethodName) ({ cls := "FourVaultModel", name := "reading", desc := "(III)I" } : Jvm.MethodName)) ∈ gtb := tg4 (List.mem_of_getElem? (i := 201) rfl) rfl
theorem wd_922 : (Jvm.Cond.code ({ cls := "FourVaultModel", name := "reading", desc := "(III)I" } : Jvm.MethodName) prog_13_method_42_code (4 : Nat) (Option.some Jvm.ClassFile.FieldType.int)) ∈ gtb := tg4 (List.mem_of_getElem? (i := 202) rfl) rfl
theorem wd_923 : (Jvm.Cond.methodLink "FourVaultLaw" (85 : Nat) ({ cls := "FourVaultModel", name := "back", desc := "(I)I" } : Jvm.MethodName)) ∈ gtb := tg4 (List.mem_of_getElem? (i := 203) rfl) rfl
theorem wd_924 : (Jvm.Cond.instanceMethod ({ cls := "FourVaultModel", name := "back", desc := "(I)I" } : Jvm.MethodName)) ∈ gtb := tg4 (List.mem_of_getElem? (i := 204) rfl) rfl
theorem wd_925 : (Jvm.Cond.selects "FourVaultModel" ({ cls := "FourVaultModel", name := "back", desc := "(I)I" } : Jvm.MethodName) ({ cls := "FourVaultModel", name := "back", desc := "(I)I" } : Jvm.MethodName)) ∈ gtb := tg4 (List.mem_of_getElem? (i := 205) rfl) rfl
theorem wd_926 : (Jvm.Cond.code ({ cls := "FourVaultModel", name := "back", desc := "(I)I" } : Jvm.MethodName) prog_13_method_43_code (2 : Nat) (Option.some Jvm.ClassFile.FieldType.int)) ∈ gtb := tg4 (List.mem_of_getElem? (i := 206) rfl) rfl
theorem wd_927 : (Jvm.Cond.methodLink "FourVaultLaw" (89 : Nat) ({ cls := "FourVaultModel", name := "minds", desc := "(I)I" } : Jvm.MethodName)) ∈ gtb := tg4 (List.mem_of_getElem? (i := 207) rfl) rfl
theorem wd_928 : (Jvm.Cond.instanceMethod ({ cls := "FourVaultModel", name := "minds", desc := "(I)I" } : Jvm.MethodName)) ∈ gtb := tg4 (List.mem_of_getElem? (i := 208) rfl) rfl
theorem wd_929 : (Jvm.Cond.selects "FourVaultModel" ({ cls := "FourVaultModel", name := "minds", desc := "(I)I" } : Jvm.MethodName) ({ cls := "FourVaultModel", name := "minds", desc := "(I)I" } : Jvm.MethodName)) ∈ gtb := tg4 (List.mem_of_getElem? (i := 209) rfl) rfl
theorem wd_930 : (Jvm.Cond.code ({ cls := "FourVaultModel", name := "minds", desc := "(I)I" } : Jvm.MethodName) prog_13_method_45_code (5 : Nat) (Option.some Jvm.ClassFile.FieldType.int)) ∈ gtb := tg4 (List.mem_of_getElem? (i := 210) rfl) rfl
theorem wd_931 : (Jvm.Cond.methodLink "FourVaultModel" (192 : Nat) ({ cls := "FourVaultModel", name := "areSo", desc := "()Z" } : Jvm.MethodName)) ∈ gtb := tg4 (List.mem_of_getElem? (i := 211) rfl) rfl
theorem wd_932 : (Jvm.Cond.privateMethod ({ cls := "FourVaultModel", name := "areSo", desc := "()Z" } : Jvm.MethodName)) ∈ lw_tbl := tm4 (List.mem_of_getElem? (i := 212) rfl)
theorem wd_933 : (Jvm.Cond.instanceMethod ({ cls := "FourVaultModel", name := "areSo", desc := "()Z" } : Jvm.MethodName)) ∈ gtb := tg4 (List.mem_of_getElem? (i := 213) rfl) rfl
theorem wd_934 : (Jvm.Cond.code ({ cls := "FourVaultModel", name := "areSo", desc := "()Z" } : Jvm.MethodName) prog_13_method_44_code (2 : Nat) (Option.some Jvm.ClassFile.FieldType.boolean)) ∈ gtb := tg4 (List.mem_of_getElem? (i := 214) rfl) rfl
theorem wd_935 : (Jvm.Cond.methodLink "FourVaultLaw" (93 : Nat) ({ cls := "FourVaultModel", name := "kinds", desc := "(I)I" } : Jvm.MethodName)) ∈ gtb := tg4 (List.mem_of_getElem? (i := 215) rfl) rfl
theorem wd_936 : (Jvm.Cond.instanceMethod ({ cls := "FourVaultModel", name := "kinds", desc := "(I)I" } : Jvm.MethodName)) ∈ gtb := tg4 (List.mem_of_getElem? (i := 216) rfl) rfl
theorem wd_937 : (Jvm.Cond.selects "FourVaultModel" ({ cls := "FourVaultModel", name := "kinds", desc := "(I)I" } : Jvm.MethodName) ({ cls := "FourVaultModel", name := "kinds", desc := "(I)I" } : Jvm.MethodName)) ∈ gtb := tg4 (List.mem_of_getElem? (i := 217) rfl) rfl
theorem wd_938 : (Jvm.Cond.code ({ cls := "FourVaultModel", name := "kinds", desc := "(I)I" } : Jvm.MethodName) prog_13_method_46_code (5 : Nat) (Option.some Jvm.ClassFile.FieldType.int)) ∈ gtb := tg4 (List.mem_of_getElem? (i := 218) rfl) rfl
theorem wd_939 : (Jvm.Cond.methodLink "FourVaultLaw" (97 : Nat) ({ cls := "FourVaultModel", name := "glooms", desc := "(I)I" } : Jvm.MethodName)) ∈ gtb := tg4 (List.mem_of_getElem? (i := 219) rfl) rfl
theorem wd_940 : (Jvm.Cond.instanceMethod ({ cls := "FourVaultModel", name := "glooms", desc := "(I)I" } : Jvm.MethodName)) ∈ gtb := tg4 (List.mem_of_getElem? (i := 220) rfl) rfl
theorem wd_941 : (Jvm.Cond.selects "FourVaultModel" ({ cls := "FourVaultModel", name := "glooms", desc := "(I)I" } : Jvm.MethodName) ({ cls := "FourVaultModel", name := "glooms", desc := "(I)I" } : Jvm.MethodName)) ∈ gtb := tg4 (List.mem_of_getElem? (i := 221) rfl) rfl
theorem wd_942 : (Jvm.Cond.code ({ cls := "FourVaultModel", name := "glooms", desc := "(I)I" } : Jvm.MethodName) prog_13_method_47_code (5 : Nat) (Option.some Jvm.ClassFile.FieldType.int)) ∈ gtb := tg4 (List.mem_of_getElem? (i := 222) rfl) rfl
theorem wd_943 : (Jvm.Cond.methodLink "FourVaultLaw" (102 : Nat) ({ cls := "FourVaultModel", name := "odds", desc := "(III)J" } : Jvm.MethodName)) ∈ gtb := tg4 (List.mem_of_getElem? (i := 223) rfl) rfl
theorem wd_944 : (Jvm.Cond.instanceMethod ({ cls := "FourVaultModel", name := "odds", desc := "(III)J" } : Jvm.MethodName)) ∈ gtb := tg4 (List.mem_of_getElem? (i := 224) rfl) rfl
theorem wd_945 : (Jvm.Cond.selects "FourVaultModel" ({ cls := "FourVaultModel", name := "odds", desc := "(III)J" } : Jvm.MethodName) ({ cls := "FourVaultModel", name := "odds", desc := "(III)J" } : Jvm.MethodName)) ∈ gtb := tg4 (List.mem_of_getElem? (i := 225) rfl) rfl
theorem wd_946 : (Jvm.Cond.code ({ cls := "FourVaultModel", name := "odds", desc := "(III)J" } : Jvm.MethodName) prog_13_method_49_code (6 : Nat) (Option.some Jvm.ClassFile.FieldType.long)) ∈ gtb := tg4 (List.mem_of_getElem? (i := 226) rfl) rfl
theorem wd_947 : (Jvm.Cond.constantLong "FourVaultModel" (80 : Nat) (-9223372036854775808 : Int64)) ∈ gtb := tg4 (List.mem_of_getElem? (i := 227) rfl) rfl
theorem wd_948 : (Jvm.Cond.methodLink "FourVaultModel" (196 : Nat) ({ cls := "FourVaultModel", name := "inLeastTerms", desc := "(JJI)J" } : Jvm.MethodName)) ∈ gtb := tg4 (List.mem_of_getElem? (i := 228) rfl) rfl
theorem wd_949 : (Jvm.Cond.static ({ cls := "FourVaultModel", name := "inLeastTerms", desc := "(JJI)J" } : Jvm.MethodName)) ∈ gtb := tg4 (List.mem_of_getElem? (i := 229) rfl) rfl
theorem wd_950 : (Jvm.Cond.code ({ cls := "FourVaultModel", name := "inLeastTerms", desc := "(JJI)J" } : Jvm.MethodName) prog_13_method_48_code (11 : Nat) (Option.some Jvm.ClassFile.FieldType.long)) ∈ gtb := tg4 (List.mem_of_getElem? (i := 230) rfl) rfl
theorem wd_951 : (Jvm.Cond.methodLink "FourVaultLaw" (106 : Nat) ({ cls := "FourVaultModel", name := "sheet", desc := "(III)I" } : Jvm.MethodName)) ∈ gtb := tg4 (List.mem_of_getElem? (i := 231) rfl) rfl
theorem wd_952 : (Jvm.Cond.instanceMethod ({ cls := "FourVaultModel", name := "sheet", desc := "(III)I" } : Jvm.MethodName)) ∈ gtb := tg4 (List.mem_of_getElem? (i := 232) rfl) rfl
theorem wd_953 : (Jvm.Cond.selects "FourVaultModel" ({ cls := "FourVaultModel", name := "sheet", desc := "(III)I" } : Jvm.MethodName) ({ cls := "FourVaultModel", name := "sheet", desc := "(III)I" } : Jvm.MethodName)) ∈ gtb := tg4 (List.mem_of_getElem? (i := 233) rfl) rfl
theorem wd_954 : (Jvm.Cond.code ({ cls := "FourVaultModel", name := "sheet", desc := "(III)I" } : Jvm.MethodName) prog_13_method_50_code (5 : Nat) (Option.some Jvm.ClassFile.FieldType.int)) ∈ gtb := tg4 (List.mem_of_getElem? (i := 234) rfl) rfl
theorem wd_955 : (Jvm.Cond.methodLink "FourVaultLaw" (110 : Nat) ({ cls := "FourVaultModel", name := "lose", desc := "(I)I" } : Jvm.MethodName)) ∈ gtb := tg4 (List.mem_of_getElem? (i := 235) rfl) rfl
theorem wd_956 : (Jvm.Cond.instanceMethod ({ cls := "FourVaultModel", name := "lose", desc := "(I)I" } : Jvm.MethodName)) ∈ gtb := tg4 (List.mem_of_getElem? (i := 236) rfl) rfl
theorem wd_957 : (Jvm.Cond.selects "FourVaultModel" ({ cls := "FourVaultModel", name := "lose", desc := "(I)I" } : Jvm.MethodName) ({ cls := "FourVaultModel", name := "lose", desc := "(I)I" } : Jvm.MethodName)) ∈ gtb := tg4 (List.mem_of_getElem? (i := 237) rfl) rfl
theorem wd_958 : (Jvm.Cond.code ({ cls := "FourVaultModel", name := "lose", desc := "(I)I" } : Jvm.MethodName) prog_13_method_51_code (3 : Nat) (Option.some Jvm.ClassFile.FieldType.int)) ∈ gtb := tg4 (List.mem_of_getElem? (i := 238) rfl) rfl
theorem wd_959 : (Jvm.Cond.methodLink "FourVaultLaw" (114 : Nat) ({ cls := "FourVaultModel", name := "put", desc := "(III)I" } : Jvm.MethodName)) ∈ gtb := tg4 (List.mem_of_getElem? (i := 239) rfl) rfl
theorem wd_960 : (Jvm.Cond.instanceMethod ({ cls := "FourVaultModel", name := "put", desc := "(III)I" } : Jvm.MethodName)) ∈ gtb := tg5 (List.mem_of_getElem? (i := 0) rfl) rfl
theorem wd_961 : (Jvm.Cond.selects "FourVaultModel" ({ cls := "FourVaultModel", name := "put", desc := "(III)I" } : Jvm.MethodName) ({ cls := "FourVaultModel", name := "put", desc := "(III)I" } : Jvm.MethodName)) ∈ gtb := tg5 (List.mem_of_getElem? (i := 1) rfl) rfl
theorem wd_962 : (Jvm.Cond.code ({ cls := "FourVaultModel", name := "put", desc := "(III)I" } : Jvm.MethodName) prog_13_method_52_code (4 : Nat) (Option.some Jvm.ClassFile.FieldType.int)) ∈ gtb := tg5 (List.mem_of_getElem? (i := 2) rfl) rfl
theorem wd_963 : (Jvm.Cond.methodLink "FourVaultLaw" (118 : Nat) ({ cls := "FourVaultModel", name := "cell", desc := "(III)J" } : Jvm.MethodName)) ∈ gtb := tg5 (List.mem_of_getElem? (i := 3) rfl) rfl
theorem wd_964 : (Jvm.Cond.instanceMethod ({ cls := "FourVaultModel", name := "cell", desc := "(III)J" } : Jvm.MethodName)) ∈ gtb := tg5 (List.mem_of_getElem? (i := 4) rfl) rfl
theorem wd_965 : (Jvm.Cond.selects "FourVaultModel" ({ cls := "FourVaultModel", name := "cell", desc := "(III)J" } : Jvm.MethodName) ({ cls := "FourVaultModel", name := "cell", desc := "(III)J" } : Jvm.MethodName)) ∈ gtb := tg5 (List.mem_of_getElem? (i := 5) rfl) rfl
theorem wd_966 : (Jvm.Cond.code ({ cls := "FourVaultModel", name := "cell", desc := "(III)J" } : Jvm.MethodName) prog_13_method_53_code (4 : Nat) (Option.some Jvm.ClassFile.FieldType.long)) ∈ gtb := tg5 (List.mem_of_getElem? (i := 6) rfl) rfl
theorem wd_967 : (Jvm.Cond.methodLink "FourVaultModel" (200 : Nat) ({ cls := "FourVaultModel", name := "lost", desc := "(I)J" } : Jvm.MethodName)) ∈ gtb := tg5 (List.mem_of_getElem? (i := 7) rfl) rfl
theorem wd_968 : (Jvm.Cond.privateMethod ({ cls := "FourVaultModel", name := "lost", desc := "(I)J" } : Jvm.MethodName)) ∈ lw_tbl := tm5 (List.mem_of_getElem? (i := 8) rfl)
theorem wd_969 : (Jvm.Cond.instanceMethod ({ cls := "FourVaultModel", name := "lost", desc := "(I)J" } : Jvm.MethodName)) ∈ gtb := tg5 (List.mem_of_getElem? (i := 9) rfl) rfl
theorem wd_970 : (Jvm.Cond.code ({ cls := "FourVaultModel", name := "lost", desc := "(I)J" } : Jvm.MethodName) prog_13_method_4_code (2 : Nat) (Option.some Jvm.ClassFile.FieldType.long)) ∈ gtb := tg5 (List.mem_of_getElem? (i := 10) rfl) rfl
theorem wd_971 : (Jvm.Cond.methodLink "FourVaultLaw" (122 : Nat) ({ cls := "FourVaultModel", name := "copy", desc := "(IIIII)I" } : Jvm.MethodName)) ∈ gtb := tg5 (List.mem_of_getElem? (i := 11) rfl) rfl
theorem wd_972 : (Jvm.Cond.instanceMethod ({ cls := "FourVaultModel", name := "copy", desc := "(IIIII)I" } : Jvm.MethodName)) ∈ gtb := tg5 (List.mem_of_getElem? (i := 12) rfl) rfl
theorem wd_973 : (Jvm.Cond.selects "FourVaultModel" ({ cls := "FourVaultModel", name := "copy", desc := "(IIIII)I" } : Jvm.MethodName) ({ cls := "FourVaultModel", name := "copy", desc := "(IIIII)I" } : Jvm.MethodName)) ∈ gtb := tg5 (List.mem_of_getElem? (i := 13) rfl) rfl
theorem wd_974 : (Jvm.Cond.code ({ cls := "FourVaultModel", name := "copy", desc := "(IIIII)I" } : Jvm.MethodName) prog_13_method_54_code (10 : Nat) (Option.some Jvm.ClassFile.FieldType.int)) ∈ gtb := tg5 (List.mem_of_getElem? (i := 14) rfl) rfl
theorem wd_975 : (Jvm.Cond.methodLink "FourVaultLaw" (126 : Nat) ({ cls := "FourVaultModel", name := "tell", desc := "(I)I" } : Jvm.MethodName)) ∈ gtb := tg5 (List.mem_of_getElem? (i := 15) rfl) rfl
theorem wd_976 : (Jvm.Cond.instanceMethod ({ cls := "FourVaultModel", name := "tell", desc := "(I)I" } : Jvm.MethodName)) ∈ gtb := tg5 (List.mem_of_getElem? (i := 16) rfl) rfl
theorem wd_977 : (Jvm.Cond.selects "FourVaultModel" ({ cls := "FourVaultModel", name := "tell", desc := "(I)I" } : Jvm.MethodName) ({ cls := "FourVaultModel", name := "tell", desc := "(I)I" } : Jvm.MethodName)) ∈ gtb := tg5 (List.mem_of_getElem? (i := 17) rfl) rfl
theorem wd_978 : (Jvm.Cond.code ({ cls := "FourVaultModel", name := "tell", desc := "(I)I" } : Jvm.MethodName) prog_13_method_56_code (3 : Nat) (Option.some Jvm.ClassFile.FieldType.int)) ∈ gtb := tg5 (List.mem_of_getElem? (i := 18) rfl) rfl
theorem wd_979 : (Jvm.Cond.methodLink "FourVaultModel" (207 : Nat) ({ cls := "FourVaultModel", name := "begins", desc := "(I)V" } : Jvm.MethodName)) ∈ gtb := tg5 (List.mem_of_getElem? (i := 19) rfl) rfl
theorem wd_980 : (Jvm.Cond.privateMethod ({ cls := "FourVaultModel", name := "begins", desc := "(I)V" } : Jvm.MethodName)) ∈ lw_tbl := tm5 (List.mem_of_getElem? (i := 20) rfl)
theorem wd_981 : (Jvm.Cond.instanceMethod ({ cls := "FourVaultModel", name := "begins", desc := "(I)V" } : Jvm.MethodName)) ∈ gtb := tg5 (List.mem_of_getElem? (i := 21) rfl) rfl
theorem wd_982 : (Jvm.Cond.code ({ cls := "FourVaultModel", name := "begins", desc := "(I)V" } : Jvm.MethodName) prog_13_method_55_code (2 : Nat) (Option.none : Option Jvm.ClassFile.FieldType)) ∈ gtb := tg5 (List.mem_of_getElem? (i := 22) rfl) rfl
theorem wd_983 : (Jvm.Cond.methodLink "FourVaultLaw" (130 : Nat) ({ cls := "FourVaultModel", name := "ring", desc := "(I)I" } : Jvm.MethodName)) ∈ gtb := tg5 (List.mem_of_getElem? (i := 23) rfl) rfl
theorem wd_984 : (Jvm.Cond.instanceMethod ({ cls := "FourVaultModel", name := "ring", desc := "(I)I" } : Jvm.MethodName)) ∈ gtb := tg5 (List.mem_of_getElem? (i := 24) rfl) rfl
theorem wd_985 : (Jvm.Cond.selects "FourVaultModel" ({ cls := "FourVaultModel", name := "ring", desc := "(I)I" } : Jvm.MethodName) ({ cls := "FourVaultModel", name := "ring", desc := "(I)I" } : Jvm.MethodName)) ∈ gtb := tg5 (List.mem_of_getElem? (i := 25) rfl) rfl
theorem wd_986 : (Jvm.Cond.code ({ cls := "FourVaultModel", name := "ring", desc := "(I)I" } : Jvm.MethodName) prog_13_method_57_code (2 : Nat) (Option.some Jvm.ClassFile.FieldType.int)) ∈ gtb := tg5 (List.mem_of_getElem? (i := 26) rfl) rfl
theorem wd_987 : (Jvm.Cond.methodLink "FourVaultLaw" (134 : Nat) ({ cls := "FourVaultModel", name := "as", desc := "(II)I" } : Jvm.MethodName)) ∈ gtb := tg5 (List.mem_of_getElem? (i := 27) rfl) rfl
theorem wd_988 : (Jvm.Cond.instanceMethod ({ cls := "FourVaultModel", name := "as", desc := "(II)I" } : Jvm.MethodName)) ∈ gtb := tg5 (List.mem_of_getElem? (i := 28) rfl) rfl
theorem wd_989 : (Jvm.Cond.selects "FourVaultModel" ({ cls := "FourVaultModel", name := "as", desc := "(II)I" } : Jvm.MethodName) ({ cls := "FourVaultModel", name := "as", desc := "(II)I" } : Jvm.MethodName)) ∈ gtb := tg5 (List.mem_of_getElem? (i := 29) rfl) rfl
theorem wd_990 : (Jvm.Cond.code ({ cls := "FourVaultModel", name := "as", desc := "(II)I" } : Jvm.MethodName) prog_13_method_58_code (3 : Nat) (Option.some Jvm.ClassFile.FieldType.int)) ∈ gtb := tg5 (List.mem_of_getElem? (i := 30) rfl) rfl
theorem wd_991 : (Jvm.Cond.methodLink "FourVaultLaw" (139 : Nat) ({ cls := "FourVaultModel", name := "trace", desc := "()I" } : Jvm.MethodName)) ∈ gtb := tg5 (List.mem_of_getElem? (i := 31) rfl) rfl
theorem wd_992 : (Jvm.Cond.instanceMethod ({ cls := "FourVaultModel", name := "trace", desc := "()I" } : Jvm.MethodName)) ∈ gtb := tg5 (List.mem_of_getElem? (i := 32) rfl) rfl
theorem wd_993 : (Jvm.Cond.selects "FourVaultModel" ({ cls := "FourVaultModel", name := "trace", desc := "()I" } : Jvm.MethodName) ({ cls := "FourVaultModel", name := "trace", desc := "()I" } : Jvm.MethodName)) ∈ gtb := tg5 (List.mem_of_getElem? (i := 33) rfl) rfl
theorem wd_994 : (Jvm.Cond.code ({ cls := "FourVaultModel", name := "trace", desc := "()I" } : Jvm.MethodName) prog_13_method_59_code (1 : Nat) (Option.some Jvm.ClassFile.FieldType.int)) ∈ gtb := tg5 (List.mem_of_getElem? (i := 34) rfl) rfl
theorem wd_995 : (Jvm.Cond.methodLink "FourVaultLaw" (143 : Nat) ({ cls := "FourVaultModel", name := "fault", desc := "()I" } : Jvm.MethodName)) ∈ gtb := tg5 (List.mem_of_getElem? (i := 35) rfl) rfl
theorem wd_996 : (Jvm.Cond.instanceMethod ({ cls := "FourVaultModel", name := "fault", desc := "()I" } : Jvm.MethodName)) ∈ gtb := tg5 (List.mem_of_getElem? (i := 36) rfl) rfl
theorem wd_997 : (Jvm.Cond.selects "FourVaultModel" ({ cls := "FourVaultModel", name := "fault", desc := "()I" } : Jvm.MethodName) ({ cls := "FourVaultModel", name := "fault", desc := "()I" } : Jvm.MethodName)) ∈ gtb := tg5 (List.mem_of_getElem? (i := 37) rfl) rfl
theorem wd_998 : (Jvm.Cond.code ({ cls := "FourVaultModel", name := "fault", desc := "()I" } : Jvm.MethodName) prog_13_method_60_code (1 : Nat) (Option.some Jvm.ClassFile.FieldType.int)) ∈ gtb := tg5 (List.mem_of_getElem? (i := 38) rfl) rfl
theorem wd_999 : (Jvm.Cond.methodLink "FourVaultLaw" (147 : Nat) ({ cls := "FourVaultModel", name := "many", desc := "(I)I" } : Jvm.MethodName)) ∈ gtb := tg5 (List.mem_of_getElem? (i := 39) rfl) rfl
theorem wd_1000 : (Jvm.Cond.instanceMethod ({ cls := "FourVaultModel", name := "many", desc := "(I)I" } : Jvm.MethodName)) ∈ gtb := tg5 (List.mem_of_getElem? (i := 40) rfl) rfl
theorem wd_1001 : (Jvm.Cond.selects "FourVaultModel" ({ cls := "FourVaultModel", name := "many", desc := "(I)I" } : Jvm.MethodName) ({ cls := "FourVaultModel", name := "many", desc := "(I)I" } : Jvm.MethodName)) ∈ gtb := tg5 (List.mem_of_getElem? (i := 41) rfl) rfl
theorem wd_1002 : (Jvm.Cond.code ({ cls := "FourVaultModel", name := "many", desc := "(I)I" } : Jvm.MethodName) prog_13_method_61_code (2 : Nat) (Option.some Jvm.ClassFile.FieldType.int)) ∈ gtb := tg5 (List.mem_of_getElem? (i := 42) rfl) rfl
theorem wd_1003 : (Jvm.Cond.sameMethod "FourVault$Singer" "FourVault$Singer" "telling" "(LFourVault$Trace;)I") ∈ gtb := tg5 (List.mem_of_getElem? (i := 43) rfl) rfl
theorem wd_1004 : (Jvm.Cond.sameMethod "FourVault$Taker" "FourVault$Taker" "takersTelling" "(LFourVault$Trace;)I") ∈ gtb := tg5 (List.mem_of_getElem? (i := 44) rfl) rfl
theorem wd_1005 : (Jvm.Cond.selects "FourVault$Singer" ({ cls := "FourVault$Taker", name := "takersTelling", desc := "(LFourVault$Trace;)I" } : Jvm.MethodName) ({ cls := "FourVault$Taker", name := "takersTelling", desc := "(LFourVault$Trace;)I" } : Jvm.MethodName)) ∈ gtb := tg5 (List.mem_of_getElem? (i := 45) rfl) rfl
theorem wd_1006 : (Jvm.Cond.selects "FourVault$Taker" ({ cls := "FourVault$Taker", name := "takersTelling", desc := "(LFourVault$Trace;)I" } : Jvm.MethodName) ({ cls := "FourVault$Taker", name := "takersTelling", desc := "(LFourVault$Trace;)I" } : Jvm.MethodName)) ∈ gtb := tg5 (List.mem_of_getElem? (i := 46) rfl) rfl
theorem wd_1007 : (Jvm.Cond.selects "FourVault$Widow" ({ cls := "FourVault$Taker", name := "takersTelling", desc := "(LFourVault$Trace;)I" } : Jvm.MethodName) ({ cls := "FourVault$Taker", name := "takersTelling", desc := "(LFourVault$Trace;)I" } : Jvm.MethodName)) ∈ gtb := tg5 (List.mem_of_getElem? (i := 47) rfl) rfl
theorem wd_1008 : (Jvm.Cond.castable "FourVault$Widow" "FourVault$Singer") ∈ lw_tbl := tm5 (List.mem_of_getElem? (i := 48) rfl)
theorem wd_1009 : (Jvm.Cond.castable "FourVault$Singer" "FourVault$Taker") ∈ lw_tbl := tm5 (List.mem_of_getElem? (i := 49) rfl)
theorem wd_1010 : (Jvm.Cond.castable "FourVault$Widow" "FourVault$Taker") ∈ lw_tbl := tm5 (List.mem_of_getElem? (i := 50) rfl)
theorem ws_0 : (Jvm.Cond.selects "FourVault" ({ cls := "FourVault", name := "faulted", desc := "(I)I" } : Jvm.MethodName) ({ cls := "FourVault", name := "faulted", desc := "(I)I" } : Jvm.MethodName)) ∈ gtb := List.mem_filter.mpr ⟨List.mem_append_left _ (List.mem_of_getElem? (i := 0) rfl), rfl⟩
theorem ws_1 : (Jvm.Cond.selects "FourVault" ({ cls := "FourVault", name := "lost", desc := "(I)J" } : Jvm.MethodName) ({ cls := "FourVault", name := "lost", desc := "(I)J" } : Jvm.MethodName)) ∈ gtb := List.mem_filter.mpr ⟨List.mem_append_left _ (List.mem_of_getElem? (i := 1) rfl), rfl⟩
theorem ws_2 : (Jvm.Cond.selects "FourVaultModel" ({ cls := "FourVaultModel", name := "against", desc := "(IIII)I" } : Jvm.MethodName) ({ cls := "FourVaultModel", name := "against", desc := "(IIII)I" } : Jvm.MethodName)) ∈ gtb := List.mem_filter.mpr ⟨List.mem_append_left _ (List.mem_of_getElem? (i := 2) rfl), rfl⟩
theorem ws_3 : (Jvm.Cond.selects "FourVaultModel" ({ cls := "FourVaultModel", name := "fails", desc := "(I)I" } : Jvm.MethodName) ({ cls := "FourVaultModel", name := "fails", desc := "(I)I" } : Jvm.MethodName)) ∈ gtb := List.mem_filter.mpr ⟨List.mem_append_left _ (List.mem_of_getElem? (i := 3) rfl), rfl⟩
theorem ws_4 : (Jvm.Cond.selects "FourVaultModel" ({ cls := "FourVaultModel", name := "readVault", desc := "(I)Z" } : Jvm.MethodName) ({ cls := "FourVaultModel", name := "readVault", desc := "(I)Z" } : Jvm.MethodName)) ∈ gtb := List.mem_filter.mpr ⟨List.mem_append_left _ (List.mem_of_getElem? (i := 4) rfl), rfl⟩
theorem ws_5 : (Jvm.Cond.selects "FourVaultModel" ({ cls := "FourVaultModel", name := "isSign", desc := "(II)Z" } : Jvm.MethodName) ({ cls := "FourVaultModel", name := "isSign", desc := "(II)Z" } : Jvm.MethodName)) ∈ gtb := List.mem_filter.mpr ⟨List.mem_append_left _ (List.mem_of_getElem? (i := 5) rfl), rfl⟩
theorem ws_6 : (Jvm.Cond.selects "FourVaultModel" ({ cls := "FourVaultModel", name := "readTheGloom", desc := "(I)Z" } : Jvm.MethodName) ({ cls := "FourVaultModel", name := "readTheGloom", desc := "(I)Z" } : Jvm.MethodName)) ∈ gtb := List.mem_filter.mpr ⟨List.mem_append_left _ (List.mem_of_getElem? (i := 6) rfl), rfl⟩
theorem ws_7 : (Jvm.Cond.selects "FourVaultModel" ({ cls := "FourVaultModel", name := "digit", desc := "(II)I" } : Jvm.MethodName) ({ cls := "FourVaultModel", name := "digit", desc := "(II)I" } : Jvm.MethodName)) ∈ gtb := List.mem_filter.mpr ⟨List.mem_append_left _ (List.mem_of_getElem? (i := 7) rfl), rfl⟩
theorem ws_8 : (Jvm.Cond.selects "FourVaultModel" ({ cls := "FourVaultModel", name := "readTaker", desc := "(I)Z" } : Jvm.MethodName) ({ cls := "FourVaultModel", name := "readTaker", desc := "(I)Z" } : Jvm.MethodName)) ∈ gtb := List.mem_filter.mpr ⟨List.mem_append_left _ (List.mem_of_getElem? (i := 8) rfl), rfl⟩
theorem ws_9 : (Jvm.Cond.selects "FourVaultModel" ({ cls := "FourVaultModel", name := "readTheGoods", desc := "(I)Z" } : Jvm.MethodName) ({ cls := "FourVaultModel", name := "readTheGoods", desc := "(I)Z" } : Jvm.MethodName)) ∈ gtb := List.mem_filter.mpr ⟨List.mem_append_left _ (List.mem_of_getElem? (i := 9) rfl), rfl⟩
theorem ws_10 : (Jvm.Cond.selects "FourVaultModel" ({ cls := "FourVaultModel", name := "takeVault", desc := "()V" } : Jvm.MethodName) ({ cls := "FourVaultModel", name := "takeVault", desc := "()V" } : Jvm.MethodName)) ∈ gtb := List.mem_filter.mpr ⟨List.mem_append_left _ (List.mem_of_getElem? (i := 10) rfl), rfl⟩
theorem ws_11 : (Jvm.Cond.selects "FourVaultModel" ({ cls := "FourVaultModel", name := "isTaker", desc := "(I)Z" } : Jvm.MethodName) ({ cls := "FourVaultModel", name := "isTaker", desc := "(I)Z" } : Jvm.MethodName)) ∈ gtb := List.mem_filter.mpr ⟨List.mem_append_left _ (List.mem_of_getElem? (i := 11) rfl), rfl⟩
theorem ws_12 : (Jvm.Cond.selects "FourVaultModel" ({ cls := "FourVaultModel", name := "isPlace", desc := "(I)Z" } : Jvm.MethodName) ({ cls := "FourVaultModel", name := "isPlace", desc := "(I)Z" } : Jvm.MethodName)) ∈ gtb := List.mem_filter.mpr ⟨List.mem_append_left _ (List.mem_of_getElem? (i := 12) rfl), rfl⟩
theorem ws_13 : (Jvm.Cond.selects "FourVaultModel" ({ cls := "FourVaultModel", name := "drainOf", desc := "(II)I" } : Jvm.MethodName) ({ cls := "FourVaultModel", name := "drainOf", desc := "(II)I" } : Jvm.MethodName)) ∈ gtb := List.mem_filter.mpr ⟨List.mem_append_left _ (List.mem_of_getElem? (i := 13) rfl), rfl⟩
theorem ws_14 : (Jvm.Cond.selects "FourVaultModel" ({ cls := "FourVaultModel", name := "holdsBy", desc := "(III)I" } : Jvm.MethodName) ({ cls := "FourVaultModel", name := "holdsBy", desc := "(III)I" } : Jvm.MethodName)) ∈ gtb := List.mem_filter.mpr ⟨List.mem_append_left _ (List.mem_of_getElem? (i := 14) rfl), rfl⟩
theorem ws_15 : (Jvm.Cond.selects "FourVaultModel" ({ cls := "FourVaultModel", name := "bothHold", desc := "(III)I" } : Jvm.MethodName) ({ cls := "FourVaultModel", name := "bothHold", desc := "(III)I" } : Jvm.MethodName)) ∈ gtb := List.mem_filter.mpr ⟨List.mem_append_left _ (List.mem_of_getElem? (i := 15) rfl), rfl⟩
theorem ws_16 : (Jvm.Cond.selects "FourVaultModel" ({ cls := "FourVaultModel", name := "goNight", desc := "(II)I" } : Jvm.MethodName) ({ cls := "FourVaultModel", name := "goNight", desc := "(II)I" } : Jvm.MethodName)) ∈ gtb := List.mem_filter.mpr ⟨List.mem_append_left _ (List.mem_of_getElem? (i := 16) rfl), rfl⟩
theorem ws_17 : (Jvm.Cond.selects "FourVaultModel" ({ cls := "FourVaultModel", name := "tellNight", desc := "(I)I" } : Jvm.MethodName) ({ cls := "FourVaultModel", name := "tellNight", desc := "(I)I" } : Jvm.MethodName)) ∈ gtb := List.mem_filter.mpr ⟨List.mem_append_left _ (List.mem_of_getElem? (i := 17) rfl), rfl⟩
theorem ws_18 : (Jvm.Cond.selects "FourVaultModel" ({ cls := "FourVaultModel", name := "getsOf", desc := "(II)I" } : Jvm.MethodName) ({ cls := "FourVaultModel", name := "getsOf", desc := "(II)I" } : Jvm.MethodName)) ∈ gtb := List.mem_filter.mpr ⟨List.mem_append_left _ (List.mem_of_getElem? (i := 18) rfl), rfl⟩
theorem ws_19 : (Jvm.Cond.selects "FourVaultModel" ({ cls := "FourVaultModel", name := "findSend", desc := "(I)I" } : Jvm.MethodName) ({ cls := "FourVaultModel", name := "findSend", desc := "(I)I" } : Jvm.MethodName)) ∈ gtb := List.mem_filter.mpr ⟨List.mem_append_left _ (List.mem_of_getElem? (i := 19) rfl), rfl⟩
theorem ws_20 : (Jvm.Cond.selects "FourVaultModel" ({ cls := "FourVaultModel", name := "worthOfRow", desc := "()I" } : Jvm.MethodName) ({ cls := "FourVaultModel", name := "worthOfRow", desc := "()I" } : Jvm.MethodName)) ∈ gtb := List.mem_filter.mpr ⟨List.mem_append_left _ (List.mem_of_getElem? (i := 20) rfl), rfl⟩
theorem ws_21 : (Jvm.Cond.selects "FourVaultModel" ({ cls := "FourVaultModel", name := "areSo", desc := "()Z" } : Jvm.MethodName) ({ cls := "FourVaultModel", name := "areSo", desc := "()Z" } : Jvm.MethodName)) ∈ gtb := List.mem_filter.mpr ⟨List.mem_append_left _ (List.mem_of_getElem? (i := 21) rfl), rfl⟩
theorem ws_22 : (Jvm.Cond.selects "FourVaultModel" ({ cls := "FourVaultModel", name := "lost", desc := "(I)J" } : Jvm.MethodName) ({ cls := "FourVaultModel", name := "lost", desc := "(I)J" } : Jvm.MethodName)) ∈ gtb := List.mem_filter.mpr ⟨List.mem_append_left _ (List.mem_of_getElem? (i := 22) rfl), rfl⟩
theorem ws_23 : (Jvm.Cond.selects "FourVaultModel" ({ cls := "FourVaultModel", name := "begins", desc := "(I)V" } : Jvm.MethodName) ({ cls := "FourVaultModel", name := "begins", desc := "(I)V" } : Jvm.MethodName)) ∈ gtb := List.mem_filter.mpr ⟨List.mem_append_left _ (List.mem_of_getElem? (i := 23) rfl), rfl⟩
set_option maxRecDepth 20000 in
theorem inX0 : ∀ w ∈ u_ws RX0 TX0 4, w ∈ gtb := fun w h => by
  have hg : goodWord w = true := by
    obtain ⟨k, -, rfl⟩ := List.mem_map.mp h
    unfold u_lay
    split <;> rfl
  rw [show u_ws RX0 TX0 4 = ([141, 143, 145, 147] : List Nat).filterMap (fun i => lw_tbl[i]?) by decide +kernel] at h
  obtain ⟨i, -, hi⟩ := List.mem_filterMap.mp h
  exact List.mem_filter.mpr ⟨List.mem_of_getElem? hi, hg⟩
set_option maxRecDepth 20000 in
theorem inX1 : ∀ w ∈ u_ws RX1 TX1 4, w ∈ gtb := fun w h => by
  have hg : goodWord w = true := by
    obtain ⟨k, -, rfl⟩ := List.mem_map.mp h
    unfold u_lay
    split <;> rfl
  rw [show u_ws RX1 TX1 4 = ([102, 104, 106, 108] : List Nat).filterMap (fun i => lw_tbl[i]?) by decide +kernel] at h
  obtain ⟨i, -, hi⟩ := List.mem_filterMap.mp h
  exact List.mem_filter.mpr ⟨List.mem_of_getElem? hi, hg⟩
set_option maxRecDepth 20000 in
theorem inX2 : ∀ w ∈ u_ws RX2 TX2 4, w ∈ gtb := fun w h => by
  have hg : goodWord w = true := by
    obtain ⟨k, -, rfl⟩ := List.mem_map.mp h
    unfold u_lay
    split <;> rfl
  rw [show u_ws RX2 TX2 4 = ([122, 124, 126, 128] : List Nat).filterMap (fun i => lw_tbl[i]?) by decide +kernel] at h
  obtain ⟨i, -, hi⟩ := List.mem_filterMap.mp h
  exact List.mem_filter.mpr ⟨List.mem_of_getElem? hi, hg⟩
set_option maxRecDepth 20000 in
theorem inX3 : ∀ w ∈ u_ws RX3 TX3 2, w ∈ gtb := fun w h => by
  have hg : goodWord w = true := by
    obtain ⟨k, -, rfl⟩ := List.mem_map.mp h
    unfold u_lay
    split <;> rfl
  rw [show u_ws RX3 TX3 2 = ([589, 591] : List Nat).filterMap (fun i => lw_tbl[i]?) by decide +kernel] at h
  obtain ⟨i, -, hi⟩ := List.mem_filterMap.mp h
  exact List.mem_filter.mpr ⟨List.mem_of_getElem? hi, hg⟩
set_option maxRecDepth 20000 in
theorem inX4 : ∀ w ∈ u_ws RX4 TX4 2, w ∈ gtb := fun w h => by
  have hg : goodWord w = true := by
    obtain ⟨k, -, rfl⟩ := List.mem_map.mp h
    unfold u_lay
    split <;> rfl
  rw [show u_ws RX4 TX4 2 = ([160, 162] : List Nat).filterMap (fun i => lw_tbl[i]?) by decide +kernel] at h
  obtain ⟨i, -, hi⟩ := List.mem_filterMap.mp h
  exact List.mem_filter.mpr ⟨List.mem_of_getElem? hi, hg⟩
set_option maxRecDepth 20000 in
theorem inX5 : ∀ w ∈ u_ws RX5 TX5 3, w ∈ gtb := fun w h => by
  have hg : goodWord w = true := by
    obtain ⟨k, -, rfl⟩ := List.mem_map.mp h
    unfold u_lay
    split <;> rfl
  rw [show u_ws RX5 TX5 3 = ([283, 285, 287] : List Nat).filterMap (fun i => lw_tbl[i]?) by decide +kernel] at h
  obtain ⟨i, -, hi⟩ := List.mem_filterMap.mp h
  exact List.mem_filter.mpr ⟨List.mem_of_getElem? hi, hg⟩
set_option maxRecDepth 20000 in
theorem inX6 : ∀ w ∈ u_ws RX6 TX6 3, w ∈ gtb := fun w h => by
  have hg : goodWord w = true := by
    obtain ⟨k, -, rfl⟩ := List.mem_map.mp h
    unfold u_lay
    split <;> rfl
  rw [show u_ws RX6 TX6 3 = ([303, 304, 305] : List Nat).filterMap (fun i => lw_tbl[i]?) by decide +kernel] at h
  obtain ⟨i, -, hi⟩ := List.mem_filterMap.mp h
  exact List.mem_filter.mpr ⟨List.mem_of_getElem? hi, hg⟩
set_option maxRecDepth 20000 in
theorem inX7 : ∀ w ∈ u_ws RX7 TX7 1, w ∈ gtb := fun w h => by
  have hg : goodWord w = true := by
    obtain ⟨k, -, rfl⟩ := List.mem_map.mp h
    unfold u_lay
    split <;> rfl
  rw [show u_ws RX7 TX7 1 = ([173] : List Nat).filterMap (fun i => lw_tbl[i]?) by decide +kernel] at h
  obtain ⟨i, -, hi⟩ := List.mem_filterMap.mp h
  exact List.mem_filter.mpr ⟨List.mem_of_getElem? hi, hg⟩
set_option maxRecDepth 20000 in
theorem inX8 : ∀ w ∈ u_ws RX8 TX8 6, w ∈ gtb := fun w h => by
  have hg : goodWord w = true := by
    obtain ⟨k, -, rfl⟩ := List.mem_map.mp h
    unfold u_lay
    split <;> rfl
  rw [show u_ws RX8 TX8 6 = ([84, 86, 88, 90, 92, 94] : List Nat).filterMap (fun i => lw_tbl[i]?) by decide +kernel] at h
  obtain ⟨i, -, hi⟩ := List.mem_filterMap.mp h
  exact List.mem_filter.mpr ⟨List.mem_of_getElem? hi, hg⟩
set_option maxRecDepth 20000 in
theorem inX9 : ∀ w ∈ u_ws RX9 TX9 3, w ∈ gtb := fun w h => by
  have hg : goodWord w = true := by
    obtain ⟨k, -, rfl⟩ := List.mem_map.mp h
    unfold u_lay
    split <;> rfl
  rw [show u_ws RX9 TX9 3 = ([296, 297, 298] : List Nat).filterMap (fun i => lw_tbl[i]?) by decide +kernel] at h
  obtain ⟨i, -, hi⟩ := List.mem_filterMap.mp h
  exact List.mem_filter.mpr ⟨List.mem_of_getElem? hi, hg⟩
set_option maxRecDepth 20000 in
theorem inX10 : ∀ w ∈ u_ws RX10 TX10 8, w ∈ gtb := fun w h => by
  have hg : goodWord w = true := by
    obtain ⟨k, -, rfl⟩ := List.mem_map.mp h
    unfold u_lay
    split <;> rfl
  rw [show u_ws RX10 TX10 8 = ([186, 188, 190, 192, 194, 196, 198, 200] : List Nat).filterMap (fun i => lw_tbl[i]?) by decide +kernel] at h
  obtain ⟨i, -, hi⟩ := List.mem_filterMap.mp h
  exact List.mem_filter.mpr ⟨List.mem_of_getElem? hi, hg⟩
set_option maxRecDepth 20000 in
theorem inX11 : ∀ w ∈ u_ws RX11 TX11 35, w ∈ gtb := fun w h => by
  have hg : goodWord w = true := by
    obtain ⟨k, -, rfl⟩ := List.mem_map.mp h
    unfold u_lay
    split <;> rfl
  rw [show u_ws RX11 TX11 35 = ([724, 726, 728, 730, 732, 734, 736, 738, 740, 742, 744, 746, 748, 750, 752, 754, 756, 758, 760, 762, 764, 766, 768, 770, 772, 774, 776, 778, 780, 782, 784, 786, 788, 790, 792] : List Nat).filterMap (fun i => lw_tbl[i]?) by decide +kernel] at h
  obtain ⟨i, -, hi⟩ := List.mem_filterMap.mp h
  exact List.mem_filter.mpr ⟨List.mem_of_getElem? hi, hg⟩
end
section
theorem dX11_init_0 : decode cX11_init 0 = .ok (.aload_n 0, 1) := by decide +kernel
theorem dX11_init_1 : decode cX11_init 1 = .ok (.invokespecial 1, 3) := by decide +kernel
theorem dX11_init_4 : decode cX11_init 4 = .ok (.aload_n 0, 1) := by decide +kernel
theorem dX11_init_5 : decode cX11_init 5 = .ok (.iconst 4, 1) := by decide +kernel
theorem dX11_init_6 : decode cX11_init 6 = .ok (.newarray .int, 2) := by decide +kernel
theorem dX11_init_8 : decode cX11_init 8 = .ok (.dup, 1) := by decide +kernel
theorem dX11_init_9 : decode cX11_init 9 = .ok (.iconst 0, 1) := by decide +kernel
theorem dX11_init_10 : decode cX11_init 10 = .ok (.bipush (-9), 2) := by decide +kernel
theorem dX11_init_12 : decode cX11_init 12 = .ok (.iastore, 1) := by decide +kernel
theorem dX11_init_13 : decode cX11_init 13 = .ok (.dup, 1) := by decide +kernel
theorem dX11_init_14 : decode cX11_init 14 = .ok (.iconst 1, 1) := by decide +kernel
theorem dX11_init_15 : decode cX11_init 15 = .ok (.bipush (-9), 2) := by decide +kernel
theorem dX11_init_17 : decode cX11_init 17 = .ok (.iastore, 1) := by decide +kernel
theorem dX11_init_18 : decode cX11_init 18 = .ok (.dup, 1) := by decide +kernel
theorem dX11_init_19 : decode cX11_init 19 = .ok (.iconst 2, 1) := by decide +kernel
theorem dX11_init_20 : decode cX11_init 20 = .ok (.bipush (-9), 2) := by decide +kernel
theorem dX11_init_22 : decode cX11_init 22 = .ok (.iastore, 1) := by decide +kernel
theorem dX11_init_23 : decode cX11_init 23 = .ok (.dup, 1) := by decide +kernel
theorem dX11_init_24 : decode cX11_init 24 = .ok (.iconst 3, 1) := by decide +kernel
theorem dX11_init_25 : decode cX11_init 25 = .ok (.bipush (-9), 2) := by decide +kernel
theorem dX11_init_27 : decode cX11_init 27 = .ok (.iastore, 1) := by decide +kernel
theorem dX11_init_28 : decode cX11_init 28 = .ok (.putfield 9, 3) := by decide +kernel
theorem dX11_init_31 : decode cX11_init 31 = .ok (.aload_n 0, 1) := by decide +kernel
theorem dX11_init_32 : decode cX11_init 32 = .ok (.iconst 4, 1) := by decide +kernel
theorem dX11_init_33 : decode cX11_init 33 = .ok (.newarray .int, 2) := by decide +kernel
theorem dX11_init_35 : decode cX11_init 35 = .ok (.putfield 13, 3) := by decide +kernel
theorem dX11_init_38 : decode cX11_init 38 = .ok (.aload_n 0, 1) := by decide +kernel
theorem dX11_init_39 : decode cX11_init 39 = .ok (.sipush 240, 3) := by decide +kernel
theorem dX11_init_42 : decode cX11_init 42 = .ok (.newarray .int, 2) := by decide +kernel
theorem dX11_init_44 : decode cX11_init 44 = .ok (.putfield 16, 3) := by decide +kernel
theorem dX11_init_47 : decode cX11_init 47 = .ok (.aload_n 0, 1) := by decide +kernel
theorem dX11_init_48 : decode cX11_init 48 = .ok (.bipush 6, 2) := by decide +kernel
theorem dX11_init_50 : decode cX11_init 50 = .ok (.newarray .int, 2) := by decide +kernel
theorem dX11_init_52 : decode cX11_init 52 = .ok (.putfield 19, 3) := by decide +kernel
theorem dX11_init_55 : decode cX11_init 55 = .ok (.aload_n 0, 1) := by decide +kernel
theorem dX11_init_56 : decode cX11_init 56 = .ok (.iconst 5, 1) := by decide +kernel
theorem dX11_init_57 : decode cX11_init 57 = .ok (.newarray .int, 2) := by decide +kernel
theorem dX11_init_59 : decode cX11_init 59 = .ok (.putfield 22, 3) := by decide +kernel
theorem dX11_init_62 : decode cX11_init 62 = .ok (.aload_n 0, 1) := by decide +kernel
theorem dX11_init_63 : decode cX11_init 63 = .ok (.iconst 5, 1) := by decide +kernel
theorem dX11_init_64 : decode cX11_init 64 = .ok (.newarray .int, 2) := by decide +kernel
theorem dX11_init_66 : decode cX11_init 66 = .ok (.putfield 25, 3) := by decide +kernel
theorem dX11_init_69 : decode cX11_init 69 = .ok (.aload_n 0, 1) := by decide +kernel
theorem dX11_init_70 : decode cX11_init 70 = .ok (.iconst 5, 1) := by decide +kernel
theorem dX11_init_71 : decode cX11_init 71 = .ok (.newarray .int, 2) := by decide +kernel
theorem dX11_init_73 : decode cX11_init 73 = .ok (.putfield 28, 3) := by decide +kernel
theorem dX11_init_76 : decode cX11_init 76 = .ok (.aload_n 0, 1) := by decide +kernel
theorem dX11_init_77 : decode cX11_init 77 = .ok (.iconst 5, 1) := by decide +kernel
theorem dX11_init_78 : decode cX11_init 78 = .ok (.newarray .int, 2) := by decide +kernel
theorem dX11_init_80 : decode cX11_init 80 = .ok (.putfield 31, 3) := by decide +kernel
theorem dX11_init_83 : decode cX11_init 83 = .ok (.aload_n 0, 1) := by decide +kernel
theorem dX11_init_84 : decode cX11_init 84 = .ok (.bipush 6, 2) := by decide +kernel
theorem dX11_init_86 : decode cX11_init 86 = .ok (.newarray .int, 2) := by decide +kernel
theorem dX11_init_88 : decode cX11_init 88 = .ok (.putfield 34, 3) := by decide +kernel
theorem dX11_init_91 : decode cX11_init 91 = .ok (.aload_n 0, 1) := by decide +kernel
theorem dX11_init_92 : decode cX11_init 92 = .ok (.iconst 5, 1) := by decide +kernel
theorem dX11_init_93 : decode cX11_init 93 = .ok (.newarray .int, 2) := by decide +kernel
theorem dX11_init_95 : decode cX11_init 95 = .ok (.putfield 37, 3) := by decide +kernel
theorem dX11_init_98 : decode cX11_init 98 = .ok (.aload_n 0, 1) := by decide +kernel
theorem dX11_init_99 : decode cX11_init 99 = .ok (.iconst 5, 1) := by decide +kernel
theorem dX11_init_100 : decode cX11_init 100 = .ok (.newarray .int, 2) := by decide +kernel
theorem dX11_init_102 : decode cX11_init 102 = .ok (.putfield 40, 3) := by decide +kernel
theorem dX11_init_105 : decode cX11_init 105 = .ok (.aload_n 0, 1) := by decide +kernel
theorem dX11_init_106 : decode cX11_init 106 = .ok (.iconst 5, 1) := by decide +kernel
theorem dX11_init_107 : decode cX11_init 107 = .ok (.newarray .int, 2) := by decide +kernel
theorem dX11_init_109 : decode cX11_init 109 = .ok (.putfield 43, 3) := by decide +kernel
theorem dX11_init_112 : decode cX11_init 112 = .ok (.aload_n 0, 1) := by decide +kernel
theorem dX11_init_113 : decode cX11_init 113 = .ok (.iconst 5, 1) := by decide +kernel
theorem dX11_init_114 : decode cX11_init 114 = .ok (.newarray .int, 2) := by decide +kernel
theorem dX11_init_116 : decode cX11_init 116 = .ok (.putfield 46, 3) := by decide +kernel
theorem dX11_init_119 : decode cX11_init 119 = .ok (.aload_n 0, 1) := by decide +kernel
theorem dX11_init_120 : decode cX11_init 120 = .ok (.iconst 5, 1) := by decide +kernel
theorem dX11_init_121 : decode cX11_init 121 = .ok (.newarray .int, 2) := by decide +kernel
theorem dX11_init_123 : decode cX11_init 123 = .ok (.putfield 49, 3) := by decide +kernel
theorem dX11_init_126 : decode cX11_init 126 = .ok (.aload_n 0, 1) := by decide +kernel
theorem dX11_init_127 : decode cX11_init 127 = .ok (.iconst 5, 1) := by decide +kernel
theorem dX11_init_128 : decode cX11_init 128 = .ok (.newarray .int, 2) := by decide +kernel
theorem dX11_init_130 : decode cX11_init 130 = .ok (.putfield 52, 3) := by decide +kernel
theorem dX11_init_133 : decode cX11_init 133 = .ok (.aload_n 0, 1) := by decide +kernel
theorem dX11_init_134 : decode cX11_init 134 = .ok (.bipush 100, 2) := by decide +kernel
theorem dX11_init_136 : decode cX11_init 136 = .ok (.newarray .int, 2) := by decide +kernel
theorem dX11_init_138 : decode cX11_init 138 = .ok (.putfield 55, 3) := by decide +kernel
theorem dX11_init_141 : decode cX11_init 141 = .ok (.aload_n 0, 1) := by decide +kernel
theorem dX11_init_142 : decode cX11_init 142 = .ok (.iconst 5, 1) := by decide +kernel
theorem dX11_init_143 : decode cX11_init 143 = .ok (.newarray .int, 2) := by decide +kernel
theorem dX11_init_145 : decode cX11_init 145 = .ok (.putfield 58, 3) := by decide +kernel
theorem dX11_init_148 : decode cX11_init 148 = .ok (.aload_n 0, 1) := by decide +kernel
theorem dX11_init_149 : decode cX11_init 149 = .ok (.iconst 5, 1) := by decide +kernel
theorem dX11_init_150 : decode cX11_init 150 = .ok (.newarray .int, 2) := by decide +kernel
theorem dX11_init_152 : decode cX11_init 152 = .ok (.putfield 61, 3) := by decide +kernel
theorem dX11_init_155 : decode cX11_init 155 = .ok (.aload_n 0, 1) := by decide +kernel
theorem dX11_init_156 : decode cX11_init 156 = .ok (.iconst 5, 1) := by decide +kernel
theorem dX11_init_157 : decode cX11_init 157 = .ok (.newarray .int, 2) := by decide +kernel
theorem dX11_init_159 : decode cX11_init 159 = .ok (.putfield 64, 3) := by decide +kernel
theorem dX11_init_162 : decode cX11_init 162 = .ok (.aload_n 0, 1) := by decide +kernel
theorem dX11_init_163 : decode cX11_init 163 = .ok (.bipush 8, 2) := by decide +kernel
theorem dX11_init_165 : decode cX11_init 165 = .ok (.newarray .int, 2) := by decide +kernel
theorem dX11_init_167 : decode cX11_init 167 = .ok (.putfield 67, 3) := by decide +kernel
theorem dX11_init_170 : decode cX11_init 170 = .ok (.aload_n 0, 1) := by decide +kernel
theorem dX11_init_171 : decode cX11_init 171 = .ok (.bipush 8, 2) := by decide +kernel
theorem dX11_init_173 : decode cX11_init 173 = .ok (.newarray .int, 2) := by decide +kernel
theorem dX11_init_175 : decode cX11_init 175 = .ok (.putfield 70, 3) := by decide +kernel
theorem dX11_init_178 : decode cX11_init 178 = .ok (.aload_n 0, 1) := by decide +kernel
theorem dX11_init_179 : decode cX11_init 179 = .ok (.bipush 8, 2) := by decide +kernel
theorem dX11_init_181 : decode cX11_init 181 = .ok (.newarray .int, 2) := by decide +kernel
theorem dX11_init_183 : decode cX11_init 183 = .ok (.putfield 73, 3) := by decide +kernel
theorem dX11_init_186 : decode cX11_init 186 = .ok (.return_, 1) := by decide +kernel
theorem dX11_fails_0 : decode cX11_fails 0 = .ok (.aload_n 0, 1) := by decide +kernel
theorem dX11_fails_1 : decode cX11_fails 1 = .ok (.iload_n 1, 1) := by decide +kernel
theorem dX11_fails_2 : decode cX11_fails 2 = .ok (.putfield 76, 3) := by decide +kernel
theorem dX11_fails_5 : decode cX11_fails 5 = .ok (.bipush (-10), 2) := by decide +kernel
theorem dX11_fails_7 : decode cX11_fails 7 = .ok (.iload_n 1, 1) := by decide +kernel
theorem dX11_fails_8 : decode cX11_fails 8 = .ok (.isub, 1) := by decide +kernel
theorem dX11_fails_9 : decode cX11_fails 9 = .ok (.ireturn, 1) := by decide +kernel
theorem dX11_lost_0 : decode cX11_lost 0 = .ok (.aload_n 0, 1) := by decide +kernel
theorem dX11_lost_1 : decode cX11_lost 1 = .ok (.iload_n 1, 1) := by decide +kernel
theorem dX11_lost_2 : decode cX11_lost 2 = .ok (.putfield 76, 3) := by decide +kernel
theorem dX11_lost_5 : decode cX11_lost 5 = .ok (.ldc2_w 80, 3) := by decide +kernel
theorem dX11_lost_8 : decode cX11_lost 8 = .ok (.lreturn, 1) := by decide +kernel
theorem dX11_within_0 : decode cX11_within 0 = .ok (.iload_n 0, 1) := by decide +kernel
theorem dX11_within_1 : decode cX11_within 1 = .ok (.iload_n 1, 1) := by decide +kernel
theorem dX11_within_2 : decode cX11_within 2 = .ok (.if_icmp .lt 12, 3) := by decide +kernel
theorem dX11_within_5 : decode cX11_within 5 = .ok (.iload_n 0, 1) := by decide +kernel
theorem dX11_within_6 : decode cX11_within 6 = .ok (.iload_n 2, 1) := by decide +kernel
theorem dX11_within_7 : decode cX11_within 7 = .ok (.if_icmp .gt 7, 3) := by decide +kernel
theorem dX11_within_10 : decode cX11_within 10 = .ok (.iconst 1, 1) := by decide +kernel
theorem dX11_within_11 : decode cX11_within 11 = .ok (.goto 4, 3) := by decide +kernel
theorem dX11_within_14 : decode cX11_within 14 = .ok (.iconst 0, 1) := by decide +kernel
theorem dX11_within_15 : decode cX11_within 15 = .ok (.ireturn, 1) := by decide +kernel
theorem dX11_isSheet_0 : decode cX11_isSheet 0 = .ok (.iload_n 0, 1) := by decide +kernel
theorem dX11_isSheet_1 : decode cX11_isSheet 1 = .ok (.iconst 0, 1) := by decide +kernel
theorem dX11_isSheet_2 : decode cX11_isSheet 2 = .ok (.iconst 3, 1) := by decide +kernel
theorem dX11_isSheet_3 : decode cX11_isSheet 3 = .ok (.invokestatic 82, 3) := by decide +kernel
theorem dX11_isSheet_6 : decode cX11_isSheet 6 = .ok (.ireturn, 1) := by decide +kernel
theorem dX11_isSort_0 : decode cX11_isSort 0 = .ok (.iload_n 0, 1) := by decide +kernel
theorem dX11_isSort_1 : decode cX11_isSort 1 = .ok (.iconst 0, 1) := by decide +kernel
theorem dX11_isSort_2 : decode cX11_isSort 2 = .ok (.iconst 2, 1) := by decide +kernel
theorem dX11_isSort_3 : decode cX11_isSort 3 = .ok (.invokestatic 82, 3) := by decide +kernel
theorem dX11_isSort_6 : decode cX11_isSort 6 = .ok (.ireturn, 1) := by decide +kernel
theorem dX11_against_0 : decode cX11_against 0 = .ok (.aload_n 0, 1) := by decide +kernel
theorem dX11_against_1 : decode cX11_against 1 = .ok (.getfield 9, 3) := by decide +kernel
theorem dX11_against_4 : decode cX11_against 4 = .ok (.iload_n 1, 1) := by decide +kernel
theorem dX11_against_5 : decode cX11_against 5 = .ok (.iaload, 1) := by decide +kernel
theorem dX11_against_6 : decode cX11_against 6 = .ok (.bipush (-9), 2) := by decide +kernel
theorem dX11_against_8 : decode cX11_against 8 = .ok (.if_icmp .eq 15, 3) := by decide +kernel
theorem dX11_against_11 : decode cX11_against 11 = .ok (.aload_n 0, 1) := by decide +kernel
theorem dX11_against_12 : decode cX11_against 12 = .ok (.getfield 9, 3) := by decide +kernel
theorem dX11_against_15 : decode cX11_against 15 = .ok (.iload_n 1, 1) := by decide +kernel
theorem dX11_against_16 : decode cX11_against 16 = .ok (.iaload, 1) := by decide +kernel
theorem dX11_against_17 : decode cX11_against 17 = .ok (.iload_n 2, 1) := by decide +kernel
theorem dX11_against_18 : decode cX11_against 18 = .ok (.if_icmp .eq 5, 3) := by decide +kernel
theorem dX11_against_21 : decode cX11_against 21 = .ok (.iconst 2, 1) := by decide +kernel
theorem dX11_against_22 : decode cX11_against 22 = .ok (.ireturn, 1) := by decide +kernel
theorem dX11_against_23 : decode cX11_against 23 = .ok (.aload_n 0, 1) := by decide +kernel
theorem dX11_against_24 : decode cX11_against 24 = .ok (.getfield 9, 3) := by decide +kernel
theorem dX11_against_27 : decode cX11_against 27 = .ok (.iload_n 1, 1) := by decide +kernel
theorem dX11_against_28 : decode cX11_against 28 = .ok (.iaload, 1) := by decide +kernel
theorem dX11_against_29 : decode cX11_against 29 = .ok (.bipush (-9), 2) := by decide +kernel
theorem dX11_against_31 : decode cX11_against 31 = .ok (.if_icmp .ne 5, 3) := by decide +kernel
theorem dX11_against_34 : decode cX11_against 34 = .ok (.iconst 1, 1) := by decide +kernel
theorem dX11_against_35 : decode cX11_against 35 = .ok (.ireturn, 1) := by decide +kernel
theorem dX11_against_36 : decode cX11_against 36 = .ok (.iload 4, 2) := by decide +kernel
theorem dX11_against_38 : decode cX11_against 38 = .ok (.ifCond .ge 5, 3) := by decide +kernel
theorem dX11_against_41 : decode cX11_against 41 = .ok (.iconst 4, 1) := by decide +kernel
theorem dX11_against_42 : decode cX11_against 42 = .ok (.ireturn, 1) := by decide +kernel
theorem dX11_against_43 : decode cX11_against 43 = .ok (.iload_n 3, 1) := by decide +kernel
theorem dX11_against_44 : decode cX11_against 44 = .ok (.ifCond .lt 26, 3) := by decide +kernel
theorem dX11_against_47 : decode cX11_against 47 = .ok (.iload_n 3, 1) := by decide +kernel
theorem dX11_against_48 : decode cX11_against 48 = .ok (.aload_n 0, 1) := by decide +kernel
theorem dX11_against_49 : decode cX11_against 49 = .ok (.getfield 13, 3) := by decide +kernel
theorem dX11_against_52 : decode cX11_against 52 = .ok (.iload_n 1, 1) := by decide +kernel
theorem dX11_against_53 : decode cX11_against 53 = .ok (.iaload, 1) := by decide +kernel
theorem dX11_against_54 : decode cX11_against 54 = .ok (.if_icmp .gt 16, 3) := by decide +kernel
theorem dX11_against_57 : decode cX11_against 57 = .ok (.iload 4, 2) := by decide +kernel
theorem dX11_against_59 : decode cX11_against 59 = .ok (.aload_n 0, 1) := by decide +kernel
theorem dX11_against_60 : decode cX11_against 60 = .ok (.getfield 13, 3) := by decide +kernel
theorem dX11_against_63 : decode cX11_against 63 = .ok (.iload_n 1, 1) := by decide +kernel
theorem dX11_against_64 : decode cX11_against 64 = .ok (.iaload, 1) := by decide +kernel
theorem dX11_against_65 : decode cX11_against 65 = .ok (.iload_n 3, 1) := by decide +kernel
theorem dX11_against_66 : decode cX11_against 66 = .ok (.isub, 1) := by decide +kernel
theorem dX11_against_67 : decode cX11_against 67 = .ok (.if_icmp .le 7, 3) := by decide +kernel
theorem dX11_against_70 : decode cX11_against 70 = .ok (.iconst 3, 1) := by decide +kernel
theorem dX11_against_71 : decode cX11_against 71 = .ok (.goto 4, 3) := by decide +kernel
theorem dX11_against_74 : decode cX11_against 74 = .ok (.iconst 0, 1) := by decide +kernel
theorem dX11_against_75 : decode cX11_against 75 = .ok (.ireturn, 1) := by decide +kernel
theorem dX11_isTaker_0 : decode cX11_isTaker 0 = .ok (.iload_n 1, 1) := by decide +kernel
theorem dX11_isTaker_1 : decode cX11_isTaker 1 = .ok (.ifCond .lt 15, 3) := by decide +kernel
theorem dX11_isTaker_4 : decode cX11_isTaker 4 = .ok (.iload_n 1, 1) := by decide +kernel
theorem dX11_isTaker_5 : decode cX11_isTaker 5 = .ok (.aload_n 0, 1) := by decide +kernel
theorem dX11_isTaker_6 : decode cX11_isTaker 6 = .ok (.getfield 86, 3) := by decide +kernel
theorem dX11_isTaker_9 : decode cX11_isTaker 9 = .ok (.if_icmp .ge 7, 3) := by decide +kernel
theorem dX11_isTaker_12 : decode cX11_isTaker 12 = .ok (.iconst 1, 1) := by decide +kernel
theorem dX11_isTaker_13 : decode cX11_isTaker 13 = .ok (.goto 4, 3) := by decide +kernel
theorem dX11_isTaker_16 : decode cX11_isTaker 16 = .ok (.iconst 0, 1) := by decide +kernel
theorem dX11_isTaker_17 : decode cX11_isTaker 17 = .ok (.ireturn, 1) := by decide +kernel
theorem dX11_isPlace_0 : decode cX11_isPlace 0 = .ok (.iload_n 1, 1) := by decide +kernel
theorem dX11_isPlace_1 : decode cX11_isPlace 1 = .ok (.ifCond .lt 15, 3) := by decide +kernel
theorem dX11_isPlace_4 : decode cX11_isPlace 4 = .ok (.iload_n 1, 1) := by decide +kernel
theorem dX11_isPlace_5 : decode cX11_isPlace 5 = .ok (.aload_n 0, 1) := by decide +kernel
theorem dX11_isPlace_6 : decode cX11_isPlace 6 = .ok (.getfield 89, 3) := by decide +kernel
theorem dX11_isPlace_9 : decode cX11_isPlace 9 = .ok (.if_icmp .ge 7, 3) := by decide +kernel
theorem dX11_isPlace_12 : decode cX11_isPlace 12 = .ok (.iconst 1, 1) := by decide +kernel
theorem dX11_isPlace_13 : decode cX11_isPlace 13 = .ok (.goto 4, 3) := by decide +kernel
theorem dX11_isPlace_16 : decode cX11_isPlace 16 = .ok (.iconst 0, 1) := by decide +kernel
theorem dX11_isPlace_17 : decode cX11_isPlace 17 = .ok (.ireturn, 1) := by decide +kernel
theorem dX11_digit_0 : decode cX11_digit 0 = .ok (.aload_n 0, 1) := by decide +kernel
theorem dX11_digit_1 : decode cX11_digit 1 = .ok (.getfield 92, 3) := by decide +kernel
theorem dX11_digit_4 : decode cX11_digit 4 = .ok (.iload_n 1, 1) := by decide +kernel
theorem dX11_digit_5 : decode cX11_digit 5 = .ok (.if_icmp .ge 24, 3) := by decide +kernel
theorem dX11_digit_8 : decode cX11_digit 8 = .ok (.aload_n 0, 1) := by decide +kernel
theorem dX11_digit_9 : decode cX11_digit 9 = .ok (.getfield 16, 3) := by decide +kernel
theorem dX11_digit_12 : decode cX11_digit 12 = .ok (.aload_n 0, 1) := by decide +kernel
theorem dX11_digit_13 : decode cX11_digit 13 = .ok (.getfield 92, 3) := by decide +kernel
theorem dX11_digit_16 : decode cX11_digit 16 = .ok (.iaload, 1) := by decide +kernel
theorem dX11_digit_17 : decode cX11_digit 17 = .ok (.bipush 48, 2) := by decide +kernel
theorem dX11_digit_19 : decode cX11_digit 19 = .ok (.iload_n 2, 1) := by decide +kernel
theorem dX11_digit_20 : decode cX11_digit 20 = .ok (.iadd, 1) := by decide +kernel
theorem dX11_digit_21 : decode cX11_digit 21 = .ok (.bipush 57, 2) := by decide +kernel
theorem dX11_digit_23 : decode cX11_digit 23 = .ok (.invokestatic 82, 3) := by decide +kernel
theorem dX11_digit_26 : decode cX11_digit 26 = .ok (.ifCond .ne 6, 3) := by decide +kernel
theorem dX11_digit_29 : decode cX11_digit 29 = .ok (.bipush (-9), 2) := by decide +kernel
theorem dX11_digit_31 : decode cX11_digit 31 = .ok (.ireturn, 1) := by decide +kernel
theorem dX11_digit_32 : decode cX11_digit 32 = .ok (.aload_n 0, 1) := by decide +kernel
theorem dX11_digit_33 : decode cX11_digit 33 = .ok (.dup, 1) := by decide +kernel
theorem dX11_digit_34 : decode cX11_digit 34 = .ok (.getfield 92, 3) := by decide +kernel
theorem dX11_digit_37 : decode cX11_digit 37 = .ok (.iconst 1, 1) := by decide +kernel
theorem dX11_digit_38 : decode cX11_digit 38 = .ok (.iadd, 1) := by decide +kernel
theorem dX11_digit_39 : decode cX11_digit 39 = .ok (.putfield 92, 3) := by decide +kernel
theorem dX11_digit_42 : decode cX11_digit 42 = .ok (.aload_n 0, 1) := by decide +kernel
theorem dX11_digit_43 : decode cX11_digit 43 = .ok (.getfield 16, 3) := by decide +kernel
theorem dX11_digit_46 : decode cX11_digit 46 = .ok (.aload_n 0, 1) := by decide +kernel
theorem dX11_digit_47 : decode cX11_digit 47 = .ok (.getfield 92, 3) := by decide +kernel
theorem dX11_digit_50 : decode cX11_digit 50 = .ok (.iconst 1, 1) := by decide +kernel
theorem dX11_digit_51 : decode cX11_digit 51 = .ok (.isub, 1) := by decide +kernel
theorem dX11_digit_52 : decode cX11_digit 52 = .ok (.iaload, 1) := by decide +kernel
theorem dX11_digit_53 : decode cX11_digit 53 = .ok (.bipush 48, 2) := by decide +kernel
theorem dX11_digit_55 : decode cX11_digit 55 = .ok (.isub, 1) := by decide +kernel
theorem dX11_digit_56 : decode cX11_digit 56 = .ok (.ireturn, 1) := by decide +kernel
theorem dX11_isSign_0 : decode cX11_isSign 0 = .ok (.aload_n 0, 1) := by decide +kernel
theorem dX11_isSign_1 : decode cX11_isSign 1 = .ok (.getfield 92, 3) := by decide +kernel
theorem dX11_isSign_4 : decode cX11_isSign 4 = .ok (.iload_n 1, 1) := by decide +kernel
theorem dX11_isSign_5 : decode cX11_isSign 5 = .ok (.if_icmp .ge 16, 3) := by decide +kernel
theorem dX11_isSign_8 : decode cX11_isSign 8 = .ok (.aload_n 0, 1) := by decide +kernel
theorem dX11_isSign_9 : decode cX11_isSign 9 = .ok (.getfield 16, 3) := by decide +kernel
theorem dX11_isSign_12 : decode cX11_isSign 12 = .ok (.aload_n 0, 1) := by decide +kernel
theorem dX11_isSign_13 : decode cX11_isSign 13 = .ok (.getfield 92, 3) := by decide +kernel
theorem dX11_isSign_16 : decode cX11_isSign 16 = .ok (.iaload, 1) := by decide +kernel
theorem dX11_isSign_17 : decode cX11_isSign 17 = .ok (.iload_n 2, 1) := by decide +kernel
theorem dX11_isSign_18 : decode cX11_isSign 18 = .ok (.if_icmp .eq 5, 3) := by decide +kernel
theorem dX11_isSign_21 : decode cX11_isSign 21 = .ok (.iconst 0, 1) := by decide +kernel
theorem dX11_isSign_22 : decode cX11_isSign 22 = .ok (.ireturn, 1) := by decide +kernel
theorem dX11_isSign_23 : decode cX11_isSign 23 = .ok (.aload_n 0, 1) := by decide +kernel
theorem dX11_isSign_24 : decode cX11_isSign 24 = .ok (.dup, 1) := by decide +kernel
theorem dX11_isSign_25 : decode cX11_isSign 25 = .ok (.getfield 92, 3) := by decide +kernel
theorem dX11_isSign_28 : decode cX11_isSign 28 = .ok (.iconst 1, 1) := by decide +kernel
theorem dX11_isSign_29 : decode cX11_isSign 29 = .ok (.iadd, 1) := by decide +kernel
theorem dX11_isSign_30 : decode cX11_isSign 30 = .ok (.putfield 92, 3) := by decide +kernel
theorem dX11_isSign_33 : decode cX11_isSign 33 = .ok (.iconst 1, 1) := by decide +kernel
theorem dX11_isSign_34 : decode cX11_isSign 34 = .ok (.ireturn, 1) := by decide +kernel
theorem dX11_vault_0 : decode cX11_vault 0 = .ok (.aload_n 0, 1) := by decide +kernel
theorem dX11_vault_1 : decode cX11_vault 1 = .ok (.iconst 0, 1) := by decide +kernel
theorem dX11_vault_2 : decode cX11_vault 2 = .ok (.putfield 76, 3) := by decide +kernel
theorem dX11_vault_5 : decode cX11_vault 5 = .ok (.iload_n 1, 1) := by decide +kernel
theorem dX11_vault_6 : decode cX11_vault 6 = .ok (.invokestatic 95, 3) := by decide +kernel
theorem dX11_vault_9 : decode cX11_vault 9 = .ok (.ifCond .ne 5, 3) := by decide +kernel
theorem dX11_vault_12 : decode cX11_vault 12 = .ok (.iconst (-1), 1) := by decide +kernel
theorem dX11_vault_13 : decode cX11_vault 13 = .ok (.ireturn, 1) := by decide +kernel
theorem dX11_vault_14 : decode cX11_vault 14 = .ok (.iload_n 2, 1) := by decide +kernel
theorem dX11_vault_15 : decode cX11_vault 15 = .ok (.invokestatic 99, 3) := by decide +kernel
theorem dX11_vault_18 : decode cX11_vault 18 = .ok (.ifCond .ne 6, 3) := by decide +kernel
theorem dX11_vault_21 : decode cX11_vault 21 = .ok (.bipush (-2), 2) := by decide +kernel
theorem dX11_vault_23 : decode cX11_vault 23 = .ok (.ireturn, 1) := by decide +kernel
theorem dX11_vault_24 : decode cX11_vault 24 = .ok (.aload_n 0, 1) := by decide +kernel
theorem dX11_vault_25 : decode cX11_vault 25 = .ok (.iload_n 1, 1) := by decide +kernel
theorem dX11_vault_26 : decode cX11_vault 26 = .ok (.iload_n 2, 1) := by decide +kernel
theorem dX11_vault_27 : decode cX11_vault 27 = .ok (.iload_n 3, 1) := by decide +kernel
theorem dX11_vault_28 : decode cX11_vault 28 = .ok (.iload 4, 2) := by decide +kernel
theorem dX11_vault_30 : decode cX11_vault 30 = .ok (.invokevirtual 102, 3) := by decide +kernel
theorem dX11_vault_33 : decode cX11_vault 33 = .ok (.istore 5, 2) := by decide +kernel
theorem dX11_vault_35 : decode cX11_vault 35 = .ok (.iload 5, 2) := by decide +kernel
theorem dX11_vault_37 : decode cX11_vault 37 = .ok (.ifCond .eq 10, 3) := by decide +kernel
theorem dX11_vault_40 : decode cX11_vault 40 = .ok (.aload_n 0, 1) := by decide +kernel
theorem dX11_vault_41 : decode cX11_vault 41 = .ok (.iload 5, 2) := by decide +kernel
theorem dX11_vault_43 : decode cX11_vault 43 = .ok (.invokevirtual 106, 3) := by decide +kernel
theorem dX11_vault_46 : decode cX11_vault 46 = .ok (.ireturn, 1) := by decide +kernel
theorem dX11_vault_47 : decode cX11_vault 47 = .ok (.bipush 60, 2) := by decide +kernel
theorem dX11_vault_49 : decode cX11_vault 49 = .ok (.iload_n 1, 1) := by decide +kernel
theorem dX11_vault_50 : decode cX11_vault 50 = .ok (.imul, 1) := by decide +kernel
theorem dX11_vault_51 : decode cX11_vault 51 = .ok (.iload_n 3, 1) := by decide +kernel
theorem dX11_vault_52 : decode cX11_vault 52 = .ok (.iadd, 1) := by decide +kernel
theorem dX11_vault_53 : decode cX11_vault 53 = .ok (.istore 6, 2) := by decide +kernel
theorem dX11_vault_55 : decode cX11_vault 55 = .ok (.aload_n 0, 1) := by decide +kernel
theorem dX11_vault_56 : decode cX11_vault 56 = .ok (.iload 6, 2) := by decide +kernel
theorem dX11_vault_58 : decode cX11_vault 58 = .ok (.putfield 92, 3) := by decide +kernel
theorem dX11_vault_61 : decode cX11_vault 61 = .ok (.aload_n 0, 1) := by decide +kernel
theorem dX11_vault_62 : decode cX11_vault 62 = .ok (.iload 6, 2) := by decide +kernel
theorem dX11_vault_64 : decode cX11_vault 64 = .ok (.iload 4, 2) := by decide +kernel
theorem dX11_vault_66 : decode cX11_vault 66 = .ok (.iadd, 1) := by decide +kernel
theorem dX11_vault_67 : decode cX11_vault 67 = .ok (.invokevirtual 110, 3) := by decide +kernel
theorem dX11_vault_70 : decode cX11_vault 70 = .ok (.ifCond .ne 14, 3) := by decide +kernel
theorem dX11_vault_73 : decode cX11_vault 73 = .ok (.bipush (-100), 2) := by decide +kernel
theorem dX11_vault_75 : decode cX11_vault 75 = .ok (.aload_n 0, 1) := by decide +kernel
theorem dX11_vault_76 : decode cX11_vault 76 = .ok (.getfield 92, 3) := by decide +kernel
theorem dX11_vault_79 : decode cX11_vault 79 = .ok (.iload 6, 2) := by decide +kernel
theorem dX11_vault_81 : decode cX11_vault 81 = .ok (.isub, 1) := by decide +kernel
theorem dX11_vault_82 : decode cX11_vault 82 = .ok (.isub, 1) := by decide +kernel
theorem dX11_vault_83 : decode cX11_vault 83 = .ok (.ireturn, 1) := by decide +kernel
theorem dX11_vault_84 : decode cX11_vault 84 = .ok (.aload_n 0, 1) := by decide +kernel
theorem dX11_vault_85 : decode cX11_vault 85 = .ok (.invokevirtual 113, 3) := by decide +kernel
theorem dX11_vault_88 : decode cX11_vault 88 = .ok (.aload_n 0, 1) := by decide +kernel
theorem dX11_vault_89 : decode cX11_vault 89 = .ok (.getfield 86, 3) := by decide +kernel
theorem dX11_vault_92 : decode cX11_vault 92 = .ok (.ireturn, 1) := by decide +kernel
theorem dX11_takeVault_0 : decode cX11_takeVault 0 = .ok (.aload_n 0, 1) := by decide +kernel
theorem dX11_takeVault_1 : decode cX11_takeVault 1 = .ok (.aload_n 0, 1) := by decide +kernel
theorem dX11_takeVault_2 : decode cX11_takeVault 2 = .ok (.getfield 116, 3) := by decide +kernel
theorem dX11_takeVault_5 : decode cX11_takeVault 5 = .ok (.putfield 89, 3) := by decide +kernel
theorem dX11_takeVault_8 : decode cX11_takeVault 8 = .ok (.iconst 0, 1) := by decide +kernel
theorem dX11_takeVault_9 : decode cX11_takeVault 9 = .ok (.istore_n 1, 1) := by decide +kernel
theorem dX11_takeVault_10 : decode cX11_takeVault 10 = .ok (.iload_n 1, 1) := by decide +kernel
theorem dX11_takeVault_11 : decode cX11_takeVault 11 = .ok (.aload_n 0, 1) := by decide +kernel
theorem dX11_takeVault_12 : decode cX11_takeVault 12 = .ok (.getfield 89, 3) := by decide +kernel
theorem dX11_takeVault_15 : decode cX11_takeVault 15 = .ok (.if_icmp .ge 21, 3) := by decide +kernel
theorem dX11_takeVault_18 : decode cX11_takeVault 18 = .ok (.aload_n 0, 1) := by decide +kernel
theorem dX11_takeVault_19 : decode cX11_takeVault 19 = .ok (.getfield 19, 3) := by decide +kernel
theorem dX11_takeVault_22 : decode cX11_takeVault 22 = .ok (.iload_n 1, 1) := by decide +kernel
theorem dX11_takeVault_23 : decode cX11_takeVault 23 = .ok (.aload_n 0, 1) := by decide +kernel
theorem dX11_takeVault_24 : decode cX11_takeVault 24 = .ok (.getfield 34, 3) := by decide +kernel
theorem dX11_takeVault_27 : decode cX11_takeVault 27 = .ok (.iload_n 1, 1) := by decide +kernel
theorem dX11_takeVault_28 : decode cX11_takeVault 28 = .ok (.iaload, 1) := by decide +kernel
theorem dX11_takeVault_29 : decode cX11_takeVault 29 = .ok (.iastore, 1) := by decide +kernel
theorem dX11_takeVault_30 : decode cX11_takeVault 30 = .ok (.iinc 1 1, 3) := by decide +kernel
theorem dX11_takeVault_33 : decode cX11_takeVault 33 = .ok (.goto (-23), 3) := by decide +kernel
theorem dX11_takeVault_36 : decode cX11_takeVault 36 = .ok (.aload_n 0, 1) := by decide +kernel
theorem dX11_takeVault_37 : decode cX11_takeVault 37 = .ok (.aload_n 0, 1) := by decide +kernel
theorem dX11_takeVault_38 : decode cX11_takeVault 38 = .ok (.getfield 119, 3) := by decide +kernel
theorem dX11_takeVault_41 : decode cX11_takeVault 41 = .ok (.putfield 86, 3) := by decide +kernel
theorem dX11_takeVault_44 : decode cX11_takeVault 44 = .ok (.iconst 0, 1) := by decide +kernel
theorem dX11_takeVault_45 : decode cX11_takeVault 45 = .ok (.istore_n 1, 1) := by decide +kernel
theorem dX11_takeVault_46 : decode cX11_takeVault 46 = .ok (.iload_n 1, 1) := by decide +kernel
theorem dX11_takeVault_47 : decode cX11_takeVault 47 = .ok (.aload_n 0, 1) := by decide +kernel
theorem dX11_takeVault_48 : decode cX11_takeVault 48 = .ok (.getfield 86, 3) := by decide +kernel
theorem dX11_takeVault_51 : decode cX11_takeVault 51 = .ok (.if_icmp .ge 45, 3) := by decide +kernel
theorem dX11_takeVault_54 : decode cX11_takeVault 54 = .ok (.aload_n 0, 1) := by decide +kernel
theorem dX11_takeVault_55 : decode cX11_takeVault 55 = .ok (.getfield 22, 3) := by decide +kernel
theorem dX11_takeVault_58 : decode cX11_takeVault 58 = .ok (.iload_n 1, 1) := by decide +kernel
theorem dX11_takeVault_59 : decode cX11_takeVault 59 = .ok (.aload_n 0, 1) := by decide +kernel
theorem dX11_takeVault_60 : decode cX11_takeVault 60 = .ok (.getfield 37, 3) := by decide +kernel
theorem dX11_takeVault_63 : decode cX11_takeVault 63 = .ok (.iload_n 1, 1) := by decide +kernel
theorem dX11_takeVault_64 : decode cX11_takeVault 64 = .ok (.iaload, 1) := by decide +kernel
theorem dX11_takeVault_65 : decode cX11_takeVault 65 = .ok (.iastore, 1) := by decide +kernel
theorem dX11_takeVault_66 : decode cX11_takeVault 66 = .ok (.aload_n 0, 1) := by decide +kernel
theorem dX11_takeVault_67 : decode cX11_takeVault 67 = .ok (.getfield 25, 3) := by decide +kernel
theorem dX11_takeVault_70 : decode cX11_takeVault 70 = .ok (.iload_n 1, 1) := by decide +kernel
theorem dX11_takeVault_71 : decode cX11_takeVault 71 = .ok (.aload_n 0, 1) := by decide +kernel
theorem dX11_takeVault_72 : decode cX11_takeVault 72 = .ok (.getfield 40, 3) := by decide +kernel
theorem dX11_takeVault_75 : decode cX11_takeVault 75 = .ok (.iload_n 1, 1) := by decide +kernel
theorem dX11_takeVault_76 : decode cX11_takeVault 76 = .ok (.iaload, 1) := by decide +kernel
theorem dX11_takeVault_77 : decode cX11_takeVault 77 = .ok (.iastore, 1) := by decide +kernel
theorem dX11_takeVault_78 : decode cX11_takeVault 78 = .ok (.aload_n 0, 1) := by decide +kernel
theorem dX11_takeVault_79 : decode cX11_takeVault 79 = .ok (.getfield 28, 3) := by decide +kernel
theorem dX11_takeVault_82 : decode cX11_takeVault 82 = .ok (.iload_n 1, 1) := by decide +kernel
theorem dX11_takeVault_83 : decode cX11_takeVault 83 = .ok (.aload_n 0, 1) := by decide +kernel
theorem dX11_takeVault_84 : decode cX11_takeVault 84 = .ok (.getfield 43, 3) := by decide +kernel
theorem dX11_takeVault_87 : decode cX11_takeVault 87 = .ok (.iload_n 1, 1) := by decide +kernel
theorem dX11_takeVault_88 : decode cX11_takeVault 88 = .ok (.iaload, 1) := by decide +kernel
theorem dX11_takeVault_89 : decode cX11_takeVault 89 = .ok (.iastore, 1) := by decide +kernel
theorem dX11_takeVault_90 : decode cX11_takeVault 90 = .ok (.iinc 1 1, 3) := by decide +kernel
theorem dX11_takeVault_93 : decode cX11_takeVault 93 = .ok (.goto (-47), 3) := by decide +kernel
theorem dX11_takeVault_96 : decode cX11_takeVault 96 = .ok (.aload_n 0, 1) := by decide +kernel
theorem dX11_takeVault_97 : decode cX11_takeVault 97 = .ok (.aload_n 0, 1) := by decide +kernel
theorem dX11_takeVault_98 : decode cX11_takeVault 98 = .ok (.getfield 122, 3) := by decide +kernel
theorem dX11_takeVault_101 : decode cX11_takeVault 101 = .ok (.putfield 125, 3) := by decide +kernel
theorem dX11_takeVault_104 : decode cX11_takeVault 104 = .ok (.iconst 0, 1) := by decide +kernel
theorem dX11_takeVault_105 : decode cX11_takeVault 105 = .ok (.istore_n 1, 1) := by decide +kernel
theorem dX11_takeVault_106 : decode cX11_takeVault 106 = .ok (.iload_n 1, 1) := by decide +kernel
theorem dX11_takeVault_107 : decode cX11_takeVault 107 = .ok (.aload_n 0, 1) := by decide +kernel
theorem dX11_takeVault_108 : decode cX11_takeVault 108 = .ok (.getfield 125, 3) := by decide +kernel
theorem dX11_takeVault_111 : decode cX11_takeVault 111 = .ok (.if_icmp .ge 21, 3) := by decide +kernel
theorem dX11_takeVault_114 : decode cX11_takeVault 114 = .ok (.aload_n 0, 1) := by decide +kernel
theorem dX11_takeVault_115 : decode cX11_takeVault 115 = .ok (.getfield 31, 3) := by decide +kernel
theorem dX11_takeVault_118 : decode cX11_takeVault 118 = .ok (.iload_n 1, 1) := by decide +kernel
theorem dX11_takeVault_119 : decode cX11_takeVault 119 = .ok (.aload_n 0, 1) := by decide +kernel
theorem dX11_takeVault_120 : decode cX11_takeVault 120 = .ok (.getfield 46, 3) := by decide +kernel
theorem dX11_takeVault_123 : decode cX11_takeVault 123 = .ok (.iload_n 1, 1) := by decide +kernel
theorem dX11_takeVault_124 : decode cX11_takeVault 124 = .ok (.iaload, 1) := by decide +kernel
theorem dX11_takeVault_125 : decode cX11_takeVault 125 = .ok (.iastore, 1) := by decide +kernel
theorem dX11_takeVault_126 : decode cX11_takeVault 126 = .ok (.iinc 1 1, 3) := by decide +kernel
theorem dX11_takeVault_129 : decode cX11_takeVault 129 = .ok (.goto (-23), 3) := by decide +kernel
theorem dX11_takeVault_132 : decode cX11_takeVault 132 = .ok (.aload_n 0, 1) := by decide +kernel
theorem dX11_takeVault_133 : decode cX11_takeVault 133 = .ok (.iconst 0, 1) := by decide +kernel
theorem dX11_takeVault_134 : decode cX11_takeVault 134 = .ok (.putfield 128, 3) := by decide +kernel
theorem dX11_takeVault_137 : decode cX11_takeVault 137 = .ok (.return_, 1) := by decide +kernel
theorem dX11_readVault_0 : decode cX11_readVault 0 = .ok (.aload_n 0, 1) := by decide +kernel
theorem dX11_readVault_1 : decode cX11_readVault 1 = .ok (.iload_n 1, 1) := by decide +kernel
theorem dX11_readVault_2 : decode cX11_readVault 2 = .ok (.bipush 118, 2) := by decide +kernel
theorem dX11_readVault_4 : decode cX11_readVault 4 = .ok (.invokevirtual 131, 3) := by decide +kernel
theorem dX11_readVault_7 : decode cX11_readVault 7 = .ok (.ifCond .eq 11, 3) := by decide +kernel
theorem dX11_readVault_10 : decode cX11_readVault 10 = .ok (.aload_n 0, 1) := by decide +kernel
theorem dX11_readVault_11 : decode cX11_readVault 11 = .ok (.iload_n 1, 1) := by decide +kernel
theorem dX11_readVault_12 : decode cX11_readVault 12 = .ok (.invokevirtual 135, 3) := by decide +kernel
theorem dX11_readVault_15 : decode cX11_readVault 15 = .ok (.ifCond .ne 5, 3) := by decide +kernel
theorem dX11_readVault_18 : decode cX11_readVault 18 = .ok (.iconst 0, 1) := by decide +kernel
theorem dX11_readVault_19 : decode cX11_readVault 19 = .ok (.ireturn, 1) := by decide +kernel
theorem dX11_readVault_20 : decode cX11_readVault 20 = .ok (.aload_n 0, 1) := by decide +kernel
theorem dX11_readVault_21 : decode cX11_readVault 21 = .ok (.iconst 0, 1) := by decide +kernel
theorem dX11_readVault_22 : decode cX11_readVault 22 = .ok (.putfield 119, 3) := by decide +kernel
theorem dX11_readVault_25 : decode cX11_readVault 25 = .ok (.aload_n 0, 1) := by decide +kernel
theorem dX11_readVault_26 : decode cX11_readVault 26 = .ok (.iload_n 1, 1) := by decide +kernel
theorem dX11_readVault_27 : decode cX11_readVault 27 = .ok (.bipush 59, 2) := by decide +kernel
theorem dX11_readVault_29 : decode cX11_readVault 29 = .ok (.invokevirtual 131, 3) := by decide +kernel
theorem dX11_readVault_32 : decode cX11_readVault 32 = .ok (.ifCond .eq 11, 3) := by decide +kernel
theorem dX11_readVault_35 : decode cX11_readVault 35 = .ok (.aload_n 0, 1) := by decide +kernel
theorem dX11_readVault_36 : decode cX11_readVault 36 = .ok (.iload_n 1, 1) := by decide +kernel
theorem dX11_readVault_37 : decode cX11_readVault 37 = .ok (.invokevirtual 138, 3) := by decide +kernel
theorem dX11_readVault_40 : decode cX11_readVault 40 = .ok (.ifCond .ne 5, 3) := by decide +kernel
theorem dX11_readVault_43 : decode cX11_readVault 43 = .ok (.iconst 0, 1) := by decide +kernel
theorem dX11_readVault_44 : decode cX11_readVault 44 = .ok (.ireturn, 1) := by decide +kernel
theorem dX11_readVault_45 : decode cX11_readVault 45 = .ok (.aload_n 0, 1) := by decide +kernel
theorem dX11_readVault_46 : decode cX11_readVault 46 = .ok (.getfield 119, 3) := by decide +kernel
theorem dX11_readVault_49 : decode cX11_readVault 49 = .ok (.iconst 5, 1) := by decide +kernel
theorem dX11_readVault_50 : decode cX11_readVault 50 = .ok (.if_icmp .ge 23, 3) := by decide +kernel
theorem dX11_readVault_53 : decode cX11_readVault 53 = .ok (.aload_n 0, 1) := by decide +kernel
theorem dX11_readVault_54 : decode cX11_readVault 54 = .ok (.iload_n 1, 1) := by decide +kernel
theorem dX11_readVault_55 : decode cX11_readVault 55 = .ok (.bipush 59, 2) := by decide +kernel
theorem dX11_readVault_57 : decode cX11_readVault 57 = .ok (.invokevirtual 131, 3) := by decide +kernel
theorem dX11_readVault_60 : decode cX11_readVault 60 = .ok (.ifCond .eq 13, 3) := by decide +kernel
theorem dX11_readVault_63 : decode cX11_readVault 63 = .ok (.aload_n 0, 1) := by decide +kernel
theorem dX11_readVault_64 : decode cX11_readVault 64 = .ok (.iload_n 1, 1) := by decide +kernel
theorem dX11_readVault_65 : decode cX11_readVault 65 = .ok (.invokevirtual 138, 3) := by decide +kernel
theorem dX11_readVault_68 : decode cX11_readVault 68 = .ok (.ifCond .ne (-23), 3) := by decide +kernel
theorem dX11_readVault_71 : decode cX11_readVault 71 = .ok (.iconst 0, 1) := by decide +kernel
theorem dX11_readVault_72 : decode cX11_readVault 72 = .ok (.ireturn, 1) := by decide +kernel
theorem dX11_readVault_73 : decode cX11_readVault 73 = .ok (.aload_n 0, 1) := by decide +kernel
theorem dX11_readVault_74 : decode cX11_readVault 74 = .ok (.iload_n 1, 1) := by decide +kernel
theorem dX11_readVault_75 : decode cX11_readVault 75 = .ok (.bipush 47, 2) := by decide +kernel
theorem dX11_readVault_77 : decode cX11_readVault 77 = .ok (.invokevirtual 131, 3) := by decide +kernel
theorem dX11_readVault_80 : decode cX11_readVault 80 = .ok (.ifCond .eq 15, 3) := by decide +kernel
theorem dX11_readVault_83 : decode cX11_readVault 83 = .ok (.aload_n 0, 1) := by decide +kernel
theorem dX11_readVault_84 : decode cX11_readVault 84 = .ok (.iload_n 1, 1) := by decide +kernel
theorem dX11_readVault_85 : decode cX11_readVault 85 = .ok (.invokevirtual 141, 3) := by decide +kernel
theorem dX11_readVault_88 : decode cX11_readVault 88 = .ok (.ifCond .eq 7, 3) := by decide +kernel
theorem dX11_readVault_91 : decode cX11_readVault 91 = .ok (.iconst 1, 1) := by decide +kernel
theorem dX11_readVault_92 : decode cX11_readVault 92 = .ok (.goto 4, 3) := by decide +kernel
theorem dX11_readVault_95 : decode cX11_readVault 95 = .ok (.iconst 0, 1) := by decide +kernel
theorem dX11_readVault_96 : decode cX11_readVault 96 = .ok (.ireturn, 1) := by decide +kernel
theorem dX11_readTheGloom_0 : decode cX11_readTheGloom 0 = .ok (.aload_n 0, 1) := by decide +kernel
theorem dX11_readTheGloom_1 : decode cX11_readTheGloom 1 = .ok (.iconst 0, 1) := by decide +kernel
theorem dX11_readTheGloom_2 : decode cX11_readTheGloom 2 = .ok (.putfield 116, 3) := by decide +kernel
theorem dX11_readTheGloom_5 : decode cX11_readTheGloom 5 = .ok (.aload_n 0, 1) := by decide +kernel
theorem dX11_readTheGloom_6 : decode cX11_readTheGloom 6 = .ok (.getfield 116, 3) := by decide +kernel
theorem dX11_readTheGloom_9 : decode cX11_readTheGloom 9 = .ok (.bipush 6, 2) := by decide +kernel
theorem dX11_readTheGloom_11 : decode cX11_readTheGloom 11 = .ok (.if_icmp .ge 52, 3) := by decide +kernel
theorem dX11_readTheGloom_14 : decode cX11_readTheGloom 14 = .ok (.aload_n 0, 1) := by decide +kernel
theorem dX11_readTheGloom_15 : decode cX11_readTheGloom 15 = .ok (.iload_n 1, 1) := by decide +kernel
theorem dX11_readTheGloom_16 : decode cX11_readTheGloom 16 = .ok (.iconst 0, 1) := by decide +kernel
theorem dX11_readTheGloom_17 : decode cX11_readTheGloom 17 = .ok (.invokevirtual 144, 3) := by decide +kernel
theorem dX11_readTheGloom_20 : decode cX11_readTheGloom 20 = .ok (.istore_n 2, 1) := by decide +kernel
theorem dX11_readTheGloom_21 : decode cX11_readTheGloom 21 = .ok (.iload_n 2, 1) := by decide +kernel
theorem dX11_readTheGloom_22 : decode cX11_readTheGloom 22 = .ok (.bipush (-9), 2) := by decide +kernel
theorem dX11_readTheGloom_24 : decode cX11_readTheGloom 24 = .ok (.if_icmp .ne 16, 3) := by decide +kernel
theorem dX11_readTheGloom_27 : decode cX11_readTheGloom 27 = .ok (.aload_n 0, 1) := by decide +kernel
theorem dX11_readTheGloom_28 : decode cX11_readTheGloom 28 = .ok (.getfield 116, 3) := by decide +kernel
theorem dX11_readTheGloom_31 : decode cX11_readTheGloom 31 = .ok (.ifCond .le 7, 3) := by decide +kernel
theorem dX11_readTheGloom_34 : decode cX11_readTheGloom 34 = .ok (.iconst 1, 1) := by decide +kernel
theorem dX11_readTheGloom_35 : decode cX11_readTheGloom 35 = .ok (.goto 4, 3) := by decide +kernel
theorem dX11_readTheGloom_38 : decode cX11_readTheGloom 38 = .ok (.iconst 0, 1) := by decide +kernel
theorem dX11_readTheGloom_39 : decode cX11_readTheGloom 39 = .ok (.ireturn, 1) := by decide +kernel
theorem dX11_readTheGloom_40 : decode cX11_readTheGloom 40 = .ok (.aload_n 0, 1) := by decide +kernel
theorem dX11_readTheGloom_41 : decode cX11_readTheGloom 41 = .ok (.getfield 34, 3) := by decide +kernel
theorem dX11_readTheGloom_44 : decode cX11_readTheGloom 44 = .ok (.aload_n 0, 1) := by decide +kernel
theorem dX11_readTheGloom_45 : decode cX11_readTheGloom 45 = .ok (.getfield 116, 3) := by decide +kernel
theorem dX11_readTheGloom_48 : decode cX11_readTheGloom 48 = .ok (.iload_n 2, 1) := by decide +kernel
theorem dX11_readTheGloom_49 : decode cX11_readTheGloom 49 = .ok (.iastore, 1) := by decide +kernel
theorem dX11_readTheGloom_50 : decode cX11_readTheGloom 50 = .ok (.aload_n 0, 1) := by decide +kernel
theorem dX11_readTheGloom_51 : decode cX11_readTheGloom 51 = .ok (.dup, 1) := by decide +kernel
theorem dX11_readTheGloom_52 : decode cX11_readTheGloom 52 = .ok (.getfield 116, 3) := by decide +kernel
theorem dX11_readTheGloom_55 : decode cX11_readTheGloom 55 = .ok (.iconst 1, 1) := by decide +kernel
theorem dX11_readTheGloom_56 : decode cX11_readTheGloom 56 = .ok (.iadd, 1) := by decide +kernel
theorem dX11_readTheGloom_57 : decode cX11_readTheGloom 57 = .ok (.putfield 116, 3) := by decide +kernel
theorem dX11_readTheGloom_60 : decode cX11_readTheGloom 60 = .ok (.goto (-55), 3) := by decide +kernel
theorem dX11_readTheGloom_63 : decode cX11_readTheGloom 63 = .ok (.iconst 1, 1) := by decide +kernel
theorem dX11_readTheGloom_64 : decode cX11_readTheGloom 64 = .ok (.ireturn, 1) := by decide +kernel
theorem dX11_readTaker_0 : decode cX11_readTaker 0 = .ok (.aload_n 0, 1) := by decide +kernel
theorem dX11_readTaker_1 : decode cX11_readTaker 1 = .ok (.getfield 92, 3) := by decide +kernel
theorem dX11_readTaker_4 : decode cX11_readTaker 4 = .ok (.iload_n 1, 1) := by decide +kernel
theorem dX11_readTaker_5 : decode cX11_readTaker 5 = .ok (.if_icmp .ge 15, 3) := by decide +kernel
theorem dX11_readTaker_8 : decode cX11_readTaker 8 = .ok (.aload_n 0, 1) := by decide +kernel
theorem dX11_readTaker_9 : decode cX11_readTaker 9 = .ok (.getfield 16, 3) := by decide +kernel
theorem dX11_readTaker_12 : decode cX11_readTaker 12 = .ok (.aload_n 0, 1) := by decide +kernel
theorem dX11_readTaker_13 : decode cX11_readTaker 13 = .ok (.getfield 92, 3) := by decide +kernel
theorem dX11_readTaker_16 : decode cX11_readTaker 16 = .ok (.iaload, 1) := by decide +kernel
theorem dX11_readTaker_17 : decode cX11_readTaker 17 = .ok (.goto 4, 3) := by decide +kernel
theorem dX11_readTaker_20 : decode cX11_readTaker 20 = .ok (.iconst 0, 1) := by decide +kernel
theorem dX11_readTaker_21 : decode cX11_readTaker 21 = .ok (.istore_n 2, 1) := by decide +kernel
theorem dX11_readTaker_22 : decode cX11_readTaker 22 = .ok (.aload_n 0, 1) := by decide +kernel
theorem dX11_readTaker_23 : decode cX11_readTaker 23 = .ok (.getfield 37, 3) := by decide +kernel
theorem dX11_readTaker_26 : decode cX11_readTaker 26 = .ok (.aload_n 0, 1) := by decide +kernel
theorem dX11_readTaker_27 : decode cX11_readTaker 27 = .ok (.getfield 119, 3) := by decide +kernel
theorem dX11_readTaker_30 : decode cX11_readTaker 30 = .ok (.iload_n 2, 1) := by decide +kernel
theorem dX11_readTaker_31 : decode cX11_readTaker 31 = .ok (.bipush 116, 2) := by decide +kernel
theorem dX11_readTaker_33 : decode cX11_readTaker 33 = .ok (.if_icmp .ne 7, 3) := by decide +kernel
theorem dX11_readTaker_36 : decode cX11_readTaker 36 = .ok (.iconst 0, 1) := by decide +kernel
theorem dX11_readTaker_37 : decode cX11_readTaker 37 = .ok (.goto 25, 3) := by decide +kernel
theorem dX11_readTaker_40 : decode cX11_readTaker 40 = .ok (.iload_n 2, 1) := by decide +kernel
theorem dX11_readTaker_41 : decode cX11_readTaker 41 = .ok (.bipush 115, 2) := by decide +kernel
theorem dX11_readTaker_43 : decode cX11_readTaker 43 = .ok (.if_icmp .ne 7, 3) := by decide +kernel
theorem dX11_readTaker_46 : decode cX11_readTaker 46 = .ok (.iconst 1, 1) := by decide +kernel
theorem dX11_readTaker_47 : decode cX11_readTaker 47 = .ok (.goto 15, 3) := by decide +kernel
theorem dX11_readTaker_50 : decode cX11_readTaker 50 = .ok (.iload_n 2, 1) := by decide +kernel
theorem dX11_readTaker_51 : decode cX11_readTaker 51 = .ok (.bipush 119, 2) := by decide +kernel
theorem dX11_readTaker_53 : decode cX11_readTaker 53 = .ok (.if_icmp .ne 7, 3) := by decide +kernel
theorem dX11_readTaker_56 : decode cX11_readTaker 56 = .ok (.iconst 2, 1) := by decide +kernel
theorem dX11_readTaker_57 : decode cX11_readTaker 57 = .ok (.goto 5, 3) := by decide +kernel
theorem dX11_readTaker_60 : decode cX11_readTaker 60 = .ok (.bipush (-9), 2) := by decide +kernel
theorem dX11_readTaker_62 : decode cX11_readTaker 62 = .ok (.iastore, 1) := by decide +kernel
theorem dX11_readTaker_63 : decode cX11_readTaker 63 = .ok (.aload_n 0, 1) := by decide +kernel
theorem dX11_readTaker_64 : decode cX11_readTaker 64 = .ok (.getfield 37, 3) := by decide +kernel
theorem dX11_readTaker_67 : decode cX11_readTaker 67 = .ok (.aload_n 0, 1) := by decide +kernel
theorem dX11_readTaker_68 : decode cX11_readTaker 68 = .ok (.getfield 119, 3) := by decide +kernel
theorem dX11_readTaker_71 : decode cX11_readTaker 71 = .ok (.iaload, 1) := by decide +kernel
theorem dX11_readTaker_72 : decode cX11_readTaker 72 = .ok (.bipush (-9), 2) := by decide +kernel
theorem dX11_readTaker_74 : decode cX11_readTaker 74 = .ok (.if_icmp .ne 5, 3) := by decide +kernel
theorem dX11_readTaker_77 : decode cX11_readTaker 77 = .ok (.iconst 0, 1) := by decide +kernel
theorem dX11_readTaker_78 : decode cX11_readTaker 78 = .ok (.ireturn, 1) := by decide +kernel
theorem dX11_readTaker_79 : decode cX11_readTaker 79 = .ok (.aload_n 0, 1) := by decide +kernel
theorem dX11_readTaker_80 : decode cX11_readTaker 80 = .ok (.dup, 1) := by decide +kernel
theorem dX11_readTaker_81 : decode cX11_readTaker 81 = .ok (.getfield 92, 3) := by decide +kernel
theorem dX11_readTaker_84 : decode cX11_readTaker 84 = .ok (.iconst 1, 1) := by decide +kernel
theorem dX11_readTaker_85 : decode cX11_readTaker 85 = .ok (.iadd, 1) := by decide +kernel
theorem dX11_readTaker_86 : decode cX11_readTaker 86 = .ok (.putfield 92, 3) := by decide +kernel
theorem dX11_readTaker_89 : decode cX11_readTaker 89 = .ok (.aload_n 0, 1) := by decide +kernel
theorem dX11_readTaker_90 : decode cX11_readTaker 90 = .ok (.iload_n 1, 1) := by decide +kernel
theorem dX11_readTaker_91 : decode cX11_readTaker 91 = .ok (.iconst 0, 1) := by decide +kernel
theorem dX11_readTaker_92 : decode cX11_readTaker 92 = .ok (.invokevirtual 144, 3) := by decide +kernel
theorem dX11_readTaker_95 : decode cX11_readTaker 95 = .ok (.istore_n 3, 1) := by decide +kernel
theorem dX11_readTaker_96 : decode cX11_readTaker 96 = .ok (.iload_n 3, 1) := by decide +kernel
theorem dX11_readTaker_97 : decode cX11_readTaker 97 = .ok (.bipush (-9), 2) := by decide +kernel
theorem dX11_readTaker_99 : decode cX11_readTaker 99 = .ok (.if_icmp .ne 5, 3) := by decide +kernel
theorem dX11_readTaker_102 : decode cX11_readTaker 102 = .ok (.iconst 0, 1) := by decide +kernel
theorem dX11_readTaker_103 : decode cX11_readTaker 103 = .ok (.ireturn, 1) := by decide +kernel
theorem dX11_readTaker_104 : decode cX11_readTaker 104 = .ok (.aload_n 0, 1) := by decide +kernel
theorem dX11_readTaker_105 : decode cX11_readTaker 105 = .ok (.iload_n 1, 1) := by decide +kernel
theorem dX11_readTaker_106 : decode cX11_readTaker 106 = .ok (.iconst 0, 1) := by decide +kernel
theorem dX11_readTaker_107 : decode cX11_readTaker 107 = .ok (.invokevirtual 144, 3) := by decide +kernel
theorem dX11_readTaker_110 : decode cX11_readTaker 110 = .ok (.istore 4, 2) := by decide +kernel
theorem dX11_readTaker_112 : decode cX11_readTaker 112 = .ok (.iload 4, 2) := by decide +kernel
theorem dX11_readTaker_114 : decode cX11_readTaker 114 = .ok (.bipush (-9), 2) := by decide +kernel
theorem dX11_readTaker_116 : decode cX11_readTaker 116 = .ok (.if_icmp .ne 5, 3) := by decide +kernel
theorem dX11_readTaker_119 : decode cX11_readTaker 119 = .ok (.iconst 0, 1) := by decide +kernel
theorem dX11_readTaker_120 : decode cX11_readTaker 120 = .ok (.ireturn, 1) := by decide +kernel
theorem dX11_readTaker_121 : decode cX11_readTaker 121 = .ok (.aload_n 0, 1) := by decide +kernel
theorem dX11_readTaker_122 : decode cX11_readTaker 122 = .ok (.getfield 40, 3) := by decide +kernel
theorem dX11_readTaker_125 : decode cX11_readTaker 125 = .ok (.aload_n 0, 1) := by decide +kernel
theorem dX11_readTaker_126 : decode cX11_readTaker 126 = .ok (.getfield 119, 3) := by decide +kernel
theorem dX11_readTaker_129 : decode cX11_readTaker 129 = .ok (.bipush 10, 2) := by decide +kernel
theorem dX11_readTaker_131 : decode cX11_readTaker 131 = .ok (.iload_n 3, 1) := by decide +kernel
theorem dX11_readTaker_132 : decode cX11_readTaker 132 = .ok (.imul, 1) := by decide +kernel
theorem dX11_readTaker_133 : decode cX11_readTaker 133 = .ok (.iload 4, 2) := by decide +kernel
theorem dX11_readTaker_135 : decode cX11_readTaker 135 = .ok (.iadd, 1) := by decide +kernel
theorem dX11_readTaker_136 : decode cX11_readTaker 136 = .ok (.iastore, 1) := by decide +kernel
theorem dX11_readTaker_137 : decode cX11_readTaker 137 = .ok (.aload_n 0, 1) := by decide +kernel
theorem dX11_readTaker_138 : decode cX11_readTaker 138 = .ok (.getfield 43, 3) := by decide +kernel
theorem dX11_readTaker_141 : decode cX11_readTaker 141 = .ok (.aload_n 0, 1) := by decide +kernel
theorem dX11_readTaker_142 : decode cX11_readTaker 142 = .ok (.getfield 119, 3) := by decide +kernel
theorem dX11_readTaker_145 : decode cX11_readTaker 145 = .ok (.aload_n 0, 1) := by decide +kernel
theorem dX11_readTaker_146 : decode cX11_readTaker 146 = .ok (.iload_n 1, 1) := by decide +kernel
theorem dX11_readTaker_147 : decode cX11_readTaker 147 = .ok (.iconst 0, 1) := by decide +kernel
theorem dX11_readTaker_148 : decode cX11_readTaker 148 = .ok (.invokevirtual 144, 3) := by decide +kernel
theorem dX11_readTaker_151 : decode cX11_readTaker 151 = .ok (.iastore, 1) := by decide +kernel
theorem dX11_readTaker_152 : decode cX11_readTaker 152 = .ok (.aload_n 0, 1) := by decide +kernel
theorem dX11_readTaker_153 : decode cX11_readTaker 153 = .ok (.dup, 1) := by decide +kernel
theorem dX11_readTaker_154 : decode cX11_readTaker 154 = .ok (.getfield 119, 3) := by decide +kernel
theorem dX11_readTaker_157 : decode cX11_readTaker 157 = .ok (.iconst 1, 1) := by decide +kernel
theorem dX11_readTaker_158 : decode cX11_readTaker 158 = .ok (.iadd, 1) := by decide +kernel
theorem dX11_readTaker_159 : decode cX11_readTaker 159 = .ok (.putfield 119, 3) := by decide +kernel
theorem dX11_readTaker_162 : decode cX11_readTaker 162 = .ok (.aload_n 0, 1) := by decide +kernel
theorem dX11_readTaker_163 : decode cX11_readTaker 163 = .ok (.getfield 43, 3) := by decide +kernel
theorem dX11_readTaker_166 : decode cX11_readTaker 166 = .ok (.aload_n 0, 1) := by decide +kernel
theorem dX11_readTaker_167 : decode cX11_readTaker 167 = .ok (.getfield 119, 3) := by decide +kernel
theorem dX11_readTaker_170 : decode cX11_readTaker 170 = .ok (.iconst 1, 1) := by decide +kernel
theorem dX11_readTaker_171 : decode cX11_readTaker 171 = .ok (.isub, 1) := by decide +kernel
theorem dX11_readTaker_172 : decode cX11_readTaker 172 = .ok (.iaload, 1) := by decide +kernel
theorem dX11_readTaker_173 : decode cX11_readTaker 173 = .ok (.bipush (-9), 2) := by decide +kernel
theorem dX11_readTaker_175 : decode cX11_readTaker 175 = .ok (.if_icmp .eq 7, 3) := by decide +kernel
theorem dX11_readTaker_178 : decode cX11_readTaker 178 = .ok (.iconst 1, 1) := by decide +kernel
theorem dX11_readTaker_179 : decode cX11_readTaker 179 = .ok (.goto 4, 3) := by decide +kernel
theorem dX11_readTaker_182 : decode cX11_readTaker 182 = .ok (.iconst 0, 1) := by decide +kernel
theorem dX11_readTaker_183 : decode cX11_readTaker 183 = .ok (.ireturn, 1) := by decide +kernel
theorem dX11_readTheGoods_0 : decode cX11_readTheGoods 0 = .ok (.aload_n 0, 1) := by decide +kernel
theorem dX11_readTheGoods_1 : decode cX11_readTheGoods 1 = .ok (.iconst 0, 1) := by decide +kernel
theorem dX11_readTheGoods_2 : decode cX11_readTheGoods 2 = .ok (.putfield 122, 3) := by decide +kernel
theorem dX11_readTheGoods_5 : decode cX11_readTheGoods 5 = .ok (.aload_n 0, 1) := by decide +kernel
theorem dX11_readTheGoods_6 : decode cX11_readTheGoods 6 = .ok (.getfield 122, 3) := by decide +kernel
theorem dX11_readTheGoods_9 : decode cX11_readTheGoods 9 = .ok (.iconst 5, 1) := by decide +kernel
theorem dX11_readTheGoods_10 : decode cX11_readTheGoods 10 = .ok (.if_icmp .ge 49, 3) := by decide +kernel
theorem dX11_readTheGoods_13 : decode cX11_readTheGoods 13 = .ok (.aload_n 0, 1) := by decide +kernel
theorem dX11_readTheGoods_14 : decode cX11_readTheGoods 14 = .ok (.getfield 92, 3) := by decide +kernel
theorem dX11_readTheGoods_17 : decode cX11_readTheGoods 17 = .ok (.iload_n 1, 1) := by decide +kernel
theorem dX11_readTheGoods_18 : decode cX11_readTheGoods 18 = .ok (.if_icmp .ge 41, 3) := by decide +kernel
theorem dX11_readTheGoods_21 : decode cX11_readTheGoods 21 = .ok (.aload_n 0, 1) := by decide +kernel
theorem dX11_readTheGoods_22 : decode cX11_readTheGoods 22 = .ok (.iload_n 1, 1) := by decide +kernel
theorem dX11_readTheGoods_23 : decode cX11_readTheGoods 23 = .ok (.iconst 1, 1) := by decide +kernel
theorem dX11_readTheGoods_24 : decode cX11_readTheGoods 24 = .ok (.invokevirtual 144, 3) := by decide +kernel
theorem dX11_readTheGoods_27 : decode cX11_readTheGoods 27 = .ok (.istore_n 2, 1) := by decide +kernel
theorem dX11_readTheGoods_28 : decode cX11_readTheGoods 28 = .ok (.iload_n 2, 1) := by decide +kernel
theorem dX11_readTheGoods_29 : decode cX11_readTheGoods 29 = .ok (.bipush (-9), 2) := by decide +kernel
theorem dX11_readTheGoods_31 : decode cX11_readTheGoods 31 = .ok (.if_icmp .ne 5, 3) := by decide +kernel
theorem dX11_readTheGoods_34 : decode cX11_readTheGoods 34 = .ok (.iconst 0, 1) := by decide +kernel
theorem dX11_readTheGoods_35 : decode cX11_readTheGoods 35 = .ok (.ireturn, 1) := by decide +kernel
theorem dX11_readTheGoods_36 : decode cX11_readTheGoods 36 = .ok (.aload_n 0, 1) := by decide +kernel
theorem dX11_readTheGoods_37 : decode cX11_readTheGoods 37 = .ok (.getfield 46, 3) := by decide +kernel
theorem dX11_readTheGoods_40 : decode cX11_readTheGoods 40 = .ok (.aload_n 0, 1) := by decide +kernel
theorem dX11_readTheGoods_41 : decode cX11_readTheGoods 41 = .ok (.getfield 122, 3) := by decide +kernel
theorem dX11_readTheGoods_44 : decode cX11_readTheGoods 44 = .ok (.iload_n 2, 1) := by decide +kernel
theorem dX11_readTheGoods_45 : decode cX11_readTheGoods 45 = .ok (.iastore, 1) := by decide +kernel
theorem dX11_readTheGoods_46 : decode cX11_readTheGoods 46 = .ok (.aload_n 0, 1) := by decide +kernel
theorem dX11_readTheGoods_47 : decode cX11_readTheGoods 47 = .ok (.dup, 1) := by decide +kernel
theorem dX11_readTheGoods_48 : decode cX11_readTheGoods 48 = .ok (.getfield 122, 3) := by decide +kernel
theorem dX11_readTheGoods_51 : decode cX11_readTheGoods 51 = .ok (.iconst 1, 1) := by decide +kernel
theorem dX11_readTheGoods_52 : decode cX11_readTheGoods 52 = .ok (.iadd, 1) := by decide +kernel
theorem dX11_readTheGoods_53 : decode cX11_readTheGoods 53 = .ok (.putfield 122, 3) := by decide +kernel
theorem dX11_readTheGoods_56 : decode cX11_readTheGoods 56 = .ok (.goto (-51), 3) := by decide +kernel
theorem dX11_readTheGoods_59 : decode cX11_readTheGoods 59 = .ok (.aload_n 0, 1) := by decide +kernel
theorem dX11_readTheGoods_60 : decode cX11_readTheGoods 60 = .ok (.getfield 92, 3) := by decide +kernel
theorem dX11_readTheGoods_63 : decode cX11_readTheGoods 63 = .ok (.iload_n 1, 1) := by decide +kernel
theorem dX11_readTheGoods_64 : decode cX11_readTheGoods 64 = .ok (.if_icmp .ne 7, 3) := by decide +kernel
theorem dX11_readTheGoods_67 : decode cX11_readTheGoods 67 = .ok (.iconst 1, 1) := by decide +kernel
theorem dX11_readTheGoods_68 : decode cX11_readTheGoods 68 = .ok (.goto 4, 3) := by decide +kernel
theorem dX11_readTheGoods_71 : decode cX11_readTheGoods 71 = .ok (.iconst 0, 1) := by decide +kernel
theorem dX11_readTheGoods_72 : decode cX11_readTheGoods 72 = .ok (.ireturn, 1) := by decide +kernel
theorem dX11_ofTaker_0 : decode cX11_ofTaker 0 = .ok (.aload_n 0, 1) := by decide +kernel
theorem dX11_ofTaker_1 : decode cX11_ofTaker 1 = .ok (.iload_n 1, 1) := by decide +kernel
theorem dX11_ofTaker_2 : decode cX11_ofTaker 2 = .ok (.invokevirtual 148, 3) := by decide +kernel
theorem dX11_ofTaker_5 : decode cX11_ofTaker 5 = .ok (.ifCond .ne 5, 3) := by decide +kernel
theorem dX11_ofTaker_8 : decode cX11_ofTaker 8 = .ok (.iconst (-1), 1) := by decide +kernel
theorem dX11_ofTaker_9 : decode cX11_ofTaker 9 = .ok (.ireturn, 1) := by decide +kernel
theorem dX11_ofTaker_10 : decode cX11_ofTaker 10 = .ok (.iload_n 2, 1) := by decide +kernel
theorem dX11_ofTaker_11 : decode cX11_ofTaker 11 = .ok (.ifCond .ne 12, 3) := by decide +kernel
theorem dX11_ofTaker_14 : decode cX11_ofTaker 14 = .ok (.aload_n 0, 1) := by decide +kernel
theorem dX11_ofTaker_15 : decode cX11_ofTaker 15 = .ok (.getfield 22, 3) := by decide +kernel
theorem dX11_ofTaker_18 : decode cX11_ofTaker 18 = .ok (.iload_n 1, 1) := by decide +kernel
theorem dX11_ofTaker_19 : decode cX11_ofTaker 19 = .ok (.iaload, 1) := by decide +kernel
theorem dX11_ofTaker_20 : decode cX11_ofTaker 20 = .ok (.goto 33, 3) := by decide +kernel
theorem dX11_ofTaker_23 : decode cX11_ofTaker 23 = .ok (.iload_n 2, 1) := by decide +kernel
theorem dX11_ofTaker_24 : decode cX11_ofTaker 24 = .ok (.iconst 1, 1) := by decide +kernel
theorem dX11_ofTaker_25 : decode cX11_ofTaker 25 = .ok (.if_icmp .ne 12, 3) := by decide +kernel
theorem dX11_ofTaker_28 : decode cX11_ofTaker 28 = .ok (.aload_n 0, 1) := by decide +kernel
theorem dX11_ofTaker_29 : decode cX11_ofTaker 29 = .ok (.getfield 25, 3) := by decide +kernel
theorem dX11_ofTaker_32 : decode cX11_ofTaker 32 = .ok (.iload_n 1, 1) := by decide +kernel
theorem dX11_ofTaker_33 : decode cX11_ofTaker 33 = .ok (.iaload, 1) := by decide +kernel
theorem dX11_ofTaker_34 : decode cX11_ofTaker 34 = .ok (.goto 19, 3) := by decide +kernel
theorem dX11_ofTaker_37 : decode cX11_ofTaker 37 = .ok (.iload_n 2, 1) := by decide +kernel
theorem dX11_ofTaker_38 : decode cX11_ofTaker 38 = .ok (.iconst 2, 1) := by decide +kernel
theorem dX11_ofTaker_39 : decode cX11_ofTaker 39 = .ok (.if_icmp .ne 12, 3) := by decide +kernel
theorem dX11_ofTaker_42 : decode cX11_ofTaker 42 = .ok (.aload_n 0, 1) := by decide +kernel
theorem dX11_ofTaker_43 : decode cX11_ofTaker 43 = .ok (.getfield 28, 3) := by decide +kernel
theorem dX11_ofTaker_46 : decode cX11_ofTaker 46 = .ok (.iload_n 1, 1) := by decide +kernel
theorem dX11_ofTaker_47 : decode cX11_ofTaker 47 = .ok (.iaload, 1) := by decide +kernel
theorem dX11_ofTaker_48 : decode cX11_ofTaker 48 = .ok (.goto 5, 3) := by decide +kernel
theorem dX11_ofTaker_51 : decode cX11_ofTaker 51 = .ok (.bipush (-2), 2) := by decide +kernel
theorem dX11_ofTaker_53 : decode cX11_ofTaker 53 = .ok (.ireturn, 1) := by decide +kernel
theorem dX11_depth_0 : decode cX11_depth 0 = .ok (.iload_n 1, 1) := by decide +kernel
theorem dX11_depth_1 : decode cX11_depth 1 = .ok (.ifCond .lt 20, 3) := by decide +kernel
theorem dX11_depth_4 : decode cX11_depth 4 = .ok (.iload_n 1, 1) := by decide +kernel
theorem dX11_depth_5 : decode cX11_depth 5 = .ok (.aload_n 0, 1) := by decide +kernel
theorem dX11_depth_6 : decode cX11_depth 6 = .ok (.getfield 125, 3) := by decide +kernel
theorem dX11_depth_9 : decode cX11_depth 9 = .ok (.if_icmp .ge 12, 3) := by decide +kernel
theorem dX11_depth_12 : decode cX11_depth 12 = .ok (.aload_n 0, 1) := by decide +kernel
theorem dX11_depth_13 : decode cX11_depth 13 = .ok (.getfield 31, 3) := by decide +kernel
theorem dX11_depth_16 : decode cX11_depth 16 = .ok (.iload_n 1, 1) := by decide +kernel
theorem dX11_depth_17 : decode cX11_depth 17 = .ok (.iaload, 1) := by decide +kernel
theorem dX11_depth_18 : decode cX11_depth 18 = .ok (.goto 4, 3) := by decide +kernel
theorem dX11_depth_21 : decode cX11_depth 21 = .ok (.iconst (-1), 1) := by decide +kernel
theorem dX11_depth_22 : decode cX11_depth 22 = .ok (.ireturn, 1) := by decide +kernel
theorem dX11_gloom_0 : decode cX11_gloom 0 = .ok (.aload_n 0, 1) := by decide +kernel
theorem dX11_gloom_1 : decode cX11_gloom 1 = .ok (.iload_n 1, 1) := by decide +kernel
theorem dX11_gloom_2 : decode cX11_gloom 2 = .ok (.invokevirtual 151, 3) := by decide +kernel
theorem dX11_gloom_5 : decode cX11_gloom 5 = .ok (.ifCond .eq 12, 3) := by decide +kernel
theorem dX11_gloom_8 : decode cX11_gloom 8 = .ok (.aload_n 0, 1) := by decide +kernel
theorem dX11_gloom_9 : decode cX11_gloom 9 = .ok (.getfield 19, 3) := by decide +kernel
theorem dX11_gloom_12 : decode cX11_gloom 12 = .ok (.iload_n 1, 1) := by decide +kernel
theorem dX11_gloom_13 : decode cX11_gloom 13 = .ok (.iaload, 1) := by decide +kernel
theorem dX11_gloom_14 : decode cX11_gloom 14 = .ok (.goto 4, 3) := by decide +kernel
theorem dX11_gloom_17 : decode cX11_gloom 17 = .ok (.iconst (-1), 1) := by decide +kernel
theorem dX11_gloom_18 : decode cX11_gloom 18 = .ok (.ireturn, 1) := by decide +kernel
theorem dX11_hush_0 : decode cX11_hush 0 = .ok (.aload_n 0, 1) := by decide +kernel
theorem dX11_hush_1 : decode cX11_hush 1 = .ok (.iload_n 1, 1) := by decide +kernel
theorem dX11_hush_2 : decode cX11_hush 2 = .ok (.invokevirtual 151, 3) := by decide +kernel
theorem dX11_hush_5 : decode cX11_hush 5 = .ok (.ifCond .ne 5, 3) := by decide +kernel
theorem dX11_hush_8 : decode cX11_hush 8 = .ok (.iconst (-1), 1) := by decide +kernel
theorem dX11_hush_9 : decode cX11_hush 9 = .ok (.ireturn, 1) := by decide +kernel
theorem dX11_hush_10 : decode cX11_hush 10 = .ok (.iload_n 2, 1) := by decide +kernel
theorem dX11_hush_11 : decode cX11_hush 11 = .ok (.iconst 0, 1) := by decide +kernel
theorem dX11_hush_12 : decode cX11_hush 12 = .ok (.bipush 9, 2) := by decide +kernel
theorem dX11_hush_14 : decode cX11_hush 14 = .ok (.invokestatic 82, 3) := by decide +kernel
theorem dX11_hush_17 : decode cX11_hush 17 = .ok (.ifCond .ne 6, 3) := by decide +kernel
theorem dX11_hush_20 : decode cX11_hush 20 = .ok (.bipush (-2), 2) := by decide +kernel
theorem dX11_hush_22 : decode cX11_hush 22 = .ok (.ireturn, 1) := by decide +kernel
theorem dX11_hush_23 : decode cX11_hush 23 = .ok (.aload_n 0, 1) := by decide +kernel
theorem dX11_hush_24 : decode cX11_hush 24 = .ok (.getfield 19, 3) := by decide +kernel
theorem dX11_hush_27 : decode cX11_hush 27 = .ok (.iload_n 1, 1) := by decide +kernel
theorem dX11_hush_28 : decode cX11_hush 28 = .ok (.iaload, 1) := by decide +kernel
theorem dX11_hush_29 : decode cX11_hush 29 = .ok (.istore_n 3, 1) := by decide +kernel
theorem dX11_hush_30 : decode cX11_hush 30 = .ok (.aload_n 0, 1) := by decide +kernel
theorem dX11_hush_31 : decode cX11_hush 31 = .ok (.getfield 19, 3) := by decide +kernel
theorem dX11_hush_34 : decode cX11_hush 34 = .ok (.iload_n 1, 1) := by decide +kernel
theorem dX11_hush_35 : decode cX11_hush 35 = .ok (.iload_n 2, 1) := by decide +kernel
theorem dX11_hush_36 : decode cX11_hush 36 = .ok (.iastore, 1) := by decide +kernel
theorem dX11_hush_37 : decode cX11_hush 37 = .ok (.iload_n 3, 1) := by decide +kernel
theorem dX11_hush_38 : decode cX11_hush 38 = .ok (.ireturn, 1) := by decide +kernel
theorem dX11_think_0 : decode cX11_think 0 = .ok (.aload_n 0, 1) := by decide +kernel
theorem dX11_think_1 : decode cX11_think 1 = .ok (.iload_n 1, 1) := by decide +kernel
theorem dX11_think_2 : decode cX11_think 2 = .ok (.invokevirtual 148, 3) := by decide +kernel
theorem dX11_think_5 : decode cX11_think 5 = .ok (.ifCond .ne 5, 3) := by decide +kernel
theorem dX11_think_8 : decode cX11_think 8 = .ok (.iconst (-1), 1) := by decide +kernel
theorem dX11_think_9 : decode cX11_think 9 = .ok (.ireturn, 1) := by decide +kernel
theorem dX11_think_10 : decode cX11_think 10 = .ok (.iload_n 2, 1) := by decide +kernel
theorem dX11_think_11 : decode cX11_think 11 = .ok (.iconst 0, 1) := by decide +kernel
theorem dX11_think_12 : decode cX11_think 12 = .ok (.bipush 9, 2) := by decide +kernel
theorem dX11_think_14 : decode cX11_think 14 = .ok (.invokestatic 82, 3) := by decide +kernel
theorem dX11_think_17 : decode cX11_think 17 = .ok (.ifCond .ne 6, 3) := by decide +kernel
theorem dX11_think_20 : decode cX11_think 20 = .ok (.bipush (-2), 2) := by decide +kernel
theorem dX11_think_22 : decode cX11_think 22 = .ok (.ireturn, 1) := by decide +kernel
theorem dX11_think_23 : decode cX11_think 23 = .ok (.aload_n 0, 1) := by decide +kernel
theorem dX11_think_24 : decode cX11_think 24 = .ok (.getfield 28, 3) := by decide +kernel
theorem dX11_think_27 : decode cX11_think 27 = .ok (.iload_n 1, 1) := by decide +kernel
theorem dX11_think_28 : decode cX11_think 28 = .ok (.iaload, 1) := by decide +kernel
theorem dX11_think_29 : decode cX11_think 29 = .ok (.istore_n 3, 1) := by decide +kernel
theorem dX11_think_30 : decode cX11_think 30 = .ok (.aload_n 0, 1) := by decide +kernel
theorem dX11_think_31 : decode cX11_think 31 = .ok (.getfield 28, 3) := by decide +kernel
theorem dX11_think_34 : decode cX11_think 34 = .ok (.iload_n 1, 1) := by decide +kernel
theorem dX11_think_35 : decode cX11_think 35 = .ok (.iload_n 2, 1) := by decide +kernel
theorem dX11_think_36 : decode cX11_think 36 = .ok (.iastore, 1) := by decide +kernel
theorem dX11_think_37 : decode cX11_think 37 = .ok (.iload_n 3, 1) := by decide +kernel
theorem dX11_think_38 : decode cX11_think 38 = .ok (.ireturn, 1) := by decide +kernel
theorem dX11_brace_0 : decode cX11_brace 0 = .ok (.aload_n 0, 1) := by decide +kernel
theorem dX11_brace_1 : decode cX11_brace 1 = .ok (.iload_n 1, 1) := by decide +kernel
theorem dX11_brace_2 : decode cX11_brace 2 = .ok (.invokevirtual 148, 3) := by decide +kernel
theorem dX11_brace_5 : decode cX11_brace 5 = .ok (.ifCond .ne 5, 3) := by decide +kernel
theorem dX11_brace_8 : decode cX11_brace 8 = .ok (.iconst (-1), 1) := by decide +kernel
theorem dX11_brace_9 : decode cX11_brace 9 = .ok (.ireturn, 1) := by decide +kernel
theorem dX11_brace_10 : decode cX11_brace 10 = .ok (.iload_n 2, 1) := by decide +kernel
theorem dX11_brace_11 : decode cX11_brace 11 = .ok (.iconst 0, 1) := by decide +kernel
theorem dX11_brace_12 : decode cX11_brace 12 = .ok (.bipush 99, 2) := by decide +kernel
theorem dX11_brace_14 : decode cX11_brace 14 = .ok (.invokestatic 82, 3) := by decide +kernel
theorem dX11_brace_17 : decode cX11_brace 17 = .ok (.ifCond .ne 6, 3) := by decide +kernel
theorem dX11_brace_20 : decode cX11_brace 20 = .ok (.bipush (-2), 2) := by decide +kernel
theorem dX11_brace_22 : decode cX11_brace 22 = .ok (.ireturn, 1) := by decide +kernel
theorem dX11_brace_23 : decode cX11_brace 23 = .ok (.aload_n 0, 1) := by decide +kernel
theorem dX11_brace_24 : decode cX11_brace 24 = .ok (.getfield 25, 3) := by decide +kernel
theorem dX11_brace_27 : decode cX11_brace 27 = .ok (.iload_n 1, 1) := by decide +kernel
theorem dX11_brace_28 : decode cX11_brace 28 = .ok (.iaload, 1) := by decide +kernel
theorem dX11_brace_29 : decode cX11_brace 29 = .ok (.istore_n 3, 1) := by decide +kernel
theorem dX11_brace_30 : decode cX11_brace 30 = .ok (.aload_n 0, 1) := by decide +kernel
theorem dX11_brace_31 : decode cX11_brace 31 = .ok (.getfield 25, 3) := by decide +kernel
theorem dX11_brace_34 : decode cX11_brace 34 = .ok (.iload_n 1, 1) := by decide +kernel
theorem dX11_brace_35 : decode cX11_brace 35 = .ok (.iload_n 2, 1) := by decide +kernel
theorem dX11_brace_36 : decode cX11_brace 36 = .ok (.iastore, 1) := by decide +kernel
theorem dX11_brace_37 : decode cX11_brace 37 = .ok (.iload_n 3, 1) := by decide +kernel
theorem dX11_brace_38 : decode cX11_brace 38 = .ok (.ireturn, 1) := by decide +kernel
theorem dX11_drainOf_0 : decode cX11_drainOf 0 = .ok (.iload_n 2, 1) := by decide +kernel
theorem dX11_drainOf_1 : decode cX11_drainOf 1 = .ok (.aload_n 0, 1) := by decide +kernel
theorem dX11_drainOf_2 : decode cX11_drainOf 2 = .ok (.getfield 89, 3) := by decide +kernel
theorem dX11_drainOf_5 : decode cX11_drainOf 5 = .ok (.irem, 1) := by decide +kernel
theorem dX11_drainOf_6 : decode cX11_drainOf 6 = .ok (.istore_n 3, 1) := by decide +kernel
theorem dX11_drainOf_7 : decode cX11_drainOf 7 = .ok (.aload_n 0, 1) := by decide +kernel
theorem dX11_drainOf_8 : decode cX11_drainOf 8 = .ok (.getfield 154, 3) := by decide +kernel
theorem dX11_drainOf_11 : decode cX11_drainOf 11 = .ok (.iload_n 3, 1) := by decide +kernel
theorem dX11_drainOf_12 : decode cX11_drainOf 12 = .ok (.ishr, 1) := by decide +kernel
theorem dX11_drainOf_13 : decode cX11_drainOf 13 = .ok (.iconst 1, 1) := by decide +kernel
theorem dX11_drainOf_14 : decode cX11_drainOf 14 = .ok (.iand, 1) := by decide +kernel
theorem dX11_drainOf_15 : decode cX11_drainOf 15 = .ok (.iconst 1, 1) := by decide +kernel
theorem dX11_drainOf_16 : decode cX11_drainOf 16 = .ok (.if_icmp .ne 7, 3) := by decide +kernel
theorem dX11_drainOf_19 : decode cX11_drainOf 19 = .ok (.iconst 0, 1) := by decide +kernel
theorem dX11_drainOf_20 : decode cX11_drainOf 20 = .ok (.goto 9, 3) := by decide +kernel
theorem dX11_drainOf_23 : decode cX11_drainOf 23 = .ok (.aload_n 0, 1) := by decide +kernel
theorem dX11_drainOf_24 : decode cX11_drainOf 24 = .ok (.getfield 19, 3) := by decide +kernel
theorem dX11_drainOf_27 : decode cX11_drainOf 27 = .ok (.iload_n 3, 1) := by decide +kernel
theorem dX11_drainOf_28 : decode cX11_drainOf 28 = .ok (.iaload, 1) := by decide +kernel
theorem dX11_drainOf_29 : decode cX11_drainOf 29 = .ok (.aload_n 0, 1) := by decide +kernel
theorem dX11_drainOf_30 : decode cX11_drainOf 30 = .ok (.getfield 28, 3) := by decide +kernel
theorem dX11_drainOf_33 : decode cX11_drainOf 33 = .ok (.iload_n 1, 1) := by decide +kernel
theorem dX11_drainOf_34 : decode cX11_drainOf 34 = .ok (.iaload, 1) := by decide +kernel
theorem dX11_drainOf_35 : decode cX11_drainOf 35 = .ok (.iadd, 1) := by decide +kernel
theorem dX11_drainOf_36 : decode cX11_drainOf 36 = .ok (.istore 4, 2) := by decide +kernel
theorem dX11_drainOf_38 : decode cX11_drainOf 38 = .ok (.aload_n 0, 1) := by decide +kernel
theorem dX11_drainOf_39 : decode cX11_drainOf 39 = .ok (.getfield 22, 3) := by decide +kernel
theorem dX11_drainOf_42 : decode cX11_drainOf 42 = .ok (.iload_n 1, 1) := by decide +kernel
theorem dX11_drainOf_43 : decode cX11_drainOf 43 = .ok (.iaload, 1) := by decide +kernel
theorem dX11_drainOf_44 : decode cX11_drainOf 44 = .ok (.iconst 1, 1) := by decide +kernel
theorem dX11_drainOf_45 : decode cX11_drainOf 45 = .ok (.if_icmp .ne 17, 3) := by decide +kernel
theorem dX11_drainOf_48 : decode cX11_drainOf 48 = .ok (.iload 4, 2) := by decide +kernel
theorem dX11_drainOf_50 : decode cX11_drainOf 50 = .ok (.ifCond .le 10, 3) := by decide +kernel
theorem dX11_drainOf_53 : decode cX11_drainOf 53 = .ok (.iload 4, 2) := by decide +kernel
theorem dX11_drainOf_55 : decode cX11_drainOf 55 = .ok (.iconst 1, 1) := by decide +kernel
theorem dX11_drainOf_56 : decode cX11_drainOf 56 = .ok (.isub, 1) := by decide +kernel
theorem dX11_drainOf_57 : decode cX11_drainOf 57 = .ok (.goto 4, 3) := by decide +kernel
theorem dX11_drainOf_60 : decode cX11_drainOf 60 = .ok (.iconst 0, 1) := by decide +kernel
theorem dX11_drainOf_61 : decode cX11_drainOf 61 = .ok (.ireturn, 1) := by decide +kernel
theorem dX11_drainOf_62 : decode cX11_drainOf 62 = .ok (.aload_n 0, 1) := by decide +kernel
theorem dX11_drainOf_63 : decode cX11_drainOf 63 = .ok (.getfield 22, 3) := by decide +kernel
theorem dX11_drainOf_66 : decode cX11_drainOf 66 = .ok (.iload_n 1, 1) := by decide +kernel
theorem dX11_drainOf_67 : decode cX11_drainOf 67 = .ok (.iaload, 1) := by decide +kernel
theorem dX11_drainOf_68 : decode cX11_drainOf 68 = .ok (.ifCond .ne 8, 3) := by decide +kernel
theorem dX11_drainOf_71 : decode cX11_drainOf 71 = .ok (.iload 4, 2) := by decide +kernel
theorem dX11_drainOf_73 : decode cX11_drainOf 73 = .ok (.goto 7, 3) := by decide +kernel
theorem dX11_drainOf_76 : decode cX11_drainOf 76 = .ok (.iload 4, 2) := by decide +kernel
theorem dX11_drainOf_78 : decode cX11_drainOf 78 = .ok (.iconst 2, 1) := by decide +kernel
theorem dX11_drainOf_79 : decode cX11_drainOf 79 = .ok (.idiv, 1) := by decide +kernel
theorem dX11_drainOf_80 : decode cX11_drainOf 80 = .ok (.ireturn, 1) := by decide +kernel
theorem dX11_drain_0 : decode cX11_drain 0 = .ok (.aload_n 0, 1) := by decide +kernel
theorem dX11_drain_1 : decode cX11_drain 1 = .ok (.iload_n 1, 1) := by decide +kernel
theorem dX11_drain_2 : decode cX11_drain 2 = .ok (.invokevirtual 148, 3) := by decide +kernel
theorem dX11_drain_5 : decode cX11_drain 5 = .ok (.ifCond .ne 5, 3) := by decide +kernel
theorem dX11_drain_8 : decode cX11_drain 8 = .ok (.iconst (-1), 1) := by decide +kernel
theorem dX11_drain_9 : decode cX11_drain 9 = .ok (.ireturn, 1) := by decide +kernel
theorem dX11_drain_10 : decode cX11_drain 10 = .ok (.iload_n 2, 1) := by decide +kernel
theorem dX11_drain_11 : decode cX11_drain 11 = .ok (.iconst 0, 1) := by decide +kernel
theorem dX11_drain_12 : decode cX11_drain 12 = .ok (.bipush 99, 2) := by decide +kernel
theorem dX11_drain_14 : decode cX11_drain 14 = .ok (.invokestatic 82, 3) := by decide +kernel
theorem dX11_drain_17 : decode cX11_drain 17 = .ok (.ifCond .eq 12, 3) := by decide +kernel
theorem dX11_drain_20 : decode cX11_drain 20 = .ok (.aload_n 0, 1) := by decide +kernel
theorem dX11_drain_21 : decode cX11_drain 21 = .ok (.iload_n 1, 1) := by decide +kernel
theorem dX11_drain_22 : decode cX11_drain 22 = .ok (.iload_n 2, 1) := by decide +kernel
theorem dX11_drain_23 : decode cX11_drain 23 = .ok (.invokevirtual 157, 3) := by decide +kernel
theorem dX11_drain_26 : decode cX11_drain 26 = .ok (.goto 5, 3) := by decide +kernel
theorem dX11_drain_29 : decode cX11_drain 29 = .ok (.bipush (-2), 2) := by decide +kernel
theorem dX11_drain_31 : decode cX11_drain 31 = .ok (.ireturn, 1) := by decide +kernel
theorem dX11_holdsBy_0 : decode cX11_holdsBy 0 = .ok (.aload_n 0, 1) := by decide +kernel
theorem dX11_holdsBy_1 : decode cX11_holdsBy 1 = .ok (.getfield 25, 3) := by decide +kernel
theorem dX11_holdsBy_4 : decode cX11_holdsBy 4 = .ok (.iload_n 1, 1) := by decide +kernel
theorem dX11_holdsBy_5 : decode cX11_holdsBy 5 = .ok (.iaload, 1) := by decide +kernel
theorem dX11_holdsBy_6 : decode cX11_holdsBy 6 = .ok (.istore 4, 2) := by decide +kernel
theorem dX11_holdsBy_8 : decode cX11_holdsBy 8 = .ok (.iconst 0, 1) := by decide +kernel
theorem dX11_holdsBy_9 : decode cX11_holdsBy 9 = .ok (.istore 5, 2) := by decide +kernel
theorem dX11_holdsBy_11 : decode cX11_holdsBy 11 = .ok (.iload 5, 2) := by decide +kernel
theorem dX11_holdsBy_13 : decode cX11_holdsBy 13 = .ok (.bipush 40, 2) := by decide +kernel
theorem dX11_holdsBy_15 : decode cX11_holdsBy 15 = .ok (.if_icmp .ge 41, 3) := by decide +kernel
theorem dX11_holdsBy_18 : decode cX11_holdsBy 18 = .ok (.aload_n 0, 1) := by decide +kernel
theorem dX11_holdsBy_19 : decode cX11_holdsBy 19 = .ok (.iload_n 1, 1) := by decide +kernel
theorem dX11_holdsBy_20 : decode cX11_holdsBy 20 = .ok (.iload_n 2, 1) := by decide +kernel
theorem dX11_holdsBy_21 : decode cX11_holdsBy 21 = .ok (.iload 5, 2) := by decide +kernel
theorem dX11_holdsBy_23 : decode cX11_holdsBy 23 = .ok (.iadd, 1) := by decide +kernel
theorem dX11_holdsBy_24 : decode cX11_holdsBy 24 = .ok (.invokevirtual 157, 3) := by decide +kernel
theorem dX11_holdsBy_27 : decode cX11_holdsBy 27 = .ok (.iload_n 3, 1) := by decide +kernel
theorem dX11_holdsBy_28 : decode cX11_holdsBy 28 = .ok (.idiv, 1) := by decide +kernel
theorem dX11_holdsBy_29 : decode cX11_holdsBy 29 = .ok (.iload 4, 2) := by decide +kernel
theorem dX11_holdsBy_31 : decode cX11_holdsBy 31 = .ok (.if_icmp .gt 25, 3) := by decide +kernel
theorem dX11_holdsBy_34 : decode cX11_holdsBy 34 = .ok (.iload 4, 2) := by decide +kernel
theorem dX11_holdsBy_36 : decode cX11_holdsBy 36 = .ok (.aload_n 0, 1) := by decide +kernel
theorem dX11_holdsBy_37 : decode cX11_holdsBy 37 = .ok (.iload_n 1, 1) := by decide +kernel
theorem dX11_holdsBy_38 : decode cX11_holdsBy 38 = .ok (.iload_n 2, 1) := by decide +kernel
theorem dX11_holdsBy_39 : decode cX11_holdsBy 39 = .ok (.iload 5, 2) := by decide +kernel
theorem dX11_holdsBy_41 : decode cX11_holdsBy 41 = .ok (.iadd, 1) := by decide +kernel
theorem dX11_holdsBy_42 : decode cX11_holdsBy 42 = .ok (.invokevirtual 157, 3) := by decide +kernel
theorem dX11_holdsBy_45 : decode cX11_holdsBy 45 = .ok (.iload_n 3, 1) := by decide +kernel
theorem dX11_holdsBy_46 : decode cX11_holdsBy 46 = .ok (.idiv, 1) := by decide +kernel
theorem dX11_holdsBy_47 : decode cX11_holdsBy 47 = .ok (.isub, 1) := by decide +kernel
theorem dX11_holdsBy_48 : decode cX11_holdsBy 48 = .ok (.istore 4, 2) := by decide +kernel
theorem dX11_holdsBy_50 : decode cX11_holdsBy 50 = .ok (.iinc 5 1, 3) := by decide +kernel
theorem dX11_holdsBy_53 : decode cX11_holdsBy 53 = .ok (.goto (-42), 3) := by decide +kernel
theorem dX11_holdsBy_56 : decode cX11_holdsBy 56 = .ok (.iload 5, 2) := by decide +kernel
theorem dX11_holdsBy_58 : decode cX11_holdsBy 58 = .ok (.ireturn, 1) := by decide +kernel
theorem dX11_isMinute_0 : decode cX11_isMinute 0 = .ok (.iload_n 0, 1) := by decide +kernel
theorem dX11_isMinute_1 : decode cX11_isMinute 1 = .ok (.iconst 0, 1) := by decide +kernel
theorem dX11_isMinute_2 : decode cX11_isMinute 2 = .ok (.bipush 59, 2) := by decide +kernel
theorem dX11_isMinute_4 : decode cX11_isMinute 4 = .ok (.invokestatic 82, 3) := by decide +kernel
theorem dX11_isMinute_7 : decode cX11_isMinute 7 = .ok (.ireturn, 1) := by decide +kernel
theorem dX11_holds_0 : decode cX11_holds 0 = .ok (.aload_n 0, 1) := by decide +kernel
theorem dX11_holds_1 : decode cX11_holds 1 = .ok (.iload_n 1, 1) := by decide +kernel
theorem dX11_holds_2 : decode cX11_holds 2 = .ok (.invokevirtual 148, 3) := by decide +kernel
theorem dX11_holds_5 : decode cX11_holds 5 = .ok (.ifCond .ne 5, 3) := by decide +kernel
theorem dX11_holds_8 : decode cX11_holds 8 = .ok (.iconst (-1), 1) := by decide +kernel
theorem dX11_holds_9 : decode cX11_holds 9 = .ok (.ireturn, 1) := by decide +kernel
theorem dX11_holds_10 : decode cX11_holds 10 = .ok (.iload_n 2, 1) := by decide +kernel
theorem dX11_holds_11 : decode cX11_holds 11 = .ok (.invokestatic 160, 3) := by decide +kernel
theorem dX11_holds_14 : decode cX11_holds 14 = .ok (.ifCond .eq 13, 3) := by decide +kernel
theorem dX11_holds_17 : decode cX11_holds 17 = .ok (.aload_n 0, 1) := by decide +kernel
theorem dX11_holds_18 : decode cX11_holds 18 = .ok (.iload_n 1, 1) := by decide +kernel
theorem dX11_holds_19 : decode cX11_holds 19 = .ok (.iload_n 2, 1) := by decide +kernel
theorem dX11_holds_20 : decode cX11_holds 20 = .ok (.iconst 1, 1) := by decide +kernel
theorem dX11_holds_21 : decode cX11_holds 21 = .ok (.invokevirtual 163, 3) := by decide +kernel
theorem dX11_holds_24 : decode cX11_holds 24 = .ok (.goto 5, 3) := by decide +kernel
theorem dX11_holds_27 : decode cX11_holds 27 = .ok (.bipush (-2), 2) := by decide +kernel
theorem dX11_holds_29 : decode cX11_holds 29 = .ok (.ireturn, 1) := by decide +kernel
theorem dX11_best_0 : decode cX11_best 0 = .ok (.aload_n 0, 1) := by decide +kernel
theorem dX11_best_1 : decode cX11_best 1 = .ok (.iload_n 1, 1) := by decide +kernel
theorem dX11_best_2 : decode cX11_best 2 = .ok (.invokevirtual 148, 3) := by decide +kernel
theorem dX11_best_5 : decode cX11_best 5 = .ok (.ifCond .ne 5, 3) := by decide +kernel
theorem dX11_best_8 : decode cX11_best 8 = .ok (.iconst (-1), 1) := by decide +kernel
theorem dX11_best_9 : decode cX11_best 9 = .ok (.ireturn, 1) := by decide +kernel
theorem dX11_best_10 : decode cX11_best 10 = .ok (.iload_n 2, 1) := by decide +kernel
theorem dX11_best_11 : decode cX11_best 11 = .ok (.iconst 0, 1) := by decide +kernel
theorem dX11_best_12 : decode cX11_best 12 = .ok (.iconst 1, 1) := by decide +kernel
theorem dX11_best_13 : decode cX11_best 13 = .ok (.invokestatic 82, 3) := by decide +kernel
theorem dX11_best_16 : decode cX11_best 16 = .ok (.ifCond .ne 6, 3) := by decide +kernel
theorem dX11_best_19 : decode cX11_best 19 = .ok (.bipush (-2), 2) := by decide +kernel
theorem dX11_best_21 : decode cX11_best 21 = .ok (.ireturn, 1) := by decide +kernel
theorem dX11_best_22 : decode cX11_best 22 = .ok (.iconst 0, 1) := by decide +kernel
theorem dX11_best_23 : decode cX11_best 23 = .ok (.istore_n 3, 1) := by decide +kernel
theorem dX11_best_24 : decode cX11_best 24 = .ok (.iconst 1, 1) := by decide +kernel
theorem dX11_best_25 : decode cX11_best 25 = .ok (.istore 4, 2) := by decide +kernel
theorem dX11_best_27 : decode cX11_best 27 = .ok (.iload 4, 2) := by decide +kernel
theorem dX11_best_29 : decode cX11_best 29 = .ok (.aload_n 0, 1) := by decide +kernel
theorem dX11_best_30 : decode cX11_best 30 = .ok (.getfield 89, 3) := by decide +kernel
theorem dX11_best_33 : decode cX11_best 33 = .ok (.if_icmp .ge 34, 3) := by decide +kernel
theorem dX11_best_36 : decode cX11_best 36 = .ok (.aload_n 0, 1) := by decide +kernel
theorem dX11_best_37 : decode cX11_best 37 = .ok (.iload_n 1, 1) := by decide +kernel
theorem dX11_best_38 : decode cX11_best 38 = .ok (.iload 4, 2) := by decide +kernel
theorem dX11_best_40 : decode cX11_best 40 = .ok (.iconst 1, 1) := by decide +kernel
theorem dX11_best_41 : decode cX11_best 41 = .ok (.invokevirtual 163, 3) := by decide +kernel
theorem dX11_best_44 : decode cX11_best 44 = .ok (.aload_n 0, 1) := by decide +kernel
theorem dX11_best_45 : decode cX11_best 45 = .ok (.iload_n 1, 1) := by decide +kernel
theorem dX11_best_46 : decode cX11_best 46 = .ok (.iload_n 3, 1) := by decide +kernel
theorem dX11_best_47 : decode cX11_best 47 = .ok (.iconst 1, 1) := by decide +kernel
theorem dX11_best_48 : decode cX11_best 48 = .ok (.invokevirtual 163, 3) := by decide +kernel
theorem dX11_best_51 : decode cX11_best 51 = .ok (.if_icmp .le 8, 3) := by decide +kernel
theorem dX11_best_54 : decode cX11_best 54 = .ok (.iload 4, 2) := by decide +kernel
theorem dX11_best_56 : decode cX11_best 56 = .ok (.goto 4, 3) := by decide +kernel
theorem dX11_best_59 : decode cX11_best 59 = .ok (.iload_n 3, 1) := by decide +kernel
theorem dX11_best_60 : decode cX11_best 60 = .ok (.istore_n 3, 1) := by decide +kernel
theorem dX11_best_61 : decode cX11_best 61 = .ok (.iinc 4 1, 3) := by decide +kernel
theorem dX11_best_64 : decode cX11_best 64 = .ok (.goto (-37), 3) := by decide +kernel
theorem dX11_best_67 : decode cX11_best 67 = .ok (.iload_n 2, 1) := by decide +kernel
theorem dX11_best_68 : decode cX11_best 68 = .ok (.ifCond .ne 7, 3) := by decide +kernel
theorem dX11_best_71 : decode cX11_best 71 = .ok (.iload_n 3, 1) := by decide +kernel
theorem dX11_best_72 : decode cX11_best 72 = .ok (.goto 10, 3) := by decide +kernel
theorem dX11_best_75 : decode cX11_best 75 = .ok (.aload_n 0, 1) := by decide +kernel
theorem dX11_best_76 : decode cX11_best 76 = .ok (.iload_n 1, 1) := by decide +kernel
theorem dX11_best_77 : decode cX11_best 77 = .ok (.iload_n 3, 1) := by decide +kernel
theorem dX11_best_78 : decode cX11_best 78 = .ok (.iconst 1, 1) := by decide +kernel
theorem dX11_best_79 : decode cX11_best 79 = .ok (.invokevirtual 163, 3) := by decide +kernel
theorem dX11_best_82 : decode cX11_best 82 = .ok (.ireturn, 1) := by decide +kernel
theorem dX11_bothHold_0 : decode cX11_bothHold 0 = .ok (.aload_n 0, 1) := by decide +kernel
theorem dX11_bothHold_1 : decode cX11_bothHold 1 = .ok (.iload_n 1, 1) := by decide +kernel
theorem dX11_bothHold_2 : decode cX11_bothHold 2 = .ok (.iload_n 3, 1) := by decide +kernel
theorem dX11_bothHold_3 : decode cX11_bothHold 3 = .ok (.iconst 2, 1) := by decide +kernel
theorem dX11_bothHold_4 : decode cX11_bothHold 4 = .ok (.invokevirtual 163, 3) := by decide +kernel
theorem dX11_bothHold_7 : decode cX11_bothHold 7 = .ok (.istore 4, 2) := by decide +kernel
theorem dX11_bothHold_9 : decode cX11_bothHold 9 = .ok (.aload_n 0, 1) := by decide +kernel
theorem dX11_bothHold_10 : decode cX11_bothHold 10 = .ok (.iload_n 2, 1) := by decide +kernel
theorem dX11_bothHold_11 : decode cX11_bothHold 11 = .ok (.iload_n 3, 1) := by decide +kernel
theorem dX11_bothHold_12 : decode cX11_bothHold 12 = .ok (.iconst 2, 1) := by decide +kernel
theorem dX11_bothHold_13 : decode cX11_bothHold 13 = .ok (.invokevirtual 163, 3) := by decide +kernel
theorem dX11_bothHold_16 : decode cX11_bothHold 16 = .ok (.istore 5, 2) := by decide +kernel
theorem dX11_bothHold_18 : decode cX11_bothHold 18 = .ok (.iload 4, 2) := by decide +kernel
theorem dX11_bothHold_20 : decode cX11_bothHold 20 = .ok (.iload 5, 2) := by decide +kernel
theorem dX11_bothHold_22 : decode cX11_bothHold 22 = .ok (.if_icmp .ge 8, 3) := by decide +kernel
theorem dX11_bothHold_25 : decode cX11_bothHold 25 = .ok (.iload 4, 2) := by decide +kernel
theorem dX11_bothHold_27 : decode cX11_bothHold 27 = .ok (.goto 5, 3) := by decide +kernel
theorem dX11_bothHold_30 : decode cX11_bothHold 30 = .ok (.iload 5, 2) := by decide +kernel
theorem dX11_bothHold_32 : decode cX11_bothHold 32 = .ok (.ireturn, 1) := by decide +kernel
theorem dX11_together_0 : decode cX11_together 0 = .ok (.aload_n 0, 1) := by decide +kernel
theorem dX11_together_1 : decode cX11_together 1 = .ok (.iload_n 1, 1) := by decide +kernel
theorem dX11_together_2 : decode cX11_together 2 = .ok (.invokevirtual 148, 3) := by decide +kernel
theorem dX11_together_5 : decode cX11_together 5 = .ok (.ifCond .eq 16, 3) := by decide +kernel
theorem dX11_together_8 : decode cX11_together 8 = .ok (.aload_n 0, 1) := by decide +kernel
theorem dX11_together_9 : decode cX11_together 9 = .ok (.iload_n 2, 1) := by decide +kernel
theorem dX11_together_10 : decode cX11_together 10 = .ok (.invokevirtual 148, 3) := by decide +kernel
theorem dX11_together_13 : decode cX11_together 13 = .ok (.ifCond .eq 8, 3) := by decide +kernel
theorem dX11_together_16 : decode cX11_together 16 = .ok (.iload_n 1, 1) := by decide +kernel
theorem dX11_together_17 : decode cX11_together 17 = .ok (.iload_n 2, 1) := by decide +kernel
theorem dX11_together_18 : decode cX11_together 18 = .ok (.if_icmp .ne 5, 3) := by decide +kernel
theorem dX11_together_21 : decode cX11_together 21 = .ok (.iconst (-1), 1) := by decide +kernel
theorem dX11_together_22 : decode cX11_together 22 = .ok (.ireturn, 1) := by decide +kernel
theorem dX11_together_23 : decode cX11_together 23 = .ok (.iload_n 3, 1) := by decide +kernel
theorem dX11_together_24 : decode cX11_together 24 = .ok (.invokestatic 160, 3) := by decide +kernel
theorem dX11_together_27 : decode cX11_together 27 = .ok (.ifCond .eq 13, 3) := by decide +kernel
theorem dX11_together_30 : decode cX11_together 30 = .ok (.aload_n 0, 1) := by decide +kernel
theorem dX11_together_31 : decode cX11_together 31 = .ok (.iload_n 1, 1) := by decide +kernel
theorem dX11_together_32 : decode cX11_together 32 = .ok (.iload_n 2, 1) := by decide +kernel
theorem dX11_together_33 : decode cX11_together 33 = .ok (.iload_n 3, 1) := by decide +kernel
theorem dX11_together_34 : decode cX11_together 34 = .ok (.invokevirtual 167, 3) := by decide +kernel
theorem dX11_together_37 : decode cX11_together 37 = .ok (.goto 5, 3) := by decide +kernel
theorem dX11_together_40 : decode cX11_together 40 = .ok (.bipush (-2), 2) := by decide +kernel
theorem dX11_together_42 : decode cX11_together 42 = .ok (.ireturn, 1) := by decide +kernel
theorem dX11_friend_0 : decode cX11_friend 0 = .ok (.aload_n 0, 1) := by decide +kernel
theorem dX11_friend_1 : decode cX11_friend 1 = .ok (.iload_n 1, 1) := by decide +kernel
theorem dX11_friend_2 : decode cX11_friend 2 = .ok (.invokevirtual 148, 3) := by decide +kernel
theorem dX11_friend_5 : decode cX11_friend 5 = .ok (.ifCond .ne 5, 3) := by decide +kernel
theorem dX11_friend_8 : decode cX11_friend 8 = .ok (.iconst (-1), 1) := by decide +kernel
theorem dX11_friend_9 : decode cX11_friend 9 = .ok (.ireturn, 1) := by decide +kernel
theorem dX11_friend_10 : decode cX11_friend 10 = .ok (.iload_n 2, 1) := by decide +kernel
theorem dX11_friend_11 : decode cX11_friend 11 = .ok (.invokestatic 160, 3) := by decide +kernel
theorem dX11_friend_14 : decode cX11_friend 14 = .ok (.ifCond .ne 6, 3) := by decide +kernel
theorem dX11_friend_17 : decode cX11_friend 17 = .ok (.bipush (-2), 2) := by decide +kernel
theorem dX11_friend_19 : decode cX11_friend 19 = .ok (.ireturn, 1) := by decide +kernel
theorem dX11_friend_20 : decode cX11_friend 20 = .ok (.bipush (-9), 2) := by decide +kernel
theorem dX11_friend_22 : decode cX11_friend 22 = .ok (.istore_n 3, 1) := by decide +kernel
theorem dX11_friend_23 : decode cX11_friend 23 = .ok (.iconst 0, 1) := by decide +kernel
theorem dX11_friend_24 : decode cX11_friend 24 = .ok (.istore 4, 2) := by decide +kernel
theorem dX11_friend_26 : decode cX11_friend 26 = .ok (.iload 4, 2) := by decide +kernel
theorem dX11_friend_28 : decode cX11_friend 28 = .ok (.aload_n 0, 1) := by decide +kernel
theorem dX11_friend_29 : decode cX11_friend 29 = .ok (.getfield 86, 3) := by decide +kernel
theorem dX11_friend_32 : decode cX11_friend 32 = .ok (.if_icmp .ge 42, 3) := by decide +kernel
theorem dX11_friend_35 : decode cX11_friend 35 = .ok (.iload 4, 2) := by decide +kernel
theorem dX11_friend_37 : decode cX11_friend 37 = .ok (.iload_n 1, 1) := by decide +kernel
theorem dX11_friend_38 : decode cX11_friend 38 = .ok (.if_icmp .eq 30, 3) := by decide +kernel
theorem dX11_friend_41 : decode cX11_friend 41 = .ok (.iload_n 3, 1) := by decide +kernel
theorem dX11_friend_42 : decode cX11_friend 42 = .ok (.bipush (-9), 2) := by decide +kernel
theorem dX11_friend_44 : decode cX11_friend 44 = .ok (.if_icmp .eq 21, 3) := by decide +kernel
theorem dX11_friend_47 : decode cX11_friend 47 = .ok (.aload_n 0, 1) := by decide +kernel
theorem dX11_friend_48 : decode cX11_friend 48 = .ok (.iload_n 1, 1) := by decide +kernel
theorem dX11_friend_49 : decode cX11_friend 49 = .ok (.iload 4, 2) := by decide +kernel
theorem dX11_friend_51 : decode cX11_friend 51 = .ok (.iload_n 2, 1) := by decide +kernel
theorem dX11_friend_52 : decode cX11_friend 52 = .ok (.invokevirtual 167, 3) := by decide +kernel
theorem dX11_friend_55 : decode cX11_friend 55 = .ok (.aload_n 0, 1) := by decide +kernel
theorem dX11_friend_56 : decode cX11_friend 56 = .ok (.iload_n 1, 1) := by decide +kernel
theorem dX11_friend_57 : decode cX11_friend 57 = .ok (.iload_n 3, 1) := by decide +kernel
theorem dX11_friend_58 : decode cX11_friend 58 = .ok (.iload_n 2, 1) := by decide +kernel
theorem dX11_friend_59 : decode cX11_friend 59 = .ok (.invokevirtual 167, 3) := by decide +kernel
theorem dX11_friend_62 : decode cX11_friend 62 = .ok (.if_icmp .le 6, 3) := by decide +kernel
theorem dX11_friend_65 : decode cX11_friend 65 = .ok (.iload 4, 2) := by decide +kernel
theorem dX11_friend_67 : decode cX11_friend 67 = .ok (.istore_n 3, 1) := by decide +kernel
theorem dX11_friend_68 : decode cX11_friend 68 = .ok (.iinc 4 1, 3) := by decide +kernel
theorem dX11_friend_71 : decode cX11_friend 71 = .ok (.goto (-45), 3) := by decide +kernel
theorem dX11_friend_74 : decode cX11_friend 74 = .ok (.iload_n 3, 1) := by decide +kernel
theorem dX11_friend_75 : decode cX11_friend 75 = .ok (.ireturn, 1) := by decide +kernel
theorem dX11_goNight_0 : decode cX11_goNight 0 = .ok (.aload_n 0, 1) := by decide +kernel
theorem dX11_goNight_1 : decode cX11_goNight 1 = .ok (.iconst 0, 1) := by decide +kernel
theorem dX11_goNight_2 : decode cX11_goNight 2 = .ok (.putfield 170, 3) := by decide +kernel
theorem dX11_goNight_5 : decode cX11_goNight 5 = .ok (.aload_n 0, 1) := by decide +kernel
theorem dX11_goNight_6 : decode cX11_goNight 6 = .ok (.bipush (-9), 2) := by decide +kernel
theorem dX11_goNight_8 : decode cX11_goNight 8 = .ok (.putfield 173, 3) := by decide +kernel
theorem dX11_goNight_11 : decode cX11_goNight 11 = .ok (.iconst 0, 1) := by decide +kernel
theorem dX11_goNight_12 : decode cX11_goNight 12 = .ok (.istore_n 3, 1) := by decide +kernel
theorem dX11_goNight_13 : decode cX11_goNight 13 = .ok (.iload_n 3, 1) := by decide +kernel
theorem dX11_goNight_14 : decode cX11_goNight 14 = .ok (.iconst 5, 1) := by decide +kernel
theorem dX11_goNight_15 : decode cX11_goNight 15 = .ok (.if_icmp .ge 23, 3) := by decide +kernel
theorem dX11_goNight_18 : decode cX11_goNight 18 = .ok (.aload_n 0, 1) := by decide +kernel
theorem dX11_goNight_19 : decode cX11_goNight 19 = .ok (.getfield 49, 3) := by decide +kernel
theorem dX11_goNight_22 : decode cX11_goNight 22 = .ok (.iload_n 3, 1) := by decide +kernel
theorem dX11_goNight_23 : decode cX11_goNight 23 = .ok (.iconst 0, 1) := by decide +kernel
theorem dX11_goNight_24 : decode cX11_goNight 24 = .ok (.iastore, 1) := by decide +kernel
theorem dX11_goNight_25 : decode cX11_goNight 25 = .ok (.aload_n 0, 1) := by decide +kernel
theorem dX11_goNight_26 : decode cX11_goNight 26 = .ok (.getfield 52, 3) := by decide +kernel
theorem dX11_goNight_29 : decode cX11_goNight 29 = .ok (.iload_n 3, 1) := by decide +kernel
theorem dX11_goNight_30 : decode cX11_goNight 30 = .ok (.iconst 0, 1) := by decide +kernel
theorem dX11_goNight_31 : decode cX11_goNight 31 = .ok (.iastore, 1) := by decide +kernel
theorem dX11_goNight_32 : decode cX11_goNight 32 = .ok (.iinc 3 1, 3) := by decide +kernel
theorem dX11_goNight_35 : decode cX11_goNight 35 = .ok (.goto (-22), 3) := by decide +kernel
theorem dX11_goNight_38 : decode cX11_goNight 38 = .ok (.iconst 0, 1) := by decide +kernel
theorem dX11_goNight_39 : decode cX11_goNight 39 = .ok (.istore_n 3, 1) := by decide +kernel
theorem dX11_goNight_40 : decode cX11_goNight 40 = .ok (.iload_n 3, 1) := by decide +kernel
theorem dX11_goNight_41 : decode cX11_goNight 41 = .ok (.bipush 99, 2) := by decide +kernel
theorem dX11_goNight_43 : decode cX11_goNight 43 = .ok (.if_icmp .gt 16, 3) := by decide +kernel
theorem dX11_goNight_46 : decode cX11_goNight 46 = .ok (.aload_n 0, 1) := by decide +kernel
theorem dX11_goNight_47 : decode cX11_goNight 47 = .ok (.getfield 55, 3) := by decide +kernel
theorem dX11_goNight_50 : decode cX11_goNight 50 = .ok (.iload_n 3, 1) := by decide +kernel
theorem dX11_goNight_51 : decode cX11_goNight 51 = .ok (.iconst 0, 1) := by decide +kernel
theorem dX11_goNight_52 : decode cX11_goNight 52 = .ok (.iastore, 1) := by decide +kernel
theorem dX11_goNight_53 : decode cX11_goNight 53 = .ok (.iinc 3 1, 3) := by decide +kernel
theorem dX11_goNight_56 : decode cX11_goNight 56 = .ok (.goto (-16), 3) := by decide +kernel
theorem dX11_goNight_59 : decode cX11_goNight 59 = .ok (.iconst 0, 1) := by decide +kernel
theorem dX11_goNight_60 : decode cX11_goNight 60 = .ok (.istore_n 3, 1) := by decide +kernel
theorem dX11_goNight_61 : decode cX11_goNight 61 = .ok (.iload_n 3, 1) := by decide +kernel
theorem dX11_goNight_62 : decode cX11_goNight 62 = .ok (.iload_n 2, 1) := by decide +kernel
theorem dX11_goNight_63 : decode cX11_goNight 63 = .ok (.if_icmp .ge 179, 3) := by decide +kernel
theorem dX11_goNight_66 : decode cX11_goNight 66 = .ok (.aload_n 0, 1) := by decide +kernel
theorem dX11_goNight_67 : decode cX11_goNight 67 = .ok (.getfield 16, 3) := by decide +kernel
theorem dX11_goNight_70 : decode cX11_goNight 70 = .ok (.iload_n 1, 1) := by decide +kernel
theorem dX11_goNight_71 : decode cX11_goNight 71 = .ok (.iconst 2, 1) := by decide +kernel
theorem dX11_goNight_72 : decode cX11_goNight 72 = .ok (.iload_n 3, 1) := by decide +kernel
theorem dX11_goNight_73 : decode cX11_goNight 73 = .ok (.imul, 1) := by decide +kernel
theorem dX11_goNight_74 : decode cX11_goNight 74 = .ok (.iadd, 1) := by decide +kernel
theorem dX11_goNight_75 : decode cX11_goNight 75 = .ok (.iaload, 1) := by decide +kernel
theorem dX11_goNight_76 : decode cX11_goNight 76 = .ok (.istore 4, 2) := by decide +kernel
theorem dX11_goNight_78 : decode cX11_goNight 78 = .ok (.aload_n 0, 1) := by decide +kernel
theorem dX11_goNight_79 : decode cX11_goNight 79 = .ok (.getfield 16, 3) := by decide +kernel
theorem dX11_goNight_82 : decode cX11_goNight 82 = .ok (.iload_n 1, 1) := by decide +kernel
theorem dX11_goNight_83 : decode cX11_goNight 83 = .ok (.iconst 2, 1) := by decide +kernel
theorem dX11_goNight_84 : decode cX11_goNight 84 = .ok (.iload_n 3, 1) := by decide +kernel
theorem dX11_goNight_85 : decode cX11_goNight 85 = .ok (.imul, 1) := by decide +kernel
theorem dX11_goNight_86 : decode cX11_goNight 86 = .ok (.iadd, 1) := by decide +kernel
theorem dX11_goNight_87 : decode cX11_goNight 87 = .ok (.iconst 1, 1) := by decide +kernel
theorem dX11_goNight_88 : decode cX11_goNight 88 = .ok (.iadd, 1) := by decide +kernel
theorem dX11_goNight_89 : decode cX11_goNight 89 = .ok (.iaload, 1) := by decide +kernel
theorem dX11_goNight_90 : decode cX11_goNight 90 = .ok (.istore 5, 2) := by decide +kernel
theorem dX11_goNight_92 : decode cX11_goNight 92 = .ok (.iload_n 3, 1) := by decide +kernel
theorem dX11_goNight_93 : decode cX11_goNight 93 = .ok (.ifCond .le 20, 3) := by decide +kernel
theorem dX11_goNight_96 : decode cX11_goNight 96 = .ok (.iload 5, 2) := by decide +kernel
theorem dX11_goNight_98 : decode cX11_goNight 98 = .ok (.aload_n 0, 1) := by decide +kernel
theorem dX11_goNight_99 : decode cX11_goNight 99 = .ok (.getfield 16, 3) := by decide +kernel
theorem dX11_goNight_102 : decode cX11_goNight 102 = .ok (.iload_n 1, 1) := by decide +kernel
theorem dX11_goNight_103 : decode cX11_goNight 103 = .ok (.iconst 2, 1) := by decide +kernel
theorem dX11_goNight_104 : decode cX11_goNight 104 = .ok (.iload_n 3, 1) := by decide +kernel
theorem dX11_goNight_105 : decode cX11_goNight 105 = .ok (.imul, 1) := by decide +kernel
theorem dX11_goNight_106 : decode cX11_goNight 106 = .ok (.iadd, 1) := by decide +kernel
theorem dX11_goNight_107 : decode cX11_goNight 107 = .ok (.iconst 1, 1) := by decide +kernel
theorem dX11_goNight_108 : decode cX11_goNight 108 = .ok (.isub, 1) := by decide +kernel
theorem dX11_goNight_109 : decode cX11_goNight 109 = .ok (.iaload, 1) := by decide +kernel
theorem dX11_goNight_110 : decode cX11_goNight 110 = .ok (.if_icmp .lt 15, 3) := by decide +kernel
theorem dX11_goNight_113 : decode cX11_goNight 113 = .ok (.iload 5, 2) := by decide +kernel
theorem dX11_goNight_115 : decode cX11_goNight 115 = .ok (.aload_n 0, 1) := by decide +kernel
theorem dX11_goNight_116 : decode cX11_goNight 116 = .ok (.getfield 49, 3) := by decide +kernel
theorem dX11_goNight_119 : decode cX11_goNight 119 = .ok (.iload 4, 2) := by decide +kernel
theorem dX11_goNight_121 : decode cX11_goNight 121 = .ok (.iaload, 1) := by decide +kernel
theorem dX11_goNight_122 : decode cX11_goNight 122 = .ok (.if_icmp .ge 5, 3) := by decide +kernel
theorem dX11_goNight_125 : decode cX11_goNight 125 = .ok (.iload_n 3, 1) := by decide +kernel
theorem dX11_goNight_126 : decode cX11_goNight 126 = .ok (.ireturn, 1) := by decide +kernel
theorem dX11_goNight_127 : decode cX11_goNight 127 = .ok (.aload_n 0, 1) := by decide +kernel
theorem dX11_goNight_128 : decode cX11_goNight 128 = .ok (.iload 4, 2) := by decide +kernel
theorem dX11_goNight_130 : decode cX11_goNight 130 = .ok (.iload 5, 2) := by decide +kernel
theorem dX11_goNight_132 : decode cX11_goNight 132 = .ok (.iconst 1, 1) := by decide +kernel
theorem dX11_goNight_133 : decode cX11_goNight 133 = .ok (.invokevirtual 163, 3) := by decide +kernel
theorem dX11_goNight_136 : decode cX11_goNight 136 = .ok (.istore 6, 2) := by decide +kernel
theorem dX11_goNight_138 : decode cX11_goNight 138 = .ok (.aload_n 0, 1) := by decide +kernel
theorem dX11_goNight_139 : decode cX11_goNight 139 = .ok (.getfield 49, 3) := by decide +kernel
theorem dX11_goNight_142 : decode cX11_goNight 142 = .ok (.iload 4, 2) := by decide +kernel
theorem dX11_goNight_144 : decode cX11_goNight 144 = .ok (.iload 5, 2) := by decide +kernel
theorem dX11_goNight_146 : decode cX11_goNight 146 = .ok (.iload 6, 2) := by decide +kernel
theorem dX11_goNight_148 : decode cX11_goNight 148 = .ok (.iadd, 1) := by decide +kernel
theorem dX11_goNight_149 : decode cX11_goNight 149 = .ok (.iastore, 1) := by decide +kernel
theorem dX11_goNight_150 : decode cX11_goNight 150 = .ok (.aload_n 0, 1) := by decide +kernel
theorem dX11_goNight_151 : decode cX11_goNight 151 = .ok (.getfield 52, 3) := by decide +kernel
theorem dX11_goNight_154 : decode cX11_goNight 154 = .ok (.iload 4, 2) := by decide +kernel
theorem dX11_goNight_156 : decode cX11_goNight 156 = .ok (.dup2, 1) := by decide +kernel
theorem dX11_goNight_157 : decode cX11_goNight 157 = .ok (.iaload, 1) := by decide +kernel
theorem dX11_goNight_158 : decode cX11_goNight 158 = .ok (.iload 6, 2) := by decide +kernel
theorem dX11_goNight_160 : decode cX11_goNight 160 = .ok (.iadd, 1) := by decide +kernel
theorem dX11_goNight_161 : decode cX11_goNight 161 = .ok (.iastore, 1) := by decide +kernel
theorem dX11_goNight_162 : decode cX11_goNight 162 = .ok (.aload_n 0, 1) := by decide +kernel
theorem dX11_goNight_163 : decode cX11_goNight 163 = .ok (.dup, 1) := by decide +kernel
theorem dX11_goNight_164 : decode cX11_goNight 164 = .ok (.getfield 170, 3) := by decide +kernel
theorem dX11_goNight_167 : decode cX11_goNight 167 = .ok (.iload 6, 2) := by decide +kernel
theorem dX11_goNight_169 : decode cX11_goNight 169 = .ok (.iadd, 1) := by decide +kernel
theorem dX11_goNight_170 : decode cX11_goNight 170 = .ok (.putfield 170, 3) := by decide +kernel
theorem dX11_goNight_173 : decode cX11_goNight 173 = .ok (.aload_n 0, 1) := by decide +kernel
theorem dX11_goNight_174 : decode cX11_goNight 174 = .ok (.aload_n 0, 1) := by decide +kernel
theorem dX11_goNight_175 : decode cX11_goNight 175 = .ok (.getfield 49, 3) := by decide +kernel
theorem dX11_goNight_178 : decode cX11_goNight 178 = .ok (.iload 4, 2) := by decide +kernel
theorem dX11_goNight_180 : decode cX11_goNight 180 = .ok (.iaload, 1) := by decide +kernel
theorem dX11_goNight_181 : decode cX11_goNight 181 = .ok (.aload_n 0, 1) := by decide +kernel
theorem dX11_goNight_182 : decode cX11_goNight 182 = .ok (.getfield 173, 3) := by decide +kernel
theorem dX11_goNight_185 : decode cX11_goNight 185 = .ok (.if_icmp .le 13, 3) := by decide +kernel
theorem dX11_goNight_188 : decode cX11_goNight 188 = .ok (.aload_n 0, 1) := by decide +kernel
theorem dX11_goNight_189 : decode cX11_goNight 189 = .ok (.getfield 49, 3) := by decide +kernel
theorem dX11_goNight_192 : decode cX11_goNight 192 = .ok (.iload 4, 2) := by decide +kernel
theorem dX11_goNight_194 : decode cX11_goNight 194 = .ok (.iaload, 1) := by decide +kernel
theorem dX11_goNight_195 : decode cX11_goNight 195 = .ok (.goto 7, 3) := by decide +kernel
theorem dX11_goNight_198 : decode cX11_goNight 198 = .ok (.aload_n 0, 1) := by decide +kernel
theorem dX11_goNight_199 : decode cX11_goNight 199 = .ok (.getfield 173, 3) := by decide +kernel
theorem dX11_goNight_202 : decode cX11_goNight 202 = .ok (.putfield 173, 3) := by decide +kernel
theorem dX11_goNight_205 : decode cX11_goNight 205 = .ok (.iload 5, 2) := by decide +kernel
theorem dX11_goNight_207 : decode cX11_goNight 207 = .ok (.istore 7, 2) := by decide +kernel
theorem dX11_goNight_209 : decode cX11_goNight 209 = .ok (.iload 7, 2) := by decide +kernel
theorem dX11_goNight_211 : decode cX11_goNight 211 = .ok (.iload 5, 2) := by decide +kernel
theorem dX11_goNight_213 : decode cX11_goNight 213 = .ok (.iload 6, 2) := by decide +kernel
theorem dX11_goNight_215 : decode cX11_goNight 215 = .ok (.iadd, 1) := by decide +kernel
theorem dX11_goNight_216 : decode cX11_goNight 216 = .ok (.if_icmp .ge 20, 3) := by decide +kernel
theorem dX11_goNight_219 : decode cX11_goNight 219 = .ok (.aload_n 0, 1) := by decide +kernel
theorem dX11_goNight_220 : decode cX11_goNight 220 = .ok (.getfield 55, 3) := by decide +kernel
theorem dX11_goNight_223 : decode cX11_goNight 223 = .ok (.iload 7, 2) := by decide +kernel
theorem dX11_goNight_225 : decode cX11_goNight 225 = .ok (.dup2, 1) := by decide +kernel
theorem dX11_goNight_226 : decode cX11_goNight 226 = .ok (.iaload, 1) := by decide +kernel
theorem dX11_goNight_227 : decode cX11_goNight 227 = .ok (.iconst 1, 1) := by decide +kernel
theorem dX11_goNight_228 : decode cX11_goNight 228 = .ok (.iadd, 1) := by decide +kernel
theorem dX11_goNight_229 : decode cX11_goNight 229 = .ok (.iastore, 1) := by decide +kernel
theorem dX11_goNight_230 : decode cX11_goNight 230 = .ok (.iinc 7 1, 3) := by decide +kernel
theorem dX11_goNight_233 : decode cX11_goNight 233 = .ok (.goto (-24), 3) := by decide +kernel
theorem dX11_goNight_236 : decode cX11_goNight 236 = .ok (.iinc 3 1, 3) := by decide +kernel
theorem dX11_goNight_239 : decode cX11_goNight 239 = .ok (.goto (-178), 3) := by decide +kernel
theorem dX11_goNight_242 : decode cX11_goNight 242 = .ok (.bipush (-9), 2) := by decide +kernel
theorem dX11_goNight_244 : decode cX11_goNight 244 = .ok (.ireturn, 1) := by decide +kernel
theorem dX11_night_0 : decode cX11_night 0 = .ok (.aload_n 0, 1) := by decide +kernel
theorem dX11_night_1 : decode cX11_night 1 = .ok (.iconst 0, 1) := by decide +kernel
theorem dX11_night_2 : decode cX11_night 2 = .ok (.putfield 76, 3) := by decide +kernel
theorem dX11_night_5 : decode cX11_night 5 = .ok (.iload_n 1, 1) := by decide +kernel
theorem dX11_night_6 : decode cX11_night 6 = .ok (.invokestatic 95, 3) := by decide +kernel
theorem dX11_night_9 : decode cX11_night 9 = .ok (.ifCond .ne 5, 3) := by decide +kernel
theorem dX11_night_12 : decode cX11_night 12 = .ok (.iconst (-1), 1) := by decide +kernel
theorem dX11_night_13 : decode cX11_night 13 = .ok (.ireturn, 1) := by decide +kernel
theorem dX11_night_14 : decode cX11_night 14 = .ok (.iload_n 2, 1) := by decide +kernel
theorem dX11_night_15 : decode cX11_night 15 = .ok (.invokestatic 99, 3) := by decide +kernel
theorem dX11_night_18 : decode cX11_night 18 = .ok (.ifCond .eq 36, 3) := by decide +kernel
theorem dX11_night_21 : decode cX11_night 21 = .ok (.iload 4, 2) := by decide +kernel
theorem dX11_night_23 : decode cX11_night 23 = .ok (.iconst 0, 1) := by decide +kernel
theorem dX11_night_24 : decode cX11_night 24 = .ok (.bipush 20, 2) := by decide +kernel
theorem dX11_night_26 : decode cX11_night 26 = .ok (.invokestatic 82, 3) := by decide +kernel
theorem dX11_night_29 : decode cX11_night 29 = .ok (.ifCond .eq 25, 3) := by decide +kernel
theorem dX11_night_32 : decode cX11_night 32 = .ok (.iload 5, 2) := by decide +kernel
theorem dX11_night_34 : decode cX11_night 34 = .ok (.iconst 0, 1) := by decide +kernel
theorem dX11_night_35 : decode cX11_night 35 = .ok (.iconst 3, 1) := by decide +kernel
theorem dX11_night_36 : decode cX11_night 36 = .ok (.invokestatic 82, 3) := by decide +kernel
theorem dX11_night_39 : decode cX11_night 39 = .ok (.ifCond .ne 18, 3) := by decide +kernel
theorem dX11_night_42 : decode cX11_night 42 = .ok (.iload 5, 2) := by decide +kernel
theorem dX11_night_44 : decode cX11_night 44 = .ok (.bipush 10, 2) := by decide +kernel
theorem dX11_night_46 : decode cX11_night 46 = .ok (.bipush 14, 2) := by decide +kernel
theorem dX11_night_48 : decode cX11_night 48 = .ok (.invokestatic 82, 3) := by decide +kernel
theorem dX11_night_51 : decode cX11_night 51 = .ok (.ifCond .ne 6, 3) := by decide +kernel
theorem dX11_night_54 : decode cX11_night 54 = .ok (.bipush (-2), 2) := by decide +kernel
theorem dX11_night_56 : decode cX11_night 56 = .ok (.ireturn, 1) := by decide +kernel
theorem dX11_night_57 : decode cX11_night 57 = .ok (.aload_n 0, 1) := by decide +kernel
theorem dX11_night_58 : decode cX11_night 58 = .ok (.iload_n 1, 1) := by decide +kernel
theorem dX11_night_59 : decode cX11_night 59 = .ok (.iload_n 2, 1) := by decide +kernel
theorem dX11_night_60 : decode cX11_night 60 = .ok (.iload_n 3, 1) := by decide +kernel
theorem dX11_night_61 : decode cX11_night 61 = .ok (.iconst 2, 1) := by decide +kernel
theorem dX11_night_62 : decode cX11_night 62 = .ok (.iload 4, 2) := by decide +kernel
theorem dX11_night_64 : decode cX11_night 64 = .ok (.imul, 1) := by decide +kernel
theorem dX11_night_65 : decode cX11_night 65 = .ok (.invokevirtual 102, 3) := by decide +kernel
theorem dX11_night_68 : decode cX11_night 68 = .ok (.istore 6, 2) := by decide +kernel
theorem dX11_night_70 : decode cX11_night 70 = .ok (.iload 6, 2) := by decide +kernel
theorem dX11_night_72 : decode cX11_night 72 = .ok (.ifCond .eq 10, 3) := by decide +kernel
theorem dX11_night_75 : decode cX11_night 75 = .ok (.aload_n 0, 1) := by decide +kernel
theorem dX11_night_76 : decode cX11_night 76 = .ok (.iload 6, 2) := by decide +kernel
theorem dX11_night_78 : decode cX11_night 78 = .ok (.invokevirtual 106, 3) := by decide +kernel
theorem dX11_night_81 : decode cX11_night 81 = .ok (.ireturn, 1) := by decide +kernel
theorem dX11_night_82 : decode cX11_night 82 = .ok (.aload_n 0, 1) := by decide +kernel
theorem dX11_night_83 : decode cX11_night 83 = .ok (.getfield 86, 3) := by decide +kernel
theorem dX11_night_86 : decode cX11_night 86 = .ok (.ifCond .ne 6, 3) := by decide +kernel
theorem dX11_night_89 : decode cX11_night 89 = .ok (.bipush (-3), 2) := by decide +kernel
theorem dX11_night_91 : decode cX11_night 91 = .ok (.ireturn, 1) := by decide +kernel
theorem dX11_night_92 : decode cX11_night 92 = .ok (.bipush 60, 2) := by decide +kernel
theorem dX11_night_94 : decode cX11_night 94 = .ok (.iload_n 1, 1) := by decide +kernel
theorem dX11_night_95 : decode cX11_night 95 = .ok (.imul, 1) := by decide +kernel
theorem dX11_night_96 : decode cX11_night 96 = .ok (.iload_n 3, 1) := by decide +kernel
theorem dX11_night_97 : decode cX11_night 97 = .ok (.iadd, 1) := by decide +kernel
theorem dX11_night_98 : decode cX11_night 98 = .ok (.istore 7, 2) := by decide +kernel
theorem dX11_night_100 : decode cX11_night 100 = .ok (.iconst 0, 1) := by decide +kernel
theorem dX11_night_101 : decode cX11_night 101 = .ok (.istore 8, 2) := by decide +kernel
theorem dX11_night_103 : decode cX11_night 103 = .ok (.iload 8, 2) := by decide +kernel
theorem dX11_night_105 : decode cX11_night 105 = .ok (.iload 4, 2) := by decide +kernel
theorem dX11_night_107 : decode cX11_night 107 = .ok (.if_icmp .ge 53, 3) := by decide +kernel
theorem dX11_night_110 : decode cX11_night 110 = .ok (.aload_n 0, 1) := by decide +kernel
theorem dX11_night_111 : decode cX11_night 111 = .ok (.aload_n 0, 1) := by decide +kernel
theorem dX11_night_112 : decode cX11_night 112 = .ok (.getfield 16, 3) := by decide +kernel
theorem dX11_night_115 : decode cX11_night 115 = .ok (.iload 7, 2) := by decide +kernel
theorem dX11_night_117 : decode cX11_night 117 = .ok (.iconst 2, 1) := by decide +kernel
theorem dX11_night_118 : decode cX11_night 118 = .ok (.iload 8, 2) := by decide +kernel
theorem dX11_night_120 : decode cX11_night 120 = .ok (.imul, 1) := by decide +kernel
theorem dX11_night_121 : decode cX11_night 121 = .ok (.iadd, 1) := by decide +kernel
theorem dX11_night_122 : decode cX11_night 122 = .ok (.iaload, 1) := by decide +kernel
theorem dX11_night_123 : decode cX11_night 123 = .ok (.invokevirtual 148, 3) := by decide +kernel
theorem dX11_night_126 : decode cX11_night 126 = .ok (.ifCond .ne 5, 3) := by decide +kernel
theorem dX11_night_129 : decode cX11_night 129 = .ok (.iconst (-1), 1) := by decide +kernel
theorem dX11_night_130 : decode cX11_night 130 = .ok (.ireturn, 1) := by decide +kernel
theorem dX11_night_131 : decode cX11_night 131 = .ok (.aload_n 0, 1) := by decide +kernel
theorem dX11_night_132 : decode cX11_night 132 = .ok (.getfield 16, 3) := by decide +kernel
theorem dX11_night_135 : decode cX11_night 135 = .ok (.iload 7, 2) := by decide +kernel
theorem dX11_night_137 : decode cX11_night 137 = .ok (.iconst 2, 1) := by decide +kernel
theorem dX11_night_138 : decode cX11_night 138 = .ok (.iload 8, 2) := by decide +kernel
theorem dX11_night_140 : decode cX11_night 140 = .ok (.imul, 1) := by decide +kernel
theorem dX11_night_141 : decode cX11_night 141 = .ok (.iadd, 1) := by decide +kernel
theorem dX11_night_142 : decode cX11_night 142 = .ok (.iconst 1, 1) := by decide +kernel
theorem dX11_night_143 : decode cX11_night 143 = .ok (.iadd, 1) := by decide +kernel
theorem dX11_night_144 : decode cX11_night 144 = .ok (.iaload, 1) := by decide +kernel
theorem dX11_night_145 : decode cX11_night 145 = .ok (.invokestatic 160, 3) := by decide +kernel
theorem dX11_night_148 : decode cX11_night 148 = .ok (.ifCond .ne 6, 3) := by decide +kernel
theorem dX11_night_151 : decode cX11_night 151 = .ok (.bipush (-2), 2) := by decide +kernel
theorem dX11_night_153 : decode cX11_night 153 = .ok (.ireturn, 1) := by decide +kernel
theorem dX11_night_154 : decode cX11_night 154 = .ok (.iinc 8 1, 3) := by decide +kernel
theorem dX11_night_157 : decode cX11_night 157 = .ok (.goto (-54), 3) := by decide +kernel
theorem dX11_night_160 : decode cX11_night 160 = .ok (.aload_n 0, 1) := by decide +kernel
theorem dX11_night_161 : decode cX11_night 161 = .ok (.iload 7, 2) := by decide +kernel
theorem dX11_night_163 : decode cX11_night 163 = .ok (.iload 4, 2) := by decide +kernel
theorem dX11_night_165 : decode cX11_night 165 = .ok (.invokevirtual 176, 3) := by decide +kernel
theorem dX11_night_168 : decode cX11_night 168 = .ok (.istore 8, 2) := by decide +kernel
theorem dX11_night_170 : decode cX11_night 170 = .ok (.iload 5, 2) := by decide +kernel
theorem dX11_night_172 : decode cX11_night 172 = .ok (.iconst 1, 1) := by decide +kernel
theorem dX11_night_173 : decode cX11_night 173 = .ok (.if_icmp .ne 6, 3) := by decide +kernel
theorem dX11_night_176 : decode cX11_night 176 = .ok (.iload 8, 2) := by decide +kernel
theorem dX11_night_178 : decode cX11_night 178 = .ok (.ireturn, 1) := by decide +kernel
theorem dX11_night_179 : decode cX11_night 179 = .ok (.iload 8, 2) := by decide +kernel
theorem dX11_night_181 : decode cX11_night 181 = .ok (.bipush (-9), 2) := by decide +kernel
theorem dX11_night_183 : decode cX11_night 183 = .ok (.if_icmp .ne 12, 3) := by decide +kernel
theorem dX11_night_186 : decode cX11_night 186 = .ok (.aload_n 0, 1) := by decide +kernel
theorem dX11_night_187 : decode cX11_night 187 = .ok (.iload 5, 2) := by decide +kernel
theorem dX11_night_189 : decode cX11_night 189 = .ok (.invokevirtual 179, 3) := by decide +kernel
theorem dX11_night_192 : decode cX11_night 192 = .ok (.goto 8, 3) := by decide +kernel
theorem dX11_night_195 : decode cX11_night 195 = .ok (.bipush (-100), 2) := by decide +kernel
theorem dX11_night_197 : decode cX11_night 197 = .ok (.iload 8, 2) := by decide +kernel
theorem dX11_night_199 : decode cX11_night 199 = .ok (.isub, 1) := by decide +kernel
theorem dX11_night_200 : decode cX11_night 200 = .ok (.ireturn, 1) := by decide +kernel
theorem dX11_tellNight_0 : decode cX11_tellNight 0 = .ok (.iload_n 1, 1) := by decide +kernel
theorem dX11_tellNight_1 : decode cX11_tellNight 1 = .ok (.bipush 10, 2) := by decide +kernel
theorem dX11_tellNight_3 : decode cX11_tellNight 3 = .ok (.if_icmp .lt 29, 3) := by decide +kernel
theorem dX11_tellNight_6 : decode cX11_tellNight 6 = .ok (.aload_n 0, 1) := by decide +kernel
theorem dX11_tellNight_7 : decode cX11_tellNight 7 = .ok (.iload_n 1, 1) := by decide +kernel
theorem dX11_tellNight_8 : decode cX11_tellNight 8 = .ok (.bipush 10, 2) := by decide +kernel
theorem dX11_tellNight_10 : decode cX11_tellNight 10 = .ok (.isub, 1) := by decide +kernel
theorem dX11_tellNight_11 : decode cX11_tellNight 11 = .ok (.invokevirtual 148, 3) := by decide +kernel
theorem dX11_tellNight_14 : decode cX11_tellNight 14 = .ok (.ifCond .eq 15, 3) := by decide +kernel
theorem dX11_tellNight_17 : decode cX11_tellNight 17 = .ok (.aload_n 0, 1) := by decide +kernel
theorem dX11_tellNight_18 : decode cX11_tellNight 18 = .ok (.getfield 52, 3) := by decide +kernel
theorem dX11_tellNight_21 : decode cX11_tellNight 21 = .ok (.iload_n 1, 1) := by decide +kernel
theorem dX11_tellNight_22 : decode cX11_tellNight 22 = .ok (.bipush 10, 2) := by decide +kernel
theorem dX11_tellNight_24 : decode cX11_tellNight 24 = .ok (.isub, 1) := by decide +kernel
theorem dX11_tellNight_25 : decode cX11_tellNight 25 = .ok (.iaload, 1) := by decide +kernel
theorem dX11_tellNight_26 : decode cX11_tellNight 26 = .ok (.goto 5, 3) := by decide +kernel
theorem dX11_tellNight_29 : decode cX11_tellNight 29 = .ok (.bipush (-9), 2) := by decide +kernel
theorem dX11_tellNight_31 : decode cX11_tellNight 31 = .ok (.ireturn, 1) := by decide +kernel
theorem dX11_tellNight_32 : decode cX11_tellNight 32 = .ok (.iload_n 1, 1) := by decide +kernel
theorem dX11_tellNight_33 : decode cX11_tellNight 33 = .ok (.iconst 3, 1) := by decide +kernel
theorem dX11_tellNight_34 : decode cX11_tellNight 34 = .ok (.if_icmp .ge 19, 3) := by decide +kernel
theorem dX11_tellNight_37 : decode cX11_tellNight 37 = .ok (.iload_n 1, 1) := by decide +kernel
theorem dX11_tellNight_38 : decode cX11_tellNight 38 = .ok (.ifCond .ne 10, 3) := by decide +kernel
theorem dX11_tellNight_41 : decode cX11_tellNight 41 = .ok (.aload_n 0, 1) := by decide +kernel
theorem dX11_tellNight_42 : decode cX11_tellNight 42 = .ok (.getfield 170, 3) := by decide +kernel
theorem dX11_tellNight_45 : decode cX11_tellNight 45 = .ok (.goto 7, 3) := by decide +kernel
theorem dX11_tellNight_48 : decode cX11_tellNight 48 = .ok (.aload_n 0, 1) := by decide +kernel
theorem dX11_tellNight_49 : decode cX11_tellNight 49 = .ok (.getfield 173, 3) := by decide +kernel
theorem dX11_tellNight_52 : decode cX11_tellNight 52 = .ok (.ireturn, 1) := by decide +kernel
theorem dX11_tellNight_53 : decode cX11_tellNight 53 = .ok (.iconst 0, 1) := by decide +kernel
theorem dX11_tellNight_54 : decode cX11_tellNight 54 = .ok (.istore_n 2, 1) := by decide +kernel
theorem dX11_tellNight_55 : decode cX11_tellNight 55 = .ok (.iconst 0, 1) := by decide +kernel
theorem dX11_tellNight_56 : decode cX11_tellNight 56 = .ok (.istore_n 3, 1) := by decide +kernel
theorem dX11_tellNight_57 : decode cX11_tellNight 57 = .ok (.iload_n 3, 1) := by decide +kernel
theorem dX11_tellNight_58 : decode cX11_tellNight 58 = .ok (.bipush 99, 2) := by decide +kernel
theorem dX11_tellNight_60 : decode cX11_tellNight 60 = .ok (.if_icmp .gt 30, 3) := by decide +kernel
theorem dX11_tellNight_63 : decode cX11_tellNight 63 = .ok (.aload_n 0, 1) := by decide +kernel
theorem dX11_tellNight_64 : decode cX11_tellNight 64 = .ok (.getfield 55, 3) := by decide +kernel
theorem dX11_tellNight_67 : decode cX11_tellNight 67 = .ok (.iload_n 3, 1) := by decide +kernel
theorem dX11_tellNight_68 : decode cX11_tellNight 68 = .ok (.iaload, 1) := by decide +kernel
theorem dX11_tellNight_69 : decode cX11_tellNight 69 = .ok (.iload_n 2, 1) := by decide +kernel
theorem dX11_tellNight_70 : decode cX11_tellNight 70 = .ok (.if_icmp .le 12, 3) := by decide +kernel
theorem dX11_tellNight_73 : decode cX11_tellNight 73 = .ok (.aload_n 0, 1) := by decide +kernel
theorem dX11_tellNight_74 : decode cX11_tellNight 74 = .ok (.getfield 55, 3) := by decide +kernel
theorem dX11_tellNight_77 : decode cX11_tellNight 77 = .ok (.iload_n 3, 1) := by decide +kernel
theorem dX11_tellNight_78 : decode cX11_tellNight 78 = .ok (.iaload, 1) := by decide +kernel
theorem dX11_tellNight_79 : decode cX11_tellNight 79 = .ok (.goto 4, 3) := by decide +kernel
theorem dX11_tellNight_82 : decode cX11_tellNight 82 = .ok (.iload_n 2, 1) := by decide +kernel
theorem dX11_tellNight_83 : decode cX11_tellNight 83 = .ok (.istore_n 2, 1) := by decide +kernel
theorem dX11_tellNight_84 : decode cX11_tellNight 84 = .ok (.iinc 3 1, 3) := by decide +kernel
theorem dX11_tellNight_87 : decode cX11_tellNight 87 = .ok (.goto (-30), 3) := by decide +kernel
theorem dX11_tellNight_90 : decode cX11_tellNight 90 = .ok (.iload_n 2, 1) := by decide +kernel
theorem dX11_tellNight_91 : decode cX11_tellNight 91 = .ok (.ireturn, 1) := by decide +kernel
theorem dX11_getsOf_0 : decode cX11_getsOf 0 = .ok (.aload_n 0, 1) := by decide +kernel
theorem dX11_getsOf_1 : decode cX11_getsOf 1 = .ok (.iload_n 1, 1) := by decide +kernel
theorem dX11_getsOf_2 : decode cX11_getsOf 2 = .ok (.iload_n 2, 1) := by decide +kernel
theorem dX11_getsOf_3 : decode cX11_getsOf 3 = .ok (.iconst 1, 1) := by decide +kernel
theorem dX11_getsOf_4 : decode cX11_getsOf 4 = .ok (.invokevirtual 163, 3) := by decide +kernel
theorem dX11_getsOf_7 : decode cX11_getsOf 7 = .ok (.istore_n 3, 1) := by decide +kernel
theorem dX11_getsOf_8 : decode cX11_getsOf 8 = .ok (.iconst 0, 1) := by decide +kernel
theorem dX11_getsOf_9 : decode cX11_getsOf 9 = .ok (.istore 4, 2) := by decide +kernel
theorem dX11_getsOf_11 : decode cX11_getsOf 11 = .ok (.iconst 0, 1) := by decide +kernel
theorem dX11_getsOf_12 : decode cX11_getsOf 12 = .ok (.istore 5, 2) := by decide +kernel
theorem dX11_getsOf_14 : decode cX11_getsOf 14 = .ok (.iload 5, 2) := by decide +kernel
theorem dX11_getsOf_16 : decode cX11_getsOf 16 = .ok (.aload_n 0, 1) := by decide +kernel
theorem dX11_getsOf_17 : decode cX11_getsOf 17 = .ok (.getfield 125, 3) := by decide +kernel
theorem dX11_getsOf_20 : decode cX11_getsOf 20 = .ok (.if_icmp .ge 35, 3) := by decide +kernel
theorem dX11_getsOf_23 : decode cX11_getsOf 23 = .ok (.iload 4, 2) := by decide +kernel
theorem dX11_getsOf_25 : decode cX11_getsOf 25 = .ok (.iload_n 3, 1) := by decide +kernel
theorem dX11_getsOf_26 : decode cX11_getsOf 26 = .ok (.iconst 2, 1) := by decide +kernel
theorem dX11_getsOf_27 : decode cX11_getsOf 27 = .ok (.aload_n 0, 1) := by decide +kernel
theorem dX11_getsOf_28 : decode cX11_getsOf 28 = .ok (.getfield 31, 3) := by decide +kernel
theorem dX11_getsOf_31 : decode cX11_getsOf 31 = .ok (.iload 5, 2) := by decide +kernel
theorem dX11_getsOf_33 : decode cX11_getsOf 33 = .ok (.iaload, 1) := by decide +kernel
theorem dX11_getsOf_34 : decode cX11_getsOf 34 = .ok (.imul, 1) := by decide +kernel
theorem dX11_getsOf_35 : decode cX11_getsOf 35 = .ok (.if_icmp .lt 10, 3) := by decide +kernel
theorem dX11_getsOf_38 : decode cX11_getsOf 38 = .ok (.iconst 1, 1) := by decide +kernel
theorem dX11_getsOf_39 : decode cX11_getsOf 39 = .ok (.iload 5, 2) := by decide +kernel
theorem dX11_getsOf_41 : decode cX11_getsOf 41 = .ok (.ishl, 1) := by decide +kernel
theorem dX11_getsOf_42 : decode cX11_getsOf 42 = .ok (.goto 4, 3) := by decide +kernel
theorem dX11_getsOf_45 : decode cX11_getsOf 45 = .ok (.iconst 0, 1) := by decide +kernel
theorem dX11_getsOf_46 : decode cX11_getsOf 46 = .ok (.ior, 1) := by decide +kernel
theorem dX11_getsOf_47 : decode cX11_getsOf 47 = .ok (.istore 4, 2) := by decide +kernel
theorem dX11_getsOf_49 : decode cX11_getsOf 49 = .ok (.iinc 5 1, 3) := by decide +kernel
theorem dX11_getsOf_52 : decode cX11_getsOf 52 = .ok (.goto (-38), 3) := by decide +kernel
theorem dX11_getsOf_55 : decode cX11_getsOf 55 = .ok (.iload 4, 2) := by decide +kernel
theorem dX11_getsOf_57 : decode cX11_getsOf 57 = .ok (.ireturn, 1) := by decide +kernel
theorem dX11_gets_0 : decode cX11_gets 0 = .ok (.aload_n 0, 1) := by decide +kernel
theorem dX11_gets_1 : decode cX11_gets 1 = .ok (.iload_n 1, 1) := by decide +kernel
theorem dX11_gets_2 : decode cX11_gets 2 = .ok (.invokevirtual 148, 3) := by decide +kernel
theorem dX11_gets_5 : decode cX11_gets 5 = .ok (.ifCond .ne 5, 3) := by decide +kernel
theorem dX11_gets_8 : decode cX11_gets 8 = .ok (.iconst (-1), 1) := by decide +kernel
theorem dX11_gets_9 : decode cX11_gets 9 = .ok (.ireturn, 1) := by decide +kernel
theorem dX11_gets_10 : decode cX11_gets 10 = .ok (.iload_n 2, 1) := by decide +kernel
theorem dX11_gets_11 : decode cX11_gets 11 = .ok (.invokestatic 160, 3) := by decide +kernel
theorem dX11_gets_14 : decode cX11_gets 14 = .ok (.ifCond .eq 12, 3) := by decide +kernel
theorem dX11_gets_17 : decode cX11_gets 17 = .ok (.aload_n 0, 1) := by decide +kernel
theorem dX11_gets_18 : decode cX11_gets 18 = .ok (.iload_n 1, 1) := by decide +kernel
theorem dX11_gets_19 : decode cX11_gets 19 = .ok (.iload_n 2, 1) := by decide +kernel
theorem dX11_gets_20 : decode cX11_gets 20 = .ok (.invokevirtual 182, 3) := by decide +kernel
theorem dX11_gets_23 : decode cX11_gets 23 = .ok (.goto 5, 3) := by decide +kernel
theorem dX11_gets_26 : decode cX11_gets 26 = .ok (.bipush (-2), 2) := by decide +kernel
theorem dX11_gets_28 : decode cX11_gets 28 = .ok (.ireturn, 1) := by decide +kernel
theorem dX11_worthOfRow_0 : decode cX11_worthOfRow 0 = .ok (.iconst 0, 1) := by decide +kernel
theorem dX11_worthOfRow_1 : decode cX11_worthOfRow 1 = .ok (.istore_n 1, 1) := by decide +kernel
theorem dX11_worthOfRow_2 : decode cX11_worthOfRow 2 = .ok (.iconst 0, 1) := by decide +kernel
theorem dX11_worthOfRow_3 : decode cX11_worthOfRow 3 = .ok (.istore_n 2, 1) := by decide +kernel
theorem dX11_worthOfRow_4 : decode cX11_worthOfRow 4 = .ok (.iconst 0, 1) := by decide +kernel
theorem dX11_worthOfRow_5 : decode cX11_worthOfRow 5 = .ok (.istore_n 3, 1) := by decide +kernel
theorem dX11_worthOfRow_6 : decode cX11_worthOfRow 6 = .ok (.iload_n 3, 1) := by decide +kernel
theorem dX11_worthOfRow_7 : decode cX11_worthOfRow 7 = .ok (.aload_n 0, 1) := by decide +kernel
theorem dX11_worthOfRow_8 : decode cX11_worthOfRow 8 = .ok (.getfield 86, 3) := by decide +kernel
theorem dX11_worthOfRow_11 : decode cX11_worthOfRow 11 = .ok (.if_icmp .ge 82, 3) := by decide +kernel
theorem dX11_worthOfRow_14 : decode cX11_worthOfRow 14 = .ok (.aload_n 0, 1) := by decide +kernel
theorem dX11_worthOfRow_15 : decode cX11_worthOfRow 15 = .ok (.getfield 61, 3) := by decide +kernel
theorem dX11_worthOfRow_18 : decode cX11_worthOfRow 18 = .ok (.iload_n 3, 1) := by decide +kernel
theorem dX11_worthOfRow_19 : decode cX11_worthOfRow 19 = .ok (.iaload, 1) := by decide +kernel
theorem dX11_worthOfRow_20 : decode cX11_worthOfRow 20 = .ok (.aload_n 0, 1) := by decide +kernel
theorem dX11_worthOfRow_21 : decode cX11_worthOfRow 21 = .ok (.getfield 125, 3) := by decide +kernel
theorem dX11_worthOfRow_24 : decode cX11_worthOfRow 24 = .ok (.if_icmp .ge 63, 3) := by decide +kernel
theorem dX11_worthOfRow_27 : decode cX11_worthOfRow 27 = .ok (.aload_n 0, 1) := by decide +kernel
theorem dX11_worthOfRow_28 : decode cX11_worthOfRow 28 = .ok (.getfield 58, 3) := by decide +kernel
theorem dX11_worthOfRow_31 : decode cX11_worthOfRow 31 = .ok (.iload_n 3, 1) := by decide +kernel
theorem dX11_worthOfRow_32 : decode cX11_worthOfRow 32 = .ok (.iaload, 1) := by decide +kernel
theorem dX11_worthOfRow_33 : decode cX11_worthOfRow 33 = .ok (.aload_n 0, 1) := by decide +kernel
theorem dX11_worthOfRow_34 : decode cX11_worthOfRow 34 = .ok (.getfield 61, 3) := by decide +kernel
theorem dX11_worthOfRow_37 : decode cX11_worthOfRow 37 = .ok (.iload_n 3, 1) := by decide +kernel
theorem dX11_worthOfRow_38 : decode cX11_worthOfRow 38 = .ok (.iaload, 1) := by decide +kernel
theorem dX11_worthOfRow_39 : decode cX11_worthOfRow 39 = .ok (.ishr, 1) := by decide +kernel
theorem dX11_worthOfRow_40 : decode cX11_worthOfRow 40 = .ok (.iconst 1, 1) := by decide +kernel
theorem dX11_worthOfRow_41 : decode cX11_worthOfRow 41 = .ok (.iand, 1) := by decide +kernel
theorem dX11_worthOfRow_42 : decode cX11_worthOfRow 42 = .ok (.ifCond .eq 17, 3) := by decide +kernel
theorem dX11_worthOfRow_45 : decode cX11_worthOfRow 45 = .ok (.iload_n 2, 1) := by decide +kernel
theorem dX11_worthOfRow_46 : decode cX11_worthOfRow 46 = .ok (.aload_n 0, 1) := by decide +kernel
theorem dX11_worthOfRow_47 : decode cX11_worthOfRow 47 = .ok (.getfield 61, 3) := by decide +kernel
theorem dX11_worthOfRow_50 : decode cX11_worthOfRow 50 = .ok (.iload_n 3, 1) := by decide +kernel
theorem dX11_worthOfRow_51 : decode cX11_worthOfRow 51 = .ok (.iaload, 1) := by decide +kernel
theorem dX11_worthOfRow_52 : decode cX11_worthOfRow 52 = .ok (.ishr, 1) := by decide +kernel
theorem dX11_worthOfRow_53 : decode cX11_worthOfRow 53 = .ok (.iconst 1, 1) := by decide +kernel
theorem dX11_worthOfRow_54 : decode cX11_worthOfRow 54 = .ok (.iand, 1) := by decide +kernel
theorem dX11_worthOfRow_55 : decode cX11_worthOfRow 55 = .ok (.iconst 1, 1) := by decide +kernel
theorem dX11_worthOfRow_56 : decode cX11_worthOfRow 56 = .ok (.if_icmp .ne 6, 3) := by decide +kernel
theorem dX11_worthOfRow_59 : decode cX11_worthOfRow 59 = .ok (.bipush (-9), 2) := by decide +kernel
theorem dX11_worthOfRow_61 : decode cX11_worthOfRow 61 = .ok (.ireturn, 1) := by decide +kernel
theorem dX11_worthOfRow_62 : decode cX11_worthOfRow 62 = .ok (.iload_n 2, 1) := by decide +kernel
theorem dX11_worthOfRow_63 : decode cX11_worthOfRow 63 = .ok (.iconst 1, 1) := by decide +kernel
theorem dX11_worthOfRow_64 : decode cX11_worthOfRow 64 = .ok (.aload_n 0, 1) := by decide +kernel
theorem dX11_worthOfRow_65 : decode cX11_worthOfRow 65 = .ok (.getfield 61, 3) := by decide +kernel
theorem dX11_worthOfRow_68 : decode cX11_worthOfRow 68 = .ok (.iload_n 3, 1) := by decide +kernel
theorem dX11_worthOfRow_69 : decode cX11_worthOfRow 69 = .ok (.iaload, 1) := by decide +kernel
theorem dX11_worthOfRow_70 : decode cX11_worthOfRow 70 = .ok (.ishl, 1) := by decide +kernel
theorem dX11_worthOfRow_71 : decode cX11_worthOfRow 71 = .ok (.ior, 1) := by decide +kernel
theorem dX11_worthOfRow_72 : decode cX11_worthOfRow 72 = .ok (.istore_n 2, 1) := by decide +kernel
theorem dX11_worthOfRow_73 : decode cX11_worthOfRow 73 = .ok (.iload_n 1, 1) := by decide +kernel
theorem dX11_worthOfRow_74 : decode cX11_worthOfRow 74 = .ok (.aload_n 0, 1) := by decide +kernel
theorem dX11_worthOfRow_75 : decode cX11_worthOfRow 75 = .ok (.getfield 31, 3) := by decide +kernel
theorem dX11_worthOfRow_78 : decode cX11_worthOfRow 78 = .ok (.aload_n 0, 1) := by decide +kernel
theorem dX11_worthOfRow_79 : decode cX11_worthOfRow 79 = .ok (.getfield 61, 3) := by decide +kernel
theorem dX11_worthOfRow_82 : decode cX11_worthOfRow 82 = .ok (.iload_n 3, 1) := by decide +kernel
theorem dX11_worthOfRow_83 : decode cX11_worthOfRow 83 = .ok (.iaload, 1) := by decide +kernel
theorem dX11_worthOfRow_84 : decode cX11_worthOfRow 84 = .ok (.iaload, 1) := by decide +kernel
theorem dX11_worthOfRow_85 : decode cX11_worthOfRow 85 = .ok (.iadd, 1) := by decide +kernel
theorem dX11_worthOfRow_86 : decode cX11_worthOfRow 86 = .ok (.istore_n 1, 1) := by decide +kernel
theorem dX11_worthOfRow_87 : decode cX11_worthOfRow 87 = .ok (.iinc 3 1, 3) := by decide +kernel
theorem dX11_worthOfRow_90 : decode cX11_worthOfRow 90 = .ok (.goto (-84), 3) := by decide +kernel
theorem dX11_worthOfRow_93 : decode cX11_worthOfRow 93 = .ok (.iload_n 1, 1) := by decide +kernel
theorem dX11_worthOfRow_94 : decode cX11_worthOfRow 94 = .ok (.ireturn, 1) := by decide +kernel
theorem dX11_findSend_0 : decode cX11_findSend 0 = .ok (.iconst 1, 1) := by decide +kernel
theorem dX11_findSend_1 : decode cX11_findSend 1 = .ok (.istore_n 2, 1) := by decide +kernel
theorem dX11_findSend_2 : decode cX11_findSend 2 = .ok (.iconst 0, 1) := by decide +kernel
theorem dX11_findSend_3 : decode cX11_findSend 3 = .ok (.istore_n 3, 1) := by decide +kernel
theorem dX11_findSend_4 : decode cX11_findSend 4 = .ok (.iload_n 3, 1) := by decide +kernel
theorem dX11_findSend_5 : decode cX11_findSend 5 = .ok (.aload_n 0, 1) := by decide +kernel
theorem dX11_findSend_6 : decode cX11_findSend 6 = .ok (.getfield 86, 3) := by decide +kernel
theorem dX11_findSend_9 : decode cX11_findSend 9 = .ok (.if_icmp .ge 30, 3) := by decide +kernel
theorem dX11_findSend_12 : decode cX11_findSend 12 = .ok (.aload_n 0, 1) := by decide +kernel
theorem dX11_findSend_13 : decode cX11_findSend 13 = .ok (.getfield 58, 3) := by decide +kernel
theorem dX11_findSend_16 : decode cX11_findSend 16 = .ok (.iload_n 3, 1) := by decide +kernel
theorem dX11_findSend_17 : decode cX11_findSend 17 = .ok (.aload_n 0, 1) := by decide +kernel
theorem dX11_findSend_18 : decode cX11_findSend 18 = .ok (.iload_n 3, 1) := by decide +kernel
theorem dX11_findSend_19 : decode cX11_findSend 19 = .ok (.iload_n 1, 1) := by decide +kernel
theorem dX11_findSend_20 : decode cX11_findSend 20 = .ok (.invokevirtual 182, 3) := by decide +kernel
theorem dX11_findSend_23 : decode cX11_findSend 23 = .ok (.iastore, 1) := by decide +kernel
theorem dX11_findSend_24 : decode cX11_findSend 24 = .ok (.iload_n 2, 1) := by decide +kernel
theorem dX11_findSend_25 : decode cX11_findSend 25 = .ok (.aload_n 0, 1) := by decide +kernel
theorem dX11_findSend_26 : decode cX11_findSend 26 = .ok (.getfield 125, 3) := by decide +kernel
theorem dX11_findSend_29 : decode cX11_findSend 29 = .ok (.iconst 1, 1) := by decide +kernel
theorem dX11_findSend_30 : decode cX11_findSend 30 = .ok (.iadd, 1) := by decide +kernel
theorem dX11_findSend_31 : decode cX11_findSend 31 = .ok (.imul, 1) := by decide +kernel
theorem dX11_findSend_32 : decode cX11_findSend 32 = .ok (.istore_n 2, 1) := by decide +kernel
theorem dX11_findSend_33 : decode cX11_findSend 33 = .ok (.iinc 3 1, 3) := by decide +kernel
theorem dX11_findSend_36 : decode cX11_findSend 36 = .ok (.goto (-32), 3) := by decide +kernel
theorem dX11_findSend_39 : decode cX11_findSend 39 = .ok (.bipush (-9), 2) := by decide +kernel
theorem dX11_findSend_41 : decode cX11_findSend 41 = .ok (.istore_n 3, 1) := by decide +kernel
theorem dX11_findSend_42 : decode cX11_findSend 42 = .ok (.iconst 0, 1) := by decide +kernel
theorem dX11_findSend_43 : decode cX11_findSend 43 = .ok (.istore 4, 2) := by decide +kernel
theorem dX11_findSend_45 : decode cX11_findSend 45 = .ok (.iload 4, 2) := by decide +kernel
theorem dX11_findSend_47 : decode cX11_findSend 47 = .ok (.iload_n 2, 1) := by decide +kernel
theorem dX11_findSend_48 : decode cX11_findSend 48 = .ok (.if_icmp .ge 106, 3) := by decide +kernel
theorem dX11_findSend_51 : decode cX11_findSend 51 = .ok (.iload 4, 2) := by decide +kernel
theorem dX11_findSend_53 : decode cX11_findSend 53 = .ok (.istore 5, 2) := by decide +kernel
theorem dX11_findSend_55 : decode cX11_findSend 55 = .ok (.aload_n 0, 1) := by decide +kernel
theorem dX11_findSend_56 : decode cX11_findSend 56 = .ok (.getfield 86, 3) := by decide +kernel
theorem dX11_findSend_59 : decode cX11_findSend 59 = .ok (.iconst 1, 1) := by decide +kernel
theorem dX11_findSend_60 : decode cX11_findSend 60 = .ok (.isub, 1) := by decide +kernel
theorem dX11_findSend_61 : decode cX11_findSend 61 = .ok (.istore 6, 2) := by decide +kernel
theorem dX11_findSend_63 : decode cX11_findSend 63 = .ok (.iload 6, 2) := by decide +kernel
theorem dX11_findSend_65 : decode cX11_findSend 65 = .ok (.ifCond .lt 36, 3) := by decide +kernel
theorem dX11_findSend_68 : decode cX11_findSend 68 = .ok (.aload_n 0, 1) := by decide +kernel
theorem dX11_findSend_69 : decode cX11_findSend 69 = .ok (.getfield 61, 3) := by decide +kernel
theorem dX11_findSend_72 : decode cX11_findSend 72 = .ok (.iload 6, 2) := by decide +kernel
theorem dX11_findSend_74 : decode cX11_findSend 74 = .ok (.iload 5, 2) := by decide +kernel
theorem dX11_findSend_76 : decode cX11_findSend 76 = .ok (.aload_n 0, 1) := by decide +kernel
theorem dX11_findSend_77 : decode cX11_findSend 77 = .ok (.getfield 125, 3) := by decide +kernel
theorem dX11_findSend_80 : decode cX11_findSend 80 = .ok (.iconst 1, 1) := by decide +kernel
theorem dX11_findSend_81 : decode cX11_findSend 81 = .ok (.iadd, 1) := by decide +kernel
theorem dX11_findSend_82 : decode cX11_findSend 82 = .ok (.irem, 1) := by decide +kernel
theorem dX11_findSend_83 : decode cX11_findSend 83 = .ok (.iastore, 1) := by decide +kernel
theorem dX11_findSend_84 : decode cX11_findSend 84 = .ok (.iload 5, 2) := by decide +kernel
theorem dX11_findSend_86 : decode cX11_findSend 86 = .ok (.aload_n 0, 1) := by decide +kernel
theorem dX11_findSend_87 : decode cX11_findSend 87 = .ok (.getfield 125, 3) := by decide +kernel
theorem dX11_findSend_90 : decode cX11_findSend 90 = .ok (.iconst 1, 1) := by decide +kernel
theorem dX11_findSend_91 : decode cX11_findSend 91 = .ok (.iadd, 1) := by decide +kernel
theorem dX11_findSend_92 : decode cX11_findSend 92 = .ok (.idiv, 1) := by decide +kernel
theorem dX11_findSend_93 : decode cX11_findSend 93 = .ok (.istore 5, 2) := by decide +kernel
theorem dX11_findSend_95 : decode cX11_findSend 95 = .ok (.iinc 6 (-1), 3) := by decide +kernel
theorem dX11_findSend_98 : decode cX11_findSend 98 = .ok (.goto (-35), 3) := by decide +kernel
theorem dX11_findSend_101 : decode cX11_findSend 101 = .ok (.aload_n 0, 1) := by decide +kernel
theorem dX11_findSend_102 : decode cX11_findSend 102 = .ok (.invokevirtual 185, 3) := by decide +kernel
theorem dX11_findSend_105 : decode cX11_findSend 105 = .ok (.istore 6, 2) := by decide +kernel
theorem dX11_findSend_107 : decode cX11_findSend 107 = .ok (.iload 6, 2) := by decide +kernel
theorem dX11_findSend_109 : decode cX11_findSend 109 = .ok (.iload_n 3, 1) := by decide +kernel
theorem dX11_findSend_110 : decode cX11_findSend 110 = .ok (.if_icmp .le 38, 3) := by decide +kernel
theorem dX11_findSend_113 : decode cX11_findSend 113 = .ok (.iload 6, 2) := by decide +kernel
theorem dX11_findSend_115 : decode cX11_findSend 115 = .ok (.istore_n 3, 1) := by decide +kernel
theorem dX11_findSend_116 : decode cX11_findSend 116 = .ok (.iconst 0, 1) := by decide +kernel
theorem dX11_findSend_117 : decode cX11_findSend 117 = .ok (.istore 7, 2) := by decide +kernel
theorem dX11_findSend_119 : decode cX11_findSend 119 = .ok (.iload 7, 2) := by decide +kernel
theorem dX11_findSend_121 : decode cX11_findSend 121 = .ok (.aload_n 0, 1) := by decide +kernel
theorem dX11_findSend_122 : decode cX11_findSend 122 = .ok (.getfield 86, 3) := by decide +kernel
theorem dX11_findSend_125 : decode cX11_findSend 125 = .ok (.if_icmp .ge 23, 3) := by decide +kernel
theorem dX11_findSend_128 : decode cX11_findSend 128 = .ok (.aload_n 0, 1) := by decide +kernel
theorem dX11_findSend_129 : decode cX11_findSend 129 = .ok (.getfield 64, 3) := by decide +kernel
theorem dX11_findSend_132 : decode cX11_findSend 132 = .ok (.iload 7, 2) := by decide +kernel
theorem dX11_findSend_134 : decode cX11_findSend 134 = .ok (.aload_n 0, 1) := by decide +kernel
theorem dX11_findSend_135 : decode cX11_findSend 135 = .ok (.getfield 61, 3) := by decide +kernel
theorem dX11_findSend_138 : decode cX11_findSend 138 = .ok (.iload 7, 2) := by decide +kernel
theorem dX11_findSend_140 : decode cX11_findSend 140 = .ok (.iaload, 1) := by decide +kernel
theorem dX11_findSend_141 : decode cX11_findSend 141 = .ok (.iastore, 1) := by decide +kernel
theorem dX11_findSend_142 : decode cX11_findSend 142 = .ok (.iinc 7 1, 3) := by decide +kernel
theorem dX11_findSend_145 : decode cX11_findSend 145 = .ok (.goto (-26), 3) := by decide +kernel
theorem dX11_findSend_148 : decode cX11_findSend 148 = .ok (.iinc 4 1, 3) := by decide +kernel
theorem dX11_findSend_151 : decode cX11_findSend 151 = .ok (.goto (-106), 3) := by decide +kernel
theorem dX11_findSend_154 : decode cX11_findSend 154 = .ok (.iload_n 3, 1) := by decide +kernel
theorem dX11_findSend_155 : decode cX11_findSend 155 = .ok (.ireturn, 1) := by decide +kernel
theorem dX11_send_0 : decode cX11_send 0 = .ok (.iload_n 1, 1) := by decide +kernel
theorem dX11_send_1 : decode cX11_send 1 = .ok (.invokestatic 160, 3) := by decide +kernel
theorem dX11_send_4 : decode cX11_send 4 = .ok (.ifCond .eq 12, 3) := by decide +kernel
theorem dX11_send_7 : decode cX11_send 7 = .ok (.iload_n 2, 1) := by decide +kernel
theorem dX11_send_8 : decode cX11_send 8 = .ok (.iconst (-1), 1) := by decide +kernel
theorem dX11_send_9 : decode cX11_send 9 = .ok (.iconst 4, 1) := by decide +kernel
theorem dX11_send_10 : decode cX11_send 10 = .ok (.invokestatic 82, 3) := by decide +kernel
theorem dX11_send_13 : decode cX11_send 13 = .ok (.ifCond .ne 6, 3) := by decide +kernel
theorem dX11_send_16 : decode cX11_send 16 = .ok (.bipush (-2), 2) := by decide +kernel
theorem dX11_send_18 : decode cX11_send 18 = .ok (.ireturn, 1) := by decide +kernel
theorem dX11_send_19 : decode cX11_send 19 = .ok (.aload_n 0, 1) := by decide +kernel
theorem dX11_send_20 : decode cX11_send 20 = .ok (.getfield 86, 3) := by decide +kernel
theorem dX11_send_23 : decode cX11_send 23 = .ok (.ifCond .ne 6, 3) := by decide +kernel
theorem dX11_send_26 : decode cX11_send 26 = .ok (.bipush (-3), 2) := by decide +kernel
theorem dX11_send_28 : decode cX11_send 28 = .ok (.ireturn, 1) := by decide +kernel
theorem dX11_send_29 : decode cX11_send 29 = .ok (.aload_n 0, 1) := by decide +kernel
theorem dX11_send_30 : decode cX11_send 30 = .ok (.iload_n 1, 1) := by decide +kernel
theorem dX11_send_31 : decode cX11_send 31 = .ok (.invokevirtual 189, 3) := by decide +kernel
theorem dX11_send_34 : decode cX11_send 34 = .ok (.istore_n 3, 1) := by decide +kernel
theorem dX11_send_35 : decode cX11_send 35 = .ok (.iload_n 2, 1) := by decide +kernel
theorem dX11_send_36 : decode cX11_send 36 = .ok (.iconst (-1), 1) := by decide +kernel
theorem dX11_send_37 : decode cX11_send 37 = .ok (.if_icmp .ne 5, 3) := by decide +kernel
theorem dX11_send_40 : decode cX11_send 40 = .ok (.iload_n 3, 1) := by decide +kernel
theorem dX11_send_41 : decode cX11_send 41 = .ok (.ireturn, 1) := by decide +kernel
theorem dX11_send_42 : decode cX11_send 42 = .ok (.iload_n 2, 1) := by decide +kernel
theorem dX11_send_43 : decode cX11_send 43 = .ok (.aload_n 0, 1) := by decide +kernel
theorem dX11_send_44 : decode cX11_send 44 = .ok (.getfield 86, 3) := by decide +kernel
theorem dX11_send_47 : decode cX11_send 47 = .ok (.if_icmp .ge 25, 3) := by decide +kernel
theorem dX11_send_50 : decode cX11_send 50 = .ok (.aload_n 0, 1) := by decide +kernel
theorem dX11_send_51 : decode cX11_send 51 = .ok (.getfield 64, 3) := by decide +kernel
theorem dX11_send_54 : decode cX11_send 54 = .ok (.iload_n 2, 1) := by decide +kernel
theorem dX11_send_55 : decode cX11_send 55 = .ok (.iaload, 1) := by decide +kernel
theorem dX11_send_56 : decode cX11_send 56 = .ok (.aload_n 0, 1) := by decide +kernel
theorem dX11_send_57 : decode cX11_send 57 = .ok (.getfield 125, 3) := by decide +kernel
theorem dX11_send_60 : decode cX11_send 60 = .ok (.if_icmp .ge 12, 3) := by decide +kernel
theorem dX11_send_63 : decode cX11_send 63 = .ok (.aload_n 0, 1) := by decide +kernel
theorem dX11_send_64 : decode cX11_send 64 = .ok (.getfield 64, 3) := by decide +kernel
theorem dX11_send_67 : decode cX11_send 67 = .ok (.iload_n 2, 1) := by decide +kernel
theorem dX11_send_68 : decode cX11_send 68 = .ok (.iaload, 1) := by decide +kernel
theorem dX11_send_69 : decode cX11_send 69 = .ok (.goto 5, 3) := by decide +kernel
theorem dX11_send_72 : decode cX11_send 72 = .ok (.bipush (-9), 2) := by decide +kernel
theorem dX11_send_74 : decode cX11_send 74 = .ok (.ireturn, 1) := by decide +kernel
theorem dX11_reading_0 : decode cX11_reading 0 = .ok (.aload_n 0, 1) := by decide +kernel
theorem dX11_reading_1 : decode cX11_reading 1 = .ok (.iload_n 1, 1) := by decide +kernel
theorem dX11_reading_2 : decode cX11_reading 2 = .ok (.invokevirtual 148, 3) := by decide +kernel
theorem dX11_reading_5 : decode cX11_reading 5 = .ok (.ifCond .ne 5, 3) := by decide +kernel
theorem dX11_reading_8 : decode cX11_reading 8 = .ok (.iconst (-1), 1) := by decide +kernel
theorem dX11_reading_9 : decode cX11_reading 9 = .ok (.ireturn, 1) := by decide +kernel
theorem dX11_reading_10 : decode cX11_reading 10 = .ok (.iload_n 2, 1) := by decide +kernel
theorem dX11_reading_11 : decode cX11_reading 11 = .ok (.invokestatic 160, 3) := by decide +kernel
theorem dX11_reading_14 : decode cX11_reading 14 = .ok (.ifCond .eq 13, 3) := by decide +kernel
theorem dX11_reading_17 : decode cX11_reading 17 = .ok (.iload_n 3, 1) := by decide +kernel
theorem dX11_reading_18 : decode cX11_reading 18 = .ok (.iconst 0, 1) := by decide +kernel
theorem dX11_reading_19 : decode cX11_reading 19 = .ok (.bipush 40, 2) := by decide +kernel
theorem dX11_reading_21 : decode cX11_reading 21 = .ok (.invokestatic 82, 3) := by decide +kernel
theorem dX11_reading_24 : decode cX11_reading 24 = .ok (.ifCond .ne 6, 3) := by decide +kernel
theorem dX11_reading_27 : decode cX11_reading 27 = .ok (.bipush (-2), 2) := by decide +kernel
theorem dX11_reading_29 : decode cX11_reading 29 = .ok (.ireturn, 1) := by decide +kernel
theorem dX11_reading_30 : decode cX11_reading 30 = .ok (.aload_n 0, 1) := by decide +kernel
theorem dX11_reading_31 : decode cX11_reading 31 = .ok (.getfield 128, 3) := by decide +kernel
theorem dX11_reading_34 : decode cX11_reading 34 = .ok (.bipush 8, 2) := by decide +kernel
theorem dX11_reading_36 : decode cX11_reading 36 = .ok (.if_icmp .ne 6, 3) := by decide +kernel
theorem dX11_reading_39 : decode cX11_reading 39 = .ok (.bipush (-4), 2) := by decide +kernel
theorem dX11_reading_41 : decode cX11_reading 41 = .ok (.ireturn, 1) := by decide +kernel
theorem dX11_reading_42 : decode cX11_reading 42 = .ok (.aload_n 0, 1) := by decide +kernel
theorem dX11_reading_43 : decode cX11_reading 43 = .ok (.getfield 67, 3) := by decide +kernel
theorem dX11_reading_46 : decode cX11_reading 46 = .ok (.aload_n 0, 1) := by decide +kernel
theorem dX11_reading_47 : decode cX11_reading 47 = .ok (.getfield 128, 3) := by decide +kernel
theorem dX11_reading_50 : decode cX11_reading 50 = .ok (.iload_n 1, 1) := by decide +kernel
theorem dX11_reading_51 : decode cX11_reading 51 = .ok (.iastore, 1) := by decide +kernel
theorem dX11_reading_52 : decode cX11_reading 52 = .ok (.aload_n 0, 1) := by decide +kernel
theorem dX11_reading_53 : decode cX11_reading 53 = .ok (.getfield 70, 3) := by decide +kernel
theorem dX11_reading_56 : decode cX11_reading 56 = .ok (.aload_n 0, 1) := by decide +kernel
theorem dX11_reading_57 : decode cX11_reading 57 = .ok (.getfield 128, 3) := by decide +kernel
theorem dX11_reading_60 : decode cX11_reading 60 = .ok (.iload_n 2, 1) := by decide +kernel
theorem dX11_reading_61 : decode cX11_reading 61 = .ok (.iastore, 1) := by decide +kernel
theorem dX11_reading_62 : decode cX11_reading 62 = .ok (.aload_n 0, 1) := by decide +kernel
theorem dX11_reading_63 : decode cX11_reading 63 = .ok (.getfield 73, 3) := by decide +kernel
theorem dX11_reading_66 : decode cX11_reading 66 = .ok (.aload_n 0, 1) := by decide +kernel
theorem dX11_reading_67 : decode cX11_reading 67 = .ok (.getfield 128, 3) := by decide +kernel
theorem dX11_reading_70 : decode cX11_reading 70 = .ok (.iload_n 3, 1) := by decide +kernel
theorem dX11_reading_71 : decode cX11_reading 71 = .ok (.iastore, 1) := by decide +kernel
theorem dX11_reading_72 : decode cX11_reading 72 = .ok (.aload_n 0, 1) := by decide +kernel
theorem dX11_reading_73 : decode cX11_reading 73 = .ok (.dup, 1) := by decide +kernel
theorem dX11_reading_74 : decode cX11_reading 74 = .ok (.getfield 128, 3) := by decide +kernel
theorem dX11_reading_77 : decode cX11_reading 77 = .ok (.iconst 1, 1) := by decide +kernel
theorem dX11_reading_78 : decode cX11_reading 78 = .ok (.iadd, 1) := by decide +kernel
theorem dX11_reading_79 : decode cX11_reading 79 = .ok (.putfield 128, 3) := by decide +kernel
theorem dX11_reading_82 : decode cX11_reading 82 = .ok (.aload_n 0, 1) := by decide +kernel
theorem dX11_reading_83 : decode cX11_reading 83 = .ok (.getfield 128, 3) := by decide +kernel
theorem dX11_reading_86 : decode cX11_reading 86 = .ok (.iconst 1, 1) := by decide +kernel
theorem dX11_reading_87 : decode cX11_reading 87 = .ok (.isub, 1) := by decide +kernel
theorem dX11_reading_88 : decode cX11_reading 88 = .ok (.ireturn, 1) := by decide +kernel
theorem dX11_back_0 : decode cX11_back 0 = .ok (.iload_n 1, 1) := by decide +kernel
theorem dX11_back_1 : decode cX11_back 1 = .ok (.iconst 0, 1) := by decide +kernel
theorem dX11_back_2 : decode cX11_back 2 = .ok (.aload_n 0, 1) := by decide +kernel
theorem dX11_back_3 : decode cX11_back 3 = .ok (.getfield 128, 3) := by decide +kernel
theorem dX11_back_6 : decode cX11_back 6 = .ok (.invokestatic 82, 3) := by decide +kernel
theorem dX11_back_9 : decode cX11_back 9 = .ok (.ifCond .ne 6, 3) := by decide +kernel
theorem dX11_back_12 : decode cX11_back 12 = .ok (.bipush (-2), 2) := by decide +kernel
theorem dX11_back_14 : decode cX11_back 14 = .ok (.ireturn, 1) := by decide +kernel
theorem dX11_back_15 : decode cX11_back 15 = .ok (.aload_n 0, 1) := by decide +kernel
theorem dX11_back_16 : decode cX11_back 16 = .ok (.dup, 1) := by decide +kernel
theorem dX11_back_17 : decode cX11_back 17 = .ok (.getfield 128, 3) := by decide +kernel
theorem dX11_back_20 : decode cX11_back 20 = .ok (.iload_n 1, 1) := by decide +kernel
theorem dX11_back_21 : decode cX11_back 21 = .ok (.isub, 1) := by decide +kernel
theorem dX11_back_22 : decode cX11_back 22 = .ok (.putfield 128, 3) := by decide +kernel
theorem dX11_back_25 : decode cX11_back 25 = .ok (.aload_n 0, 1) := by decide +kernel
theorem dX11_back_26 : decode cX11_back 26 = .ok (.getfield 128, 3) := by decide +kernel
theorem dX11_back_29 : decode cX11_back 29 = .ok (.ireturn, 1) := by decide +kernel
theorem dX11_areSo_0 : decode cX11_areSo 0 = .ok (.iconst 0, 1) := by decide +kernel
theorem dX11_areSo_1 : decode cX11_areSo 1 = .ok (.istore_n 1, 1) := by decide +kernel
theorem dX11_areSo_2 : decode cX11_areSo 2 = .ok (.iload_n 1, 1) := by decide +kernel
theorem dX11_areSo_3 : decode cX11_areSo 3 = .ok (.aload_n 0, 1) := by decide +kernel
theorem dX11_areSo_4 : decode cX11_areSo 4 = .ok (.getfield 128, 3) := by decide +kernel
theorem dX11_areSo_7 : decode cX11_areSo 7 = .ok (.if_icmp .ge 37, 3) := by decide +kernel
theorem dX11_areSo_10 : decode cX11_areSo 10 = .ok (.aload_n 0, 1) := by decide +kernel
theorem dX11_areSo_11 : decode cX11_areSo 11 = .ok (.aload_n 0, 1) := by decide +kernel
theorem dX11_areSo_12 : decode cX11_areSo 12 = .ok (.getfield 67, 3) := by decide +kernel
theorem dX11_areSo_15 : decode cX11_areSo 15 = .ok (.iload_n 1, 1) := by decide +kernel
theorem dX11_areSo_16 : decode cX11_areSo 16 = .ok (.iaload, 1) := by decide +kernel
theorem dX11_areSo_17 : decode cX11_areSo 17 = .ok (.aload_n 0, 1) := by decide +kernel
theorem dX11_areSo_18 : decode cX11_areSo 18 = .ok (.getfield 70, 3) := by decide +kernel
theorem dX11_areSo_21 : decode cX11_areSo 21 = .ok (.iload_n 1, 1) := by decide +kernel
theorem dX11_areSo_22 : decode cX11_areSo 22 = .ok (.iaload, 1) := by decide +kernel
theorem dX11_areSo_23 : decode cX11_areSo 23 = .ok (.iconst 1, 1) := by decide +kernel
theorem dX11_areSo_24 : decode cX11_areSo 24 = .ok (.invokevirtual 163, 3) := by decide +kernel
theorem dX11_areSo_27 : decode cX11_areSo 27 = .ok (.aload_n 0, 1) := by decide +kernel
theorem dX11_areSo_28 : decode cX11_areSo 28 = .ok (.getfield 73, 3) := by decide +kernel
theorem dX11_areSo_31 : decode cX11_areSo 31 = .ok (.iload_n 1, 1) := by decide +kernel
theorem dX11_areSo_32 : decode cX11_areSo 32 = .ok (.iaload, 1) := by decide +kernel
theorem dX11_areSo_33 : decode cX11_areSo 33 = .ok (.if_icmp .eq 5, 3) := by decide +kernel
theorem dX11_areSo_36 : decode cX11_areSo 36 = .ok (.iconst 0, 1) := by decide +kernel
theorem dX11_areSo_37 : decode cX11_areSo 37 = .ok (.ireturn, 1) := by decide +kernel
theorem dX11_areSo_38 : decode cX11_areSo 38 = .ok (.iinc 1 1, 3) := by decide +kernel
theorem dX11_areSo_41 : decode cX11_areSo 41 = .ok (.goto (-39), 3) := by decide +kernel
theorem dX11_areSo_44 : decode cX11_areSo 44 = .ok (.iconst 1, 1) := by decide +kernel
theorem dX11_areSo_45 : decode cX11_areSo 45 = .ok (.ireturn, 1) := by decide +kernel
theorem dX11_minds_0 : decode cX11_minds 0 = .ok (.aload_n 0, 1) := by decide +kernel
theorem dX11_minds_1 : decode cX11_minds 1 = .ok (.iload_n 1, 1) := by decide +kernel
theorem dX11_minds_2 : decode cX11_minds 2 = .ok (.invokevirtual 148, 3) := by decide +kernel
theorem dX11_minds_5 : decode cX11_minds 5 = .ok (.ifCond .ne 5, 3) := by decide +kernel
theorem dX11_minds_8 : decode cX11_minds 8 = .ok (.iconst (-1), 1) := by decide +kernel
theorem dX11_minds_9 : decode cX11_minds 9 = .ok (.ireturn, 1) := by decide +kernel
theorem dX11_minds_10 : decode cX11_minds 10 = .ok (.aload_n 0, 1) := by decide +kernel
theorem dX11_minds_11 : decode cX11_minds 11 = .ok (.getfield 28, 3) := by decide +kernel
theorem dX11_minds_14 : decode cX11_minds 14 = .ok (.iload_n 1, 1) := by decide +kernel
theorem dX11_minds_15 : decode cX11_minds 15 = .ok (.iaload, 1) := by decide +kernel
theorem dX11_minds_16 : decode cX11_minds 16 = .ok (.istore_n 2, 1) := by decide +kernel
theorem dX11_minds_17 : decode cX11_minds 17 = .ok (.iconst 0, 1) := by decide +kernel
theorem dX11_minds_18 : decode cX11_minds 18 = .ok (.istore_n 3, 1) := by decide +kernel
theorem dX11_minds_19 : decode cX11_minds 19 = .ok (.iconst 0, 1) := by decide +kernel
theorem dX11_minds_20 : decode cX11_minds 20 = .ok (.istore 4, 2) := by decide +kernel
theorem dX11_minds_22 : decode cX11_minds 22 = .ok (.iload 4, 2) := by decide +kernel
theorem dX11_minds_24 : decode cX11_minds 24 = .ok (.bipush 9, 2) := by decide +kernel
theorem dX11_minds_26 : decode cX11_minds 26 = .ok (.if_icmp .gt 35, 3) := by decide +kernel
theorem dX11_minds_29 : decode cX11_minds 29 = .ok (.aload_n 0, 1) := by decide +kernel
theorem dX11_minds_30 : decode cX11_minds 30 = .ok (.getfield 28, 3) := by decide +kernel
theorem dX11_minds_33 : decode cX11_minds 33 = .ok (.iload_n 1, 1) := by decide +kernel
theorem dX11_minds_34 : decode cX11_minds 34 = .ok (.iload 4, 2) := by decide +kernel
theorem dX11_minds_36 : decode cX11_minds 36 = .ok (.iastore, 1) := by decide +kernel
theorem dX11_minds_37 : decode cX11_minds 37 = .ok (.iload_n 3, 1) := by decide +kernel
theorem dX11_minds_38 : decode cX11_minds 38 = .ok (.aload_n 0, 1) := by decide +kernel
theorem dX11_minds_39 : decode cX11_minds 39 = .ok (.invokevirtual 192, 3) := by decide +kernel
theorem dX11_minds_42 : decode cX11_minds 42 = .ok (.ifCond .eq 10, 3) := by decide +kernel
theorem dX11_minds_45 : decode cX11_minds 45 = .ok (.iconst 1, 1) := by decide +kernel
theorem dX11_minds_46 : decode cX11_minds 46 = .ok (.iload 4, 2) := by decide +kernel
theorem dX11_minds_48 : decode cX11_minds 48 = .ok (.ishl, 1) := by decide +kernel
theorem dX11_minds_49 : decode cX11_minds 49 = .ok (.goto 4, 3) := by decide +kernel
theorem dX11_minds_52 : decode cX11_minds 52 = .ok (.iconst 0, 1) := by decide +kernel
theorem dX11_minds_53 : decode cX11_minds 53 = .ok (.ior, 1) := by decide +kernel
theorem dX11_minds_54 : decode cX11_minds 54 = .ok (.istore_n 3, 1) := by decide +kernel
theorem dX11_minds_55 : decode cX11_minds 55 = .ok (.iinc 4 1, 3) := by decide +kernel
theorem dX11_minds_58 : decode cX11_minds 58 = .ok (.goto (-36), 3) := by decide +kernel
theorem dX11_minds_61 : decode cX11_minds 61 = .ok (.aload_n 0, 1) := by decide +kernel
theorem dX11_minds_62 : decode cX11_minds 62 = .ok (.getfield 28, 3) := by decide +kernel
theorem dX11_minds_65 : decode cX11_minds 65 = .ok (.iload_n 1, 1) := by decide +kernel
theorem dX11_minds_66 : decode cX11_minds 66 = .ok (.iload_n 2, 1) := by decide +kernel
theorem dX11_minds_67 : decode cX11_minds 67 = .ok (.iastore, 1) := by decide +kernel
theorem dX11_minds_68 : decode cX11_minds 68 = .ok (.iload_n 3, 1) := by decide +kernel
theorem dX11_minds_69 : decode cX11_minds 69 = .ok (.ireturn, 1) := by decide +kernel
theorem dX11_kinds_0 : decode cX11_kinds 0 = .ok (.aload_n 0, 1) := by decide +kernel
theorem dX11_kinds_1 : decode cX11_kinds 1 = .ok (.iload_n 1, 1) := by decide +kernel
theorem dX11_kinds_2 : decode cX11_kinds 2 = .ok (.invokevirtual 148, 3) := by decide +kernel
theorem dX11_kinds_5 : decode cX11_kinds 5 = .ok (.ifCond .ne 5, 3) := by decide +kernel
theorem dX11_kinds_8 : decode cX11_kinds 8 = .ok (.iconst (-1), 1) := by decide +kernel
theorem dX11_kinds_9 : decode cX11_kinds 9 = .ok (.ireturn, 1) := by decide +kernel
theorem dX11_kinds_10 : decode cX11_kinds 10 = .ok (.aload_n 0, 1) := by decide +kernel
theorem dX11_kinds_11 : decode cX11_kinds 11 = .ok (.getfield 22, 3) := by decide +kernel
theorem dX11_kinds_14 : decode cX11_kinds 14 = .ok (.iload_n 1, 1) := by decide +kernel
theorem dX11_kinds_15 : decode cX11_kinds 15 = .ok (.iaload, 1) := by decide +kernel
theorem dX11_kinds_16 : decode cX11_kinds 16 = .ok (.istore_n 2, 1) := by decide +kernel
theorem dX11_kinds_17 : decode cX11_kinds 17 = .ok (.iconst 0, 1) := by decide +kernel
theorem dX11_kinds_18 : decode cX11_kinds 18 = .ok (.istore_n 3, 1) := by decide +kernel
theorem dX11_kinds_19 : decode cX11_kinds 19 = .ok (.iconst 0, 1) := by decide +kernel
theorem dX11_kinds_20 : decode cX11_kinds 20 = .ok (.istore 4, 2) := by decide +kernel
theorem dX11_kinds_22 : decode cX11_kinds 22 = .ok (.iload 4, 2) := by decide +kernel
theorem dX11_kinds_24 : decode cX11_kinds 24 = .ok (.iconst 3, 1) := by decide +kernel
theorem dX11_kinds_25 : decode cX11_kinds 25 = .ok (.if_icmp .ge 35, 3) := by decide +kernel
theorem dX11_kinds_28 : decode cX11_kinds 28 = .ok (.aload_n 0, 1) := by decide +kernel
theorem dX11_kinds_29 : decode cX11_kinds 29 = .ok (.getfield 22, 3) := by decide +kernel
theorem dX11_kinds_32 : decode cX11_kinds 32 = .ok (.iload_n 1, 1) := by decide +kernel
theorem dX11_kinds_33 : decode cX11_kinds 33 = .ok (.iload 4, 2) := by decide +kernel
theorem dX11_kinds_35 : decode cX11_kinds 35 = .ok (.iastore, 1) := by decide +kernel
theorem dX11_kinds_36 : decode cX11_kinds 36 = .ok (.iload_n 3, 1) := by decide +kernel
theorem dX11_kinds_37 : decode cX11_kinds 37 = .ok (.aload_n 0, 1) := by decide +kernel
theorem dX11_kinds_38 : decode cX11_kinds 38 = .ok (.invokevirtual 192, 3) := by decide +kernel
theorem dX11_kinds_41 : decode cX11_kinds 41 = .ok (.ifCond .eq 10, 3) := by decide +kernel
theorem dX11_kinds_44 : decode cX11_kinds 44 = .ok (.iconst 1, 1) := by decide +kernel
theorem dX11_kinds_45 : decode cX11_kinds 45 = .ok (.iload 4, 2) := by decide +kernel
theorem dX11_kinds_47 : decode cX11_kinds 47 = .ok (.ishl, 1) := by decide +kernel
theorem dX11_kinds_48 : decode cX11_kinds 48 = .ok (.goto 4, 3) := by decide +kernel
theorem dX11_kinds_51 : decode cX11_kinds 51 = .ok (.iconst 0, 1) := by decide +kernel
theorem dX11_kinds_52 : decode cX11_kinds 52 = .ok (.ior, 1) := by decide +kernel
theorem dX11_kinds_53 : decode cX11_kinds 53 = .ok (.istore_n 3, 1) := by decide +kernel
theorem dX11_kinds_54 : decode cX11_kinds 54 = .ok (.iinc 4 1, 3) := by decide +kernel
theorem dX11_kinds_57 : decode cX11_kinds 57 = .ok (.goto (-35), 3) := by decide +kernel
theorem dX11_kinds_60 : decode cX11_kinds 60 = .ok (.aload_n 0, 1) := by decide +kernel
theorem dX11_kinds_61 : decode cX11_kinds 61 = .ok (.getfield 22, 3) := by decide +kernel
theorem dX11_kinds_64 : decode cX11_kinds 64 = .ok (.iload_n 1, 1) := by decide +kernel
theorem dX11_kinds_65 : decode cX11_kinds 65 = .ok (.iload_n 2, 1) := by decide +kernel
theorem dX11_kinds_66 : decode cX11_kinds 66 = .ok (.iastore, 1) := by decide +kernel
theorem dX11_kinds_67 : decode cX11_kinds 67 = .ok (.iload_n 3, 1) := by decide +kernel
theorem dX11_kinds_68 : decode cX11_kinds 68 = .ok (.ireturn, 1) := by decide +kernel
theorem dX11_glooms_0 : decode cX11_glooms 0 = .ok (.aload_n 0, 1) := by decide +kernel
theorem dX11_glooms_1 : decode cX11_glooms 1 = .ok (.iload_n 1, 1) := by decide +kernel
theorem dX11_glooms_2 : decode cX11_glooms 2 = .ok (.invokevirtual 151, 3) := by decide +kernel
theorem dX11_glooms_5 : decode cX11_glooms 5 = .ok (.ifCond .ne 5, 3) := by decide +kernel
theorem dX11_glooms_8 : decode cX11_glooms 8 = .ok (.iconst (-1), 1) := by decide +kernel
theorem dX11_glooms_9 : decode cX11_glooms 9 = .ok (.ireturn, 1) := by decide +kernel
theorem dX11_glooms_10 : decode cX11_glooms 10 = .ok (.aload_n 0, 1) := by decide +kernel
theorem dX11_glooms_11 : decode cX11_glooms 11 = .ok (.getfield 19, 3) := by decide +kernel
theorem dX11_glooms_14 : decode cX11_glooms 14 = .ok (.iload_n 1, 1) := by decide +kernel
theorem dX11_glooms_15 : decode cX11_glooms 15 = .ok (.iaload, 1) := by decide +kernel
theorem dX11_glooms_16 : decode cX11_glooms 16 = .ok (.istore_n 2, 1) := by decide +kernel
theorem dX11_glooms_17 : decode cX11_glooms 17 = .ok (.iconst 0, 1) := by decide +kernel
theorem dX11_glooms_18 : decode cX11_glooms 18 = .ok (.istore_n 3, 1) := by decide +kernel
theorem dX11_glooms_19 : decode cX11_glooms 19 = .ok (.iconst 0, 1) := by decide +kernel
theorem dX11_glooms_20 : decode cX11_glooms 20 = .ok (.istore 4, 2) := by decide +kernel
theorem dX11_glooms_22 : decode cX11_glooms 22 = .ok (.iload 4, 2) := by decide +kernel
theorem dX11_glooms_24 : decode cX11_glooms 24 = .ok (.bipush 9, 2) := by decide +kernel
theorem dX11_glooms_26 : decode cX11_glooms 26 = .ok (.if_icmp .gt 35, 3) := by decide +kernel
theorem dX11_glooms_29 : decode cX11_glooms 29 = .ok (.aload_n 0, 1) := by decide +kernel
theorem dX11_glooms_30 : decode cX11_glooms 30 = .ok (.getfield 19, 3) := by decide +kernel
theorem dX11_glooms_33 : decode cX11_glooms 33 = .ok (.iload_n 1, 1) := by decide +kernel
theorem dX11_glooms_34 : decode cX11_glooms 34 = .ok (.iload 4, 2) := by decide +kernel
theorem dX11_glooms_36 : decode cX11_glooms 36 = .ok (.iastore, 1) := by decide +kernel
theorem dX11_glooms_37 : decode cX11_glooms 37 = .ok (.iload_n 3, 1) := by decide +kernel
theorem dX11_glooms_38 : decode cX11_glooms 38 = .ok (.aload_n 0, 1) := by decide +kernel
theorem dX11_glooms_39 : decode cX11_glooms 39 = .ok (.invokevirtual 192, 3) := by decide +kernel
theorem dX11_glooms_42 : decode cX11_glooms 42 = .ok (.ifCond .eq 10, 3) := by decide +kernel
theorem dX11_glooms_45 : decode cX11_glooms 45 = .ok (.iconst 1, 1) := by decide +kernel
theorem dX11_glooms_46 : decode cX11_glooms 46 = .ok (.iload 4, 2) := by decide +kernel
theorem dX11_glooms_48 : decode cX11_glooms 48 = .ok (.ishl, 1) := by decide +kernel
theorem dX11_glooms_49 : decode cX11_glooms 49 = .ok (.goto 4, 3) := by decide +kernel
theorem dX11_glooms_52 : decode cX11_glooms 52 = .ok (.iconst 0, 1) := by decide +kernel
theorem dX11_glooms_53 : decode cX11_glooms 53 = .ok (.ior, 1) := by decide +kernel
theorem dX11_glooms_54 : decode cX11_glooms 54 = .ok (.istore_n 3, 1) := by decide +kernel
theorem dX11_glooms_55 : decode cX11_glooms 55 = .ok (.iinc 4 1, 3) := by decide +kernel
theorem dX11_glooms_58 : decode cX11_glooms 58 = .ok (.goto (-36), 3) := by decide +kernel
theorem dX11_glooms_61 : decode cX11_glooms 61 = .ok (.aload_n 0, 1) := by decide +kernel
theorem dX11_glooms_62 : decode cX11_glooms 62 = .ok (.getfield 19, 3) := by decide +kernel
theorem dX11_glooms_65 : decode cX11_glooms 65 = .ok (.iload_n 1, 1) := by decide +kernel
theorem dX11_glooms_66 : decode cX11_glooms 66 = .ok (.iload_n 2, 1) := by decide +kernel
theorem dX11_glooms_67 : decode cX11_glooms 67 = .ok (.iastore, 1) := by decide +kernel
theorem dX11_glooms_68 : decode cX11_glooms 68 = .ok (.iload_n 3, 1) := by decide +kernel
theorem dX11_glooms_69 : decode cX11_glooms 69 = .ok (.ireturn, 1) := by decide +kernel
theorem dX11_inLeastTerms_0 : decode cX11_inLeastTerms 0 = .ok (.lload_n 0, 1) := by decide +kernel
theorem dX11_inLeastTerms_1 : decode cX11_inLeastTerms 1 = .ok (.lstore 5, 2) := by decide +kernel
theorem dX11_inLeastTerms_3 : decode cX11_inLeastTerms 3 = .ok (.lload_n 2, 1) := by decide +kernel
theorem dX11_inLeastTerms_4 : decode cX11_inLeastTerms 4 = .ok (.lstore 7, 2) := by decide +kernel
theorem dX11_inLeastTerms_6 : decode cX11_inLeastTerms 6 = .ok (.lload 7, 2) := by decide +kernel
theorem dX11_inLeastTerms_8 : decode cX11_inLeastTerms 8 = .ok (.lconst 0, 1) := by decide +kernel
theorem dX11_inLeastTerms_9 : decode cX11_inLeastTerms 9 = .ok (.lcmp, 1) := by decide +kernel
theorem dX11_inLeastTerms_10 : decode cX11_inLeastTerms 10 = .ok (.ifCond .eq 21, 3) := by decide +kernel
theorem dX11_inLeastTerms_13 : decode cX11_inLeastTerms 13 = .ok (.lload 5, 2) := by decide +kernel
theorem dX11_inLeastTerms_15 : decode cX11_inLeastTerms 15 = .ok (.lload 7, 2) := by decide +kernel
theorem dX11_inLeastTerms_17 : decode cX11_inLeastTerms 17 = .ok (.lrem, 1) := by decide +kernel
theorem dX11_inLeastTerms_18 : decode cX11_inLeastTerms 18 = .ok (.lstore 9, 2) := by decide +kernel
theorem dX11_inLeastTerms_20 : decode cX11_inLeastTerms 20 = .ok (.lload 7, 2) := by decide +kernel
theorem dX11_inLeastTerms_22 : decode cX11_inLeastTerms 22 = .ok (.lstore 5, 2) := by decide +kernel
theorem dX11_inLeastTerms_24 : decode cX11_inLeastTerms 24 = .ok (.lload 9, 2) := by decide +kernel
theorem dX11_inLeastTerms_26 : decode cX11_inLeastTerms 26 = .ok (.lstore 7, 2) := by decide +kernel
theorem dX11_inLeastTerms_28 : decode cX11_inLeastTerms 28 = .ok (.goto (-22), 3) := by decide +kernel
theorem dX11_inLeastTerms_31 : decode cX11_inLeastTerms 31 = .ok (.iload 4, 2) := by decide +kernel
theorem dX11_inLeastTerms_33 : decode cX11_inLeastTerms 33 = .ok (.ifCond .ne 10, 3) := by decide +kernel
theorem dX11_inLeastTerms_36 : decode cX11_inLeastTerms 36 = .ok (.lload_n 0, 1) := by decide +kernel
theorem dX11_inLeastTerms_37 : decode cX11_inLeastTerms 37 = .ok (.lload 5, 2) := by decide +kernel
theorem dX11_inLeastTerms_39 : decode cX11_inLeastTerms 39 = .ok (.ldiv, 1) := by decide +kernel
theorem dX11_inLeastTerms_40 : decode cX11_inLeastTerms 40 = .ok (.goto 7, 3) := by decide +kernel
theorem dX11_inLeastTerms_43 : decode cX11_inLeastTerms 43 = .ok (.lload_n 2, 1) := by decide +kernel
theorem dX11_inLeastTerms_44 : decode cX11_inLeastTerms 44 = .ok (.lload 5, 2) := by decide +kernel
theorem dX11_inLeastTerms_46 : decode cX11_inLeastTerms 46 = .ok (.ldiv, 1) := by decide +kernel
theorem dX11_inLeastTerms_47 : decode cX11_inLeastTerms 47 = .ok (.lreturn, 1) := by decide +kernel
theorem dX11_odds_0 : decode cX11_odds 0 = .ok (.aload_n 0, 1) := by decide +kernel
theorem dX11_odds_1 : decode cX11_odds 1 = .ok (.iload_n 1, 1) := by decide +kernel
theorem dX11_odds_2 : decode cX11_odds 2 = .ok (.invokevirtual 148, 3) := by decide +kernel
theorem dX11_odds_5 : decode cX11_odds 5 = .ok (.ifCond .eq 22, 3) := by decide +kernel
theorem dX11_odds_8 : decode cX11_odds 8 = .ok (.iload_n 2, 1) := by decide +kernel
theorem dX11_odds_9 : decode cX11_odds 9 = .ok (.iconst 0, 1) := by decide +kernel
theorem dX11_odds_10 : decode cX11_odds 10 = .ok (.bipush 40, 2) := by decide +kernel
theorem dX11_odds_12 : decode cX11_odds 12 = .ok (.invokestatic 82, 3) := by decide +kernel
theorem dX11_odds_15 : decode cX11_odds 15 = .ok (.ifCond .eq 12, 3) := by decide +kernel
theorem dX11_odds_18 : decode cX11_odds 18 = .ok (.iload_n 3, 1) := by decide +kernel
theorem dX11_odds_19 : decode cX11_odds 19 = .ok (.iconst 0, 1) := by decide +kernel
theorem dX11_odds_20 : decode cX11_odds 20 = .ok (.iconst 1, 1) := by decide +kernel
theorem dX11_odds_21 : decode cX11_odds 21 = .ok (.invokestatic 82, 3) := by decide +kernel
theorem dX11_odds_24 : decode cX11_odds 24 = .ok (.ifCond .ne 7, 3) := by decide +kernel
theorem dX11_odds_27 : decode cX11_odds 27 = .ok (.ldc2_w 80, 3) := by decide +kernel
theorem dX11_odds_30 : decode cX11_odds 30 = .ok (.lreturn, 1) := by decide +kernel
theorem dX11_odds_31 : decode cX11_odds 31 = .ok (.iconst 0, 1) := by decide +kernel
theorem dX11_odds_32 : decode cX11_odds 32 = .ok (.istore 4, 2) := by decide +kernel
theorem dX11_odds_34 : decode cX11_odds 34 = .ok (.iconst 1, 1) := by decide +kernel
theorem dX11_odds_35 : decode cX11_odds 35 = .ok (.aload_n 0, 1) := by decide +kernel
theorem dX11_odds_36 : decode cX11_odds 36 = .ok (.getfield 89, 3) := by decide +kernel
theorem dX11_odds_39 : decode cX11_odds 39 = .ok (.ishl, 1) := by decide +kernel
theorem dX11_odds_40 : decode cX11_odds 40 = .ok (.istore 5, 2) := by decide +kernel
theorem dX11_odds_42 : decode cX11_odds 42 = .ok (.aload_n 0, 1) := by decide +kernel
theorem dX11_odds_43 : decode cX11_odds 43 = .ok (.iconst 0, 1) := by decide +kernel
theorem dX11_odds_44 : decode cX11_odds 44 = .ok (.putfield 154, 3) := by decide +kernel
theorem dX11_odds_47 : decode cX11_odds 47 = .ok (.aload_n 0, 1) := by decide +kernel
theorem dX11_odds_48 : decode cX11_odds 48 = .ok (.getfield 154, 3) := by decide +kernel
theorem dX11_odds_51 : decode cX11_odds 51 = .ok (.iload 5, 2) := by decide +kernel
theorem dX11_odds_53 : decode cX11_odds 53 = .ok (.if_icmp .ge 37, 3) := by decide +kernel
theorem dX11_odds_56 : decode cX11_odds 56 = .ok (.iload 4, 2) := by decide +kernel
theorem dX11_odds_58 : decode cX11_odds 58 = .ok (.aload_n 0, 1) := by decide +kernel
theorem dX11_odds_59 : decode cX11_odds 59 = .ok (.iload_n 1, 1) := by decide +kernel
theorem dX11_odds_60 : decode cX11_odds 60 = .ok (.iconst 0, 1) := by decide +kernel
theorem dX11_odds_61 : decode cX11_odds 61 = .ok (.iconst 1, 1) := by decide +kernel
theorem dX11_odds_62 : decode cX11_odds 62 = .ok (.invokevirtual 163, 3) := by decide +kernel
theorem dX11_odds_65 : decode cX11_odds 65 = .ok (.iload_n 2, 1) := by decide +kernel
theorem dX11_odds_66 : decode cX11_odds 66 = .ok (.if_icmp .lt 7, 3) := by decide +kernel
theorem dX11_odds_69 : decode cX11_odds 69 = .ok (.iconst 1, 1) := by decide +kernel
theorem dX11_odds_70 : decode cX11_odds 70 = .ok (.goto 4, 3) := by decide +kernel
theorem dX11_odds_73 : decode cX11_odds 73 = .ok (.iconst 0, 1) := by decide +kernel
theorem dX11_odds_74 : decode cX11_odds 74 = .ok (.iadd, 1) := by decide +kernel
theorem dX11_odds_75 : decode cX11_odds 75 = .ok (.istore 4, 2) := by decide +kernel
theorem dX11_odds_77 : decode cX11_odds 77 = .ok (.aload_n 0, 1) := by decide +kernel
theorem dX11_odds_78 : decode cX11_odds 78 = .ok (.dup, 1) := by decide +kernel
theorem dX11_odds_79 : decode cX11_odds 79 = .ok (.getfield 154, 3) := by decide +kernel
theorem dX11_odds_82 : decode cX11_odds 82 = .ok (.iconst 1, 1) := by decide +kernel
theorem dX11_odds_83 : decode cX11_odds 83 = .ok (.iadd, 1) := by decide +kernel
theorem dX11_odds_84 : decode cX11_odds 84 = .ok (.putfield 154, 3) := by decide +kernel
theorem dX11_odds_87 : decode cX11_odds 87 = .ok (.goto (-40), 3) := by decide +kernel
theorem dX11_odds_90 : decode cX11_odds 90 = .ok (.aload_n 0, 1) := by decide +kernel
theorem dX11_odds_91 : decode cX11_odds 91 = .ok (.iconst 0, 1) := by decide +kernel
theorem dX11_odds_92 : decode cX11_odds 92 = .ok (.putfield 154, 3) := by decide +kernel
theorem dX11_odds_95 : decode cX11_odds 95 = .ok (.iload 4, 2) := by decide +kernel
theorem dX11_odds_97 : decode cX11_odds 97 = .ok (.i2l, 1) := by decide +kernel
theorem dX11_odds_98 : decode cX11_odds 98 = .ok (.iload 5, 2) := by decide +kernel
theorem dX11_odds_100 : decode cX11_odds 100 = .ok (.i2l, 1) := by decide +kernel
theorem dX11_odds_101 : decode cX11_odds 101 = .ok (.iload_n 3, 1) := by decide +kernel
theorem dX11_odds_102 : decode cX11_odds 102 = .ok (.invokestatic 196, 3) := by decide +kernel
theorem dX11_odds_105 : decode cX11_odds 105 = .ok (.lreturn, 1) := by decide +kernel
theorem dX11_sheet_0 : decode cX11_sheet 0 = .ok (.aload_n 0, 1) := by decide +kernel
theorem dX11_sheet_1 : decode cX11_sheet 1 = .ok (.iconst 0, 1) := by decide +kernel
theorem dX11_sheet_2 : decode cX11_sheet 2 = .ok (.putfield 76, 3) := by decide +kernel
theorem dX11_sheet_5 : decode cX11_sheet 5 = .ok (.iload_n 1, 1) := by decide +kernel
theorem dX11_sheet_6 : decode cX11_sheet 6 = .ok (.invokestatic 95, 3) := by decide +kernel
theorem dX11_sheet_9 : decode cX11_sheet 9 = .ok (.ifCond .ne 5, 3) := by decide +kernel
theorem dX11_sheet_12 : decode cX11_sheet 12 = .ok (.iconst (-1), 1) := by decide +kernel
theorem dX11_sheet_13 : decode cX11_sheet 13 = .ok (.ireturn, 1) := by decide +kernel
theorem dX11_sheet_14 : decode cX11_sheet 14 = .ok (.iload_n 2, 1) := by decide +kernel
theorem dX11_sheet_15 : decode cX11_sheet 15 = .ok (.invokestatic 99, 3) := by decide +kernel
theorem dX11_sheet_18 : decode cX11_sheet 18 = .ok (.ifCond .eq 9, 3) := by decide +kernel
theorem dX11_sheet_21 : decode cX11_sheet 21 = .ok (.iload_n 3, 1) := by decide +kernel
theorem dX11_sheet_22 : decode cX11_sheet 22 = .ok (.bipush 60, 2) := by decide +kernel
theorem dX11_sheet_24 : decode cX11_sheet 24 = .ok (.if_icmp .le 6, 3) := by decide +kernel
theorem dX11_sheet_27 : decode cX11_sheet 27 = .ok (.bipush (-2), 2) := by decide +kernel
theorem dX11_sheet_29 : decode cX11_sheet 29 = .ok (.ireturn, 1) := by decide +kernel
theorem dX11_sheet_30 : decode cX11_sheet 30 = .ok (.iload_n 3, 1) := by decide +kernel
theorem dX11_sheet_31 : decode cX11_sheet 31 = .ok (.ifCond .ge 9, 3) := by decide +kernel
theorem dX11_sheet_34 : decode cX11_sheet 34 = .ok (.aload_n 0, 1) := by decide +kernel
theorem dX11_sheet_35 : decode cX11_sheet 35 = .ok (.iconst 4, 1) := by decide +kernel
theorem dX11_sheet_36 : decode cX11_sheet 36 = .ok (.invokevirtual 106, 3) := by decide +kernel
theorem dX11_sheet_39 : decode cX11_sheet 39 = .ok (.ireturn, 1) := by decide +kernel
theorem dX11_sheet_40 : decode cX11_sheet 40 = .ok (.aload_n 0, 1) := by decide +kernel
theorem dX11_sheet_41 : decode cX11_sheet 41 = .ok (.getfield 9, 3) := by decide +kernel
theorem dX11_sheet_44 : decode cX11_sheet 44 = .ok (.iload_n 1, 1) := by decide +kernel
theorem dX11_sheet_45 : decode cX11_sheet 45 = .ok (.iload_n 2, 1) := by decide +kernel
theorem dX11_sheet_46 : decode cX11_sheet 46 = .ok (.iastore, 1) := by decide +kernel
theorem dX11_sheet_47 : decode cX11_sheet 47 = .ok (.aload_n 0, 1) := by decide +kernel
theorem dX11_sheet_48 : decode cX11_sheet 48 = .ok (.getfield 13, 3) := by decide +kernel
theorem dX11_sheet_51 : decode cX11_sheet 51 = .ok (.iload_n 1, 1) := by decide +kernel
theorem dX11_sheet_52 : decode cX11_sheet 52 = .ok (.iload_n 3, 1) := by decide +kernel
theorem dX11_sheet_53 : decode cX11_sheet 53 = .ok (.iastore, 1) := by decide +kernel
theorem dX11_sheet_54 : decode cX11_sheet 54 = .ok (.iconst 0, 1) := by decide +kernel
theorem dX11_sheet_55 : decode cX11_sheet 55 = .ok (.istore 4, 2) := by decide +kernel
theorem dX11_sheet_57 : decode cX11_sheet 57 = .ok (.iload 4, 2) := by decide +kernel
theorem dX11_sheet_59 : decode cX11_sheet 59 = .ok (.bipush 60, 2) := by decide +kernel
theorem dX11_sheet_61 : decode cX11_sheet 61 = .ok (.if_icmp .ge 22, 3) := by decide +kernel
theorem dX11_sheet_64 : decode cX11_sheet 64 = .ok (.aload_n 0, 1) := by decide +kernel
theorem dX11_sheet_65 : decode cX11_sheet 65 = .ok (.getfield 16, 3) := by decide +kernel
theorem dX11_sheet_68 : decode cX11_sheet 68 = .ok (.bipush 60, 2) := by decide +kernel
theorem dX11_sheet_70 : decode cX11_sheet 70 = .ok (.iload_n 1, 1) := by decide +kernel
theorem dX11_sheet_71 : decode cX11_sheet 71 = .ok (.imul, 1) := by decide +kernel
theorem dX11_sheet_72 : decode cX11_sheet 72 = .ok (.iload 4, 2) := by decide +kernel
theorem dX11_sheet_74 : decode cX11_sheet 74 = .ok (.iadd, 1) := by decide +kernel
theorem dX11_sheet_75 : decode cX11_sheet 75 = .ok (.iconst 0, 1) := by decide +kernel
theorem dX11_sheet_76 : decode cX11_sheet 76 = .ok (.iastore, 1) := by decide +kernel
theorem dX11_sheet_77 : decode cX11_sheet 77 = .ok (.iinc 4 1, 3) := by decide +kernel
theorem dX11_sheet_80 : decode cX11_sheet 80 = .ok (.goto (-23), 3) := by decide +kernel
theorem dX11_sheet_83 : decode cX11_sheet 83 = .ok (.iconst 1, 1) := by decide +kernel
theorem dX11_sheet_84 : decode cX11_sheet 84 = .ok (.ireturn, 1) := by decide +kernel
theorem dX11_lose_0 : decode cX11_lose 0 = .ok (.iload_n 1, 1) := by decide +kernel
theorem dX11_lose_1 : decode cX11_lose 1 = .ok (.invokestatic 95, 3) := by decide +kernel
theorem dX11_lose_4 : decode cX11_lose 4 = .ok (.ifCond .ne 5, 3) := by decide +kernel
theorem dX11_lose_7 : decode cX11_lose 7 = .ok (.iconst (-1), 1) := by decide +kernel
theorem dX11_lose_8 : decode cX11_lose 8 = .ok (.ireturn, 1) := by decide +kernel
theorem dX11_lose_9 : decode cX11_lose 9 = .ok (.aload_n 0, 1) := by decide +kernel
theorem dX11_lose_10 : decode cX11_lose 10 = .ok (.getfield 9, 3) := by decide +kernel
theorem dX11_lose_13 : decode cX11_lose 13 = .ok (.iload_n 1, 1) := by decide +kernel
theorem dX11_lose_14 : decode cX11_lose 14 = .ok (.iaload, 1) := by decide +kernel
theorem dX11_lose_15 : decode cX11_lose 15 = .ok (.bipush (-9), 2) := by decide +kernel
theorem dX11_lose_17 : decode cX11_lose 17 = .ok (.if_icmp .ne 7, 3) := by decide +kernel
theorem dX11_lose_20 : decode cX11_lose 20 = .ok (.iconst 0, 1) := by decide +kernel
theorem dX11_lose_21 : decode cX11_lose 21 = .ok (.goto 4, 3) := by decide +kernel
theorem dX11_lose_24 : decode cX11_lose 24 = .ok (.iconst 1, 1) := by decide +kernel
theorem dX11_lose_25 : decode cX11_lose 25 = .ok (.istore_n 2, 1) := by decide +kernel
theorem dX11_lose_26 : decode cX11_lose 26 = .ok (.aload_n 0, 1) := by decide +kernel
theorem dX11_lose_27 : decode cX11_lose 27 = .ok (.getfield 9, 3) := by decide +kernel
theorem dX11_lose_30 : decode cX11_lose 30 = .ok (.iload_n 1, 1) := by decide +kernel
theorem dX11_lose_31 : decode cX11_lose 31 = .ok (.bipush (-9), 2) := by decide +kernel
theorem dX11_lose_33 : decode cX11_lose 33 = .ok (.iastore, 1) := by decide +kernel
theorem dX11_lose_34 : decode cX11_lose 34 = .ok (.iload_n 2, 1) := by decide +kernel
theorem dX11_lose_35 : decode cX11_lose 35 = .ok (.ireturn, 1) := by decide +kernel
theorem dX11_put_0 : decode cX11_put 0 = .ok (.aload_n 0, 1) := by decide +kernel
theorem dX11_put_1 : decode cX11_put 1 = .ok (.iconst 0, 1) := by decide +kernel
theorem dX11_put_2 : decode cX11_put 2 = .ok (.putfield 76, 3) := by decide +kernel
theorem dX11_put_5 : decode cX11_put 5 = .ok (.iload_n 1, 1) := by decide +kernel
theorem dX11_put_6 : decode cX11_put 6 = .ok (.invokestatic 95, 3) := by decide +kernel
theorem dX11_put_9 : decode cX11_put 9 = .ok (.ifCond .ne 5, 3) := by decide +kernel
theorem dX11_put_12 : decode cX11_put 12 = .ok (.iconst (-1), 1) := by decide +kernel
theorem dX11_put_13 : decode cX11_put 13 = .ok (.ireturn, 1) := by decide +kernel
theorem dX11_put_14 : decode cX11_put 14 = .ok (.aload_n 0, 1) := by decide +kernel
theorem dX11_put_15 : decode cX11_put 15 = .ok (.getfield 9, 3) := by decide +kernel
theorem dX11_put_18 : decode cX11_put 18 = .ok (.iload_n 1, 1) := by decide +kernel
theorem dX11_put_19 : decode cX11_put 19 = .ok (.iaload, 1) := by decide +kernel
theorem dX11_put_20 : decode cX11_put 20 = .ok (.bipush (-9), 2) := by decide +kernel
theorem dX11_put_22 : decode cX11_put 22 = .ok (.if_icmp .ne 9, 3) := by decide +kernel
theorem dX11_put_25 : decode cX11_put 25 = .ok (.aload_n 0, 1) := by decide +kernel
theorem dX11_put_26 : decode cX11_put 26 = .ok (.iconst 1, 1) := by decide +kernel
theorem dX11_put_27 : decode cX11_put 27 = .ok (.invokevirtual 106, 3) := by decide +kernel
theorem dX11_put_30 : decode cX11_put 30 = .ok (.ireturn, 1) := by decide +kernel
theorem dX11_put_31 : decode cX11_put 31 = .ok (.iload_n 2, 1) := by decide +kernel
theorem dX11_put_32 : decode cX11_put 32 = .ok (.iconst 0, 1) := by decide +kernel
theorem dX11_put_33 : decode cX11_put 33 = .ok (.aload_n 0, 1) := by decide +kernel
theorem dX11_put_34 : decode cX11_put 34 = .ok (.getfield 13, 3) := by decide +kernel
theorem dX11_put_37 : decode cX11_put 37 = .ok (.iload_n 1, 1) := by decide +kernel
theorem dX11_put_38 : decode cX11_put 38 = .ok (.iaload, 1) := by decide +kernel
theorem dX11_put_39 : decode cX11_put 39 = .ok (.iconst 1, 1) := by decide +kernel
theorem dX11_put_40 : decode cX11_put 40 = .ok (.isub, 1) := by decide +kernel
theorem dX11_put_41 : decode cX11_put 41 = .ok (.invokestatic 82, 3) := by decide +kernel
theorem dX11_put_44 : decode cX11_put 44 = .ok (.ifCond .ne 9, 3) := by decide +kernel
theorem dX11_put_47 : decode cX11_put 47 = .ok (.aload_n 0, 1) := by decide +kernel
theorem dX11_put_48 : decode cX11_put 48 = .ok (.iconst 3, 1) := by decide +kernel
theorem dX11_put_49 : decode cX11_put 49 = .ok (.invokevirtual 106, 3) := by decide +kernel
theorem dX11_put_52 : decode cX11_put 52 = .ok (.ireturn, 1) := by decide +kernel
theorem dX11_put_53 : decode cX11_put 53 = .ok (.aload_n 0, 1) := by decide +kernel
theorem dX11_put_54 : decode cX11_put 54 = .ok (.getfield 16, 3) := by decide +kernel
theorem dX11_put_57 : decode cX11_put 57 = .ok (.bipush 60, 2) := by decide +kernel
theorem dX11_put_59 : decode cX11_put 59 = .ok (.iload_n 1, 1) := by decide +kernel
theorem dX11_put_60 : decode cX11_put 60 = .ok (.imul, 1) := by decide +kernel
theorem dX11_put_61 : decode cX11_put 61 = .ok (.iload_n 2, 1) := by decide +kernel
theorem dX11_put_62 : decode cX11_put 62 = .ok (.iadd, 1) := by decide +kernel
theorem dX11_put_63 : decode cX11_put 63 = .ok (.aload_n 0, 1) := by decide +kernel
theorem dX11_put_64 : decode cX11_put 64 = .ok (.getfield 9, 3) := by decide +kernel
theorem dX11_put_67 : decode cX11_put 67 = .ok (.iload_n 1, 1) := by decide +kernel
theorem dX11_put_68 : decode cX11_put 68 = .ok (.iaload, 1) := by decide +kernel
theorem dX11_put_69 : decode cX11_put 69 = .ok (.ifCond .ne 8, 3) := by decide +kernel
theorem dX11_put_72 : decode cX11_put 72 = .ok (.iload_n 3, 1) := by decide +kernel
theorem dX11_put_73 : decode cX11_put 73 = .ok (.i2b, 1) := by decide +kernel
theorem dX11_put_74 : decode cX11_put 74 = .ok (.goto 19, 3) := by decide +kernel
theorem dX11_put_77 : decode cX11_put 77 = .ok (.aload_n 0, 1) := by decide +kernel
theorem dX11_put_78 : decode cX11_put 78 = .ok (.getfield 9, 3) := by decide +kernel
theorem dX11_put_81 : decode cX11_put 81 = .ok (.iload_n 1, 1) := by decide +kernel
theorem dX11_put_82 : decode cX11_put 82 = .ok (.iaload, 1) := by decide +kernel
theorem dX11_put_83 : decode cX11_put 83 = .ok (.iconst 1, 1) := by decide +kernel
theorem dX11_put_84 : decode cX11_put 84 = .ok (.if_icmp .ne 8, 3) := by decide +kernel
theorem dX11_put_87 : decode cX11_put 87 = .ok (.iload_n 3, 1) := by decide +kernel
theorem dX11_put_88 : decode cX11_put 88 = .ok (.i2s, 1) := by decide +kernel
theorem dX11_put_89 : decode cX11_put 89 = .ok (.goto 4, 3) := by decide +kernel
theorem dX11_put_92 : decode cX11_put 92 = .ok (.iload_n 3, 1) := by decide +kernel
theorem dX11_put_93 : decode cX11_put 93 = .ok (.iastore, 1) := by decide +kernel
theorem dX11_put_94 : decode cX11_put 94 = .ok (.iconst 1, 1) := by decide +kernel
theorem dX11_put_95 : decode cX11_put 95 = .ok (.ireturn, 1) := by decide +kernel
theorem dX11_cell_0 : decode cX11_cell 0 = .ok (.aload_n 0, 1) := by decide +kernel
theorem dX11_cell_1 : decode cX11_cell 1 = .ok (.iconst 0, 1) := by decide +kernel
theorem dX11_cell_2 : decode cX11_cell 2 = .ok (.putfield 76, 3) := by decide +kernel
theorem dX11_cell_5 : decode cX11_cell 5 = .ok (.iload_n 1, 1) := by decide +kernel
theorem dX11_cell_6 : decode cX11_cell 6 = .ok (.invokestatic 95, 3) := by decide +kernel
theorem dX11_cell_9 : decode cX11_cell 9 = .ok (.ifCond .eq 10, 3) := by decide +kernel
theorem dX11_cell_12 : decode cX11_cell 12 = .ok (.iload_n 3, 1) := by decide +kernel
theorem dX11_cell_13 : decode cX11_cell 13 = .ok (.invokestatic 99, 3) := by decide +kernel
theorem dX11_cell_16 : decode cX11_cell 16 = .ok (.ifCond .ne 7, 3) := by decide +kernel
theorem dX11_cell_19 : decode cX11_cell 19 = .ok (.ldc2_w 80, 3) := by decide +kernel
theorem dX11_cell_22 : decode cX11_cell 22 = .ok (.lreturn, 1) := by decide +kernel
theorem dX11_cell_23 : decode cX11_cell 23 = .ok (.aload_n 0, 1) := by decide +kernel
theorem dX11_cell_24 : decode cX11_cell 24 = .ok (.getfield 9, 3) := by decide +kernel
theorem dX11_cell_27 : decode cX11_cell 27 = .ok (.iload_n 1, 1) := by decide +kernel
theorem dX11_cell_28 : decode cX11_cell 28 = .ok (.iaload, 1) := by decide +kernel
theorem dX11_cell_29 : decode cX11_cell 29 = .ok (.bipush (-9), 2) := by decide +kernel
theorem dX11_cell_31 : decode cX11_cell 31 = .ok (.if_icmp .eq 19, 3) := by decide +kernel
theorem dX11_cell_34 : decode cX11_cell 34 = .ok (.aload_n 0, 1) := by decide +kernel
theorem dX11_cell_35 : decode cX11_cell 35 = .ok (.getfield 9, 3) := by decide +kernel
theorem dX11_cell_38 : decode cX11_cell 38 = .ok (.iload_n 1, 1) := by decide +kernel
theorem dX11_cell_39 : decode cX11_cell 39 = .ok (.iaload, 1) := by decide +kernel
theorem dX11_cell_40 : decode cX11_cell 40 = .ok (.iload_n 3, 1) := by decide +kernel
theorem dX11_cell_41 : decode cX11_cell 41 = .ok (.if_icmp .eq 9, 3) := by decide +kernel
theorem dX11_cell_44 : decode cX11_cell 44 = .ok (.aload_n 0, 1) := by decide +kernel
theorem dX11_cell_45 : decode cX11_cell 45 = .ok (.iconst 2, 1) := by decide +kernel
theorem dX11_cell_46 : decode cX11_cell 46 = .ok (.invokevirtual 200, 3) := by decide +kernel
theorem dX11_cell_49 : decode cX11_cell 49 = .ok (.lreturn, 1) := by decide +kernel
theorem dX11_cell_50 : decode cX11_cell 50 = .ok (.aload_n 0, 1) := by decide +kernel
theorem dX11_cell_51 : decode cX11_cell 51 = .ok (.getfield 9, 3) := by decide +kernel
theorem dX11_cell_54 : decode cX11_cell 54 = .ok (.iload_n 1, 1) := by decide +kernel
theorem dX11_cell_55 : decode cX11_cell 55 = .ok (.iaload, 1) := by decide +kernel
theorem dX11_cell_56 : decode cX11_cell 56 = .ok (.bipush (-9), 2) := by decide +kernel
theorem dX11_cell_58 : decode cX11_cell 58 = .ok (.if_icmp .ne 9, 3) := by decide +kernel
theorem dX11_cell_61 : decode cX11_cell 61 = .ok (.aload_n 0, 1) := by decide +kernel
theorem dX11_cell_62 : decode cX11_cell 62 = .ok (.iconst 1, 1) := by decide +kernel
theorem dX11_cell_63 : decode cX11_cell 63 = .ok (.invokevirtual 200, 3) := by decide +kernel
theorem dX11_cell_66 : decode cX11_cell 66 = .ok (.lreturn, 1) := by decide +kernel
theorem dX11_cell_67 : decode cX11_cell 67 = .ok (.iload_n 2, 1) := by decide +kernel
theorem dX11_cell_68 : decode cX11_cell 68 = .ok (.iconst 0, 1) := by decide +kernel
theorem dX11_cell_69 : decode cX11_cell 69 = .ok (.aload_n 0, 1) := by decide +kernel
theorem dX11_cell_70 : decode cX11_cell 70 = .ok (.getfield 13, 3) := by decide +kernel
theorem dX11_cell_73 : decode cX11_cell 73 = .ok (.iload_n 1, 1) := by decide +kernel
theorem dX11_cell_74 : decode cX11_cell 74 = .ok (.iaload, 1) := by decide +kernel
theorem dX11_cell_75 : decode cX11_cell 75 = .ok (.iconst 1, 1) := by decide +kernel
theorem dX11_cell_76 : decode cX11_cell 76 = .ok (.isub, 1) := by decide +kernel
theorem dX11_cell_77 : decode cX11_cell 77 = .ok (.invokestatic 82, 3) := by decide +kernel
theorem dX11_cell_80 : decode cX11_cell 80 = .ok (.ifCond .ne 9, 3) := by decide +kernel
theorem dX11_cell_83 : decode cX11_cell 83 = .ok (.aload_n 0, 1) := by decide +kernel
theorem dX11_cell_84 : decode cX11_cell 84 = .ok (.iconst 3, 1) := by decide +kernel
theorem dX11_cell_85 : decode cX11_cell 85 = .ok (.invokevirtual 200, 3) := by decide +kernel
theorem dX11_cell_88 : decode cX11_cell 88 = .ok (.lreturn, 1) := by decide +kernel
theorem dX11_cell_89 : decode cX11_cell 89 = .ok (.aload_n 0, 1) := by decide +kernel
theorem dX11_cell_90 : decode cX11_cell 90 = .ok (.getfield 16, 3) := by decide +kernel
theorem dX11_cell_93 : decode cX11_cell 93 = .ok (.bipush 60, 2) := by decide +kernel
theorem dX11_cell_95 : decode cX11_cell 95 = .ok (.iload_n 1, 1) := by decide +kernel
theorem dX11_cell_96 : decode cX11_cell 96 = .ok (.imul, 1) := by decide +kernel
theorem dX11_cell_97 : decode cX11_cell 97 = .ok (.iload_n 2, 1) := by decide +kernel
theorem dX11_cell_98 : decode cX11_cell 98 = .ok (.iadd, 1) := by decide +kernel
theorem dX11_cell_99 : decode cX11_cell 99 = .ok (.iaload, 1) := by decide +kernel
theorem dX11_cell_100 : decode cX11_cell 100 = .ok (.i2l, 1) := by decide +kernel
theorem dX11_cell_101 : decode cX11_cell 101 = .ok (.lreturn, 1) := by decide +kernel
theorem dX11_copy_0 : decode cX11_copy 0 = .ok (.aload_n 0, 1) := by decide +kernel
theorem dX11_copy_1 : decode cX11_copy 1 = .ok (.iconst 0, 1) := by decide +kernel
theorem dX11_copy_2 : decode cX11_copy 2 = .ok (.putfield 76, 3) := by decide +kernel
theorem dX11_copy_5 : decode cX11_copy 5 = .ok (.iload_n 1, 1) := by decide +kernel
theorem dX11_copy_6 : decode cX11_copy 6 = .ok (.invokestatic 95, 3) := by decide +kernel
theorem dX11_copy_9 : decode cX11_copy 9 = .ok (.ifCond .eq 10, 3) := by decide +kernel
theorem dX11_copy_12 : decode cX11_copy 12 = .ok (.iload_n 3, 1) := by decide +kernel
theorem dX11_copy_13 : decode cX11_copy 13 = .ok (.invokestatic 95, 3) := by decide +kernel
theorem dX11_copy_16 : decode cX11_copy 16 = .ok (.ifCond .ne 5, 3) := by decide +kernel
theorem dX11_copy_19 : decode cX11_copy 19 = .ok (.iconst (-1), 1) := by decide +kernel
theorem dX11_copy_20 : decode cX11_copy 20 = .ok (.ireturn, 1) := by decide +kernel
theorem dX11_copy_21 : decode cX11_copy 21 = .ok (.aload_n 0, 1) := by decide +kernel
theorem dX11_copy_22 : decode cX11_copy 22 = .ok (.getfield 9, 3) := by decide +kernel
theorem dX11_copy_25 : decode cX11_copy 25 = .ok (.iload_n 1, 1) := by decide +kernel
theorem dX11_copy_26 : decode cX11_copy 26 = .ok (.iaload, 1) := by decide +kernel
theorem dX11_copy_27 : decode cX11_copy 27 = .ok (.bipush (-9), 2) := by decide +kernel
theorem dX11_copy_29 : decode cX11_copy 29 = .ok (.if_icmp .eq 14, 3) := by decide +kernel
theorem dX11_copy_32 : decode cX11_copy 32 = .ok (.aload_n 0, 1) := by decide +kernel
theorem dX11_copy_33 : decode cX11_copy 33 = .ok (.getfield 9, 3) := by decide +kernel
theorem dX11_copy_36 : decode cX11_copy 36 = .ok (.iload_n 3, 1) := by decide +kernel
theorem dX11_copy_37 : decode cX11_copy 37 = .ok (.iaload, 1) := by decide +kernel
theorem dX11_copy_38 : decode cX11_copy 38 = .ok (.bipush (-9), 2) := by decide +kernel
theorem dX11_copy_40 : decode cX11_copy 40 = .ok (.if_icmp .ne 9, 3) := by decide +kernel
theorem dX11_copy_43 : decode cX11_copy 43 = .ok (.aload_n 0, 1) := by decide +kernel
theorem dX11_copy_44 : decode cX11_copy 44 = .ok (.iconst 1, 1) := by decide +kernel
theorem dX11_copy_45 : decode cX11_copy 45 = .ok (.invokevirtual 106, 3) := by decide +kernel
theorem dX11_copy_48 : decode cX11_copy 48 = .ok (.ireturn, 1) := by decide +kernel
theorem dX11_copy_49 : decode cX11_copy 49 = .ok (.aload_n 0, 1) := by decide +kernel
theorem dX11_copy_50 : decode cX11_copy 50 = .ok (.getfield 9, 3) := by decide +kernel
theorem dX11_copy_53 : decode cX11_copy 53 = .ok (.iload_n 1, 1) := by decide +kernel
theorem dX11_copy_54 : decode cX11_copy 54 = .ok (.iaload, 1) := by decide +kernel
theorem dX11_copy_55 : decode cX11_copy 55 = .ok (.aload_n 0, 1) := by decide +kernel
theorem dX11_copy_56 : decode cX11_copy 56 = .ok (.getfield 9, 3) := by decide +kernel
theorem dX11_copy_59 : decode cX11_copy 59 = .ok (.iload_n 3, 1) := by decide +kernel
theorem dX11_copy_60 : decode cX11_copy 60 = .ok (.iaload, 1) := by decide +kernel
theorem dX11_copy_61 : decode cX11_copy 61 = .ok (.if_icmp .eq 9, 3) := by decide +kernel
theorem dX11_copy_64 : decode cX11_copy 64 = .ok (.aload_n 0, 1) := by decide +kernel
theorem dX11_copy_65 : decode cX11_copy 65 = .ok (.iconst 2, 1) := by decide +kernel
theorem dX11_copy_66 : decode cX11_copy 66 = .ok (.invokevirtual 106, 3) := by decide +kernel
theorem dX11_copy_69 : decode cX11_copy 69 = .ok (.ireturn, 1) := by decide +kernel
theorem dX11_copy_70 : decode cX11_copy 70 = .ok (.iload_n 2, 1) := by decide +kernel
theorem dX11_copy_71 : decode cX11_copy 71 = .ok (.ifCond .lt 38, 3) := by decide +kernel
theorem dX11_copy_74 : decode cX11_copy 74 = .ok (.iload 4, 2) := by decide +kernel
theorem dX11_copy_76 : decode cX11_copy 76 = .ok (.ifCond .lt 33, 3) := by decide +kernel
theorem dX11_copy_79 : decode cX11_copy 79 = .ok (.iload 5, 2) := by decide +kernel
theorem dX11_copy_81 : decode cX11_copy 81 = .ok (.ifCond .lt 28, 3) := by decide +kernel
theorem dX11_copy_84 : decode cX11_copy 84 = .ok (.iload_n 2, 1) := by decide +kernel
theorem dX11_copy_85 : decode cX11_copy 85 = .ok (.aload_n 0, 1) := by decide +kernel
theorem dX11_copy_86 : decode cX11_copy 86 = .ok (.getfield 13, 3) := by decide +kernel
theorem dX11_copy_89 : decode cX11_copy 89 = .ok (.iload_n 1, 1) := by decide +kernel
theorem dX11_copy_90 : decode cX11_copy 90 = .ok (.iaload, 1) := by decide +kernel
theorem dX11_copy_91 : decode cX11_copy 91 = .ok (.if_icmp .gt 18, 3) := by decide +kernel
theorem dX11_copy_94 : decode cX11_copy 94 = .ok (.iload 4, 2) := by decide +kernel
theorem dX11_copy_96 : decode cX11_copy 96 = .ok (.aload_n 0, 1) := by decide +kernel
theorem dX11_copy_97 : decode cX11_copy 97 = .ok (.getfield 13, 3) := by decide +kernel
theorem dX11_copy_100 : decode cX11_copy 100 = .ok (.iload_n 3, 1) := by decide +kernel
theorem dX11_copy_101 : decode cX11_copy 101 = .ok (.iaload, 1) := by decide +kernel
theorem dX11_copy_102 : decode cX11_copy 102 = .ok (.if_icmp .gt 7, 3) := by decide +kernel
theorem dX11_copy_105 : decode cX11_copy 105 = .ok (.iconst 1, 1) := by decide +kernel
theorem dX11_copy_106 : decode cX11_copy 106 = .ok (.goto 4, 3) := by decide +kernel
theorem dX11_copy_109 : decode cX11_copy 109 = .ok (.iconst 0, 1) := by decide +kernel
theorem dX11_copy_110 : decode cX11_copy 110 = .ok (.istore 6, 2) := by decide +kernel
theorem dX11_copy_112 : decode cX11_copy 112 = .ok (.iload 6, 2) := by decide +kernel
theorem dX11_copy_114 : decode cX11_copy 114 = .ok (.ifCond .eq 30, 3) := by decide +kernel
theorem dX11_copy_117 : decode cX11_copy 117 = .ok (.iload 5, 2) := by decide +kernel
theorem dX11_copy_119 : decode cX11_copy 119 = .ok (.aload_n 0, 1) := by decide +kernel
theorem dX11_copy_120 : decode cX11_copy 120 = .ok (.getfield 13, 3) := by decide +kernel
theorem dX11_copy_123 : decode cX11_copy 123 = .ok (.iload_n 1, 1) := by decide +kernel
theorem dX11_copy_124 : decode cX11_copy 124 = .ok (.iaload, 1) := by decide +kernel
theorem dX11_copy_125 : decode cX11_copy 125 = .ok (.iload_n 2, 1) := by decide +kernel
theorem dX11_copy_126 : decode cX11_copy 126 = .ok (.isub, 1) := by decide +kernel
theorem dX11_copy_127 : decode cX11_copy 127 = .ok (.if_icmp .gt 17, 3) := by decide +kernel
theorem dX11_copy_130 : decode cX11_copy 130 = .ok (.iload 5, 2) := by decide +kernel
theorem dX11_copy_132 : decode cX11_copy 132 = .ok (.aload_n 0, 1) := by decide +kernel
theorem dX11_copy_133 : decode cX11_copy 133 = .ok (.getfield 13, 3) := by decide +kernel
theorem dX11_copy_136 : decode cX11_copy 136 = .ok (.iload_n 3, 1) := by decide +kernel
theorem dX11_copy_137 : decode cX11_copy 137 = .ok (.iaload, 1) := by decide +kernel
theorem dX11_copy_138 : decode cX11_copy 138 = .ok (.iload 4, 2) := by decide +kernel
theorem dX11_copy_140 : decode cX11_copy 140 = .ok (.isub, 1) := by decide +kernel
theorem dX11_copy_141 : decode cX11_copy 141 = .ok (.if_icmp .le 9, 3) := by decide +kernel
theorem dX11_copy_144 : decode cX11_copy 144 = .ok (.aload_n 0, 1) := by decide +kernel
theorem dX11_copy_145 : decode cX11_copy 145 = .ok (.iconst 3, 1) := by decide +kernel
theorem dX11_copy_146 : decode cX11_copy 146 = .ok (.invokevirtual 106, 3) := by decide +kernel
theorem dX11_copy_149 : decode cX11_copy 149 = .ok (.ireturn, 1) := by decide +kernel
theorem dX11_copy_150 : decode cX11_copy 150 = .ok (.iload_n 2, 1) := by decide +kernel
theorem dX11_copy_151 : decode cX11_copy 151 = .ok (.iload 4, 2) := by decide +kernel
theorem dX11_copy_153 : decode cX11_copy 153 = .ok (.if_icmp .ge 7, 3) := by decide +kernel
theorem dX11_copy_156 : decode cX11_copy 156 = .ok (.iconst 1, 1) := by decide +kernel
theorem dX11_copy_157 : decode cX11_copy 157 = .ok (.goto 4, 3) := by decide +kernel
theorem dX11_copy_160 : decode cX11_copy 160 = .ok (.iconst 0, 1) := by decide +kernel
theorem dX11_copy_161 : decode cX11_copy 161 = .ok (.istore 7, 2) := by decide +kernel
theorem dX11_copy_163 : decode cX11_copy 163 = .ok (.iconst 0, 1) := by decide +kernel
theorem dX11_copy_164 : decode cX11_copy 164 = .ok (.istore 8, 2) := by decide +kernel
theorem dX11_copy_166 : decode cX11_copy 166 = .ok (.iload 8, 2) := by decide +kernel
theorem dX11_copy_168 : decode cX11_copy 168 = .ok (.iload 5, 2) := by decide +kernel
theorem dX11_copy_170 : decode cX11_copy 170 = .ok (.if_icmp .ge 57, 3) := by decide +kernel
theorem dX11_copy_173 : decode cX11_copy 173 = .ok (.iload 7, 2) := by decide +kernel
theorem dX11_copy_175 : decode cX11_copy 175 = .ok (.ifCond .eq 13, 3) := by decide +kernel
theorem dX11_copy_178 : decode cX11_copy 178 = .ok (.iload 5, 2) := by decide +kernel
theorem dX11_copy_180 : decode cX11_copy 180 = .ok (.iconst 1, 1) := by decide +kernel
theorem dX11_copy_181 : decode cX11_copy 181 = .ok (.isub, 1) := by decide +kernel
theorem dX11_copy_182 : decode cX11_copy 182 = .ok (.iload 8, 2) := by decide +kernel
theorem dX11_copy_184 : decode cX11_copy 184 = .ok (.isub, 1) := by decide +kernel
theorem dX11_copy_185 : decode cX11_copy 185 = .ok (.goto 5, 3) := by decide +kernel
theorem dX11_copy_188 : decode cX11_copy 188 = .ok (.iload 8, 2) := by decide +kernel
theorem dX11_copy_190 : decode cX11_copy 190 = .ok (.istore 9, 2) := by decide +kernel
theorem dX11_copy_192 : decode cX11_copy 192 = .ok (.aload_n 0, 1) := by decide +kernel
theorem dX11_copy_193 : decode cX11_copy 193 = .ok (.getfield 16, 3) := by decide +kernel
theorem dX11_copy_196 : decode cX11_copy 196 = .ok (.bipush 60, 2) := by decide +kernel
theorem dX11_copy_198 : decode cX11_copy 198 = .ok (.iload_n 3, 1) := by decide +kernel
theorem dX11_copy_199 : decode cX11_copy 199 = .ok (.imul, 1) := by decide +kernel
theorem dX11_copy_200 : decode cX11_copy 200 = .ok (.iload 4, 2) := by decide +kernel
theorem dX11_copy_202 : decode cX11_copy 202 = .ok (.iadd, 1) := by decide +kernel
theorem dX11_copy_203 : decode cX11_copy 203 = .ok (.iload 9, 2) := by decide +kernel
theorem dX11_copy_205 : decode cX11_copy 205 = .ok (.iadd, 1) := by decide +kernel
theorem dX11_copy_206 : decode cX11_copy 206 = .ok (.aload_n 0, 1) := by decide +kernel
theorem dX11_copy_207 : decode cX11_copy 207 = .ok (.getfield 16, 3) := by decide +kernel
theorem dX11_copy_210 : decode cX11_copy 210 = .ok (.bipush 60, 2) := by decide +kernel
theorem dX11_copy_212 : decode cX11_copy 212 = .ok (.iload_n 1, 1) := by decide +kernel
theorem dX11_copy_213 : decode cX11_copy 213 = .ok (.imul, 1) := by decide +kernel
theorem dX11_copy_214 : decode cX11_copy 214 = .ok (.iload_n 2, 1) := by decide +kernel
theorem dX11_copy_215 : decode cX11_copy 215 = .ok (.iadd, 1) := by decide +kernel
theorem dX11_copy_216 : decode cX11_copy 216 = .ok (.iload 9, 2) := by decide +kernel
theorem dX11_copy_218 : decode cX11_copy 218 = .ok (.iadd, 1) := by decide +kernel
theorem dX11_copy_219 : decode cX11_copy 219 = .ok (.iaload, 1) := by decide +kernel
theorem dX11_copy_220 : decode cX11_copy 220 = .ok (.iastore, 1) := by decide +kernel
theorem dX11_copy_221 : decode cX11_copy 221 = .ok (.iinc 8 1, 3) := by decide +kernel
theorem dX11_copy_224 : decode cX11_copy 224 = .ok (.goto (-58), 3) := by decide +kernel
theorem dX11_copy_227 : decode cX11_copy 227 = .ok (.iload 5, 2) := by decide +kernel
theorem dX11_copy_229 : decode cX11_copy 229 = .ok (.ireturn, 1) := by decide +kernel
theorem dX11_begins_0 : decode cX11_begins 0 = .ok (.aload_n 0, 1) := by decide +kernel
theorem dX11_begins_1 : decode cX11_begins 1 = .ok (.bipush 31, 2) := by decide +kernel
theorem dX11_begins_3 : decode cX11_begins 3 = .ok (.aload_n 0, 1) := by decide +kernel
theorem dX11_begins_4 : decode cX11_begins 4 = .ok (.getfield 204, 3) := by decide +kernel
theorem dX11_begins_7 : decode cX11_begins 7 = .ok (.imul, 1) := by decide +kernel
theorem dX11_begins_8 : decode cX11_begins 8 = .ok (.iload_n 1, 1) := by decide +kernel
theorem dX11_begins_9 : decode cX11_begins 9 = .ok (.iadd, 1) := by decide +kernel
theorem dX11_begins_10 : decode cX11_begins 10 = .ok (.putfield 204, 3) := by decide +kernel
theorem dX11_begins_13 : decode cX11_begins 13 = .ok (.return_, 1) := by decide +kernel
theorem dX11_tell_0 : decode cX11_tell 0 = .ok (.aload_n 0, 1) := by decide +kernel
theorem dX11_tell_1 : decode cX11_tell 1 = .ok (.iload_n 1, 1) := by decide +kernel
theorem dX11_tell_2 : decode cX11_tell 2 = .ok (.invokevirtual 148, 3) := by decide +kernel
theorem dX11_tell_5 : decode cX11_tell 5 = .ok (.ifCond .ne 5, 3) := by decide +kernel
theorem dX11_tell_8 : decode cX11_tell 8 = .ok (.iconst (-1), 1) := by decide +kernel
theorem dX11_tell_9 : decode cX11_tell 9 = .ok (.ireturn, 1) := by decide +kernel
theorem dX11_tell_10 : decode cX11_tell 10 = .ok (.aload_n 0, 1) := by decide +kernel
theorem dX11_tell_11 : decode cX11_tell 11 = .ok (.getfield 25, 3) := by decide +kernel
theorem dX11_tell_14 : decode cX11_tell 14 = .ok (.iload_n 1, 1) := by decide +kernel
theorem dX11_tell_15 : decode cX11_tell 15 = .ok (.iaload, 1) := by decide +kernel
theorem dX11_tell_16 : decode cX11_tell 16 = .ok (.istore_n 2, 1) := by decide +kernel
theorem dX11_tell_17 : decode cX11_tell 17 = .ok (.aload_n 0, 1) := by decide +kernel
theorem dX11_tell_18 : decode cX11_tell 18 = .ok (.getfield 22, 3) := by decide +kernel
theorem dX11_tell_21 : decode cX11_tell 21 = .ok (.iload_n 1, 1) := by decide +kernel
theorem dX11_tell_22 : decode cX11_tell 22 = .ok (.iaload, 1) := by decide +kernel
theorem dX11_tell_23 : decode cX11_tell 23 = .ok (.lookupswitch 67 #[(1, 25), (2, 40)], 25) := by decide +kernel
theorem dX11_tell_48 : decode cX11_tell 48 = .ok (.aload_n 0, 1) := by decide +kernel
theorem dX11_tell_49 : decode cX11_tell 49 = .ok (.iconst 2, 1) := by decide +kernel
theorem dX11_tell_50 : decode cX11_tell 50 = .ok (.invokevirtual 207, 3) := by decide +kernel
theorem dX11_tell_53 : decode cX11_tell 53 = .ok (.aload_n 0, 1) := by decide +kernel
theorem dX11_tell_54 : decode cX11_tell 54 = .ok (.iconst 1, 1) := by decide +kernel
theorem dX11_tell_55 : decode cX11_tell 55 = .ok (.invokevirtual 207, 3) := by decide +kernel
theorem dX11_tell_58 : decode cX11_tell 58 = .ok (.iload_n 2, 1) := by decide +kernel
theorem dX11_tell_59 : decode cX11_tell 59 = .ok (.bipush 100, 2) := by decide +kernel
theorem dX11_tell_61 : decode cX11_tell 61 = .ok (.iadd, 1) := by decide +kernel
theorem dX11_tell_62 : decode cX11_tell 62 = .ok (.ireturn, 1) := by decide +kernel
theorem dX11_tell_63 : decode cX11_tell 63 = .ok (.aload_n 0, 1) := by decide +kernel
theorem dX11_tell_64 : decode cX11_tell 64 = .ok (.iconst 3, 1) := by decide +kernel
theorem dX11_tell_65 : decode cX11_tell 65 = .ok (.invokevirtual 207, 3) := by decide +kernel
theorem dX11_tell_68 : decode cX11_tell 68 = .ok (.aload_n 0, 1) := by decide +kernel
theorem dX11_tell_69 : decode cX11_tell 69 = .ok (.iconst 2, 1) := by decide +kernel
theorem dX11_tell_70 : decode cX11_tell 70 = .ok (.invokevirtual 207, 3) := by decide +kernel
theorem dX11_tell_73 : decode cX11_tell 73 = .ok (.aload_n 0, 1) := by decide +kernel
theorem dX11_tell_74 : decode cX11_tell 74 = .ok (.iconst 1, 1) := by decide +kernel
theorem dX11_tell_75 : decode cX11_tell 75 = .ok (.invokevirtual 207, 3) := by decide +kernel
theorem dX11_tell_78 : decode cX11_tell 78 = .ok (.aload_n 0, 1) := by decide +kernel
theorem dX11_tell_79 : decode cX11_tell 79 = .ok (.iconst 1, 1) := by decide +kernel
theorem dX11_tell_80 : decode cX11_tell 80 = .ok (.invokevirtual 207, 3) := by decide +kernel
theorem dX11_tell_83 : decode cX11_tell 83 = .ok (.iconst 2, 1) := by decide +kernel
theorem dX11_tell_84 : decode cX11_tell 84 = .ok (.iload_n 2, 1) := by decide +kernel
theorem dX11_tell_85 : decode cX11_tell 85 = .ok (.imul, 1) := by decide +kernel
theorem dX11_tell_86 : decode cX11_tell 86 = .ok (.bipush 100, 2) := by decide +kernel
theorem dX11_tell_88 : decode cX11_tell 88 = .ok (.iadd, 1) := by decide +kernel
theorem dX11_tell_89 : decode cX11_tell 89 = .ok (.ireturn, 1) := by decide +kernel
theorem dX11_tell_90 : decode cX11_tell 90 = .ok (.aload_n 0, 1) := by decide +kernel
theorem dX11_tell_91 : decode cX11_tell 91 = .ok (.iconst 1, 1) := by decide +kernel
theorem dX11_tell_92 : decode cX11_tell 92 = .ok (.invokevirtual 207, 3) := by decide +kernel
theorem dX11_tell_95 : decode cX11_tell 95 = .ok (.iload_n 2, 1) := by decide +kernel
theorem dX11_tell_96 : decode cX11_tell 96 = .ok (.ireturn, 1) := by decide +kernel
theorem dX11_ring_0 : decode cX11_ring 0 = .ok (.aload_n 0, 1) := by decide +kernel
theorem dX11_ring_1 : decode cX11_ring 1 = .ok (.iload_n 1, 1) := by decide +kernel
theorem dX11_ring_2 : decode cX11_ring 2 = .ok (.invokevirtual 148, 3) := by decide +kernel
theorem dX11_ring_5 : decode cX11_ring 5 = .ok (.ifCond .ne 5, 3) := by decide +kernel
theorem dX11_ring_8 : decode cX11_ring 8 = .ok (.iconst (-1), 1) := by decide +kernel
theorem dX11_ring_9 : decode cX11_ring 9 = .ok (.ireturn, 1) := by decide +kernel
theorem dX11_ring_10 : decode cX11_ring 10 = .ok (.aload_n 0, 1) := by decide +kernel
theorem dX11_ring_11 : decode cX11_ring 11 = .ok (.aload_n 0, 1) := by decide +kernel
theorem dX11_ring_12 : decode cX11_ring 12 = .ok (.getfield 22, 3) := by decide +kernel
theorem dX11_ring_15 : decode cX11_ring 15 = .ok (.iload_n 1, 1) := by decide +kernel
theorem dX11_ring_16 : decode cX11_ring 16 = .ok (.iaload, 1) := by decide +kernel
theorem dX11_ring_17 : decode cX11_ring 17 = .ok (.iconst 2, 1) := by decide +kernel
theorem dX11_ring_18 : decode cX11_ring 18 = .ok (.if_icmp .ne 7, 3) := by decide +kernel
theorem dX11_ring_21 : decode cX11_ring 21 = .ok (.iconst 5, 1) := by decide +kernel
theorem dX11_ring_22 : decode cX11_ring 22 = .ok (.goto 4, 3) := by decide +kernel
theorem dX11_ring_25 : decode cX11_ring 25 = .ok (.iconst 4, 1) := by decide +kernel
theorem dX11_ring_26 : decode cX11_ring 26 = .ok (.invokevirtual 207, 3) := by decide +kernel
theorem dX11_ring_29 : decode cX11_ring 29 = .ok (.aload_n 0, 1) := by decide +kernel
theorem dX11_ring_30 : decode cX11_ring 30 = .ok (.getfield 22, 3) := by decide +kernel
theorem dX11_ring_33 : decode cX11_ring 33 = .ok (.iload_n 1, 1) := by decide +kernel
theorem dX11_ring_34 : decode cX11_ring 34 = .ok (.iaload, 1) := by decide +kernel
theorem dX11_ring_35 : decode cX11_ring 35 = .ok (.iconst 2, 1) := by decide +kernel
theorem dX11_ring_36 : decode cX11_ring 36 = .ok (.if_icmp .ne 8, 3) := by decide +kernel
theorem dX11_ring_39 : decode cX11_ring 39 = .ok (.bipush 40, 2) := by decide +kernel
theorem dX11_ring_41 : decode cX11_ring 41 = .ok (.goto 4, 3) := by decide +kernel
theorem dX11_ring_44 : decode cX11_ring 44 = .ok (.iload_n 1, 1) := by decide +kernel
theorem dX11_ring_45 : decode cX11_ring 45 = .ok (.ireturn, 1) := by decide +kernel
theorem dX11_as_0 : decode cX11_as 0 = .ok (.aload_n 0, 1) := by decide +kernel
theorem dX11_as_1 : decode cX11_as 1 = .ok (.iconst 0, 1) := by decide +kernel
theorem dX11_as_2 : decode cX11_as 2 = .ok (.putfield 76, 3) := by decide +kernel
theorem dX11_as_5 : decode cX11_as 5 = .ok (.aload_n 0, 1) := by decide +kernel
theorem dX11_as_6 : decode cX11_as 6 = .ok (.iload_n 1, 1) := by decide +kernel
theorem dX11_as_7 : decode cX11_as 7 = .ok (.invokevirtual 148, 3) := by decide +kernel
theorem dX11_as_10 : decode cX11_as 10 = .ok (.ifCond .ne 5, 3) := by decide +kernel
theorem dX11_as_13 : decode cX11_as 13 = .ok (.iconst (-1), 1) := by decide +kernel
theorem dX11_as_14 : decode cX11_as 14 = .ok (.ireturn, 1) := by decide +kernel
theorem dX11_as_15 : decode cX11_as 15 = .ok (.iload_n 2, 1) := by decide +kernel
theorem dX11_as_16 : decode cX11_as 16 = .ok (.iconst 0, 1) := by decide +kernel
theorem dX11_as_17 : decode cX11_as 17 = .ok (.iconst 2, 1) := by decide +kernel
theorem dX11_as_18 : decode cX11_as 18 = .ok (.invokestatic 82, 3) := by decide +kernel
theorem dX11_as_21 : decode cX11_as 21 = .ok (.ifCond .ne 6, 3) := by decide +kernel
theorem dX11_as_24 : decode cX11_as 24 = .ok (.bipush (-2), 2) := by decide +kernel
theorem dX11_as_26 : decode cX11_as 26 = .ok (.ireturn, 1) := by decide +kernel
theorem dX11_as_27 : decode cX11_as 27 = .ok (.aload_n 0, 1) := by decide +kernel
theorem dX11_as_28 : decode cX11_as 28 = .ok (.getfield 22, 3) := by decide +kernel
theorem dX11_as_31 : decode cX11_as 31 = .ok (.iload_n 1, 1) := by decide +kernel
theorem dX11_as_32 : decode cX11_as 32 = .ok (.iaload, 1) := by decide +kernel
theorem dX11_as_33 : decode cX11_as 33 = .ok (.iload_n 2, 1) := by decide +kernel
theorem dX11_as_34 : decode cX11_as 34 = .ok (.if_icmp .lt 7, 3) := by decide +kernel
theorem dX11_as_37 : decode cX11_as 37 = .ok (.iconst 1, 1) := by decide +kernel
theorem dX11_as_38 : decode cX11_as 38 = .ok (.goto 8, 3) := by decide +kernel
theorem dX11_as_41 : decode cX11_as 41 = .ok (.aload_n 0, 1) := by decide +kernel
theorem dX11_as_42 : decode cX11_as 42 = .ok (.iconst 2, 1) := by decide +kernel
theorem dX11_as_43 : decode cX11_as 43 = .ok (.invokevirtual 106, 3) := by decide +kernel
theorem dX11_as_46 : decode cX11_as 46 = .ok (.ireturn, 1) := by decide +kernel
theorem dX11_trace_0 : decode cX11_trace 0 = .ok (.aload_n 0, 1) := by decide +kernel
theorem dX11_trace_1 : decode cX11_trace 1 = .ok (.getfield 204, 3) := by decide +kernel
theorem dX11_trace_4 : decode cX11_trace 4 = .ok (.ireturn, 1) := by decide +kernel
theorem dX11_fault_0 : decode cX11_fault 0 = .ok (.aload_n 0, 1) := by decide +kernel
theorem dX11_fault_1 : decode cX11_fault 1 = .ok (.getfield 76, 3) := by decide +kernel
theorem dX11_fault_4 : decode cX11_fault 4 = .ok (.ireturn, 1) := by decide +kernel
theorem dX11_many_0 : decode cX11_many 0 = .ok (.iload_n 1, 1) := by decide +kernel
theorem dX11_many_1 : decode cX11_many 1 = .ok (.ifCond .ne 10, 3) := by decide +kernel
theorem dX11_many_4 : decode cX11_many 4 = .ok (.aload_n 0, 1) := by decide +kernel
theorem dX11_many_5 : decode cX11_many 5 = .ok (.getfield 86, 3) := by decide +kernel
theorem dX11_many_8 : decode cX11_many 8 = .ok (.goto 41, 3) := by decide +kernel
theorem dX11_many_11 : decode cX11_many 11 = .ok (.iload_n 1, 1) := by decide +kernel
theorem dX11_many_12 : decode cX11_many 12 = .ok (.iconst 1, 1) := by decide +kernel
theorem dX11_many_13 : decode cX11_many 13 = .ok (.if_icmp .ne 10, 3) := by decide +kernel
theorem dX11_many_16 : decode cX11_many 16 = .ok (.aload_n 0, 1) := by decide +kernel
theorem dX11_many_17 : decode cX11_many 17 = .ok (.getfield 125, 3) := by decide +kernel
theorem dX11_many_20 : decode cX11_many 20 = .ok (.goto 29, 3) := by decide +kernel
theorem dX11_many_23 : decode cX11_many 23 = .ok (.iload_n 1, 1) := by decide +kernel
theorem dX11_many_24 : decode cX11_many 24 = .ok (.iconst 2, 1) := by decide +kernel
theorem dX11_many_25 : decode cX11_many 25 = .ok (.if_icmp .ne 10, 3) := by decide +kernel
theorem dX11_many_28 : decode cX11_many 28 = .ok (.aload_n 0, 1) := by decide +kernel
theorem dX11_many_29 : decode cX11_many 29 = .ok (.getfield 89, 3) := by decide +kernel
theorem dX11_many_32 : decode cX11_many 32 = .ok (.goto 17, 3) := by decide +kernel
theorem dX11_many_35 : decode cX11_many 35 = .ok (.iload_n 1, 1) := by decide +kernel
theorem dX11_many_36 : decode cX11_many 36 = .ok (.iconst 3, 1) := by decide +kernel
theorem dX11_many_37 : decode cX11_many 37 = .ok (.if_icmp .ne 10, 3) := by decide +kernel
theorem dX11_many_40 : decode cX11_many 40 = .ok (.aload_n 0, 1) := by decide +kernel
theorem dX11_many_41 : decode cX11_many 41 = .ok (.getfield 128, 3) := by decide +kernel
theorem dX11_many_44 : decode cX11_many 44 = .ok (.goto 5, 3) := by decide +kernel
theorem dX11_many_47 : decode cX11_many 47 = .ok (.bipush (-2), 2) := by decide +kernel
theorem dX11_many_49 : decode cX11_many 49 = .ok (.ireturn, 1) := by decide +kernel
end
section
theorem dX0_init_0 : decode cX0_init 0 = .ok (.aload_n 0, 1) := by decide +kernel
theorem dX0_init_1 : decode cX0_init 1 = .ok (.invokespecial 3, 3) := by decide +kernel
theorem dX0_init_4 : decode cX0_init 4 = .ok (.aload_n 0, 1) := by decide +kernel
theorem dX0_init_5 : decode cX0_init 5 = .ok (.bipush 20, 2) := by decide +kernel
theorem dX0_init_7 : decode cX0_init 7 = .ok (.newarray .int, 2) := by decide +kernel
theorem dX0_init_9 : decode cX0_init 9 = .ok (.putfield 9, 3) := by decide +kernel
theorem dX0_init_12 : decode cX0_init 12 = .ok (.aload_n 0, 1) := by decide +kernel
theorem dX0_init_13 : decode cX0_init 13 = .ok (.bipush 20, 2) := by decide +kernel
theorem dX0_init_15 : decode cX0_init 15 = .ok (.newarray .int, 2) := by decide +kernel
theorem dX0_init_17 : decode cX0_init 17 = .ok (.putfield 15, 3) := by decide +kernel
theorem dX0_init_20 : decode cX0_init 20 = .ok (.aload_n 0, 1) := by decide +kernel
theorem dX0_init_21 : decode cX0_init 21 = .ok (.bipush 20, 2) := by decide +kernel
theorem dX0_init_23 : decode cX0_init 23 = .ok (.newarray .int, 2) := by decide +kernel
theorem dX0_init_25 : decode cX0_init 25 = .ok (.putfield 18, 3) := by decide +kernel
theorem dX0_init_28 : decode cX0_init 28 = .ok (.aload_n 0, 1) := by decide +kernel
theorem dX0_init_29 : decode cX0_init 29 = .ok (.iconst 0, 1) := by decide +kernel
theorem dX0_init_30 : decode cX0_init 30 = .ok (.putfield 21, 3) := by decide +kernel
theorem dX0_init_33 : decode cX0_init 33 = .ok (.return_, 1) := by decide +kernel
theorem dX0_tells_0 : decode cX0_tells 0 = .ok (.iload_n 0, 1) := by decide +kernel
theorem dX0_tells_1 : decode cX0_tells 1 = .ok (.ifCond .lt 8, 3) := by decide +kernel
theorem dX0_tells_4 : decode cX0_tells 4 = .ok (.iload_n 0, 1) := by decide +kernel
theorem dX0_tells_5 : decode cX0_tells 5 = .ok (.iconst 3, 1) := by decide +kernel
theorem dX0_tells_6 : decode cX0_tells 6 = .ok (.if_icmp .le 15, 3) := by decide +kernel
theorem dX0_tells_9 : decode cX0_tells 9 = .ok (.iload_n 0, 1) := by decide +kernel
theorem dX0_tells_10 : decode cX0_tells 10 = .ok (.bipush 10, 2) := by decide +kernel
theorem dX0_tells_12 : decode cX0_tells 12 = .ok (.if_icmp .lt 13, 3) := by decide +kernel
theorem dX0_tells_15 : decode cX0_tells 15 = .ok (.iload_n 0, 1) := by decide +kernel
theorem dX0_tells_16 : decode cX0_tells 16 = .ok (.bipush 14, 2) := by decide +kernel
theorem dX0_tells_18 : decode cX0_tells 18 = .ok (.if_icmp .gt 7, 3) := by decide +kernel
theorem dX0_tells_21 : decode cX0_tells 21 = .ok (.iconst 1, 1) := by decide +kernel
theorem dX0_tells_22 : decode cX0_tells 22 = .ok (.goto 4, 3) := by decide +kernel
theorem dX0_tells_25 : decode cX0_tells 25 = .ok (.iconst 0, 1) := by decide +kernel
theorem dX0_tells_26 : decode cX0_tells 26 = .ok (.ireturn, 1) := by decide +kernel
theorem dX0_readPairs_0 : decode cX0_readPairs 0 = .ok (.aload_n 0, 1) := by decide +kernel
theorem dX0_readPairs_1 : decode cX0_readPairs 1 = .ok (.iconst 0, 1) := by decide +kernel
theorem dX0_readPairs_2 : decode cX0_readPairs 2 = .ok (.putfield 21, 3) := by decide +kernel
theorem dX0_readPairs_5 : decode cX0_readPairs 5 = .ok (.iconst 0, 1) := by decide +kernel
theorem dX0_readPairs_6 : decode cX0_readPairs 6 = .ok (.istore 5, 2) := by decide +kernel
theorem dX0_readPairs_8 : decode cX0_readPairs 8 = .ok (.iload 5, 2) := by decide +kernel
theorem dX0_readPairs_10 : decode cX0_readPairs 10 = .ok (.iload 4, 2) := by decide +kernel
theorem dX0_readPairs_12 : decode cX0_readPairs 12 = .ok (.if_icmp .ge 107, 3) := by decide +kernel
theorem dX0_readPairs_15 : decode cX0_readPairs 15 = .ok (.aload_n 2, 1) := by decide +kernel
theorem dX0_readPairs_16 : decode cX0_readPairs 16 = .ok (.getfield 25, 3) := by decide +kernel
theorem dX0_readPairs_19 : decode cX0_readPairs 19 = .ok (.iload_n 3, 1) := by decide +kernel
theorem dX0_readPairs_20 : decode cX0_readPairs 20 = .ok (.iconst 2, 1) := by decide +kernel
theorem dX0_readPairs_21 : decode cX0_readPairs 21 = .ok (.iload 5, 2) := by decide +kernel
theorem dX0_readPairs_23 : decode cX0_readPairs 23 = .ok (.imul, 1) := by decide +kernel
theorem dX0_readPairs_24 : decode cX0_readPairs 24 = .ok (.iadd, 1) := by decide +kernel
theorem dX0_readPairs_25 : decode cX0_readPairs 25 = .ok (.iaload, 1) := by decide +kernel
theorem dX0_readPairs_26 : decode cX0_readPairs 26 = .ok (.istore 6, 2) := by decide +kernel
theorem dX0_readPairs_28 : decode cX0_readPairs 28 = .ok (.aload_n 2, 1) := by decide +kernel
theorem dX0_readPairs_29 : decode cX0_readPairs 29 = .ok (.getfield 25, 3) := by decide +kernel
theorem dX0_readPairs_32 : decode cX0_readPairs 32 = .ok (.iload_n 3, 1) := by decide +kernel
theorem dX0_readPairs_33 : decode cX0_readPairs 33 = .ok (.iconst 2, 1) := by decide +kernel
theorem dX0_readPairs_34 : decode cX0_readPairs 34 = .ok (.iload 5, 2) := by decide +kernel
theorem dX0_readPairs_36 : decode cX0_readPairs 36 = .ok (.imul, 1) := by decide +kernel
theorem dX0_readPairs_37 : decode cX0_readPairs 37 = .ok (.iadd, 1) := by decide +kernel
theorem dX0_readPairs_38 : decode cX0_readPairs 38 = .ok (.iconst 1, 1) := by decide +kernel
theorem dX0_readPairs_39 : decode cX0_readPairs 39 = .ok (.iadd, 1) := by decide +kernel
theorem dX0_readPairs_40 : decode cX0_readPairs 40 = .ok (.iaload, 1) := by decide +kernel
theorem dX0_readPairs_41 : decode cX0_readPairs 41 = .ok (.istore 7, 2) := by decide +kernel
theorem dX0_readPairs_43 : decode cX0_readPairs 43 = .ok (.aload_n 1, 1) := by decide +kernel
theorem dX0_readPairs_44 : decode cX0_readPairs 44 = .ok (.iload 6, 2) := by decide +kernel
theorem dX0_readPairs_46 : decode cX0_readPairs 46 = .ok (.invokevirtual 30, 3) := by decide +kernel
theorem dX0_readPairs_49 : decode cX0_readPairs 49 = .ok (.astore 8, 2) := by decide +kernel
theorem dX0_readPairs_51 : decode cX0_readPairs 51 = .ok (.aload 8, 2) := by decide +kernel
theorem dX0_readPairs_53 : decode cX0_readPairs 53 = .ok (.ifnonnull 5, 3) := by decide +kernel
theorem dX0_readPairs_56 : decode cX0_readPairs 56 = .ok (.iconst (-1), 1) := by decide +kernel
theorem dX0_readPairs_57 : decode cX0_readPairs 57 = .ok (.ireturn, 1) := by decide +kernel
theorem dX0_readPairs_58 : decode cX0_readPairs 58 = .ok (.iload 7, 2) := by decide +kernel
theorem dX0_readPairs_60 : decode cX0_readPairs 60 = .ok (.invokestatic 36, 3) := by decide +kernel
theorem dX0_readPairs_63 : decode cX0_readPairs 63 = .ok (.ifCond .ne 6, 3) := by decide +kernel
theorem dX0_readPairs_66 : decode cX0_readPairs 66 = .ok (.bipush (-2), 2) := by decide +kernel
theorem dX0_readPairs_68 : decode cX0_readPairs 68 = .ok (.ireturn, 1) := by decide +kernel
theorem dX0_readPairs_69 : decode cX0_readPairs 69 = .ok (.aload_n 0, 1) := by decide +kernel
theorem dX0_readPairs_70 : decode cX0_readPairs 70 = .ok (.getfield 9, 3) := by decide +kernel
theorem dX0_readPairs_73 : decode cX0_readPairs 73 = .ok (.iload 5, 2) := by decide +kernel
theorem dX0_readPairs_75 : decode cX0_readPairs 75 = .ok (.iload 6, 2) := by decide +kernel
theorem dX0_readPairs_77 : decode cX0_readPairs 77 = .ok (.iastore, 1) := by decide +kernel
theorem dX0_readPairs_78 : decode cX0_readPairs 78 = .ok (.aload_n 0, 1) := by decide +kernel
theorem dX0_readPairs_79 : decode cX0_readPairs 79 = .ok (.getfield 15, 3) := by decide +kernel
theorem dX0_readPairs_82 : decode cX0_readPairs 82 = .ok (.iload 5, 2) := by decide +kernel
theorem dX0_readPairs_84 : decode cX0_readPairs 84 = .ok (.iload 7, 2) := by decide +kernel
theorem dX0_readPairs_86 : decode cX0_readPairs 86 = .ok (.iastore, 1) := by decide +kernel
theorem dX0_readPairs_87 : decode cX0_readPairs 87 = .ok (.aload_n 0, 1) := by decide +kernel
theorem dX0_readPairs_88 : decode cX0_readPairs 88 = .ok (.getfield 18, 3) := by decide +kernel
theorem dX0_readPairs_91 : decode cX0_readPairs 91 = .ok (.iload 5, 2) := by decide +kernel
theorem dX0_readPairs_93 : decode cX0_readPairs 93 = .ok (.iload 7, 2) := by decide +kernel
theorem dX0_readPairs_95 : decode cX0_readPairs 95 = .ok (.aload_n 1, 1) := by decide +kernel
theorem dX0_readPairs_96 : decode cX0_readPairs 96 = .ok (.aload 8, 2) := by decide +kernel
theorem dX0_readPairs_98 : decode cX0_readPairs 98 = .ok (.iload 7, 2) := by decide +kernel
theorem dX0_readPairs_100 : decode cX0_readPairs 100 = .ok (.invokevirtual 40, 3) := by decide +kernel
theorem dX0_readPairs_103 : decode cX0_readPairs 103 = .ok (.iadd, 1) := by decide +kernel
theorem dX0_readPairs_104 : decode cX0_readPairs 104 = .ok (.iastore, 1) := by decide +kernel
theorem dX0_readPairs_105 : decode cX0_readPairs 105 = .ok (.aload_n 0, 1) := by decide +kernel
theorem dX0_readPairs_106 : decode cX0_readPairs 106 = .ok (.iload 5, 2) := by decide +kernel
theorem dX0_readPairs_108 : decode cX0_readPairs 108 = .ok (.iconst 1, 1) := by decide +kernel
theorem dX0_readPairs_109 : decode cX0_readPairs 109 = .ok (.iadd, 1) := by decide +kernel
theorem dX0_readPairs_110 : decode cX0_readPairs 110 = .ok (.putfield 21, 3) := by decide +kernel
theorem dX0_readPairs_113 : decode cX0_readPairs 113 = .ok (.iinc 5 1, 3) := by decide +kernel
theorem dX0_readPairs_116 : decode cX0_readPairs 116 = .ok (.goto (-108), 3) := by decide +kernel
theorem dX0_readPairs_119 : decode cX0_readPairs 119 = .ok (.iconst 0, 1) := by decide +kernel
theorem dX0_readPairs_120 : decode cX0_readPairs 120 = .ok (.ireturn, 1) := by decide +kernel
theorem dX0_answer_0 : decode cX0_answer 0 = .ok (.aload_n 0, 1) := by decide +kernel
theorem dX0_answer_1 : decode cX0_answer 1 = .ok (.invokevirtual 44, 3) := by decide +kernel
theorem dX0_answer_4 : decode cX0_answer 4 = .ok (.istore_n 3, 1) := by decide +kernel
theorem dX0_answer_5 : decode cX0_answer 5 = .ok (.iload_n 2, 1) := by decide +kernel
theorem dX0_answer_6 : decode cX0_answer 6 = .ok (.iconst 1, 1) := by decide +kernel
theorem dX0_answer_7 : decode cX0_answer 7 = .ok (.if_icmp .ne 5, 3) := by decide +kernel
theorem dX0_answer_10 : decode cX0_answer 10 = .ok (.iload_n 3, 1) := by decide +kernel
theorem dX0_answer_11 : decode cX0_answer 11 = .ok (.ireturn, 1) := by decide +kernel
theorem dX0_answer_12 : decode cX0_answer 12 = .ok (.iload_n 3, 1) := by decide +kernel
theorem dX0_answer_13 : decode cX0_answer 13 = .ok (.bipush (-9), 2) := by decide +kernel
theorem dX0_answer_15 : decode cX0_answer 15 = .ok (.if_icmp .eq 8, 3) := by decide +kernel
theorem dX0_answer_18 : decode cX0_answer 18 = .ok (.bipush (-100), 2) := by decide +kernel
theorem dX0_answer_20 : decode cX0_answer 20 = .ok (.iload_n 3, 1) := by decide +kernel
theorem dX0_answer_21 : decode cX0_answer 21 = .ok (.isub, 1) := by decide +kernel
theorem dX0_answer_22 : decode cX0_answer 22 = .ok (.ireturn, 1) := by decide +kernel
theorem dX0_answer_23 : decode cX0_answer 23 = .ok (.iload_n 2, 1) := by decide +kernel
theorem dX0_answer_24 : decode cX0_answer 24 = .ok (.tableswitch 47 0 3 #[32, 47, 37, 42], 32) := by decide +kernel
theorem dX0_answer_56 : decode cX0_answer 56 = .ok (.aload_n 0, 1) := by decide +kernel
theorem dX0_answer_57 : decode cX0_answer 57 = .ok (.invokevirtual 48, 3) := by decide +kernel
theorem dX0_answer_60 : decode cX0_answer 60 = .ok (.ireturn, 1) := by decide +kernel
theorem dX0_answer_61 : decode cX0_answer 61 = .ok (.aload_n 0, 1) := by decide +kernel
theorem dX0_answer_62 : decode cX0_answer 62 = .ok (.invokevirtual 51, 3) := by decide +kernel
theorem dX0_answer_65 : decode cX0_answer 65 = .ok (.ireturn, 1) := by decide +kernel
theorem dX0_answer_66 : decode cX0_answer 66 = .ok (.aload_n 0, 1) := by decide +kernel
theorem dX0_answer_67 : decode cX0_answer 67 = .ok (.invokevirtual 54, 3) := by decide +kernel
theorem dX0_answer_70 : decode cX0_answer 70 = .ok (.ireturn, 1) := by decide +kernel
theorem dX0_answer_71 : decode cX0_answer 71 = .ok (.aload_n 1, 1) := by decide +kernel
theorem dX0_answer_72 : decode cX0_answer 72 = .ok (.iload_n 2, 1) := by decide +kernel
theorem dX0_answer_73 : decode cX0_answer 73 = .ok (.bipush 10, 2) := by decide +kernel
theorem dX0_answer_75 : decode cX0_answer 75 = .ok (.isub, 1) := by decide +kernel
theorem dX0_answer_76 : decode cX0_answer 76 = .ok (.invokevirtual 30, 3) := by decide +kernel
theorem dX0_answer_79 : decode cX0_answer 79 = .ok (.ifnonnull 8, 3) := by decide +kernel
theorem dX0_answer_82 : decode cX0_answer 82 = .ok (.bipush (-9), 2) := by decide +kernel
theorem dX0_answer_84 : decode cX0_answer 84 = .ok (.goto 11, 3) := by decide +kernel
theorem dX0_answer_87 : decode cX0_answer 87 = .ok (.aload_n 0, 1) := by decide +kernel
theorem dX0_answer_88 : decode cX0_answer 88 = .ok (.iload_n 2, 1) := by decide +kernel
theorem dX0_answer_89 : decode cX0_answer 89 = .ok (.bipush 10, 2) := by decide +kernel
theorem dX0_answer_91 : decode cX0_answer 91 = .ok (.isub, 1) := by decide +kernel
theorem dX0_answer_92 : decode cX0_answer 92 = .ok (.invokevirtual 57, 3) := by decide +kernel
theorem dX0_answer_95 : decode cX0_answer 95 = .ok (.ireturn, 1) := by decide +kernel
theorem dX0_firstWrong_0 : decode cX0_firstWrong 0 = .ok (.iconst 1, 1) := by decide +kernel
theorem dX0_firstWrong_1 : decode cX0_firstWrong 1 = .ok (.istore_n 1, 1) := by decide +kernel
theorem dX0_firstWrong_2 : decode cX0_firstWrong 2 = .ok (.iload_n 1, 1) := by decide +kernel
theorem dX0_firstWrong_3 : decode cX0_firstWrong 3 = .ok (.aload_n 0, 1) := by decide +kernel
theorem dX0_firstWrong_4 : decode cX0_firstWrong 4 = .ok (.getfield 21, 3) := by decide +kernel
theorem dX0_firstWrong_7 : decode cX0_firstWrong 7 = .ok (.if_icmp .ge 36, 3) := by decide +kernel
theorem dX0_firstWrong_10 : decode cX0_firstWrong 10 = .ok (.aload_n 0, 1) := by decide +kernel
theorem dX0_firstWrong_11 : decode cX0_firstWrong 11 = .ok (.getfield 15, 3) := by decide +kernel
theorem dX0_firstWrong_14 : decode cX0_firstWrong 14 = .ok (.iload_n 1, 1) := by decide +kernel
theorem dX0_firstWrong_15 : decode cX0_firstWrong 15 = .ok (.iaload, 1) := by decide +kernel
theorem dX0_firstWrong_16 : decode cX0_firstWrong 16 = .ok (.aload_n 0, 1) := by decide +kernel
theorem dX0_firstWrong_17 : decode cX0_firstWrong 17 = .ok (.getfield 15, 3) := by decide +kernel
theorem dX0_firstWrong_20 : decode cX0_firstWrong 20 = .ok (.iload_n 1, 1) := by decide +kernel
theorem dX0_firstWrong_21 : decode cX0_firstWrong 21 = .ok (.iconst 1, 1) := by decide +kernel
theorem dX0_firstWrong_22 : decode cX0_firstWrong 22 = .ok (.isub, 1) := by decide +kernel
theorem dX0_firstWrong_23 : decode cX0_firstWrong 23 = .ok (.iaload, 1) := by decide +kernel
theorem dX0_firstWrong_24 : decode cX0_firstWrong 24 = .ok (.if_icmp .lt 11, 3) := by decide +kernel
theorem dX0_firstWrong_27 : decode cX0_firstWrong 27 = .ok (.aload_n 0, 1) := by decide +kernel
theorem dX0_firstWrong_28 : decode cX0_firstWrong 28 = .ok (.iload_n 1, 1) := by decide +kernel
theorem dX0_firstWrong_29 : decode cX0_firstWrong 29 = .ok (.invokevirtual 61, 3) := by decide +kernel
theorem dX0_firstWrong_32 : decode cX0_firstWrong 32 = .ok (.ifCond .eq 5, 3) := by decide +kernel
theorem dX0_firstWrong_35 : decode cX0_firstWrong 35 = .ok (.iload_n 1, 1) := by decide +kernel
theorem dX0_firstWrong_36 : decode cX0_firstWrong 36 = .ok (.ireturn, 1) := by decide +kernel
theorem dX0_firstWrong_37 : decode cX0_firstWrong 37 = .ok (.iinc 1 1, 3) := by decide +kernel
theorem dX0_firstWrong_40 : decode cX0_firstWrong 40 = .ok (.goto (-38), 3) := by decide +kernel
theorem dX0_firstWrong_43 : decode cX0_firstWrong 43 = .ok (.bipush (-9), 2) := by decide +kernel
theorem dX0_firstWrong_45 : decode cX0_firstWrong 45 = .ok (.ireturn, 1) := by decide +kernel
theorem dX0_isStillIn_0 : decode cX0_isStillIn 0 = .ok (.iconst 0, 1) := by decide +kernel
theorem dX0_isStillIn_1 : decode cX0_isStillIn 1 = .ok (.istore_n 2, 1) := by decide +kernel
theorem dX0_isStillIn_2 : decode cX0_isStillIn 2 = .ok (.iload_n 2, 1) := by decide +kernel
theorem dX0_isStillIn_3 : decode cX0_isStillIn 3 = .ok (.iload_n 1, 1) := by decide +kernel
theorem dX0_isStillIn_4 : decode cX0_isStillIn 4 = .ok (.if_icmp .ge 41, 3) := by decide +kernel
theorem dX0_isStillIn_7 : decode cX0_isStillIn 7 = .ok (.aload_n 0, 1) := by decide +kernel
theorem dX0_isStillIn_8 : decode cX0_isStillIn 8 = .ok (.getfield 9, 3) := by decide +kernel
theorem dX0_isStillIn_11 : decode cX0_isStillIn 11 = .ok (.iload_n 2, 1) := by decide +kernel
theorem dX0_isStillIn_12 : decode cX0_isStillIn 12 = .ok (.iaload, 1) := by decide +kernel
theorem dX0_isStillIn_13 : decode cX0_isStillIn 13 = .ok (.aload_n 0, 1) := by decide +kernel
theorem dX0_isStillIn_14 : decode cX0_isStillIn 14 = .ok (.getfield 9, 3) := by decide +kernel
theorem dX0_isStillIn_17 : decode cX0_isStillIn 17 = .ok (.iload_n 1, 1) := by decide +kernel
theorem dX0_isStillIn_18 : decode cX0_isStillIn 18 = .ok (.iaload, 1) := by decide +kernel
theorem dX0_isStillIn_19 : decode cX0_isStillIn 19 = .ok (.if_icmp .ne 20, 3) := by decide +kernel
theorem dX0_isStillIn_22 : decode cX0_isStillIn 22 = .ok (.aload_n 0, 1) := by decide +kernel
theorem dX0_isStillIn_23 : decode cX0_isStillIn 23 = .ok (.getfield 18, 3) := by decide +kernel
theorem dX0_isStillIn_26 : decode cX0_isStillIn 26 = .ok (.iload_n 2, 1) := by decide +kernel
theorem dX0_isStillIn_27 : decode cX0_isStillIn 27 = .ok (.iaload, 1) := by decide +kernel
theorem dX0_isStillIn_28 : decode cX0_isStillIn 28 = .ok (.aload_n 0, 1) := by decide +kernel
theorem dX0_isStillIn_29 : decode cX0_isStillIn 29 = .ok (.getfield 15, 3) := by decide +kernel
theorem dX0_isStillIn_32 : decode cX0_isStillIn 32 = .ok (.iload_n 1, 1) := by decide +kernel
theorem dX0_isStillIn_33 : decode cX0_isStillIn 33 = .ok (.iaload, 1) := by decide +kernel
theorem dX0_isStillIn_34 : decode cX0_isStillIn 34 = .ok (.if_icmp .le 5, 3) := by decide +kernel
theorem dX0_isStillIn_37 : decode cX0_isStillIn 37 = .ok (.iconst 1, 1) := by decide +kernel
theorem dX0_isStillIn_38 : decode cX0_isStillIn 38 = .ok (.ireturn, 1) := by decide +kernel
theorem dX0_isStillIn_39 : decode cX0_isStillIn 39 = .ok (.iinc 2 1, 3) := by decide +kernel
theorem dX0_isStillIn_42 : decode cX0_isStillIn 42 = .ok (.goto (-40), 3) := by decide +kernel
theorem dX0_isStillIn_45 : decode cX0_isStillIn 45 = .ok (.iconst 0, 1) := by decide +kernel
theorem dX0_isStillIn_46 : decode cX0_isStillIn 46 = .ok (.ireturn, 1) := by decide +kernel
theorem dX0_minutesOfAll_0 : decode cX0_minutesOfAll 0 = .ok (.iconst 0, 1) := by decide +kernel
theorem dX0_minutesOfAll_1 : decode cX0_minutesOfAll 1 = .ok (.istore_n 1, 1) := by decide +kernel
theorem dX0_minutesOfAll_2 : decode cX0_minutesOfAll 2 = .ok (.iconst 0, 1) := by decide +kernel
theorem dX0_minutesOfAll_3 : decode cX0_minutesOfAll 3 = .ok (.istore_n 2, 1) := by decide +kernel
theorem dX0_minutesOfAll_4 : decode cX0_minutesOfAll 4 = .ok (.iload_n 2, 1) := by decide +kernel
theorem dX0_minutesOfAll_5 : decode cX0_minutesOfAll 5 = .ok (.aload_n 0, 1) := by decide +kernel
theorem dX0_minutesOfAll_6 : decode cX0_minutesOfAll 6 = .ok (.getfield 21, 3) := by decide +kernel
theorem dX0_minutesOfAll_9 : decode cX0_minutesOfAll 9 = .ok (.if_icmp .ge 25, 3) := by decide +kernel
theorem dX0_minutesOfAll_12 : decode cX0_minutesOfAll 12 = .ok (.iload_n 1, 1) := by decide +kernel
theorem dX0_minutesOfAll_13 : decode cX0_minutesOfAll 13 = .ok (.aload_n 0, 1) := by decide +kernel
theorem dX0_minutesOfAll_14 : decode cX0_minutesOfAll 14 = .ok (.getfield 18, 3) := by decide +kernel
theorem dX0_minutesOfAll_17 : decode cX0_minutesOfAll 17 = .ok (.iload_n 2, 1) := by decide +kernel
theorem dX0_minutesOfAll_18 : decode cX0_minutesOfAll 18 = .ok (.iaload, 1) := by decide +kernel
theorem dX0_minutesOfAll_19 : decode cX0_minutesOfAll 19 = .ok (.aload_n 0, 1) := by decide +kernel
theorem dX0_minutesOfAll_20 : decode cX0_minutesOfAll 20 = .ok (.getfield 15, 3) := by decide +kernel
theorem dX0_minutesOfAll_23 : decode cX0_minutesOfAll 23 = .ok (.iload_n 2, 1) := by decide +kernel
theorem dX0_minutesOfAll_24 : decode cX0_minutesOfAll 24 = .ok (.iaload, 1) := by decide +kernel
theorem dX0_minutesOfAll_25 : decode cX0_minutesOfAll 25 = .ok (.isub, 1) := by decide +kernel
theorem dX0_minutesOfAll_26 : decode cX0_minutesOfAll 26 = .ok (.iadd, 1) := by decide +kernel
theorem dX0_minutesOfAll_27 : decode cX0_minutesOfAll 27 = .ok (.istore_n 1, 1) := by decide +kernel
theorem dX0_minutesOfAll_28 : decode cX0_minutesOfAll 28 = .ok (.iinc 2 1, 3) := by decide +kernel
theorem dX0_minutesOfAll_31 : decode cX0_minutesOfAll 31 = .ok (.goto (-27), 3) := by decide +kernel
theorem dX0_minutesOfAll_34 : decode cX0_minutesOfAll 34 = .ok (.iload_n 1, 1) := by decide +kernel
theorem dX0_minutesOfAll_35 : decode cX0_minutesOfAll 35 = .ok (.ireturn, 1) := by decide +kernel
theorem dX0_minutesOf_0 : decode cX0_minutesOf 0 = .ok (.iconst 0, 1) := by decide +kernel
theorem dX0_minutesOf_1 : decode cX0_minutesOf 1 = .ok (.istore_n 2, 1) := by decide +kernel
theorem dX0_minutesOf_2 : decode cX0_minutesOf 2 = .ok (.iconst 0, 1) := by decide +kernel
theorem dX0_minutesOf_3 : decode cX0_minutesOf 3 = .ok (.istore_n 3, 1) := by decide +kernel
theorem dX0_minutesOf_4 : decode cX0_minutesOf 4 = .ok (.iload_n 3, 1) := by decide +kernel
theorem dX0_minutesOf_5 : decode cX0_minutesOf 5 = .ok (.aload_n 0, 1) := by decide +kernel
theorem dX0_minutesOf_6 : decode cX0_minutesOf 6 = .ok (.getfield 21, 3) := by decide +kernel
theorem dX0_minutesOf_9 : decode cX0_minutesOf 9 = .ok (.if_icmp .ge 35, 3) := by decide +kernel
theorem dX0_minutesOf_12 : decode cX0_minutesOf 12 = .ok (.aload_n 0, 1) := by decide +kernel
theorem dX0_minutesOf_13 : decode cX0_minutesOf 13 = .ok (.getfield 9, 3) := by decide +kernel
theorem dX0_minutesOf_16 : decode cX0_minutesOf 16 = .ok (.iload_n 3, 1) := by decide +kernel
theorem dX0_minutesOf_17 : decode cX0_minutesOf 17 = .ok (.iaload, 1) := by decide +kernel
theorem dX0_minutesOf_18 : decode cX0_minutesOf 18 = .ok (.iload_n 1, 1) := by decide +kernel
theorem dX0_minutesOf_19 : decode cX0_minutesOf 19 = .ok (.if_icmp .ne 19, 3) := by decide +kernel
theorem dX0_minutesOf_22 : decode cX0_minutesOf 22 = .ok (.iload_n 2, 1) := by decide +kernel
theorem dX0_minutesOf_23 : decode cX0_minutesOf 23 = .ok (.aload_n 0, 1) := by decide +kernel
theorem dX0_minutesOf_24 : decode cX0_minutesOf 24 = .ok (.getfield 18, 3) := by decide +kernel
theorem dX0_minutesOf_27 : decode cX0_minutesOf 27 = .ok (.iload_n 3, 1) := by decide +kernel
theorem dX0_minutesOf_28 : decode cX0_minutesOf 28 = .ok (.iaload, 1) := by decide +kernel
theorem dX0_minutesOf_29 : decode cX0_minutesOf 29 = .ok (.aload_n 0, 1) := by decide +kernel
theorem dX0_minutesOf_30 : decode cX0_minutesOf 30 = .ok (.getfield 15, 3) := by decide +kernel
theorem dX0_minutesOf_33 : decode cX0_minutesOf 33 = .ok (.iload_n 3, 1) := by decide +kernel
theorem dX0_minutesOf_34 : decode cX0_minutesOf 34 = .ok (.iaload, 1) := by decide +kernel
theorem dX0_minutesOf_35 : decode cX0_minutesOf 35 = .ok (.isub, 1) := by decide +kernel
theorem dX0_minutesOf_36 : decode cX0_minutesOf 36 = .ok (.iadd, 1) := by decide +kernel
theorem dX0_minutesOf_37 : decode cX0_minutesOf 37 = .ok (.istore_n 2, 1) := by decide +kernel
theorem dX0_minutesOf_38 : decode cX0_minutesOf 38 = .ok (.iinc 3 1, 3) := by decide +kernel
theorem dX0_minutesOf_41 : decode cX0_minutesOf 41 = .ok (.goto (-37), 3) := by decide +kernel
theorem dX0_minutesOf_44 : decode cX0_minutesOf 44 = .ok (.iload_n 2, 1) := by decide +kernel
theorem dX0_minutesOf_45 : decode cX0_minutesOf 45 = .ok (.ireturn, 1) := by decide +kernel
theorem dX0_latestEnd_0 : decode cX0_latestEnd 0 = .ok (.bipush (-9), 2) := by decide +kernel
theorem dX0_latestEnd_2 : decode cX0_latestEnd 2 = .ok (.istore_n 1, 1) := by decide +kernel
theorem dX0_latestEnd_3 : decode cX0_latestEnd 3 = .ok (.iconst 0, 1) := by decide +kernel
theorem dX0_latestEnd_4 : decode cX0_latestEnd 4 = .ok (.istore_n 2, 1) := by decide +kernel
theorem dX0_latestEnd_5 : decode cX0_latestEnd 5 = .ok (.iload_n 2, 1) := by decide +kernel
theorem dX0_latestEnd_6 : decode cX0_latestEnd 6 = .ok (.aload_n 0, 1) := by decide +kernel
theorem dX0_latestEnd_7 : decode cX0_latestEnd 7 = .ok (.getfield 21, 3) := by decide +kernel
theorem dX0_latestEnd_10 : decode cX0_latestEnd 10 = .ok (.if_icmp .ge 20, 3) := by decide +kernel
theorem dX0_latestEnd_13 : decode cX0_latestEnd 13 = .ok (.iload_n 1, 1) := by decide +kernel
theorem dX0_latestEnd_14 : decode cX0_latestEnd 14 = .ok (.aload_n 0, 1) := by decide +kernel
theorem dX0_latestEnd_15 : decode cX0_latestEnd 15 = .ok (.getfield 18, 3) := by decide +kernel
theorem dX0_latestEnd_18 : decode cX0_latestEnd 18 = .ok (.iload_n 2, 1) := by decide +kernel
theorem dX0_latestEnd_19 : decode cX0_latestEnd 19 = .ok (.iaload, 1) := by decide +kernel
theorem dX0_latestEnd_20 : decode cX0_latestEnd 20 = .ok (.invokestatic 64, 3) := by decide +kernel
theorem dX0_latestEnd_23 : decode cX0_latestEnd 23 = .ok (.istore_n 1, 1) := by decide +kernel
theorem dX0_latestEnd_24 : decode cX0_latestEnd 24 = .ok (.iinc 2 1, 3) := by decide +kernel
theorem dX0_latestEnd_27 : decode cX0_latestEnd 27 = .ok (.goto (-22), 3) := by decide +kernel
theorem dX0_latestEnd_30 : decode cX0_latestEnd 30 = .ok (.iload_n 1, 1) := by decide +kernel
theorem dX0_latestEnd_31 : decode cX0_latestEnd 31 = .ok (.ireturn, 1) := by decide +kernel
theorem dX0_mostAtOnce_0 : decode cX0_mostAtOnce 0 = .ok (.iconst 0, 1) := by decide +kernel
theorem dX0_mostAtOnce_1 : decode cX0_mostAtOnce 1 = .ok (.istore_n 1, 1) := by decide +kernel
theorem dX0_mostAtOnce_2 : decode cX0_mostAtOnce 2 = .ok (.iconst 0, 1) := by decide +kernel
theorem dX0_mostAtOnce_3 : decode cX0_mostAtOnce 3 = .ok (.istore_n 2, 1) := by decide +kernel
theorem dX0_mostAtOnce_4 : decode cX0_mostAtOnce 4 = .ok (.iload_n 2, 1) := by decide +kernel
theorem dX0_mostAtOnce_5 : decode cX0_mostAtOnce 5 = .ok (.aload_n 0, 1) := by decide +kernel
theorem dX0_mostAtOnce_6 : decode cX0_mostAtOnce 6 = .ok (.getfield 21, 3) := by decide +kernel
theorem dX0_mostAtOnce_9 : decode cX0_mostAtOnce 9 = .ok (.if_icmp .ge 24, 3) := by decide +kernel
theorem dX0_mostAtOnce_12 : decode cX0_mostAtOnce 12 = .ok (.iload_n 1, 1) := by decide +kernel
theorem dX0_mostAtOnce_13 : decode cX0_mostAtOnce 13 = .ok (.aload_n 0, 1) := by decide +kernel
theorem dX0_mostAtOnce_14 : decode cX0_mostAtOnce 14 = .ok (.aload_n 0, 1) := by decide +kernel
theorem dX0_mostAtOnce_15 : decode cX0_mostAtOnce 15 = .ok (.getfield 15, 3) := by decide +kernel
theorem dX0_mostAtOnce_18 : decode cX0_mostAtOnce 18 = .ok (.iload_n 2, 1) := by decide +kernel
theorem dX0_mostAtOnce_19 : decode cX0_mostAtOnce 19 = .ok (.iaload, 1) := by decide +kernel
theorem dX0_mostAtOnce_20 : decode cX0_mostAtOnce 20 = .ok (.invokevirtual 70, 3) := by decide +kernel
theorem dX0_mostAtOnce_23 : decode cX0_mostAtOnce 23 = .ok (.invokestatic 64, 3) := by decide +kernel
theorem dX0_mostAtOnce_26 : decode cX0_mostAtOnce 26 = .ok (.istore_n 1, 1) := by decide +kernel
theorem dX0_mostAtOnce_27 : decode cX0_mostAtOnce 27 = .ok (.iinc 2 1, 3) := by decide +kernel
theorem dX0_mostAtOnce_30 : decode cX0_mostAtOnce 30 = .ok (.goto (-26), 3) := by decide +kernel
theorem dX0_mostAtOnce_33 : decode cX0_mostAtOnce 33 = .ok (.iload_n 1, 1) := by decide +kernel
theorem dX0_mostAtOnce_34 : decode cX0_mostAtOnce 34 = .ok (.ireturn, 1) := by decide +kernel
theorem dX0_inAt_0 : decode cX0_inAt 0 = .ok (.iconst 0, 1) := by decide +kernel
theorem dX0_inAt_1 : decode cX0_inAt 1 = .ok (.istore_n 2, 1) := by decide +kernel
theorem dX0_inAt_2 : decode cX0_inAt 2 = .ok (.iconst 0, 1) := by decide +kernel
theorem dX0_inAt_3 : decode cX0_inAt 3 = .ok (.istore_n 3, 1) := by decide +kernel
theorem dX0_inAt_4 : decode cX0_inAt 4 = .ok (.iload_n 3, 1) := by decide +kernel
theorem dX0_inAt_5 : decode cX0_inAt 5 = .ok (.aload_n 0, 1) := by decide +kernel
theorem dX0_inAt_6 : decode cX0_inAt 6 = .ok (.getfield 21, 3) := by decide +kernel
theorem dX0_inAt_9 : decode cX0_inAt 9 = .ok (.if_icmp .ge 32, 3) := by decide +kernel
theorem dX0_inAt_12 : decode cX0_inAt 12 = .ok (.aload_n 0, 1) := by decide +kernel
theorem dX0_inAt_13 : decode cX0_inAt 13 = .ok (.getfield 15, 3) := by decide +kernel
theorem dX0_inAt_16 : decode cX0_inAt 16 = .ok (.iload_n 3, 1) := by decide +kernel
theorem dX0_inAt_17 : decode cX0_inAt 17 = .ok (.iaload, 1) := by decide +kernel
theorem dX0_inAt_18 : decode cX0_inAt 18 = .ok (.iload_n 1, 1) := by decide +kernel
theorem dX0_inAt_19 : decode cX0_inAt 19 = .ok (.if_icmp .gt 16, 3) := by decide +kernel
theorem dX0_inAt_22 : decode cX0_inAt 22 = .ok (.iload_n 1, 1) := by decide +kernel
theorem dX0_inAt_23 : decode cX0_inAt 23 = .ok (.aload_n 0, 1) := by decide +kernel
theorem dX0_inAt_24 : decode cX0_inAt 24 = .ok (.getfield 18, 3) := by decide +kernel
theorem dX0_inAt_27 : decode cX0_inAt 27 = .ok (.iload_n 3, 1) := by decide +kernel
theorem dX0_inAt_28 : decode cX0_inAt 28 = .ok (.iaload, 1) := by decide +kernel
theorem dX0_inAt_29 : decode cX0_inAt 29 = .ok (.if_icmp .ge 6, 3) := by decide +kernel
theorem dX0_inAt_32 : decode cX0_inAt 32 = .ok (.iinc 2 1, 3) := by decide +kernel
theorem dX0_inAt_35 : decode cX0_inAt 35 = .ok (.iinc 3 1, 3) := by decide +kernel
theorem dX0_inAt_38 : decode cX0_inAt 38 = .ok (.goto (-34), 3) := by decide +kernel
theorem dX0_inAt_41 : decode cX0_inAt 41 = .ok (.iload_n 2, 1) := by decide +kernel
theorem dX0_inAt_42 : decode cX0_inAt 42 = .ok (.ireturn, 1) := by decide +kernel
theorem dX1_init_0 : decode cX1_init 0 = .ok (.aload_n 0, 1) := by decide +kernel
theorem dX1_init_1 : decode cX1_init 1 = .ok (.invokespecial 3, 3) := by decide +kernel
theorem dX1_init_4 : decode cX1_init 4 = .ok (.aload_n 0, 1) := by decide +kernel
theorem dX1_init_5 : decode cX1_init 5 = .ok (.new 9, 3) := by decide +kernel
theorem dX1_init_8 : decode cX1_init 8 = .ok (.dup, 1) := by decide +kernel
theorem dX1_init_9 : decode cX1_init 9 = .ok (.invokespecial 11, 3) := by decide +kernel
theorem dX1_init_12 : decode cX1_init 12 = .ok (.putfield 12, 3) := by decide +kernel
theorem dX1_init_15 : decode cX1_init 15 = .ok (.aload_n 0, 1) := by decide +kernel
theorem dX1_init_16 : decode cX1_init 16 = .ok (.iconst 0, 1) := by decide +kernel
theorem dX1_init_17 : decode cX1_init 17 = .ok (.putfield 18, 3) := by decide +kernel
theorem dX1_init_20 : decode cX1_init 20 = .ok (.aload_n 0, 1) := by decide +kernel
theorem dX1_init_21 : decode cX1_init 21 = .ok (.iconst 0, 1) := by decide +kernel
theorem dX1_init_22 : decode cX1_init 22 = .ok (.putfield 22, 3) := by decide +kernel
theorem dX1_init_25 : decode cX1_init 25 = .ok (.aload_n 0, 1) := by decide +kernel
theorem dX1_init_26 : decode cX1_init 26 = .ok (.iconst 0, 1) := by decide +kernel
theorem dX1_init_27 : decode cX1_init 27 = .ok (.putfield 25, 3) := by decide +kernel
theorem dX1_init_30 : decode cX1_init 30 = .ok (.return_, 1) := by decide +kernel
theorem dX1_readAll_0 : decode cX1_readAll 0 = .ok (.aload_n 0, 1) := by decide +kernel
theorem dX1_readAll_1 : decode cX1_readAll 1 = .ok (.getfield 12, 3) := by decide +kernel
theorem dX1_readAll_4 : decode cX1_readAll 4 = .ok (.invokevirtual 28, 3) := by decide +kernel
theorem dX1_readAll_7 : decode cX1_readAll 7 = .ok (.aload_n 0, 1) := by decide +kernel
theorem dX1_readAll_8 : decode cX1_readAll 8 = .ok (.iconst 0, 1) := by decide +kernel
theorem dX1_readAll_9 : decode cX1_readAll 9 = .ok (.putfield 18, 3) := by decide +kernel
theorem dX1_readAll_12 : decode cX1_readAll 12 = .ok (.iconst 0, 1) := by decide +kernel
theorem dX1_readAll_13 : decode cX1_readAll 13 = .ok (.istore 4, 2) := by decide +kernel
theorem dX1_readAll_15 : decode cX1_readAll 15 = .ok (.iload 4, 2) := by decide +kernel
theorem dX1_readAll_17 : decode cX1_readAll 17 = .ok (.iload_n 3, 1) := by decide +kernel
theorem dX1_readAll_18 : decode cX1_readAll 18 = .ok (.if_icmp .ge 28, 3) := by decide +kernel
theorem dX1_readAll_21 : decode cX1_readAll 21 = .ok (.aload_n 0, 1) := by decide +kernel
theorem dX1_readAll_22 : decode cX1_readAll 22 = .ok (.aload_n 1, 1) := by decide +kernel
theorem dX1_readAll_23 : decode cX1_readAll 23 = .ok (.getfield 31, 3) := by decide +kernel
theorem dX1_readAll_26 : decode cX1_readAll 26 = .ok (.iload_n 2, 1) := by decide +kernel
theorem dX1_readAll_27 : decode cX1_readAll 27 = .ok (.iload 4, 2) := by decide +kernel
theorem dX1_readAll_29 : decode cX1_readAll 29 = .ok (.iadd, 1) := by decide +kernel
theorem dX1_readAll_30 : decode cX1_readAll 30 = .ok (.iaload, 1) := by decide +kernel
theorem dX1_readAll_31 : decode cX1_readAll 31 = .ok (.invokevirtual 37, 3) := by decide +kernel
theorem dX1_readAll_34 : decode cX1_readAll 34 = .ok (.ifCond .ne 6, 3) := by decide +kernel
theorem dX1_readAll_37 : decode cX1_readAll 37 = .ok (.iload 4, 2) := by decide +kernel
theorem dX1_readAll_39 : decode cX1_readAll 39 = .ok (.ireturn, 1) := by decide +kernel
theorem dX1_readAll_40 : decode cX1_readAll 40 = .ok (.iinc 4 1, 3) := by decide +kernel
theorem dX1_readAll_43 : decode cX1_readAll 43 = .ok (.goto (-28), 3) := by decide +kernel
theorem dX1_readAll_46 : decode cX1_readAll 46 = .ok (.aload_n 0, 1) := by decide +kernel
theorem dX1_readAll_47 : decode cX1_readAll 47 = .ok (.getfield 18, 3) := by decide +kernel
theorem dX1_readAll_50 : decode cX1_readAll 50 = .ok (.bipush 8, 2) := by decide +kernel
theorem dX1_readAll_52 : decode cX1_readAll 52 = .ok (.if_icmp .ne 8, 3) := by decide +kernel
theorem dX1_readAll_55 : decode cX1_readAll 55 = .ok (.bipush (-9), 2) := by decide +kernel
theorem dX1_readAll_57 : decode cX1_readAll 57 = .ok (.goto 4, 3) := by decide +kernel
theorem dX1_readAll_60 : decode cX1_readAll 60 = .ok (.iload_n 3, 1) := by decide +kernel
theorem dX1_readAll_61 : decode cX1_readAll 61 = .ok (.ireturn, 1) := by decide +kernel
theorem dX1_swap_0 : decode cX1_swap 0 = .ok (.aload_n 0, 1) := by decide +kernel
theorem dX1_swap_1 : decode cX1_swap 1 = .ok (.getfield 12, 3) := by decide +kernel
theorem dX1_swap_4 : decode cX1_swap 4 = .ok (.astore_n 2, 1) := by decide +kernel
theorem dX1_swap_5 : decode cX1_swap 5 = .ok (.aload_n 0, 1) := by decide +kernel
theorem dX1_swap_6 : decode cX1_swap 6 = .ok (.aload_n 1, 1) := by decide +kernel
theorem dX1_swap_7 : decode cX1_swap 7 = .ok (.putfield 12, 3) := by decide +kernel
theorem dX1_swap_10 : decode cX1_swap 10 = .ok (.aload_n 2, 1) := by decide +kernel
theorem dX1_swap_11 : decode cX1_swap 11 = .ok (.areturn, 1) := by decide +kernel
theorem dX1_takes_0 : decode cX1_takes 0 = .ok (.aload_n 0, 1) := by decide +kernel
theorem dX1_takes_1 : decode cX1_takes 1 = .ok (.getfield 18, 3) := by decide +kernel
theorem dX1_takes_4 : decode cX1_takes 4 = .ok (.tableswitch 122 0 7 #[48, 65, 71, 92, 98, 104, 110, 116], 48) := by decide +kernel
theorem dX1_takes_52 : decode cX1_takes 52 = .ok (.aload_n 0, 1) := by decide +kernel
theorem dX1_takes_53 : decode cX1_takes 53 = .ok (.iload_n 1, 1) := by decide +kernel
theorem dX1_takes_54 : decode cX1_takes 54 = .ok (.bipush 118, 2) := by decide +kernel
theorem dX1_takes_56 : decode cX1_takes 56 = .ok (.if_icmp .ne 7, 3) := by decide +kernel
theorem dX1_takes_59 : decode cX1_takes 59 = .ok (.iconst 1, 1) := by decide +kernel
theorem dX1_takes_60 : decode cX1_takes 60 = .ok (.goto 4, 3) := by decide +kernel
theorem dX1_takes_63 : decode cX1_takes 63 = .ok (.iconst 0, 1) := by decide +kernel
theorem dX1_takes_64 : decode cX1_takes 64 = .ok (.iconst 1, 1) := by decide +kernel
theorem dX1_takes_65 : decode cX1_takes 65 = .ok (.invokevirtual 41, 3) := by decide +kernel
theorem dX1_takes_68 : decode cX1_takes 68 = .ok (.ireturn, 1) := by decide +kernel
theorem dX1_takes_69 : decode cX1_takes 69 = .ok (.aload_n 0, 1) := by decide +kernel
theorem dX1_takes_70 : decode cX1_takes 70 = .ok (.iload_n 1, 1) := by decide +kernel
theorem dX1_takes_71 : decode cX1_takes 71 = .ok (.invokevirtual 45, 3) := by decide +kernel
theorem dX1_takes_74 : decode cX1_takes 74 = .ok (.ireturn, 1) := by decide +kernel
theorem dX1_takes_75 : decode cX1_takes 75 = .ok (.iload_n 1, 1) := by decide +kernel
theorem dX1_takes_76 : decode cX1_takes 76 = .ok (.bipush 59, 2) := by decide +kernel
theorem dX1_takes_78 : decode cX1_takes 78 = .ok (.if_icmp .ne 12, 3) := by decide +kernel
theorem dX1_takes_81 : decode cX1_takes 81 = .ok (.aload_n 0, 1) := by decide +kernel
theorem dX1_takes_82 : decode cX1_takes 82 = .ok (.iconst 1, 1) := by decide +kernel
theorem dX1_takes_83 : decode cX1_takes 83 = .ok (.iconst 3, 1) := by decide +kernel
theorem dX1_takes_84 : decode cX1_takes 84 = .ok (.invokevirtual 41, 3) := by decide +kernel
theorem dX1_takes_87 : decode cX1_takes 87 = .ok (.goto 8, 3) := by decide +kernel
theorem dX1_takes_90 : decode cX1_takes 90 = .ok (.aload_n 0, 1) := by decide +kernel
theorem dX1_takes_91 : decode cX1_takes 91 = .ok (.iload_n 1, 1) := by decide +kernel
theorem dX1_takes_92 : decode cX1_takes 92 = .ok (.invokevirtual 45, 3) := by decide +kernel
theorem dX1_takes_95 : decode cX1_takes 95 = .ok (.ireturn, 1) := by decide +kernel
theorem dX1_takes_96 : decode cX1_takes 96 = .ok (.aload_n 0, 1) := by decide +kernel
theorem dX1_takes_97 : decode cX1_takes 97 = .ok (.iload_n 1, 1) := by decide +kernel
theorem dX1_takes_98 : decode cX1_takes 98 = .ok (.invokevirtual 48, 3) := by decide +kernel
theorem dX1_takes_101 : decode cX1_takes 101 = .ok (.ireturn, 1) := by decide +kernel
theorem dX1_takes_102 : decode cX1_takes 102 = .ok (.aload_n 0, 1) := by decide +kernel
theorem dX1_takes_103 : decode cX1_takes 103 = .ok (.iload_n 1, 1) := by decide +kernel
theorem dX1_takes_104 : decode cX1_takes 104 = .ok (.invokevirtual 51, 3) := by decide +kernel
theorem dX1_takes_107 : decode cX1_takes 107 = .ok (.ireturn, 1) := by decide +kernel
theorem dX1_takes_108 : decode cX1_takes 108 = .ok (.aload_n 0, 1) := by decide +kernel
theorem dX1_takes_109 : decode cX1_takes 109 = .ok (.iload_n 1, 1) := by decide +kernel
theorem dX1_takes_110 : decode cX1_takes 110 = .ok (.invokevirtual 54, 3) := by decide +kernel
theorem dX1_takes_113 : decode cX1_takes 113 = .ok (.ireturn, 1) := by decide +kernel
theorem dX1_takes_114 : decode cX1_takes 114 = .ok (.aload_n 0, 1) := by decide +kernel
theorem dX1_takes_115 : decode cX1_takes 115 = .ok (.iload_n 1, 1) := by decide +kernel
theorem dX1_takes_116 : decode cX1_takes 116 = .ok (.invokevirtual 57, 3) := by decide +kernel
theorem dX1_takes_119 : decode cX1_takes 119 = .ok (.ireturn, 1) := by decide +kernel
theorem dX1_takes_120 : decode cX1_takes 120 = .ok (.aload_n 0, 1) := by decide +kernel
theorem dX1_takes_121 : decode cX1_takes 121 = .ok (.iload_n 1, 1) := by decide +kernel
theorem dX1_takes_122 : decode cX1_takes 122 = .ok (.invokevirtual 60, 3) := by decide +kernel
theorem dX1_takes_125 : decode cX1_takes 125 = .ok (.ireturn, 1) := by decide +kernel
theorem dX1_takes_126 : decode cX1_takes 126 = .ok (.aload_n 0, 1) := by decide +kernel
theorem dX1_takes_127 : decode cX1_takes 127 = .ok (.iload_n 1, 1) := by decide +kernel
theorem dX1_takes_128 : decode cX1_takes 128 = .ok (.invokevirtual 63, 3) := by decide +kernel
theorem dX1_takes_131 : decode cX1_takes 131 = .ok (.ireturn, 1) := by decide +kernel
theorem dX1_goesOn_0 : decode cX1_goesOn 0 = .ok (.iload_n 1, 1) := by decide +kernel
theorem dX1_goesOn_1 : decode cX1_goesOn 1 = .ok (.ifCond .eq 8, 3) := by decide +kernel
theorem dX1_goesOn_4 : decode cX1_goesOn 4 = .ok (.aload_n 0, 1) := by decide +kernel
theorem dX1_goesOn_5 : decode cX1_goesOn 5 = .ok (.iload_n 2, 1) := by decide +kernel
theorem dX1_goesOn_6 : decode cX1_goesOn 6 = .ok (.putfield 18, 3) := by decide +kernel
theorem dX1_goesOn_9 : decode cX1_goesOn 9 = .ok (.iload_n 1, 1) := by decide +kernel
theorem dX1_goesOn_10 : decode cX1_goesOn 10 = .ok (.ireturn, 1) := by decide +kernel
theorem dX1_takesGloom_0 : decode cX1_takesGloom 0 = .ok (.iload_n 1, 1) := by decide +kernel
theorem dX1_takesGloom_1 : decode cX1_takesGloom 1 = .ok (.invokestatic 66, 3) := by decide +kernel
theorem dX1_takesGloom_4 : decode cX1_takesGloom 4 = .ok (.ifCond .eq 15, 3) := by decide +kernel
theorem dX1_takesGloom_7 : decode cX1_takesGloom 7 = .ok (.aload_n 0, 1) := by decide +kernel
theorem dX1_takesGloom_8 : decode cX1_takesGloom 8 = .ok (.getfield 12, 3) := by decide +kernel
theorem dX1_takesGloom_11 : decode cX1_takesGloom 11 = .ok (.getfield 69, 3) := by decide +kernel
theorem dX1_takesGloom_14 : decode cX1_takesGloom 14 = .ok (.bipush 6, 2) := by decide +kernel
theorem dX1_takesGloom_16 : decode cX1_takesGloom 16 = .ok (.if_icmp .lt 5, 3) := by decide +kernel
theorem dX1_takesGloom_19 : decode cX1_takesGloom 19 = .ok (.iconst 0, 1) := by decide +kernel
theorem dX1_takesGloom_20 : decode cX1_takesGloom 20 = .ok (.ireturn, 1) := by decide +kernel
theorem dX1_takesGloom_21 : decode cX1_takesGloom 21 = .ok (.aload_n 0, 1) := by decide +kernel
theorem dX1_takesGloom_22 : decode cX1_takesGloom 22 = .ok (.getfield 12, 3) := by decide +kernel
theorem dX1_takesGloom_25 : decode cX1_takesGloom 25 = .ok (.getfield 72, 3) := by decide +kernel
theorem dX1_takesGloom_28 : decode cX1_takesGloom 28 = .ok (.aload_n 0, 1) := by decide +kernel
theorem dX1_takesGloom_29 : decode cX1_takesGloom 29 = .ok (.getfield 12, 3) := by decide +kernel
theorem dX1_takesGloom_32 : decode cX1_takesGloom 32 = .ok (.getfield 69, 3) := by decide +kernel
theorem dX1_takesGloom_35 : decode cX1_takesGloom 35 = .ok (.iload_n 1, 1) := by decide +kernel
theorem dX1_takesGloom_36 : decode cX1_takesGloom 36 = .ok (.bipush 48, 2) := by decide +kernel
theorem dX1_takesGloom_38 : decode cX1_takesGloom 38 = .ok (.isub, 1) := by decide +kernel
theorem dX1_takesGloom_39 : decode cX1_takesGloom 39 = .ok (.iastore, 1) := by decide +kernel
theorem dX1_takesGloom_40 : decode cX1_takesGloom 40 = .ok (.aload_n 0, 1) := by decide +kernel
theorem dX1_takesGloom_41 : decode cX1_takesGloom 41 = .ok (.getfield 12, 3) := by decide +kernel
theorem dX1_takesGloom_44 : decode cX1_takesGloom 44 = .ok (.dup, 1) := by decide +kernel
theorem dX1_takesGloom_45 : decode cX1_takesGloom 45 = .ok (.getfield 69, 3) := by decide +kernel
theorem dX1_takesGloom_48 : decode cX1_takesGloom 48 = .ok (.iconst 1, 1) := by decide +kernel
theorem dX1_takesGloom_49 : decode cX1_takesGloom 49 = .ok (.iadd, 1) := by decide +kernel
theorem dX1_takesGloom_50 : decode cX1_takesGloom 50 = .ok (.putfield 69, 3) := by decide +kernel
theorem dX1_takesGloom_53 : decode cX1_takesGloom 53 = .ok (.aload_n 0, 1) := by decide +kernel
theorem dX1_takesGloom_54 : decode cX1_takesGloom 54 = .ok (.iconst 1, 1) := by decide +kernel
theorem dX1_takesGloom_55 : decode cX1_takesGloom 55 = .ok (.iconst 2, 1) := by decide +kernel
theorem dX1_takesGloom_56 : decode cX1_takesGloom 56 = .ok (.invokevirtual 41, 3) := by decide +kernel
theorem dX1_takesGloom_59 : decode cX1_takesGloom 59 = .ok (.ireturn, 1) := by decide +kernel
theorem dX1_takesKind_0 : decode cX1_takesKind 0 = .ok (.iload_n 1, 1) := by decide +kernel
theorem dX1_takesKind_1 : decode cX1_takesKind 1 = .ok (.tableswitch 59 115 119 #[43, 35, 59, 59, 51], 35) := by decide +kernel
theorem dX1_takesKind_36 : decode cX1_takesKind 36 = .ok (.aload_n 0, 1) := by decide +kernel
theorem dX1_takesKind_37 : decode cX1_takesKind 37 = .ok (.iconst 0, 1) := by decide +kernel
theorem dX1_takesKind_38 : decode cX1_takesKind 38 = .ok (.putfield 22, 3) := by decide +kernel
theorem dX1_takesKind_41 : decode cX1_takesKind 41 = .ok (.goto 21, 3) := by decide +kernel
theorem dX1_takesKind_44 : decode cX1_takesKind 44 = .ok (.aload_n 0, 1) := by decide +kernel
theorem dX1_takesKind_45 : decode cX1_takesKind 45 = .ok (.iconst 1, 1) := by decide +kernel
theorem dX1_takesKind_46 : decode cX1_takesKind 46 = .ok (.putfield 22, 3) := by decide +kernel
theorem dX1_takesKind_49 : decode cX1_takesKind 49 = .ok (.goto 13, 3) := by decide +kernel
theorem dX1_takesKind_52 : decode cX1_takesKind 52 = .ok (.aload_n 0, 1) := by decide +kernel
theorem dX1_takesKind_53 : decode cX1_takesKind 53 = .ok (.iconst 2, 1) := by decide +kernel
theorem dX1_takesKind_54 : decode cX1_takesKind 54 = .ok (.putfield 22, 3) := by decide +kernel
theorem dX1_takesKind_57 : decode cX1_takesKind 57 = .ok (.goto 5, 3) := by decide +kernel
theorem dX1_takesKind_60 : decode cX1_takesKind 60 = .ok (.iconst 0, 1) := by decide +kernel
theorem dX1_takesKind_61 : decode cX1_takesKind 61 = .ok (.ireturn, 1) := by decide +kernel
theorem dX1_takesKind_62 : decode cX1_takesKind 62 = .ok (.aload_n 0, 1) := by decide +kernel
theorem dX1_takesKind_63 : decode cX1_takesKind 63 = .ok (.iconst 1, 1) := by decide +kernel
theorem dX1_takesKind_64 : decode cX1_takesKind 64 = .ok (.iconst 4, 1) := by decide +kernel
theorem dX1_takesKind_65 : decode cX1_takesKind 65 = .ok (.invokevirtual 41, 3) := by decide +kernel
theorem dX1_takesKind_68 : decode cX1_takesKind 68 = .ok (.ireturn, 1) := by decide +kernel
theorem dX1_takesTens_0 : decode cX1_takesTens 0 = .ok (.aload_n 0, 1) := by decide +kernel
theorem dX1_takesTens_1 : decode cX1_takesTens 1 = .ok (.bipush 10, 2) := by decide +kernel
theorem dX1_takesTens_3 : decode cX1_takesTens 3 = .ok (.iload_n 1, 1) := by decide +kernel
theorem dX1_takesTens_4 : decode cX1_takesTens 4 = .ok (.bipush 48, 2) := by decide +kernel
theorem dX1_takesTens_6 : decode cX1_takesTens 6 = .ok (.isub, 1) := by decide +kernel
theorem dX1_takesTens_7 : decode cX1_takesTens 7 = .ok (.imul, 1) := by decide +kernel
theorem dX1_takesTens_8 : decode cX1_takesTens 8 = .ok (.putfield 25, 3) := by decide +kernel
theorem dX1_takesTens_11 : decode cX1_takesTens 11 = .ok (.aload_n 0, 1) := by decide +kernel
theorem dX1_takesTens_12 : decode cX1_takesTens 12 = .ok (.iload_n 1, 1) := by decide +kernel
theorem dX1_takesTens_13 : decode cX1_takesTens 13 = .ok (.invokestatic 66, 3) := by decide +kernel
theorem dX1_takesTens_16 : decode cX1_takesTens 16 = .ok (.iconst 5, 1) := by decide +kernel
theorem dX1_takesTens_17 : decode cX1_takesTens 17 = .ok (.invokevirtual 41, 3) := by decide +kernel
theorem dX1_takesTens_20 : decode cX1_takesTens 20 = .ok (.ireturn, 1) := by decide +kernel
theorem dX1_takesOnes_0 : decode cX1_takesOnes 0 = .ok (.aload_n 0, 1) := by decide +kernel
theorem dX1_takesOnes_1 : decode cX1_takesOnes 1 = .ok (.dup, 1) := by decide +kernel
theorem dX1_takesOnes_2 : decode cX1_takesOnes 2 = .ok (.getfield 25, 3) := by decide +kernel
theorem dX1_takesOnes_5 : decode cX1_takesOnes 5 = .ok (.iload_n 1, 1) := by decide +kernel
theorem dX1_takesOnes_6 : decode cX1_takesOnes 6 = .ok (.bipush 48, 2) := by decide +kernel
theorem dX1_takesOnes_8 : decode cX1_takesOnes 8 = .ok (.isub, 1) := by decide +kernel
theorem dX1_takesOnes_9 : decode cX1_takesOnes 9 = .ok (.iadd, 1) := by decide +kernel
theorem dX1_takesOnes_10 : decode cX1_takesOnes 10 = .ok (.putfield 25, 3) := by decide +kernel
theorem dX1_takesOnes_13 : decode cX1_takesOnes 13 = .ok (.aload_n 0, 1) := by decide +kernel
theorem dX1_takesOnes_14 : decode cX1_takesOnes 14 = .ok (.iload_n 1, 1) := by decide +kernel
theorem dX1_takesOnes_15 : decode cX1_takesOnes 15 = .ok (.invokestatic 66, 3) := by decide +kernel
theorem dX1_takesOnes_18 : decode cX1_takesOnes 18 = .ok (.bipush 6, 2) := by decide +kernel
theorem dX1_takesOnes_20 : decode cX1_takesOnes 20 = .ok (.invokevirtual 41, 3) := by decide +kernel
theorem dX1_takesOnes_23 : decode cX1_takesOnes 23 = .ok (.ireturn, 1) := by decide +kernel
theorem dX1_takesMind_0 : decode cX1_takesMind 0 = .ok (.iload_n 1, 1) := by decide +kernel
theorem dX1_takesMind_1 : decode cX1_takesMind 1 = .ok (.invokestatic 66, 3) := by decide +kernel
theorem dX1_takesMind_4 : decode cX1_takesMind 4 = .ok (.ifCond .eq 14, 3) := by decide +kernel
theorem dX1_takesMind_7 : decode cX1_takesMind 7 = .ok (.aload_n 0, 1) := by decide +kernel
theorem dX1_takesMind_8 : decode cX1_takesMind 8 = .ok (.getfield 12, 3) := by decide +kernel
theorem dX1_takesMind_11 : decode cX1_takesMind 11 = .ok (.getfield 75, 3) := by decide +kernel
theorem dX1_takesMind_14 : decode cX1_takesMind 14 = .ok (.iconst 5, 1) := by decide +kernel
theorem dX1_takesMind_15 : decode cX1_takesMind 15 = .ok (.if_icmp .lt 5, 3) := by decide +kernel
theorem dX1_takesMind_18 : decode cX1_takesMind 18 = .ok (.iconst 0, 1) := by decide +kernel
theorem dX1_takesMind_19 : decode cX1_takesMind 19 = .ok (.ireturn, 1) := by decide +kernel
theorem dX1_takesMind_20 : decode cX1_takesMind 20 = .ok (.aload_n 0, 1) := by decide +kernel
theorem dX1_takesMind_21 : decode cX1_takesMind 21 = .ok (.getfield 12, 3) := by decide +kernel
theorem dX1_takesMind_24 : decode cX1_takesMind 24 = .ok (.getfield 75, 3) := by decide +kernel
theorem dX1_takesMind_27 : decode cX1_takesMind 27 = .ok (.istore_n 2, 1) := by decide +kernel
theorem dX1_takesMind_28 : decode cX1_takesMind 28 = .ok (.aload_n 0, 1) := by decide +kernel
theorem dX1_takesMind_29 : decode cX1_takesMind 29 = .ok (.getfield 12, 3) := by decide +kernel
theorem dX1_takesMind_32 : decode cX1_takesMind 32 = .ok (.getfield 78, 3) := by decide +kernel
theorem dX1_takesMind_35 : decode cX1_takesMind 35 = .ok (.iload_n 2, 1) := by decide +kernel
theorem dX1_takesMind_36 : decode cX1_takesMind 36 = .ok (.aload_n 0, 1) := by decide +kernel
theorem dX1_takesMind_37 : decode cX1_takesMind 37 = .ok (.getfield 22, 3) := by decide +kernel
theorem dX1_takesMind_40 : decode cX1_takesMind 40 = .ok (.iload_n 2, 1) := by decide +kernel
theorem dX1_takesMind_41 : decode cX1_takesMind 41 = .ok (.aload_n 0, 1) := by decide +kernel
theorem dX1_takesMind_42 : decode cX1_takesMind 42 = .ok (.getfield 25, 3) := by decide +kernel
theorem dX1_takesMind_45 : decode cX1_takesMind 45 = .ok (.iload_n 1, 1) := by decide +kernel
theorem dX1_takesMind_46 : decode cX1_takesMind 46 = .ok (.bipush 48, 2) := by decide +kernel
theorem dX1_takesMind_48 : decode cX1_takesMind 48 = .ok (.isub, 1) := by decide +kernel
theorem dX1_takesMind_49 : decode cX1_takesMind 49 = .ok (.invokestatic 82, 3) := by decide +kernel
theorem dX1_takesMind_52 : decode cX1_takesMind 52 = .ok (.aastore, 1) := by decide +kernel
theorem dX1_takesMind_53 : decode cX1_takesMind 53 = .ok (.aload_n 0, 1) := by decide +kernel
theorem dX1_takesMind_54 : decode cX1_takesMind 54 = .ok (.getfield 12, 3) := by decide +kernel
theorem dX1_takesMind_57 : decode cX1_takesMind 57 = .ok (.dup, 1) := by decide +kernel
theorem dX1_takesMind_58 : decode cX1_takesMind 58 = .ok (.getfield 75, 3) := by decide +kernel
theorem dX1_takesMind_61 : decode cX1_takesMind 61 = .ok (.iconst 1, 1) := by decide +kernel
theorem dX1_takesMind_62 : decode cX1_takesMind 62 = .ok (.iadd, 1) := by decide +kernel
theorem dX1_takesMind_63 : decode cX1_takesMind 63 = .ok (.putfield 75, 3) := by decide +kernel
theorem dX1_takesMind_66 : decode cX1_takesMind 66 = .ok (.aload_n 0, 1) := by decide +kernel
theorem dX1_takesMind_67 : decode cX1_takesMind 67 = .ok (.iconst 1, 1) := by decide +kernel
theorem dX1_takesMind_68 : decode cX1_takesMind 68 = .ok (.bipush 7, 2) := by decide +kernel
theorem dX1_takesMind_70 : decode cX1_takesMind 70 = .ok (.invokevirtual 41, 3) := by decide +kernel
theorem dX1_takesMind_73 : decode cX1_takesMind 73 = .ok (.ireturn, 1) := by decide +kernel
theorem dX1_takesBehindTaker_0 : decode cX1_takesBehindTaker 0 = .ok (.iload_n 1, 1) := by decide +kernel
theorem dX1_takesBehindTaker_1 : decode cX1_takesBehindTaker 1 = .ok (.bipush 47, 2) := by decide +kernel
theorem dX1_takesBehindTaker_3 : decode cX1_takesBehindTaker 3 = .ok (.if_icmp .ne 11, 3) := by decide +kernel
theorem dX1_takesBehindTaker_6 : decode cX1_takesBehindTaker 6 = .ok (.aload_n 0, 1) := by decide +kernel
theorem dX1_takesBehindTaker_7 : decode cX1_takesBehindTaker 7 = .ok (.iconst 1, 1) := by decide +kernel
theorem dX1_takesBehindTaker_8 : decode cX1_takesBehindTaker 8 = .ok (.bipush 8, 2) := by decide +kernel
theorem dX1_takesBehindTaker_10 : decode cX1_takesBehindTaker 10 = .ok (.invokevirtual 41, 3) := by decide +kernel
theorem dX1_takesBehindTaker_13 : decode cX1_takesBehindTaker 13 = .ok (.ireturn, 1) := by decide +kernel
theorem dX1_takesBehindTaker_14 : decode cX1_takesBehindTaker 14 = .ok (.aload_n 0, 1) := by decide +kernel
theorem dX1_takesBehindTaker_15 : decode cX1_takesBehindTaker 15 = .ok (.iload_n 1, 1) := by decide +kernel
theorem dX1_takesBehindTaker_16 : decode cX1_takesBehindTaker 16 = .ok (.bipush 59, 2) := by decide +kernel
theorem dX1_takesBehindTaker_18 : decode cX1_takesBehindTaker 18 = .ok (.if_icmp .ne 18, 3) := by decide +kernel
theorem dX1_takesBehindTaker_21 : decode cX1_takesBehindTaker 21 = .ok (.aload_n 0, 1) := by decide +kernel
theorem dX1_takesBehindTaker_22 : decode cX1_takesBehindTaker 22 = .ok (.getfield 12, 3) := by decide +kernel
theorem dX1_takesBehindTaker_25 : decode cX1_takesBehindTaker 25 = .ok (.getfield 75, 3) := by decide +kernel
theorem dX1_takesBehindTaker_28 : decode cX1_takesBehindTaker 28 = .ok (.iconst 5, 1) := by decide +kernel
theorem dX1_takesBehindTaker_29 : decode cX1_takesBehindTaker 29 = .ok (.if_icmp .ge 7, 3) := by decide +kernel
theorem dX1_takesBehindTaker_32 : decode cX1_takesBehindTaker 32 = .ok (.iconst 1, 1) := by decide +kernel
theorem dX1_takesBehindTaker_33 : decode cX1_takesBehindTaker 33 = .ok (.goto 4, 3) := by decide +kernel
theorem dX1_takesBehindTaker_36 : decode cX1_takesBehindTaker 36 = .ok (.iconst 0, 1) := by decide +kernel
theorem dX1_takesBehindTaker_37 : decode cX1_takesBehindTaker 37 = .ok (.iconst 3, 1) := by decide +kernel
theorem dX1_takesBehindTaker_38 : decode cX1_takesBehindTaker 38 = .ok (.invokevirtual 41, 3) := by decide +kernel
theorem dX1_takesBehindTaker_41 : decode cX1_takesBehindTaker 41 = .ok (.ireturn, 1) := by decide +kernel
theorem dX1_takesGood_0 : decode cX1_takesGood 0 = .ok (.iload_n 1, 1) := by decide +kernel
theorem dX1_takesGood_1 : decode cX1_takesGood 1 = .ok (.invokestatic 66, 3) := by decide +kernel
theorem dX1_takesGood_4 : decode cX1_takesGood 4 = .ok (.ifCond .eq 20, 3) := by decide +kernel
theorem dX1_takesGood_7 : decode cX1_takesGood 7 = .ok (.iload_n 1, 1) := by decide +kernel
theorem dX1_takesGood_8 : decode cX1_takesGood 8 = .ok (.bipush 48, 2) := by decide +kernel
theorem dX1_takesGood_10 : decode cX1_takesGood 10 = .ok (.if_icmp .eq 14, 3) := by decide +kernel
theorem dX1_takesGood_13 : decode cX1_takesGood 13 = .ok (.aload_n 0, 1) := by decide +kernel
theorem dX1_takesGood_14 : decode cX1_takesGood 14 = .ok (.getfield 12, 3) := by decide +kernel
theorem dX1_takesGood_17 : decode cX1_takesGood 17 = .ok (.getfield 86, 3) := by decide +kernel
theorem dX1_takesGood_20 : decode cX1_takesGood 20 = .ok (.iconst 5, 1) := by decide +kernel
theorem dX1_takesGood_21 : decode cX1_takesGood 21 = .ok (.if_icmp .lt 5, 3) := by decide +kernel
theorem dX1_takesGood_24 : decode cX1_takesGood 24 = .ok (.iconst 0, 1) := by decide +kernel
theorem dX1_takesGood_25 : decode cX1_takesGood 25 = .ok (.ireturn, 1) := by decide +kernel
theorem dX1_takesGood_26 : decode cX1_takesGood 26 = .ok (.aload_n 0, 1) := by decide +kernel
theorem dX1_takesGood_27 : decode cX1_takesGood 27 = .ok (.getfield 12, 3) := by decide +kernel
theorem dX1_takesGood_30 : decode cX1_takesGood 30 = .ok (.getfield 89, 3) := by decide +kernel
theorem dX1_takesGood_33 : decode cX1_takesGood 33 = .ok (.aload_n 0, 1) := by decide +kernel
theorem dX1_takesGood_34 : decode cX1_takesGood 34 = .ok (.getfield 12, 3) := by decide +kernel
theorem dX1_takesGood_37 : decode cX1_takesGood 37 = .ok (.getfield 86, 3) := by decide +kernel
theorem dX1_takesGood_40 : decode cX1_takesGood 40 = .ok (.iload_n 1, 1) := by decide +kernel
theorem dX1_takesGood_41 : decode cX1_takesGood 41 = .ok (.bipush 48, 2) := by decide +kernel
theorem dX1_takesGood_43 : decode cX1_takesGood 43 = .ok (.isub, 1) := by decide +kernel
theorem dX1_takesGood_44 : decode cX1_takesGood 44 = .ok (.iastore, 1) := by decide +kernel
theorem dX1_takesGood_45 : decode cX1_takesGood 45 = .ok (.aload_n 0, 1) := by decide +kernel
theorem dX1_takesGood_46 : decode cX1_takesGood 46 = .ok (.getfield 12, 3) := by decide +kernel
theorem dX1_takesGood_49 : decode cX1_takesGood 49 = .ok (.dup, 1) := by decide +kernel
theorem dX1_takesGood_50 : decode cX1_takesGood 50 = .ok (.getfield 86, 3) := by decide +kernel
theorem dX1_takesGood_53 : decode cX1_takesGood 53 = .ok (.iconst 1, 1) := by decide +kernel
theorem dX1_takesGood_54 : decode cX1_takesGood 54 = .ok (.iadd, 1) := by decide +kernel
theorem dX1_takesGood_55 : decode cX1_takesGood 55 = .ok (.putfield 86, 3) := by decide +kernel
theorem dX1_takesGood_58 : decode cX1_takesGood 58 = .ok (.iconst 1, 1) := by decide +kernel
theorem dX1_takesGood_59 : decode cX1_takesGood 59 = .ok (.ireturn, 1) := by decide +kernel
theorem dX1_isDigit_0 : decode cX1_isDigit 0 = .ok (.iload_n 0, 1) := by decide +kernel
theorem dX1_isDigit_1 : decode cX1_isDigit 1 = .ok (.bipush 48, 2) := by decide +kernel
theorem dX1_isDigit_3 : decode cX1_isDigit 3 = .ok (.if_icmp .lt 13, 3) := by decide +kernel
theorem dX1_isDigit_6 : decode cX1_isDigit 6 = .ok (.iload_n 0, 1) := by decide +kernel
theorem dX1_isDigit_7 : decode cX1_isDigit 7 = .ok (.bipush 57, 2) := by decide +kernel
theorem dX1_isDigit_9 : decode cX1_isDigit 9 = .ok (.if_icmp .gt 7, 3) := by decide +kernel
theorem dX1_isDigit_12 : decode cX1_isDigit 12 = .ok (.iconst 1, 1) := by decide +kernel
theorem dX1_isDigit_13 : decode cX1_isDigit 13 = .ok (.goto 4, 3) := by decide +kernel
theorem dX1_isDigit_16 : decode cX1_isDigit 16 = .ok (.iconst 0, 1) := by decide +kernel
theorem dX1_isDigit_17 : decode cX1_isDigit 17 = .ok (.ireturn, 1) := by decide +kernel
theorem dX2_init_0 : decode cX2_init 0 = .ok (.aload_n 0, 1) := by decide +kernel
theorem dX2_init_1 : decode cX2_init 1 = .ok (.invokespecial 3, 3) := by decide +kernel
theorem dX2_init_4 : decode cX2_init 4 = .ok (.aload_n 0, 1) := by decide +kernel
theorem dX2_init_5 : decode cX2_init 5 = .ok (.bipush 8, 2) := by decide +kernel
theorem dX2_init_7 : decode cX2_init 7 = .ok (.newarray .int, 2) := by decide +kernel
theorem dX2_init_9 : decode cX2_init 9 = .ok (.putfield 9, 3) := by decide +kernel
theorem dX2_init_12 : decode cX2_init 12 = .ok (.aload_n 0, 1) := by decide +kernel
theorem dX2_init_13 : decode cX2_init 13 = .ok (.bipush 8, 2) := by decide +kernel
theorem dX2_init_15 : decode cX2_init 15 = .ok (.newarray .int, 2) := by decide +kernel
theorem dX2_init_17 : decode cX2_init 17 = .ok (.putfield 15, 3) := by decide +kernel
theorem dX2_init_20 : decode cX2_init 20 = .ok (.aload_n 0, 1) := by decide +kernel
theorem dX2_init_21 : decode cX2_init 21 = .ok (.bipush 8, 2) := by decide +kernel
theorem dX2_init_23 : decode cX2_init 23 = .ok (.newarray .int, 2) := by decide +kernel
theorem dX2_init_25 : decode cX2_init 25 = .ok (.putfield 18, 3) := by decide +kernel
theorem dX2_init_28 : decode cX2_init 28 = .ok (.aload_n 0, 1) := by decide +kernel
theorem dX2_init_29 : decode cX2_init 29 = .ok (.iconst 0, 1) := by decide +kernel
theorem dX2_init_30 : decode cX2_init 30 = .ok (.putfield 21, 3) := by decide +kernel
theorem dX2_init_33 : decode cX2_init 33 = .ok (.return_, 1) := by decide +kernel
theorem dX2_add_0 : decode cX2_add 0 = .ok (.aload_n 0, 1) := by decide +kernel
theorem dX2_add_1 : decode cX2_add 1 = .ok (.getfield 21, 3) := by decide +kernel
theorem dX2_add_4 : decode cX2_add 4 = .ok (.bipush 8, 2) := by decide +kernel
theorem dX2_add_6 : decode cX2_add 6 = .ok (.if_icmp .lt 6, 3) := by decide +kernel
theorem dX2_add_9 : decode cX2_add 9 = .ok (.bipush (-4), 2) := by decide +kernel
theorem dX2_add_11 : decode cX2_add 11 = .ok (.ireturn, 1) := by decide +kernel
theorem dX2_add_12 : decode cX2_add 12 = .ok (.aload_n 0, 1) := by decide +kernel
theorem dX2_add_13 : decode cX2_add 13 = .ok (.getfield 9, 3) := by decide +kernel
theorem dX2_add_16 : decode cX2_add 16 = .ok (.aload_n 0, 1) := by decide +kernel
theorem dX2_add_17 : decode cX2_add 17 = .ok (.getfield 21, 3) := by decide +kernel
theorem dX2_add_20 : decode cX2_add 20 = .ok (.iload_n 1, 1) := by decide +kernel
theorem dX2_add_21 : decode cX2_add 21 = .ok (.iastore, 1) := by decide +kernel
theorem dX2_add_22 : decode cX2_add 22 = .ok (.aload_n 0, 1) := by decide +kernel
theorem dX2_add_23 : decode cX2_add 23 = .ok (.getfield 15, 3) := by decide +kernel
theorem dX2_add_26 : decode cX2_add 26 = .ok (.aload_n 0, 1) := by decide +kernel
theorem dX2_add_27 : decode cX2_add 27 = .ok (.getfield 21, 3) := by decide +kernel
theorem dX2_add_30 : decode cX2_add 30 = .ok (.iload_n 2, 1) := by decide +kernel
theorem dX2_add_31 : decode cX2_add 31 = .ok (.iastore, 1) := by decide +kernel
theorem dX2_add_32 : decode cX2_add 32 = .ok (.aload_n 0, 1) := by decide +kernel
theorem dX2_add_33 : decode cX2_add 33 = .ok (.getfield 18, 3) := by decide +kernel
theorem dX2_add_36 : decode cX2_add 36 = .ok (.aload_n 0, 1) := by decide +kernel
theorem dX2_add_37 : decode cX2_add 37 = .ok (.getfield 21, 3) := by decide +kernel
theorem dX2_add_40 : decode cX2_add 40 = .ok (.iload_n 3, 1) := by decide +kernel
theorem dX2_add_41 : decode cX2_add 41 = .ok (.iastore, 1) := by decide +kernel
theorem dX2_add_42 : decode cX2_add 42 = .ok (.aload_n 0, 1) := by decide +kernel
theorem dX2_add_43 : decode cX2_add 43 = .ok (.dup, 1) := by decide +kernel
theorem dX2_add_44 : decode cX2_add 44 = .ok (.getfield 21, 3) := by decide +kernel
theorem dX2_add_47 : decode cX2_add 47 = .ok (.iconst 1, 1) := by decide +kernel
theorem dX2_add_48 : decode cX2_add 48 = .ok (.iadd, 1) := by decide +kernel
theorem dX2_add_49 : decode cX2_add 49 = .ok (.putfield 21, 3) := by decide +kernel
theorem dX2_add_52 : decode cX2_add 52 = .ok (.aload_n 0, 1) := by decide +kernel
theorem dX2_add_53 : decode cX2_add 53 = .ok (.getfield 21, 3) := by decide +kernel
theorem dX2_add_56 : decode cX2_add 56 = .ok (.iconst 1, 1) := by decide +kernel
theorem dX2_add_57 : decode cX2_add 57 = .ok (.isub, 1) := by decide +kernel
theorem dX2_add_58 : decode cX2_add 58 = .ok (.ireturn, 1) := by decide +kernel
theorem dX2_allAreSo_0 : decode cX2_allAreSo 0 = .ok (.iconst 0, 1) := by decide +kernel
theorem dX2_allAreSo_1 : decode cX2_allAreSo 1 = .ok (.istore_n 2, 1) := by decide +kernel
theorem dX2_allAreSo_2 : decode cX2_allAreSo 2 = .ok (.iload_n 2, 1) := by decide +kernel
theorem dX2_allAreSo_3 : decode cX2_allAreSo 3 = .ok (.aload_n 0, 1) := by decide +kernel
theorem dX2_allAreSo_4 : decode cX2_allAreSo 4 = .ok (.getfield 21, 3) := by decide +kernel
theorem dX2_allAreSo_7 : decode cX2_allAreSo 7 = .ok (.if_icmp .ge 46, 3) := by decide +kernel
theorem dX2_allAreSo_10 : decode cX2_allAreSo 10 = .ok (.aload_n 1, 1) := by decide +kernel
theorem dX2_allAreSo_11 : decode cX2_allAreSo 11 = .ok (.aload_n 0, 1) := by decide +kernel
theorem dX2_allAreSo_12 : decode cX2_allAreSo 12 = .ok (.getfield 9, 3) := by decide +kernel
theorem dX2_allAreSo_15 : decode cX2_allAreSo 15 = .ok (.iload_n 2, 1) := by decide +kernel
theorem dX2_allAreSo_16 : decode cX2_allAreSo 16 = .ok (.iaload, 1) := by decide +kernel
theorem dX2_allAreSo_17 : decode cX2_allAreSo 17 = .ok (.invokevirtual 25, 3) := by decide +kernel
theorem dX2_allAreSo_20 : decode cX2_allAreSo 20 = .ok (.astore_n 3, 1) := by decide +kernel
theorem dX2_allAreSo_21 : decode cX2_allAreSo 21 = .ok (.aload_n 3, 1) := by decide +kernel
theorem dX2_allAreSo_22 : decode cX2_allAreSo 22 = .ok (.ifnull 23, 3) := by decide +kernel
theorem dX2_allAreSo_25 : decode cX2_allAreSo 25 = .ok (.aload_n 1, 1) := by decide +kernel
theorem dX2_allAreSo_26 : decode cX2_allAreSo 26 = .ok (.aload_n 3, 1) := by decide +kernel
theorem dX2_allAreSo_27 : decode cX2_allAreSo 27 = .ok (.aload_n 0, 1) := by decide +kernel
theorem dX2_allAreSo_28 : decode cX2_allAreSo 28 = .ok (.getfield 15, 3) := by decide +kernel
theorem dX2_allAreSo_31 : decode cX2_allAreSo 31 = .ok (.iload_n 2, 1) := by decide +kernel
theorem dX2_allAreSo_32 : decode cX2_allAreSo 32 = .ok (.iaload, 1) := by decide +kernel
theorem dX2_allAreSo_33 : decode cX2_allAreSo 33 = .ok (.invokevirtual 31, 3) := by decide +kernel
theorem dX2_allAreSo_36 : decode cX2_allAreSo 36 = .ok (.aload_n 0, 1) := by decide +kernel
theorem dX2_allAreSo_37 : decode cX2_allAreSo 37 = .ok (.getfield 18, 3) := by decide +kernel
theorem dX2_allAreSo_40 : decode cX2_allAreSo 40 = .ok (.iload_n 2, 1) := by decide +kernel
theorem dX2_allAreSo_41 : decode cX2_allAreSo 41 = .ok (.iaload, 1) := by decide +kernel
theorem dX2_allAreSo_42 : decode cX2_allAreSo 42 = .ok (.if_icmp .eq 5, 3) := by decide +kernel
theorem dX2_allAreSo_45 : decode cX2_allAreSo 45 = .ok (.iconst 0, 1) := by decide +kernel
theorem dX2_allAreSo_46 : decode cX2_allAreSo 46 = .ok (.ireturn, 1) := by decide +kernel
theorem dX2_allAreSo_47 : decode cX2_allAreSo 47 = .ok (.iinc 2 1, 3) := by decide +kernel
theorem dX2_allAreSo_50 : decode cX2_allAreSo 50 = .ok (.goto (-48), 3) := by decide +kernel
theorem dX2_allAreSo_53 : decode cX2_allAreSo 53 = .ok (.iconst 1, 1) := by decide +kernel
theorem dX2_allAreSo_54 : decode cX2_allAreSo 54 = .ok (.ireturn, 1) := by decide +kernel
theorem dX3_init_0 : decode cX3_init 0 = .ok (.aload_n 0, 1) := by decide +kernel
theorem dX3_init_1 : decode cX3_init 1 = .ok (.invokespecial 3, 3) := by decide +kernel
theorem dX3_init_4 : decode cX3_init 4 = .ok (.aload_n 0, 1) := by decide +kernel
theorem dX3_init_5 : decode cX3_init 5 = .ok (.iload_n 1, 1) := by decide +kernel
theorem dX3_init_6 : decode cX3_init 6 = .ok (.putfield 9, 3) := by decide +kernel
theorem dX3_init_9 : decode cX3_init 9 = .ok (.aload_n 0, 1) := by decide +kernel
theorem dX3_init_10 : decode cX3_init 10 = .ok (.iconst 0, 1) := by decide +kernel
theorem dX3_init_11 : decode cX3_init 11 = .ok (.iload_n 2, 1) := by decide +kernel
theorem dX3_init_12 : decode cX3_init 12 = .ok (.invokestatic 15, 3) := by decide +kernel
theorem dX3_init_15 : decode cX3_init 15 = .ok (.newarray .int, 2) := by decide +kernel
theorem dX3_init_17 : decode cX3_init 17 = .ok (.putfield 21, 3) := by decide +kernel
theorem dX3_init_20 : decode cX3_init 20 = .ok (.return_, 1) := by decide +kernel
theorem dX3_hasCells_0 : decode cX3_hasCells 0 = .ok (.iload_n 1, 1) := by decide +kernel
theorem dX3_hasCells_1 : decode cX3_hasCells 1 = .ok (.ifCond .lt 31, 3) := by decide +kernel
theorem dX3_hasCells_4 : decode cX3_hasCells 4 = .ok (.iload_n 1, 1) := by decide +kernel
theorem dX3_hasCells_5 : decode cX3_hasCells 5 = .ok (.aload_n 0, 1) := by decide +kernel
theorem dX3_hasCells_6 : decode cX3_hasCells 6 = .ok (.getfield 21, 3) := by decide +kernel
theorem dX3_hasCells_9 : decode cX3_hasCells 9 = .ok (.arraylength, 1) := by decide +kernel
theorem dX3_hasCells_10 : decode cX3_hasCells 10 = .ok (.if_icmp .gt 22, 3) := by decide +kernel
theorem dX3_hasCells_13 : decode cX3_hasCells 13 = .ok (.iload_n 2, 1) := by decide +kernel
theorem dX3_hasCells_14 : decode cX3_hasCells 14 = .ok (.ifCond .lt 18, 3) := by decide +kernel
theorem dX3_hasCells_17 : decode cX3_hasCells 17 = .ok (.iload_n 2, 1) := by decide +kernel
theorem dX3_hasCells_18 : decode cX3_hasCells 18 = .ok (.aload_n 0, 1) := by decide +kernel
theorem dX3_hasCells_19 : decode cX3_hasCells 19 = .ok (.getfield 21, 3) := by decide +kernel
theorem dX3_hasCells_22 : decode cX3_hasCells 22 = .ok (.arraylength, 1) := by decide +kernel
theorem dX3_hasCells_23 : decode cX3_hasCells 23 = .ok (.iload_n 1, 1) := by decide +kernel
theorem dX3_hasCells_24 : decode cX3_hasCells 24 = .ok (.isub, 1) := by decide +kernel
theorem dX3_hasCells_25 : decode cX3_hasCells 25 = .ok (.if_icmp .gt 7, 3) := by decide +kernel
theorem dX3_hasCells_28 : decode cX3_hasCells 28 = .ok (.iconst 1, 1) := by decide +kernel
theorem dX3_hasCells_29 : decode cX3_hasCells 29 = .ok (.goto 4, 3) := by decide +kernel
theorem dX3_hasCells_32 : decode cX3_hasCells 32 = .ok (.iconst 0, 1) := by decide +kernel
theorem dX3_hasCells_33 : decode cX3_hasCells 33 = .ok (.ireturn, 1) := by decide +kernel
theorem dX3_cut_0 : decode cX3_cut 0 = .ok (.aload_n 0, 1) := by decide +kernel
theorem dX3_cut_1 : decode cX3_cut 1 = .ok (.getfield 9, 3) := by decide +kernel
theorem dX3_cut_4 : decode cX3_cut 4 = .ok (.lookupswitch 34 #[(0, 28), (1, 31)], 28) := by decide +kernel
theorem dX3_cut_32 : decode cX3_cut 32 = .ok (.iload_n 1, 1) := by decide +kernel
theorem dX3_cut_33 : decode cX3_cut 33 = .ok (.i2b, 1) := by decide +kernel
theorem dX3_cut_34 : decode cX3_cut 34 = .ok (.ireturn, 1) := by decide +kernel
theorem dX3_cut_35 : decode cX3_cut 35 = .ok (.iload_n 1, 1) := by decide +kernel
theorem dX3_cut_36 : decode cX3_cut 36 = .ok (.i2s, 1) := by decide +kernel
theorem dX3_cut_37 : decode cX3_cut 37 = .ok (.ireturn, 1) := by decide +kernel
theorem dX3_cut_38 : decode cX3_cut 38 = .ok (.iload_n 1, 1) := by decide +kernel
theorem dX3_cut_39 : decode cX3_cut 39 = .ok (.ireturn, 1) := by decide +kernel
theorem dX4_init_0 : decode cX4_init 0 = .ok (.aload_n 0, 1) := by decide +kernel
theorem dX4_init_1 : decode cX4_init 1 = .ok (.invokespecial 3, 3) := by decide +kernel
theorem dX4_init_4 : decode cX4_init 4 = .ok (.aload_n 0, 1) := by decide +kernel
theorem dX4_init_5 : decode cX4_init 5 = .ok (.bipush 6, 2) := by decide +kernel
theorem dX4_init_7 : decode cX4_init 7 = .ok (.bipush 32, 2) := by decide +kernel
theorem dX4_init_9 : decode cX4_init 9 = .ok (.multianewarray 11 2, 4) := by decide +kernel
theorem dX4_init_13 : decode cX4_init 13 = .ok (.putfield 13, 3) := by decide +kernel
theorem dX4_init_16 : decode cX4_init 16 = .ok (.aload_n 0, 1) := by decide +kernel
theorem dX4_init_17 : decode cX4_init 17 = .ok (.iconst 5, 1) := by decide +kernel
theorem dX4_init_18 : decode cX4_init 18 = .ok (.newarray .int, 2) := by decide +kernel
theorem dX4_init_20 : decode cX4_init 20 = .ok (.putfield 16, 3) := by decide +kernel
theorem dX4_init_23 : decode cX4_init 23 = .ok (.return_, 1) := by decide +kernel
theorem dX4_weigh_0 : decode cX4_weigh 0 = .ok (.aload_n 1, 1) := by decide +kernel
theorem dX4_weigh_1 : decode cX4_weigh 1 = .ok (.getfield 20, 3) := by decide +kernel
theorem dX4_weigh_4 : decode cX4_weigh 4 = .ok (.istore_n 3, 1) := by decide +kernel
theorem dX4_weigh_5 : decode cX4_weigh 5 = .ok (.iconst 0, 1) := by decide +kernel
theorem dX4_weigh_6 : decode cX4_weigh 6 = .ok (.istore 4, 2) := by decide +kernel
theorem dX4_weigh_8 : decode cX4_weigh 8 = .ok (.iload 4, 2) := by decide +kernel
theorem dX4_weigh_10 : decode cX4_weigh 10 = .ok (.bipush 32, 2) := by decide +kernel
theorem dX4_weigh_12 : decode cX4_weigh 12 = .ok (.if_icmp .ge 19, 3) := by decide +kernel
theorem dX4_weigh_15 : decode cX4_weigh 15 = .ok (.aload_n 0, 1) := by decide +kernel
theorem dX4_weigh_16 : decode cX4_weigh 16 = .ok (.getfield 13, 3) := by decide +kernel
theorem dX4_weigh_19 : decode cX4_weigh 19 = .ok (.iload_n 3, 1) := by decide +kernel
theorem dX4_weigh_20 : decode cX4_weigh 20 = .ok (.aaload, 1) := by decide +kernel
theorem dX4_weigh_21 : decode cX4_weigh 21 = .ok (.iload 4, 2) := by decide +kernel
theorem dX4_weigh_23 : decode cX4_weigh 23 = .ok (.iconst 0, 1) := by decide +kernel
theorem dX4_weigh_24 : decode cX4_weigh 24 = .ok (.iastore, 1) := by decide +kernel
theorem dX4_weigh_25 : decode cX4_weigh 25 = .ok (.iinc 4 1, 3) := by decide +kernel
theorem dX4_weigh_28 : decode cX4_weigh 28 = .ok (.goto (-20), 3) := by decide +kernel
theorem dX4_weigh_31 : decode cX4_weigh 31 = .ok (.iload_n 3, 1) := by decide +kernel
theorem dX4_weigh_32 : decode cX4_weigh 32 = .ok (.iconst 1, 1) := by decide +kernel
theorem dX4_weigh_33 : decode cX4_weigh 33 = .ok (.isub, 1) := by decide +kernel
theorem dX4_weigh_34 : decode cX4_weigh 34 = .ok (.istore 4, 2) := by decide +kernel
theorem dX4_weigh_36 : decode cX4_weigh 36 = .ok (.iload 4, 2) := by decide +kernel
theorem dX4_weigh_38 : decode cX4_weigh 38 = .ok (.ifCond .lt 75, 3) := by decide +kernel
theorem dX4_weigh_41 : decode cX4_weigh 41 = .ok (.aload_n 1, 1) := by decide +kernel
theorem dX4_weigh_42 : decode cX4_weigh 42 = .ok (.iload 4, 2) := by decide +kernel
theorem dX4_weigh_44 : decode cX4_weigh 44 = .ok (.invokevirtual 26, 3) := by decide +kernel
theorem dX4_weigh_47 : decode cX4_weigh 47 = .ok (.astore 5, 2) := by decide +kernel
theorem dX4_weigh_49 : decode cX4_weigh 49 = .ok (.aload_n 0, 1) := by decide +kernel
theorem dX4_weigh_50 : decode cX4_weigh 50 = .ok (.getfield 16, 3) := by decide +kernel
theorem dX4_weigh_53 : decode cX4_weigh 53 = .ok (.iload 4, 2) := by decide +kernel
theorem dX4_weigh_55 : decode cX4_weigh 55 = .ok (.aload 5, 2) := by decide +kernel
theorem dX4_weigh_57 : decode cX4_weigh 57 = .ok (.ifnonnull 7, 3) := by decide +kernel
theorem dX4_weigh_60 : decode cX4_weigh 60 = .ok (.iconst 0, 1) := by decide +kernel
theorem dX4_weigh_61 : decode cX4_weigh 61 = .ok (.goto 10, 3) := by decide +kernel
theorem dX4_weigh_64 : decode cX4_weigh 64 = .ok (.aload_n 1, 1) := by decide +kernel
theorem dX4_weigh_65 : decode cX4_weigh 65 = .ok (.aload 5, 2) := by decide +kernel
theorem dX4_weigh_67 : decode cX4_weigh 67 = .ok (.iload_n 2, 1) := by decide +kernel
theorem dX4_weigh_68 : decode cX4_weigh 68 = .ok (.invokevirtual 30, 3) := by decide +kernel
theorem dX4_weigh_71 : decode cX4_weigh 71 = .ok (.iastore, 1) := by decide +kernel
theorem dX4_weigh_72 : decode cX4_weigh 72 = .ok (.iconst 0, 1) := by decide +kernel
theorem dX4_weigh_73 : decode cX4_weigh 73 = .ok (.istore 6, 2) := by decide +kernel
theorem dX4_weigh_75 : decode cX4_weigh 75 = .ok (.iload 6, 2) := by decide +kernel
theorem dX4_weigh_77 : decode cX4_weigh 77 = .ok (.bipush 32, 2) := by decide +kernel
theorem dX4_weigh_79 : decode cX4_weigh 79 = .ok (.if_icmp .ge 28, 3) := by decide +kernel
theorem dX4_weigh_82 : decode cX4_weigh 82 = .ok (.aload_n 0, 1) := by decide +kernel
theorem dX4_weigh_83 : decode cX4_weigh 83 = .ok (.getfield 13, 3) := by decide +kernel
theorem dX4_weigh_86 : decode cX4_weigh 86 = .ok (.iload 4, 2) := by decide +kernel
theorem dX4_weigh_88 : decode cX4_weigh 88 = .ok (.aaload, 1) := by decide +kernel
theorem dX4_weigh_89 : decode cX4_weigh 89 = .ok (.iload 6, 2) := by decide +kernel
theorem dX4_weigh_91 : decode cX4_weigh 91 = .ok (.aload_n 0, 1) := by decide +kernel
theorem dX4_weigh_92 : decode cX4_weigh 92 = .ok (.aload_n 1, 1) := by decide +kernel
theorem dX4_weigh_93 : decode cX4_weigh 93 = .ok (.iload 4, 2) := by decide +kernel
theorem dX4_weigh_95 : decode cX4_weigh 95 = .ok (.iload 6, 2) := by decide +kernel
theorem dX4_weigh_97 : decode cX4_weigh 97 = .ok (.invokevirtual 34, 3) := by decide +kernel
theorem dX4_weigh_100 : decode cX4_weigh 100 = .ok (.iastore, 1) := by decide +kernel
theorem dX4_weigh_101 : decode cX4_weigh 101 = .ok (.iinc 6 1, 3) := by decide +kernel
theorem dX4_weigh_104 : decode cX4_weigh 104 = .ok (.goto (-29), 3) := by decide +kernel
theorem dX4_weigh_107 : decode cX4_weigh 107 = .ok (.iinc 4 (-1), 3) := by decide +kernel
theorem dX4_weigh_110 : decode cX4_weigh 110 = .ok (.goto (-74), 3) := by decide +kernel
theorem dX4_weigh_113 : decode cX4_weigh 113 = .ok (.return_, 1) := by decide +kernel
theorem dX4_mostWith_0 : decode cX4_mostWith 0 = .ok (.aload_n 0, 1) := by decide +kernel
theorem dX4_mostWith_1 : decode cX4_mostWith 1 = .ok (.getfield 13, 3) := by decide +kernel
theorem dX4_mostWith_4 : decode cX4_mostWith 4 = .ok (.iload_n 2, 1) := by decide +kernel
theorem dX4_mostWith_5 : decode cX4_mostWith 5 = .ok (.iconst 1, 1) := by decide +kernel
theorem dX4_mostWith_6 : decode cX4_mostWith 6 = .ok (.iadd, 1) := by decide +kernel
theorem dX4_mostWith_7 : decode cX4_mostWith 7 = .ok (.aaload, 1) := by decide +kernel
theorem dX4_mostWith_8 : decode cX4_mostWith 8 = .ok (.iload_n 3, 1) := by decide +kernel
theorem dX4_mostWith_9 : decode cX4_mostWith 9 = .ok (.iaload, 1) := by decide +kernel
theorem dX4_mostWith_10 : decode cX4_mostWith 10 = .ok (.istore 4, 2) := by decide +kernel
theorem dX4_mostWith_12 : decode cX4_mostWith 12 = .ok (.iconst 0, 1) := by decide +kernel
theorem dX4_mostWith_13 : decode cX4_mostWith 13 = .ok (.istore 5, 2) := by decide +kernel
theorem dX4_mostWith_15 : decode cX4_mostWith 15 = .ok (.iload 5, 2) := by decide +kernel
theorem dX4_mostWith_17 : decode cX4_mostWith 17 = .ok (.aload_n 1, 1) := by decide +kernel
theorem dX4_mostWith_18 : decode cX4_mostWith 18 = .ok (.getfield 38, 3) := by decide +kernel
theorem dX4_mostWith_21 : decode cX4_mostWith 21 = .ok (.if_icmp .ge 36, 3) := by decide +kernel
theorem dX4_mostWith_24 : decode cX4_mostWith 24 = .ok (.aload_n 0, 1) := by decide +kernel
theorem dX4_mostWith_25 : decode cX4_mostWith 25 = .ok (.iload_n 2, 1) := by decide +kernel
theorem dX4_mostWith_26 : decode cX4_mostWith 26 = .ok (.iload 5, 2) := by decide +kernel
theorem dX4_mostWith_28 : decode cX4_mostWith 28 = .ok (.iload_n 3, 1) := by decide +kernel
theorem dX4_mostWith_29 : decode cX4_mostWith 29 = .ok (.invokevirtual 41, 3) := by decide +kernel
theorem dX4_mostWith_32 : decode cX4_mostWith 32 = .ok (.ifCond .eq 19, 3) := by decide +kernel
theorem dX4_mostWith_35 : decode cX4_mostWith 35 = .ok (.iload 4, 2) := by decide +kernel
theorem dX4_mostWith_37 : decode cX4_mostWith 37 = .ok (.aload_n 0, 1) := by decide +kernel
theorem dX4_mostWith_38 : decode cX4_mostWith 38 = .ok (.aload_n 1, 1) := by decide +kernel
theorem dX4_mostWith_39 : decode cX4_mostWith 39 = .ok (.iload_n 2, 1) := by decide +kernel
theorem dX4_mostWith_40 : decode cX4_mostWith 40 = .ok (.iload 5, 2) := by decide +kernel
theorem dX4_mostWith_42 : decode cX4_mostWith 42 = .ok (.iload_n 3, 1) := by decide +kernel
theorem dX4_mostWith_43 : decode cX4_mostWith 43 = .ok (.invokevirtual 45, 3) := by decide +kernel
theorem dX4_mostWith_46 : decode cX4_mostWith 46 = .ok (.invokestatic 49, 3) := by decide +kernel
theorem dX4_mostWith_49 : decode cX4_mostWith 49 = .ok (.istore 4, 2) := by decide +kernel
theorem dX4_mostWith_51 : decode cX4_mostWith 51 = .ok (.iinc 5 1, 3) := by decide +kernel
theorem dX4_mostWith_54 : decode cX4_mostWith 54 = .ok (.goto (-39), 3) := by decide +kernel
theorem dX4_mostWith_57 : decode cX4_mostWith 57 = .ok (.iload 4, 2) := by decide +kernel
theorem dX4_mostWith_59 : decode cX4_mostWith 59 = .ok (.ireturn, 1) := by decide +kernel
theorem dX4_isFree_0 : decode cX4_isFree 0 = .ok (.aload_n 0, 1) := by decide +kernel
theorem dX4_isFree_1 : decode cX4_isFree 1 = .ok (.getfield 16, 3) := by decide +kernel
theorem dX4_isFree_4 : decode cX4_isFree 4 = .ok (.iload_n 1, 1) := by decide +kernel
theorem dX4_isFree_5 : decode cX4_isFree 5 = .ok (.iaload, 1) := by decide +kernel
theorem dX4_isFree_6 : decode cX4_isFree 6 = .ok (.iload_n 3, 1) := by decide +kernel
theorem dX4_isFree_7 : decode cX4_isFree 7 = .ok (.iconst (-1), 1) := by decide +kernel
theorem dX4_isFree_8 : decode cX4_isFree 8 = .ok (.ixor, 1) := by decide +kernel
theorem dX4_isFree_9 : decode cX4_isFree 9 = .ok (.iand, 1) := by decide +kernel
theorem dX4_isFree_10 : decode cX4_isFree 10 = .ok (.iconst 1, 1) := by decide +kernel
theorem dX4_isFree_11 : decode cX4_isFree 11 = .ok (.iload_n 2, 1) := by decide +kernel
theorem dX4_isFree_12 : decode cX4_isFree 12 = .ok (.ishl, 1) := by decide +kernel
theorem dX4_isFree_13 : decode cX4_isFree 13 = .ok (.iand, 1) := by decide +kernel
theorem dX4_isFree_14 : decode cX4_isFree 14 = .ok (.ifCond .eq 7, 3) := by decide +kernel
theorem dX4_isFree_17 : decode cX4_isFree 17 = .ok (.iconst 1, 1) := by decide +kernel
theorem dX4_isFree_18 : decode cX4_isFree 18 = .ok (.goto 4, 3) := by decide +kernel
theorem dX4_isFree_21 : decode cX4_isFree 21 = .ok (.iconst 0, 1) := by decide +kernel
theorem dX4_isFree_22 : decode cX4_isFree 22 = .ok (.ireturn, 1) := by decide +kernel
theorem dX4_withGood_0 : decode cX4_withGood 0 = .ok (.aload_n 1, 1) := by decide +kernel
theorem dX4_withGood_1 : decode cX4_withGood 1 = .ok (.getfield 55, 3) := by decide +kernel
theorem dX4_withGood_4 : decode cX4_withGood 4 = .ok (.iload_n 3, 1) := by decide +kernel
theorem dX4_withGood_5 : decode cX4_withGood 5 = .ok (.iaload, 1) := by decide +kernel
theorem dX4_withGood_6 : decode cX4_withGood 6 = .ok (.aload_n 0, 1) := by decide +kernel
theorem dX4_withGood_7 : decode cX4_withGood 7 = .ok (.getfield 13, 3) := by decide +kernel
theorem dX4_withGood_10 : decode cX4_withGood 10 = .ok (.iload_n 2, 1) := by decide +kernel
theorem dX4_withGood_11 : decode cX4_withGood 11 = .ok (.iconst 1, 1) := by decide +kernel
theorem dX4_withGood_12 : decode cX4_withGood 12 = .ok (.iadd, 1) := by decide +kernel
theorem dX4_withGood_13 : decode cX4_withGood 13 = .ok (.aaload, 1) := by decide +kernel
theorem dX4_withGood_14 : decode cX4_withGood 14 = .ok (.iload 4, 2) := by decide +kernel
theorem dX4_withGood_16 : decode cX4_withGood 16 = .ok (.iconst 1, 1) := by decide +kernel
theorem dX4_withGood_17 : decode cX4_withGood 17 = .ok (.iload_n 3, 1) := by decide +kernel
theorem dX4_withGood_18 : decode cX4_withGood 18 = .ok (.ishl, 1) := by decide +kernel
theorem dX4_withGood_19 : decode cX4_withGood 19 = .ok (.ior, 1) := by decide +kernel
theorem dX4_withGood_20 : decode cX4_withGood 20 = .ok (.iaload, 1) := by decide +kernel
theorem dX4_withGood_21 : decode cX4_withGood 21 = .ok (.iadd, 1) := by decide +kernel
theorem dX4_withGood_22 : decode cX4_withGood 22 = .ok (.ireturn, 1) := by decide +kernel
theorem dX4_most_0 : decode cX4_most 0 = .ok (.aload_n 0, 1) := by decide +kernel
theorem dX4_most_1 : decode cX4_most 1 = .ok (.getfield 13, 3) := by decide +kernel
theorem dX4_most_4 : decode cX4_most 4 = .ok (.iconst 0, 1) := by decide +kernel
theorem dX4_most_5 : decode cX4_most 5 = .ok (.aaload, 1) := by decide +kernel
theorem dX4_most_6 : decode cX4_most 6 = .ok (.iconst 0, 1) := by decide +kernel
theorem dX4_most_7 : decode cX4_most 7 = .ok (.iaload, 1) := by decide +kernel
theorem dX4_most_8 : decode cX4_most 8 = .ok (.ireturn, 1) := by decide +kernel
theorem dX4_goodOf_0 : decode cX4_goodOf 0 = .ok (.iconst 0, 1) := by decide +kernel
theorem dX4_goodOf_1 : decode cX4_goodOf 1 = .ok (.istore_n 3, 1) := by decide +kernel
theorem dX4_goodOf_2 : decode cX4_goodOf 2 = .ok (.bipush (-9), 2) := by decide +kernel
theorem dX4_goodOf_4 : decode cX4_goodOf 4 = .ok (.istore 4, 2) := by decide +kernel
theorem dX4_goodOf_6 : decode cX4_goodOf 6 = .ok (.iconst 0, 1) := by decide +kernel
theorem dX4_goodOf_7 : decode cX4_goodOf 7 = .ok (.istore 5, 2) := by decide +kernel
theorem dX4_goodOf_9 : decode cX4_goodOf 9 = .ok (.iload 5, 2) := by decide +kernel
theorem dX4_goodOf_11 : decode cX4_goodOf 11 = .ok (.iload_n 2, 1) := by decide +kernel
theorem dX4_goodOf_12 : decode cX4_goodOf 12 = .ok (.if_icmp .gt 51, 3) := by decide +kernel
theorem dX4_goodOf_15 : decode cX4_goodOf 15 = .ok (.iload 5, 2) := by decide +kernel
theorem dX4_goodOf_17 : decode cX4_goodOf 17 = .ok (.aload_n 1, 1) := by decide +kernel
theorem dX4_goodOf_18 : decode cX4_goodOf 18 = .ok (.getfield 20, 3) := by decide +kernel
theorem dX4_goodOf_21 : decode cX4_goodOf 21 = .ok (.if_icmp .ge 14, 3) := by decide +kernel
theorem dX4_goodOf_24 : decode cX4_goodOf 24 = .ok (.aload_n 0, 1) := by decide +kernel
theorem dX4_goodOf_25 : decode cX4_goodOf 25 = .ok (.aload_n 1, 1) := by decide +kernel
theorem dX4_goodOf_26 : decode cX4_goodOf 26 = .ok (.iload 5, 2) := by decide +kernel
theorem dX4_goodOf_28 : decode cX4_goodOf 28 = .ok (.iload_n 3, 1) := by decide +kernel
theorem dX4_goodOf_29 : decode cX4_goodOf 29 = .ok (.invokevirtual 58, 3) := by decide +kernel
theorem dX4_goodOf_32 : decode cX4_goodOf 32 = .ok (.goto 5, 3) := by decide +kernel
theorem dX4_goodOf_35 : decode cX4_goodOf 35 = .ok (.bipush (-9), 2) := by decide +kernel
theorem dX4_goodOf_37 : decode cX4_goodOf 37 = .ok (.istore 4, 2) := by decide +kernel
theorem dX4_goodOf_39 : decode cX4_goodOf 39 = .ok (.iload_n 3, 1) := by decide +kernel
theorem dX4_goodOf_40 : decode cX4_goodOf 40 = .ok (.iload 4, 2) := by decide +kernel
theorem dX4_goodOf_42 : decode cX4_goodOf 42 = .ok (.bipush (-9), 2) := by decide +kernel
theorem dX4_goodOf_44 : decode cX4_goodOf 44 = .ok (.if_icmp .ne 7, 3) := by decide +kernel
theorem dX4_goodOf_47 : decode cX4_goodOf 47 = .ok (.iconst 0, 1) := by decide +kernel
theorem dX4_goodOf_48 : decode cX4_goodOf 48 = .ok (.goto 7, 3) := by decide +kernel
theorem dX4_goodOf_51 : decode cX4_goodOf 51 = .ok (.iconst 1, 1) := by decide +kernel
theorem dX4_goodOf_52 : decode cX4_goodOf 52 = .ok (.iload 4, 2) := by decide +kernel
theorem dX4_goodOf_54 : decode cX4_goodOf 54 = .ok (.ishl, 1) := by decide +kernel
theorem dX4_goodOf_55 : decode cX4_goodOf 55 = .ok (.ior, 1) := by decide +kernel
theorem dX4_goodOf_56 : decode cX4_goodOf 56 = .ok (.istore_n 3, 1) := by decide +kernel
theorem dX4_goodOf_57 : decode cX4_goodOf 57 = .ok (.iinc 5 1, 3) := by decide +kernel
theorem dX4_goodOf_60 : decode cX4_goodOf 60 = .ok (.goto (-51), 3) := by decide +kernel
theorem dX4_goodOf_63 : decode cX4_goodOf 63 = .ok (.iload 4, 2) := by decide +kernel
theorem dX4_goodOf_65 : decode cX4_goodOf 65 = .ok (.ireturn, 1) := by decide +kernel
theorem dX4_firstGood_0 : decode cX4_firstGood 0 = .ok (.iconst 0, 1) := by decide +kernel
theorem dX4_firstGood_1 : decode cX4_firstGood 1 = .ok (.istore 4, 2) := by decide +kernel
theorem dX4_firstGood_3 : decode cX4_firstGood 3 = .ok (.iload 4, 2) := by decide +kernel
theorem dX4_firstGood_5 : decode cX4_firstGood 5 = .ok (.aload_n 1, 1) := by decide +kernel
theorem dX4_firstGood_6 : decode cX4_firstGood 6 = .ok (.getfield 38, 3) := by decide +kernel
theorem dX4_firstGood_9 : decode cX4_firstGood 9 = .ok (.if_icmp .ge 43, 3) := by decide +kernel
theorem dX4_firstGood_12 : decode cX4_firstGood 12 = .ok (.aload_n 0, 1) := by decide +kernel
theorem dX4_firstGood_13 : decode cX4_firstGood 13 = .ok (.iload_n 2, 1) := by decide +kernel
theorem dX4_firstGood_14 : decode cX4_firstGood 14 = .ok (.iload 4, 2) := by decide +kernel
theorem dX4_firstGood_16 : decode cX4_firstGood 16 = .ok (.iload_n 3, 1) := by decide +kernel
theorem dX4_firstGood_17 : decode cX4_firstGood 17 = .ok (.invokevirtual 41, 3) := by decide +kernel
theorem dX4_firstGood_20 : decode cX4_firstGood 20 = .ok (.ifCond .eq 26, 3) := by decide +kernel
theorem dX4_firstGood_23 : decode cX4_firstGood 23 = .ok (.aload_n 0, 1) := by decide +kernel
theorem dX4_firstGood_24 : decode cX4_firstGood 24 = .ok (.aload_n 1, 1) := by decide +kernel
theorem dX4_firstGood_25 : decode cX4_firstGood 25 = .ok (.iload_n 2, 1) := by decide +kernel
theorem dX4_firstGood_26 : decode cX4_firstGood 26 = .ok (.iload 4, 2) := by decide +kernel
theorem dX4_firstGood_28 : decode cX4_firstGood 28 = .ok (.iload_n 3, 1) := by decide +kernel
theorem dX4_firstGood_29 : decode cX4_firstGood 29 = .ok (.invokevirtual 45, 3) := by decide +kernel
theorem dX4_firstGood_32 : decode cX4_firstGood 32 = .ok (.aload_n 0, 1) := by decide +kernel
theorem dX4_firstGood_33 : decode cX4_firstGood 33 = .ok (.getfield 13, 3) := by decide +kernel
theorem dX4_firstGood_36 : decode cX4_firstGood 36 = .ok (.iload_n 2, 1) := by decide +kernel
theorem dX4_firstGood_37 : decode cX4_firstGood 37 = .ok (.aaload, 1) := by decide +kernel
theorem dX4_firstGood_38 : decode cX4_firstGood 38 = .ok (.iload_n 3, 1) := by decide +kernel
theorem dX4_firstGood_39 : decode cX4_firstGood 39 = .ok (.iaload, 1) := by decide +kernel
theorem dX4_firstGood_40 : decode cX4_firstGood 40 = .ok (.if_icmp .ne 6, 3) := by decide +kernel
theorem dX4_firstGood_43 : decode cX4_firstGood 43 = .ok (.iload 4, 2) := by decide +kernel
theorem dX4_firstGood_45 : decode cX4_firstGood 45 = .ok (.ireturn, 1) := by decide +kernel
theorem dX4_firstGood_46 : decode cX4_firstGood 46 = .ok (.iinc 4 1, 3) := by decide +kernel
theorem dX4_firstGood_49 : decode cX4_firstGood 49 = .ok (.goto (-46), 3) := by decide +kernel
theorem dX4_firstGood_52 : decode cX4_firstGood 52 = .ok (.bipush (-9), 2) := by decide +kernel
theorem dX4_firstGood_54 : decode cX4_firstGood 54 = .ok (.ireturn, 1) := by decide +kernel
theorem dX5_init_0 : decode cX5_init 0 = .ok (.aload_n 0, 1) := by decide +kernel
theorem dX5_init_1 : decode cX5_init 1 = .ok (.iload_n 1, 1) := by decide +kernel
theorem dX5_init_2 : decode cX5_init 2 = .ok (.iload_n 2, 1) := by decide +kernel
theorem dX5_init_3 : decode cX5_init 3 = .ok (.iload_n 3, 1) := by decide +kernel
theorem dX5_init_4 : decode cX5_init 4 = .ok (.invokespecial 3, 3) := by decide +kernel
theorem dX5_init_7 : decode cX5_init 7 = .ok (.return_, 1) := by decide +kernel
theorem dX5_kindNumber_0 : decode cX5_kindNumber 0 = .ok (.iconst 1, 1) := by decide +kernel
theorem dX5_kindNumber_1 : decode cX5_kindNumber 1 = .ok (.ireturn, 1) := by decide +kernel
theorem dX5_drainBy_0 : decode cX5_drainBy 0 = .ok (.iconst 0, 1) := by decide +kernel
theorem dX5_drainBy_1 : decode cX5_drainBy 1 = .ok (.iload_n 1, 1) := by decide +kernel
theorem dX5_drainBy_2 : decode cX5_drainBy 2 = .ok (.aload_n 0, 1) := by decide +kernel
theorem dX5_drainBy_3 : decode cX5_drainBy 3 = .ok (.getfield 9, 3) := by decide +kernel
theorem dX5_drainBy_6 : decode cX5_drainBy 6 = .ok (.iadd, 1) := by decide +kernel
theorem dX5_drainBy_7 : decode cX5_drainBy 7 = .ok (.iconst 1, 1) := by decide +kernel
theorem dX5_drainBy_8 : decode cX5_drainBy 8 = .ok (.isub, 1) := by decide +kernel
theorem dX5_drainBy_9 : decode cX5_drainBy 9 = .ok (.invokestatic 15, 3) := by decide +kernel
theorem dX5_drainBy_12 : decode cX5_drainBy 12 = .ok (.ireturn, 1) := by decide +kernel
theorem dX5_telling_0 : decode cX5_telling 0 = .ok (.aload_n 1, 1) := by decide +kernel
theorem dX5_telling_1 : decode cX5_telling 1 = .ok (.iconst 2, 1) := by decide +kernel
theorem dX5_telling_2 : decode cX5_telling 2 = .ok (.invokevirtual 21, 3) := by decide +kernel
theorem dX5_telling_5 : decode cX5_telling 5 = .ok (.aload_n 0, 1) := by decide +kernel
theorem dX5_telling_6 : decode cX5_telling 6 = .ok (.aload_n 1, 1) := by decide +kernel
theorem dX5_telling_7 : decode cX5_telling 7 = .ok (.invokevirtual 27, 3) := by decide +kernel
theorem dX5_telling_10 : decode cX5_telling 10 = .ok (.bipush 100, 2) := by decide +kernel
theorem dX5_telling_12 : decode cX5_telling 12 = .ok (.iadd, 1) := by decide +kernel
theorem dX5_telling_13 : decode cX5_telling 13 = .ok (.ireturn, 1) := by decide +kernel
theorem dX6_init_0 : decode cX6_init 0 = .ok (.aload_n 0, 1) := by decide +kernel
theorem dX6_init_1 : decode cX6_init 1 = .ok (.invokespecial 3, 3) := by decide +kernel
theorem dX6_init_4 : decode cX6_init 4 = .ok (.aload_n 0, 1) := by decide +kernel
theorem dX6_init_5 : decode cX6_init 5 = .ok (.iload_n 1, 1) := by decide +kernel
theorem dX6_init_6 : decode cX6_init 6 = .ok (.putfield 9, 3) := by decide +kernel
theorem dX6_init_9 : decode cX6_init 9 = .ok (.aload_n 0, 1) := by decide +kernel
theorem dX6_init_10 : decode cX6_init 10 = .ok (.iload_n 2, 1) := by decide +kernel
theorem dX6_init_11 : decode cX6_init 11 = .ok (.putfield 15, 3) := by decide +kernel
theorem dX6_init_14 : decode cX6_init 14 = .ok (.aload_n 0, 1) := by decide +kernel
theorem dX6_init_15 : decode cX6_init 15 = .ok (.iload_n 3, 1) := by decide +kernel
theorem dX6_init_16 : decode cX6_init 16 = .ok (.putfield 18, 3) := by decide +kernel
theorem dX6_init_19 : decode cX6_init 19 = .ok (.return_, 1) := by decide +kernel
theorem dX6_kindNumber_0 : decode cX6_kindNumber 0 = .ok (.iconst 0, 1) := by decide +kernel
theorem dX6_kindNumber_1 : decode cX6_kindNumber 1 = .ok (.ireturn, 1) := by decide +kernel
theorem dX6_drainBy_0 : decode cX6_drainBy 0 = .ok (.iload_n 1, 1) := by decide +kernel
theorem dX6_drainBy_1 : decode cX6_drainBy 1 = .ok (.aload_n 0, 1) := by decide +kernel
theorem dX6_drainBy_2 : decode cX6_drainBy 2 = .ok (.getfield 18, 3) := by decide +kernel
theorem dX6_drainBy_5 : decode cX6_drainBy 5 = .ok (.iadd, 1) := by decide +kernel
theorem dX6_drainBy_6 : decode cX6_drainBy 6 = .ok (.ireturn, 1) := by decide +kernel
theorem dX6_telling_0 : decode cX6_telling 0 = .ok (.aload_n 0, 1) := by decide +kernel
theorem dX6_telling_1 : decode cX6_telling 1 = .ok (.aload_n 1, 1) := by decide +kernel
theorem dX6_telling_2 : decode cX6_telling 2 = .ok (.invokevirtual 21, 3) := by decide +kernel
theorem dX6_telling_5 : decode cX6_telling 5 = .ok (.ireturn, 1) := by decide +kernel
theorem dX6_takersTelling_0 : decode cX6_takersTelling 0 = .ok (.aload_n 1, 1) := by decide +kernel
theorem dX6_takersTelling_1 : decode cX6_takersTelling 1 = .ok (.iconst 1, 1) := by decide +kernel
theorem dX6_takersTelling_2 : decode cX6_takersTelling 2 = .ok (.invokevirtual 25, 3) := by decide +kernel
theorem dX6_takersTelling_5 : decode cX6_takersTelling 5 = .ok (.aload_n 0, 1) := by decide +kernel
theorem dX6_takersTelling_6 : decode cX6_takersTelling 6 = .ok (.getfield 15, 3) := by decide +kernel
theorem dX6_takersTelling_9 : decode cX6_takersTelling 9 = .ok (.ireturn, 1) := by decide +kernel
theorem dX6_rung_0 : decode cX6_rung 0 = .ok (.aload_n 1, 1) := by decide +kernel
theorem dX6_rung_1 : decode cX6_rung 1 = .ok (.iconst 4, 1) := by decide +kernel
theorem dX6_rung_2 : decode cX6_rung 2 = .ok (.invokevirtual 25, 3) := by decide +kernel
theorem dX6_rung_5 : decode cX6_rung 5 = .ok (.aload_n 0, 1) := by decide +kernel
theorem dX6_rung_6 : decode cX6_rung 6 = .ok (.getfield 9, 3) := by decide +kernel
theorem dX6_rung_9 : decode cX6_rung 9 = .ok (.ireturn, 1) := by decide +kernel
theorem dX7_init_0 : decode cX7_init 0 = .ok (.aload_n 0, 1) := by decide +kernel
theorem dX7_init_1 : decode cX7_init 1 = .ok (.invokespecial 1, 3) := by decide +kernel
theorem dX7_init_4 : decode cX7_init 4 = .ok (.aload_n 0, 1) := by decide +kernel
theorem dX7_init_5 : decode cX7_init 5 = .ok (.iconst 0, 1) := by decide +kernel
theorem dX7_init_6 : decode cX7_init 6 = .ok (.putfield 7, 3) := by decide +kernel
theorem dX7_init_9 : decode cX7_init 9 = .ok (.return_, 1) := by decide +kernel
theorem dX7_leave_0 : decode cX7_leave 0 = .ok (.aload_n 0, 1) := by decide +kernel
theorem dX7_leave_1 : decode cX7_leave 1 = .ok (.bipush 31, 2) := by decide +kernel
theorem dX7_leave_3 : decode cX7_leave 3 = .ok (.aload_n 0, 1) := by decide +kernel
theorem dX7_leave_4 : decode cX7_leave 4 = .ok (.getfield 7, 3) := by decide +kernel
theorem dX7_leave_7 : decode cX7_leave 7 = .ok (.imul, 1) := by decide +kernel
theorem dX7_leave_8 : decode cX7_leave 8 = .ok (.iload_n 1, 1) := by decide +kernel
theorem dX7_leave_9 : decode cX7_leave 9 = .ok (.iadd, 1) := by decide +kernel
theorem dX7_leave_10 : decode cX7_leave 10 = .ok (.putfield 7, 3) := by decide +kernel
theorem dX7_leave_13 : decode cX7_leave 13 = .ok (.return_, 1) := by decide +kernel
theorem dX8_init_0 : decode cX8_init 0 = .ok (.aload_n 0, 1) := by decide +kernel
theorem dX8_init_1 : decode cX8_init 1 = .ok (.invokespecial 3, 3) := by decide +kernel
theorem dX8_init_4 : decode cX8_init 4 = .ok (.aload_n 0, 1) := by decide +kernel
theorem dX8_init_5 : decode cX8_init 5 = .ok (.bipush 6, 2) := by decide +kernel
theorem dX8_init_7 : decode cX8_init 7 = .ok (.newarray .int, 2) := by decide +kernel
theorem dX8_init_9 : decode cX8_init 9 = .ok (.putfield 9, 3) := by decide +kernel
theorem dX8_init_12 : decode cX8_init 12 = .ok (.aload_n 0, 1) := by decide +kernel
theorem dX8_init_13 : decode cX8_init 13 = .ok (.iconst 5, 1) := by decide +kernel
theorem dX8_init_14 : decode cX8_init 14 = .ok (.anewarray 15, 3) := by decide +kernel
theorem dX8_init_17 : decode cX8_init 17 = .ok (.putfield 17, 3) := by decide +kernel
theorem dX8_init_20 : decode cX8_init 20 = .ok (.aload_n 0, 1) := by decide +kernel
theorem dX8_init_21 : decode cX8_init 21 = .ok (.iconst 5, 1) := by decide +kernel
theorem dX8_init_22 : decode cX8_init 22 = .ok (.newarray .int, 2) := by decide +kernel
theorem dX8_init_24 : decode cX8_init 24 = .ok (.putfield 21, 3) := by decide +kernel
theorem dX8_init_27 : decode cX8_init 27 = .ok (.aload_n 0, 1) := by decide +kernel
theorem dX8_init_28 : decode cX8_init 28 = .ok (.iconst 0, 1) := by decide +kernel
theorem dX8_init_29 : decode cX8_init 29 = .ok (.putfield 24, 3) := by decide +kernel
theorem dX8_init_32 : decode cX8_init 32 = .ok (.aload_n 0, 1) := by decide +kernel
theorem dX8_init_33 : decode cX8_init 33 = .ok (.iconst 0, 1) := by decide +kernel
theorem dX8_init_34 : decode cX8_init 34 = .ok (.putfield 28, 3) := by decide +kernel
theorem dX8_init_37 : decode cX8_init 37 = .ok (.aload_n 0, 1) := by decide +kernel
theorem dX8_init_38 : decode cX8_init 38 = .ok (.iconst 0, 1) := by decide +kernel
theorem dX8_init_39 : decode cX8_init 39 = .ok (.putfield 31, 3) := by decide +kernel
theorem dX8_init_42 : decode cX8_init 42 = .ok (.return_, 1) := by decide +kernel
theorem dX8_clear_0 : decode cX8_clear 0 = .ok (.aload_n 0, 1) := by decide +kernel
theorem dX8_clear_1 : decode cX8_clear 1 = .ok (.iconst 0, 1) := by decide +kernel
theorem dX8_clear_2 : decode cX8_clear 2 = .ok (.putfield 24, 3) := by decide +kernel
theorem dX8_clear_5 : decode cX8_clear 5 = .ok (.aload_n 0, 1) := by decide +kernel
theorem dX8_clear_6 : decode cX8_clear 6 = .ok (.iconst 0, 1) := by decide +kernel
theorem dX8_clear_7 : decode cX8_clear 7 = .ok (.putfield 28, 3) := by decide +kernel
theorem dX8_clear_10 : decode cX8_clear 10 = .ok (.aload_n 0, 1) := by decide +kernel
theorem dX8_clear_11 : decode cX8_clear 11 = .ok (.iconst 0, 1) := by decide +kernel
theorem dX8_clear_12 : decode cX8_clear 12 = .ok (.putfield 31, 3) := by decide +kernel
theorem dX8_clear_15 : decode cX8_clear 15 = .ok (.return_, 1) := by decide +kernel
theorem dX8_stands_0 : decode cX8_stands 0 = .ok (.aload_n 0, 1) := by decide +kernel
theorem dX8_stands_1 : decode cX8_stands 1 = .ok (.getfield 28, 3) := by decide +kernel
theorem dX8_stands_4 : decode cX8_stands 4 = .ok (.ifCond .le 7, 3) := by decide +kernel
theorem dX8_stands_7 : decode cX8_stands 7 = .ok (.iconst 1, 1) := by decide +kernel
theorem dX8_stands_8 : decode cX8_stands 8 = .ok (.goto 4, 3) := by decide +kernel
theorem dX8_stands_11 : decode cX8_stands 11 = .ok (.iconst 0, 1) := by decide +kernel
theorem dX8_stands_12 : decode cX8_stands 12 = .ok (.ireturn, 1) := by decide +kernel
theorem dX8_isPlace_0 : decode cX8_isPlace 0 = .ok (.iload_n 1, 1) := by decide +kernel
theorem dX8_isPlace_1 : decode cX8_isPlace 1 = .ok (.ifCond .lt 15, 3) := by decide +kernel
theorem dX8_isPlace_4 : decode cX8_isPlace 4 = .ok (.iload_n 1, 1) := by decide +kernel
theorem dX8_isPlace_5 : decode cX8_isPlace 5 = .ok (.aload_n 0, 1) := by decide +kernel
theorem dX8_isPlace_6 : decode cX8_isPlace 6 = .ok (.getfield 24, 3) := by decide +kernel
theorem dX8_isPlace_9 : decode cX8_isPlace 9 = .ok (.if_icmp .ge 7, 3) := by decide +kernel
theorem dX8_isPlace_12 : decode cX8_isPlace 12 = .ok (.iconst 1, 1) := by decide +kernel
theorem dX8_isPlace_13 : decode cX8_isPlace 13 = .ok (.goto 4, 3) := by decide +kernel
theorem dX8_isPlace_16 : decode cX8_isPlace 16 = .ok (.iconst 0, 1) := by decide +kernel
theorem dX8_isPlace_17 : decode cX8_isPlace 17 = .ok (.ireturn, 1) := by decide +kernel
theorem dX8_isGood_0 : decode cX8_isGood 0 = .ok (.iload_n 1, 1) := by decide +kernel
theorem dX8_isGood_1 : decode cX8_isGood 1 = .ok (.ifCond .lt 15, 3) := by decide +kernel
theorem dX8_isGood_4 : decode cX8_isGood 4 = .ok (.iload_n 1, 1) := by decide +kernel
theorem dX8_isGood_5 : decode cX8_isGood 5 = .ok (.aload_n 0, 1) := by decide +kernel
theorem dX8_isGood_6 : decode cX8_isGood 6 = .ok (.getfield 31, 3) := by decide +kernel
theorem dX8_isGood_9 : decode cX8_isGood 9 = .ok (.if_icmp .ge 7, 3) := by decide +kernel
theorem dX8_isGood_12 : decode cX8_isGood 12 = .ok (.iconst 1, 1) := by decide +kernel
theorem dX8_isGood_13 : decode cX8_isGood 13 = .ok (.goto 4, 3) := by decide +kernel
theorem dX8_isGood_16 : decode cX8_isGood 16 = .ok (.iconst 0, 1) := by decide +kernel
theorem dX8_isGood_17 : decode cX8_isGood 17 = .ok (.ireturn, 1) := by decide +kernel
theorem dX8_takerAt_0 : decode cX8_takerAt 0 = .ok (.iload_n 1, 1) := by decide +kernel
theorem dX8_takerAt_1 : decode cX8_takerAt 1 = .ok (.ifCond .lt 20, 3) := by decide +kernel
theorem dX8_takerAt_4 : decode cX8_takerAt 4 = .ok (.iload_n 1, 1) := by decide +kernel
theorem dX8_takerAt_5 : decode cX8_takerAt 5 = .ok (.aload_n 0, 1) := by decide +kernel
theorem dX8_takerAt_6 : decode cX8_takerAt 6 = .ok (.getfield 28, 3) := by decide +kernel
theorem dX8_takerAt_9 : decode cX8_takerAt 9 = .ok (.if_icmp .ge 12, 3) := by decide +kernel
theorem dX8_takerAt_12 : decode cX8_takerAt 12 = .ok (.aload_n 0, 1) := by decide +kernel
theorem dX8_takerAt_13 : decode cX8_takerAt 13 = .ok (.getfield 17, 3) := by decide +kernel
theorem dX8_takerAt_16 : decode cX8_takerAt 16 = .ok (.iload_n 1, 1) := by decide +kernel
theorem dX8_takerAt_17 : decode cX8_takerAt 17 = .ok (.aaload, 1) := by decide +kernel
theorem dX8_takerAt_18 : decode cX8_takerAt 18 = .ok (.goto 4, 3) := by decide +kernel
theorem dX8_takerAt_21 : decode cX8_takerAt 21 = .ok (.aconst_null, 1) := by decide +kernel
theorem dX8_takerAt_22 : decode cX8_takerAt 22 = .ok (.areturn, 1) := by decide +kernel
theorem dX8_weightIn_0 : decode cX8_weightIn 0 = .ok (.aload_n 0, 1) := by decide +kernel
theorem dX8_weightIn_1 : decode cX8_weightIn 1 = .ok (.getfield 24, 3) := by decide +kernel
theorem dX8_weightIn_4 : decode cX8_weightIn 4 = .ok (.ifCond .le 21, 3) := by decide +kernel
theorem dX8_weightIn_7 : decode cX8_weightIn 7 = .ok (.iload_n 1, 1) := by decide +kernel
theorem dX8_weightIn_8 : decode cX8_weightIn 8 = .ok (.ifCond .lt 17, 3) := by decide +kernel
theorem dX8_weightIn_11 : decode cX8_weightIn 11 = .ok (.aload_n 0, 1) := by decide +kernel
theorem dX8_weightIn_12 : decode cX8_weightIn 12 = .ok (.getfield 9, 3) := by decide +kernel
theorem dX8_weightIn_15 : decode cX8_weightIn 15 = .ok (.iload_n 1, 1) := by decide +kernel
theorem dX8_weightIn_16 : decode cX8_weightIn 16 = .ok (.aload_n 0, 1) := by decide +kernel
theorem dX8_weightIn_17 : decode cX8_weightIn 17 = .ok (.getfield 24, 3) := by decide +kernel
theorem dX8_weightIn_20 : decode cX8_weightIn 20 = .ok (.irem, 1) := by decide +kernel
theorem dX8_weightIn_21 : decode cX8_weightIn 21 = .ok (.iaload, 1) := by decide +kernel
theorem dX8_weightIn_22 : decode cX8_weightIn 22 = .ok (.goto 4, 3) := by decide +kernel
theorem dX8_weightIn_25 : decode cX8_weightIn 25 = .ok (.iconst 0, 1) := by decide +kernel
theorem dX8_weightIn_26 : decode cX8_weightIn 26 = .ok (.ireturn, 1) := by decide +kernel
theorem dX8_heldAlone_0 : decode cX8_heldAlone 0 = .ok (.aload_n 1, 1) := by decide +kernel
theorem dX8_heldAlone_1 : decode cX8_heldAlone 1 = .ok (.getfield 34, 3) := by decide +kernel
theorem dX8_heldAlone_4 : decode cX8_heldAlone 4 = .ok (.istore_n 3, 1) := by decide +kernel
theorem dX8_heldAlone_5 : decode cX8_heldAlone 5 = .ok (.iconst 0, 1) := by decide +kernel
theorem dX8_heldAlone_6 : decode cX8_heldAlone 6 = .ok (.istore 4, 2) := by decide +kernel
theorem dX8_heldAlone_8 : decode cX8_heldAlone 8 = .ok (.iload 4, 2) := by decide +kernel
theorem dX8_heldAlone_10 : decode cX8_heldAlone 10 = .ok (.bipush 40, 2) := by decide +kernel
theorem dX8_heldAlone_12 : decode cX8_heldAlone 12 = .ok (.if_icmp .ge 31, 3) := by decide +kernel
theorem dX8_heldAlone_15 : decode cX8_heldAlone 15 = .ok (.iload_n 3, 1) := by decide +kernel
theorem dX8_heldAlone_16 : decode cX8_heldAlone 16 = .ok (.aload_n 1, 1) := by decide +kernel
theorem dX8_heldAlone_17 : decode cX8_heldAlone 17 = .ok (.aload_n 0, 1) := by decide +kernel
theorem dX8_heldAlone_18 : decode cX8_heldAlone 18 = .ok (.iload_n 2, 1) := by decide +kernel
theorem dX8_heldAlone_19 : decode cX8_heldAlone 19 = .ok (.iload 4, 2) := by decide +kernel
theorem dX8_heldAlone_21 : decode cX8_heldAlone 21 = .ok (.iadd, 1) := by decide +kernel
theorem dX8_heldAlone_22 : decode cX8_heldAlone 22 = .ok (.invokevirtual 37, 3) := by decide +kernel
theorem dX8_heldAlone_25 : decode cX8_heldAlone 25 = .ok (.invokevirtual 41, 3) := by decide +kernel
theorem dX8_heldAlone_28 : decode cX8_heldAlone 28 = .ok (.isub, 1) := by decide +kernel
theorem dX8_heldAlone_29 : decode cX8_heldAlone 29 = .ok (.istore_n 3, 1) := by decide +kernel
theorem dX8_heldAlone_30 : decode cX8_heldAlone 30 = .ok (.iload_n 3, 1) := by decide +kernel
theorem dX8_heldAlone_31 : decode cX8_heldAlone 31 = .ok (.ifCond .ge 6, 3) := by decide +kernel
theorem dX8_heldAlone_34 : decode cX8_heldAlone 34 = .ok (.iload 4, 2) := by decide +kernel
theorem dX8_heldAlone_36 : decode cX8_heldAlone 36 = .ok (.ireturn, 1) := by decide +kernel
theorem dX8_heldAlone_37 : decode cX8_heldAlone 37 = .ok (.iinc 4 1, 3) := by decide +kernel
theorem dX8_heldAlone_40 : decode cX8_heldAlone 40 = .ok (.goto (-32), 3) := by decide +kernel
theorem dX8_heldAlone_43 : decode cX8_heldAlone 43 = .ok (.bipush 40, 2) := by decide +kernel
theorem dX8_heldAlone_45 : decode cX8_heldAlone 45 = .ok (.ireturn, 1) := by decide +kernel
theorem dX8_heldInPair_0 : decode cX8_heldInPair 0 = .ok (.aload_n 1, 1) := by decide +kernel
theorem dX8_heldInPair_1 : decode cX8_heldInPair 1 = .ok (.getfield 34, 3) := by decide +kernel
theorem dX8_heldInPair_4 : decode cX8_heldInPair 4 = .ok (.istore_n 3, 1) := by decide +kernel
theorem dX8_heldInPair_5 : decode cX8_heldInPair 5 = .ok (.iconst 0, 1) := by decide +kernel
theorem dX8_heldInPair_6 : decode cX8_heldInPair 6 = .ok (.istore 4, 2) := by decide +kernel
theorem dX8_heldInPair_8 : decode cX8_heldInPair 8 = .ok (.iload 4, 2) := by decide +kernel
theorem dX8_heldInPair_10 : decode cX8_heldInPair 10 = .ok (.bipush 40, 2) := by decide +kernel
theorem dX8_heldInPair_12 : decode cX8_heldInPair 12 = .ok (.if_icmp .ge 33, 3) := by decide +kernel
theorem dX8_heldInPair_15 : decode cX8_heldInPair 15 = .ok (.iload_n 3, 1) := by decide +kernel
theorem dX8_heldInPair_16 : decode cX8_heldInPair 16 = .ok (.aload_n 1, 1) := by decide +kernel
theorem dX8_heldInPair_17 : decode cX8_heldInPair 17 = .ok (.aload_n 0, 1) := by decide +kernel
theorem dX8_heldInPair_18 : decode cX8_heldInPair 18 = .ok (.iload_n 2, 1) := by decide +kernel
theorem dX8_heldInPair_19 : decode cX8_heldInPair 19 = .ok (.iload 4, 2) := by decide +kernel
theorem dX8_heldInPair_21 : decode cX8_heldInPair 21 = .ok (.iadd, 1) := by decide +kernel
theorem dX8_heldInPair_22 : decode cX8_heldInPair 22 = .ok (.invokevirtual 37, 3) := by decide +kernel
theorem dX8_heldInPair_25 : decode cX8_heldInPair 25 = .ok (.invokevirtual 41, 3) := by decide +kernel
theorem dX8_heldInPair_28 : decode cX8_heldInPair 28 = .ok (.iconst 2, 1) := by decide +kernel
theorem dX8_heldInPair_29 : decode cX8_heldInPair 29 = .ok (.idiv, 1) := by decide +kernel
theorem dX8_heldInPair_30 : decode cX8_heldInPair 30 = .ok (.isub, 1) := by decide +kernel
theorem dX8_heldInPair_31 : decode cX8_heldInPair 31 = .ok (.istore_n 3, 1) := by decide +kernel
theorem dX8_heldInPair_32 : decode cX8_heldInPair 32 = .ok (.iload_n 3, 1) := by decide +kernel
theorem dX8_heldInPair_33 : decode cX8_heldInPair 33 = .ok (.ifCond .ge 6, 3) := by decide +kernel
theorem dX8_heldInPair_36 : decode cX8_heldInPair 36 = .ok (.iload 4, 2) := by decide +kernel
theorem dX8_heldInPair_38 : decode cX8_heldInPair 38 = .ok (.ireturn, 1) := by decide +kernel
theorem dX8_heldInPair_39 : decode cX8_heldInPair 39 = .ok (.iinc 4 1, 3) := by decide +kernel
theorem dX8_heldInPair_42 : decode cX8_heldInPair 42 = .ok (.goto (-34), 3) := by decide +kernel
theorem dX8_heldInPair_45 : decode cX8_heldInPair 45 = .ok (.bipush 40, 2) := by decide +kernel
theorem dX8_heldInPair_47 : decode cX8_heldInPair 47 = .ok (.ireturn, 1) := by decide +kernel
theorem dX8_heldByTwo_0 : decode cX8_heldByTwo 0 = .ok (.aload_n 0, 1) := by decide +kernel
theorem dX8_heldByTwo_1 : decode cX8_heldByTwo 1 = .ok (.aload_n 1, 1) := by decide +kernel
theorem dX8_heldByTwo_2 : decode cX8_heldByTwo 2 = .ok (.iload_n 3, 1) := by decide +kernel
theorem dX8_heldByTwo_3 : decode cX8_heldByTwo 3 = .ok (.invokevirtual 44, 3) := by decide +kernel
theorem dX8_heldByTwo_6 : decode cX8_heldByTwo 6 = .ok (.aload_n 0, 1) := by decide +kernel
theorem dX8_heldByTwo_7 : decode cX8_heldByTwo 7 = .ok (.aload_n 2, 1) := by decide +kernel
theorem dX8_heldByTwo_8 : decode cX8_heldByTwo 8 = .ok (.iload_n 3, 1) := by decide +kernel
theorem dX8_heldByTwo_9 : decode cX8_heldByTwo 9 = .ok (.invokevirtual 44, 3) := by decide +kernel
theorem dX8_heldByTwo_12 : decode cX8_heldByTwo 12 = .ok (.invokestatic 48, 3) := by decide +kernel
theorem dX8_heldByTwo_15 : decode cX8_heldByTwo 15 = .ok (.ireturn, 1) := by decide +kernel
theorem dX8_bestPlace_0 : decode cX8_bestPlace 0 = .ok (.iconst 0, 1) := by decide +kernel
theorem dX8_bestPlace_1 : decode cX8_bestPlace 1 = .ok (.istore_n 2, 1) := by decide +kernel
theorem dX8_bestPlace_2 : decode cX8_bestPlace 2 = .ok (.iconst (-1), 1) := by decide +kernel
theorem dX8_bestPlace_3 : decode cX8_bestPlace 3 = .ok (.istore_n 3, 1) := by decide +kernel
theorem dX8_bestPlace_4 : decode cX8_bestPlace 4 = .ok (.iconst 0, 1) := by decide +kernel
theorem dX8_bestPlace_5 : decode cX8_bestPlace 5 = .ok (.istore 4, 2) := by decide +kernel
theorem dX8_bestPlace_7 : decode cX8_bestPlace 7 = .ok (.iload 4, 2) := by decide +kernel
theorem dX8_bestPlace_9 : decode cX8_bestPlace 9 = .ok (.aload_n 0, 1) := by decide +kernel
theorem dX8_bestPlace_10 : decode cX8_bestPlace 10 = .ok (.getfield 24, 3) := by decide +kernel
theorem dX8_bestPlace_13 : decode cX8_bestPlace 13 = .ok (.if_icmp .ge 30, 3) := by decide +kernel
theorem dX8_bestPlace_16 : decode cX8_bestPlace 16 = .ok (.aload_n 0, 1) := by decide +kernel
theorem dX8_bestPlace_17 : decode cX8_bestPlace 17 = .ok (.aload_n 1, 1) := by decide +kernel
theorem dX8_bestPlace_18 : decode cX8_bestPlace 18 = .ok (.iload 4, 2) := by decide +kernel
theorem dX8_bestPlace_20 : decode cX8_bestPlace 20 = .ok (.invokevirtual 54, 3) := by decide +kernel
theorem dX8_bestPlace_23 : decode cX8_bestPlace 23 = .ok (.istore 5, 2) := by decide +kernel
theorem dX8_bestPlace_25 : decode cX8_bestPlace 25 = .ok (.iload 5, 2) := by decide +kernel
theorem dX8_bestPlace_27 : decode cX8_bestPlace 27 = .ok (.iload_n 3, 1) := by decide +kernel
theorem dX8_bestPlace_28 : decode cX8_bestPlace 28 = .ok (.if_icmp .le 9, 3) := by decide +kernel
theorem dX8_bestPlace_31 : decode cX8_bestPlace 31 = .ok (.iload 5, 2) := by decide +kernel
theorem dX8_bestPlace_33 : decode cX8_bestPlace 33 = .ok (.istore_n 3, 1) := by decide +kernel
theorem dX8_bestPlace_34 : decode cX8_bestPlace 34 = .ok (.iload 4, 2) := by decide +kernel
theorem dX8_bestPlace_36 : decode cX8_bestPlace 36 = .ok (.istore_n 2, 1) := by decide +kernel
theorem dX8_bestPlace_37 : decode cX8_bestPlace 37 = .ok (.iinc 4 1, 3) := by decide +kernel
theorem dX8_bestPlace_40 : decode cX8_bestPlace 40 = .ok (.goto (-33), 3) := by decide +kernel
theorem dX8_bestPlace_43 : decode cX8_bestPlace 43 = .ok (.iload_n 2, 1) := by decide +kernel
theorem dX8_bestPlace_44 : decode cX8_bestPlace 44 = .ok (.ireturn, 1) := by decide +kernel
theorem dX8_bestFriend_0 : decode cX8_bestFriend 0 = .ok (.bipush (-9), 2) := by decide +kernel
theorem dX8_bestFriend_2 : decode cX8_bestFriend 2 = .ok (.istore_n 3, 1) := by decide +kernel
theorem dX8_bestFriend_3 : decode cX8_bestFriend 3 = .ok (.iconst (-1), 1) := by decide +kernel
theorem dX8_bestFriend_4 : decode cX8_bestFriend 4 = .ok (.istore 4, 2) := by decide +kernel
theorem dX8_bestFriend_6 : decode cX8_bestFriend 6 = .ok (.iconst 0, 1) := by decide +kernel
theorem dX8_bestFriend_7 : decode cX8_bestFriend 7 = .ok (.istore 5, 2) := by decide +kernel
theorem dX8_bestFriend_9 : decode cX8_bestFriend 9 = .ok (.iload 5, 2) := by decide +kernel
theorem dX8_bestFriend_11 : decode cX8_bestFriend 11 = .ok (.aload_n 0, 1) := by decide +kernel
theorem dX8_bestFriend_12 : decode cX8_bestFriend 12 = .ok (.getfield 28, 3) := by decide +kernel
theorem dX8_bestFriend_15 : decode cX8_bestFriend 15 = .ok (.if_icmp .ge 59, 3) := by decide +kernel
theorem dX8_bestFriend_18 : decode cX8_bestFriend 18 = .ok (.aload_n 0, 1) := by decide +kernel
theorem dX8_bestFriend_19 : decode cX8_bestFriend 19 = .ok (.iload 5, 2) := by decide +kernel
theorem dX8_bestFriend_21 : decode cX8_bestFriend 21 = .ok (.invokevirtual 57, 3) := by decide +kernel
theorem dX8_bestFriend_24 : decode cX8_bestFriend 24 = .ok (.astore 6, 2) := by decide +kernel
theorem dX8_bestFriend_26 : decode cX8_bestFriend 26 = .ok (.aload 6, 2) := by decide +kernel
theorem dX8_bestFriend_28 : decode cX8_bestFriend 28 = .ok (.ifnull 12, 3) := by decide +kernel
theorem dX8_bestFriend_31 : decode cX8_bestFriend 31 = .ok (.iload 5, 2) := by decide +kernel
theorem dX8_bestFriend_33 : decode cX8_bestFriend 33 = .ok (.aload_n 1, 1) := by decide +kernel
theorem dX8_bestFriend_34 : decode cX8_bestFriend 34 = .ok (.getfield 61, 3) := by decide +kernel
theorem dX8_bestFriend_37 : decode cX8_bestFriend 37 = .ok (.if_icmp .ne 7, 3) := by decide +kernel
theorem dX8_bestFriend_40 : decode cX8_bestFriend 40 = .ok (.iconst (-1), 1) := by decide +kernel
theorem dX8_bestFriend_41 : decode cX8_bestFriend 41 = .ok (.goto 11, 3) := by decide +kernel
theorem dX8_bestFriend_44 : decode cX8_bestFriend 44 = .ok (.aload_n 0, 1) := by decide +kernel
theorem dX8_bestFriend_45 : decode cX8_bestFriend 45 = .ok (.aload_n 1, 1) := by decide +kernel
theorem dX8_bestFriend_46 : decode cX8_bestFriend 46 = .ok (.aload 6, 2) := by decide +kernel
theorem dX8_bestFriend_48 : decode cX8_bestFriend 48 = .ok (.iload_n 2, 1) := by decide +kernel
theorem dX8_bestFriend_49 : decode cX8_bestFriend 49 = .ok (.invokevirtual 64, 3) := by decide +kernel
theorem dX8_bestFriend_52 : decode cX8_bestFriend 52 = .ok (.istore 7, 2) := by decide +kernel
theorem dX8_bestFriend_54 : decode cX8_bestFriend 54 = .ok (.iload 7, 2) := by decide +kernel
theorem dX8_bestFriend_56 : decode cX8_bestFriend 56 = .ok (.iload 4, 2) := by decide +kernel
theorem dX8_bestFriend_58 : decode cX8_bestFriend 58 = .ok (.if_icmp .le 10, 3) := by decide +kernel
theorem dX8_bestFriend_61 : decode cX8_bestFriend 61 = .ok (.iload 7, 2) := by decide +kernel
theorem dX8_bestFriend_63 : decode cX8_bestFriend 63 = .ok (.istore 4, 2) := by decide +kernel
theorem dX8_bestFriend_65 : decode cX8_bestFriend 65 = .ok (.iload 5, 2) := by decide +kernel
theorem dX8_bestFriend_67 : decode cX8_bestFriend 67 = .ok (.istore_n 3, 1) := by decide +kernel
theorem dX8_bestFriend_68 : decode cX8_bestFriend 68 = .ok (.iinc 5 1, 3) := by decide +kernel
theorem dX8_bestFriend_71 : decode cX8_bestFriend 71 = .ok (.goto (-62), 3) := by decide +kernel
theorem dX8_bestFriend_74 : decode cX8_bestFriend 74 = .ok (.iload_n 3, 1) := by decide +kernel
theorem dX8_bestFriend_75 : decode cX8_bestFriend 75 = .ok (.ireturn, 1) := by decide +kernel
theorem dX8_goodsGot_0 : decode cX8_goodsGot 0 = .ok (.aload_n 0, 1) := by decide +kernel
theorem dX8_goodsGot_1 : decode cX8_goodsGot 1 = .ok (.aload_n 1, 1) := by decide +kernel
theorem dX8_goodsGot_2 : decode cX8_goodsGot 2 = .ok (.iload_n 2, 1) := by decide +kernel
theorem dX8_goodsGot_3 : decode cX8_goodsGot 3 = .ok (.invokevirtual 54, 3) := by decide +kernel
theorem dX8_goodsGot_6 : decode cX8_goodsGot 6 = .ok (.istore_n 3, 1) := by decide +kernel
theorem dX8_goodsGot_7 : decode cX8_goodsGot 7 = .ok (.iconst 0, 1) := by decide +kernel
theorem dX8_goodsGot_8 : decode cX8_goodsGot 8 = .ok (.istore 4, 2) := by decide +kernel
theorem dX8_goodsGot_10 : decode cX8_goodsGot 10 = .ok (.iconst 0, 1) := by decide +kernel
theorem dX8_goodsGot_11 : decode cX8_goodsGot 11 = .ok (.istore 5, 2) := by decide +kernel
theorem dX8_goodsGot_13 : decode cX8_goodsGot 13 = .ok (.iload 5, 2) := by decide +kernel
theorem dX8_goodsGot_15 : decode cX8_goodsGot 15 = .ok (.aload_n 0, 1) := by decide +kernel
theorem dX8_goodsGot_16 : decode cX8_goodsGot 16 = .ok (.getfield 31, 3) := by decide +kernel
theorem dX8_goodsGot_19 : decode cX8_goodsGot 19 = .ok (.if_icmp .ge 31, 3) := by decide +kernel
theorem dX8_goodsGot_22 : decode cX8_goodsGot 22 = .ok (.iload_n 3, 1) := by decide +kernel
theorem dX8_goodsGot_23 : decode cX8_goodsGot 23 = .ok (.iconst 2, 1) := by decide +kernel
theorem dX8_goodsGot_24 : decode cX8_goodsGot 24 = .ok (.aload_n 0, 1) := by decide +kernel
theorem dX8_goodsGot_25 : decode cX8_goodsGot 25 = .ok (.getfield 21, 3) := by decide +kernel
theorem dX8_goodsGot_28 : decode cX8_goodsGot 28 = .ok (.iload 5, 2) := by decide +kernel
theorem dX8_goodsGot_30 : decode cX8_goodsGot 30 = .ok (.iaload, 1) := by decide +kernel
theorem dX8_goodsGot_31 : decode cX8_goodsGot 31 = .ok (.imul, 1) := by decide +kernel
theorem dX8_goodsGot_32 : decode cX8_goodsGot 32 = .ok (.if_icmp .lt 12, 3) := by decide +kernel
theorem dX8_goodsGot_35 : decode cX8_goodsGot 35 = .ok (.iload 4, 2) := by decide +kernel
theorem dX8_goodsGot_37 : decode cX8_goodsGot 37 = .ok (.iconst 1, 1) := by decide +kernel
theorem dX8_goodsGot_38 : decode cX8_goodsGot 38 = .ok (.iload 5, 2) := by decide +kernel
theorem dX8_goodsGot_40 : decode cX8_goodsGot 40 = .ok (.ishl, 1) := by decide +kernel
theorem dX8_goodsGot_41 : decode cX8_goodsGot 41 = .ok (.ior, 1) := by decide +kernel
theorem dX8_goodsGot_42 : decode cX8_goodsGot 42 = .ok (.istore 4, 2) := by decide +kernel
theorem dX8_goodsGot_44 : decode cX8_goodsGot 44 = .ok (.iinc 5 1, 3) := by decide +kernel
theorem dX8_goodsGot_47 : decode cX8_goodsGot 47 = .ok (.goto (-34), 3) := by decide +kernel
theorem dX8_goodsGot_50 : decode cX8_goodsGot 50 = .ok (.iload 4, 2) := by decide +kernel
theorem dX8_goodsGot_52 : decode cX8_goodsGot 52 = .ok (.ireturn, 1) := by decide +kernel
theorem dX8_setsHeld_0 : decode cX8_setsHeld 0 = .ok (.iconst 0, 1) := by decide +kernel
theorem dX8_setsHeld_1 : decode cX8_setsHeld 1 = .ok (.istore_n 3, 1) := by decide +kernel
theorem dX8_setsHeld_2 : decode cX8_setsHeld 2 = .ok (.iconst 0, 1) := by decide +kernel
theorem dX8_setsHeld_3 : decode cX8_setsHeld 3 = .ok (.istore 4, 2) := by decide +kernel
theorem dX8_setsHeld_5 : decode cX8_setsHeld 5 = .ok (.iload 4, 2) := by decide +kernel
theorem dX8_setsHeld_7 : decode cX8_setsHeld 7 = .ok (.iconst 1, 1) := by decide +kernel
theorem dX8_setsHeld_8 : decode cX8_setsHeld 8 = .ok (.aload_n 0, 1) := by decide +kernel
theorem dX8_setsHeld_9 : decode cX8_setsHeld 9 = .ok (.getfield 24, 3) := by decide +kernel
theorem dX8_setsHeld_12 : decode cX8_setsHeld 12 = .ok (.ishl, 1) := by decide +kernel
theorem dX8_setsHeld_13 : decode cX8_setsHeld 13 = .ok (.if_icmp .ge 27, 3) := by decide +kernel
theorem dX8_setsHeld_16 : decode cX8_setsHeld 16 = .ok (.aload_n 0, 1) := by decide +kernel
theorem dX8_setsHeld_17 : decode cX8_setsHeld 17 = .ok (.iload 4, 2) := by decide +kernel
theorem dX8_setsHeld_19 : decode cX8_setsHeld 19 = .ok (.aload_n 1, 1) := by decide +kernel
theorem dX8_setsHeld_20 : decode cX8_setsHeld 20 = .ok (.iload_n 2, 1) := by decide +kernel
theorem dX8_setsHeld_21 : decode cX8_setsHeld 21 = .ok (.invokevirtual 68, 3) := by decide +kernel
theorem dX8_setsHeld_24 : decode cX8_setsHeld 24 = .ok (.aload_n 1, 1) := by decide +kernel
theorem dX8_setsHeld_25 : decode cX8_setsHeld 25 = .ok (.getfield 34, 3) := by decide +kernel
theorem dX8_setsHeld_28 : decode cX8_setsHeld 28 = .ok (.if_icmp .gt 6, 3) := by decide +kernel
theorem dX8_setsHeld_31 : decode cX8_setsHeld 31 = .ok (.iinc 3 1, 3) := by decide +kernel
theorem dX8_setsHeld_34 : decode cX8_setsHeld 34 = .ok (.iinc 4 1, 3) := by decide +kernel
theorem dX8_setsHeld_37 : decode cX8_setsHeld 37 = .ok (.goto (-32), 3) := by decide +kernel
theorem dX8_setsHeld_40 : decode cX8_setsHeld 40 = .ok (.iload_n 3, 1) := by decide +kernel
theorem dX8_setsHeld_41 : decode cX8_setsHeld 41 = .ok (.ireturn, 1) := by decide +kernel
theorem dX8_drainIfOnly_0 : decode cX8_drainIfOnly 0 = .ok (.iconst 0, 1) := by decide +kernel
theorem dX8_drainIfOnly_1 : decode cX8_drainIfOnly 1 = .ok (.istore 4, 2) := by decide +kernel
theorem dX8_drainIfOnly_3 : decode cX8_drainIfOnly 3 = .ok (.iconst 0, 1) := by decide +kernel
theorem dX8_drainIfOnly_4 : decode cX8_drainIfOnly 4 = .ok (.istore 5, 2) := by decide +kernel
theorem dX8_drainIfOnly_6 : decode cX8_drainIfOnly 6 = .ok (.iconst 0, 1) := by decide +kernel
theorem dX8_drainIfOnly_7 : decode cX8_drainIfOnly 7 = .ok (.istore 6, 2) := by decide +kernel
theorem dX8_drainIfOnly_9 : decode cX8_drainIfOnly 9 = .ok (.iload 6, 2) := by decide +kernel
theorem dX8_drainIfOnly_11 : decode cX8_drainIfOnly 11 = .ok (.iload_n 3, 1) := by decide +kernel
theorem dX8_drainIfOnly_12 : decode cX8_drainIfOnly 12 = .ok (.if_icmp .ge 71, 3) := by decide +kernel
theorem dX8_drainIfOnly_15 : decode cX8_drainIfOnly 15 = .ok (.iload_n 1, 1) := by decide +kernel
theorem dX8_drainIfOnly_16 : decode cX8_drainIfOnly 16 = .ok (.iload 5, 2) := by decide +kernel
theorem dX8_drainIfOnly_18 : decode cX8_drainIfOnly 18 = .ok (.ishr, 1) := by decide +kernel
theorem dX8_drainIfOnly_19 : decode cX8_drainIfOnly 19 = .ok (.iconst 1, 1) := by decide +kernel
theorem dX8_drainIfOnly_20 : decode cX8_drainIfOnly 20 = .ok (.iand, 1) := by decide +kernel
theorem dX8_drainIfOnly_21 : decode cX8_drainIfOnly 21 = .ok (.iconst 1, 1) := by decide +kernel
theorem dX8_drainIfOnly_22 : decode cX8_drainIfOnly 22 = .ok (.if_icmp .ne 7, 3) := by decide +kernel
theorem dX8_drainIfOnly_25 : decode cX8_drainIfOnly 25 = .ok (.iconst 1, 1) := by decide +kernel
theorem dX8_drainIfOnly_26 : decode cX8_drainIfOnly 26 = .ok (.goto 4, 3) := by decide +kernel
theorem dX8_drainIfOnly_29 : decode cX8_drainIfOnly 29 = .ok (.iconst 0, 1) := by decide +kernel
theorem dX8_drainIfOnly_30 : decode cX8_drainIfOnly 30 = .ok (.istore 7, 2) := by decide +kernel
theorem dX8_drainIfOnly_32 : decode cX8_drainIfOnly 32 = .ok (.iload 4, 2) := by decide +kernel
theorem dX8_drainIfOnly_34 : decode cX8_drainIfOnly 34 = .ok (.aload_n 2, 1) := by decide +kernel
theorem dX8_drainIfOnly_35 : decode cX8_drainIfOnly 35 = .ok (.iload 7, 2) := by decide +kernel
theorem dX8_drainIfOnly_37 : decode cX8_drainIfOnly 37 = .ok (.ifCond .eq 12, 3) := by decide +kernel
theorem dX8_drainIfOnly_40 : decode cX8_drainIfOnly 40 = .ok (.aload_n 0, 1) := by decide +kernel
theorem dX8_drainIfOnly_41 : decode cX8_drainIfOnly 41 = .ok (.iload 5, 2) := by decide +kernel
theorem dX8_drainIfOnly_43 : decode cX8_drainIfOnly 43 = .ok (.invokevirtual 37, 3) := by decide +kernel
theorem dX8_drainIfOnly_46 : decode cX8_drainIfOnly 46 = .ok (.goto 4, 3) := by decide +kernel
theorem dX8_drainIfOnly_49 : decode cX8_drainIfOnly 49 = .ok (.iconst 0, 1) := by decide +kernel
theorem dX8_drainIfOnly_50 : decode cX8_drainIfOnly 50 = .ok (.invokevirtual 41, 3) := by decide +kernel
theorem dX8_drainIfOnly_53 : decode cX8_drainIfOnly 53 = .ok (.iadd, 1) := by decide +kernel
theorem dX8_drainIfOnly_54 : decode cX8_drainIfOnly 54 = .ok (.istore 4, 2) := by decide +kernel
theorem dX8_drainIfOnly_56 : decode cX8_drainIfOnly 56 = .ok (.iload 5, 2) := by decide +kernel
theorem dX8_drainIfOnly_58 : decode cX8_drainIfOnly 58 = .ok (.iconst 1, 1) := by decide +kernel
theorem dX8_drainIfOnly_59 : decode cX8_drainIfOnly 59 = .ok (.iadd, 1) := by decide +kernel
theorem dX8_drainIfOnly_60 : decode cX8_drainIfOnly 60 = .ok (.aload_n 0, 1) := by decide +kernel
theorem dX8_drainIfOnly_61 : decode cX8_drainIfOnly 61 = .ok (.getfield 24, 3) := by decide +kernel
theorem dX8_drainIfOnly_64 : decode cX8_drainIfOnly 64 = .ok (.if_icmp .ge 10, 3) := by decide +kernel
theorem dX8_drainIfOnly_67 : decode cX8_drainIfOnly 67 = .ok (.iload 5, 2) := by decide +kernel
theorem dX8_drainIfOnly_69 : decode cX8_drainIfOnly 69 = .ok (.iconst 1, 1) := by decide +kernel
theorem dX8_drainIfOnly_70 : decode cX8_drainIfOnly 70 = .ok (.iadd, 1) := by decide +kernel
theorem dX8_drainIfOnly_71 : decode cX8_drainIfOnly 71 = .ok (.goto 4, 3) := by decide +kernel
theorem dX8_drainIfOnly_74 : decode cX8_drainIfOnly 74 = .ok (.iconst 0, 1) := by decide +kernel
theorem dX8_drainIfOnly_75 : decode cX8_drainIfOnly 75 = .ok (.istore 5, 2) := by decide +kernel
theorem dX8_drainIfOnly_77 : decode cX8_drainIfOnly 77 = .ok (.iinc 6 1, 3) := by decide +kernel
theorem dX8_drainIfOnly_80 : decode cX8_drainIfOnly 80 = .ok (.goto (-71), 3) := by decide +kernel
theorem dX8_drainIfOnly_83 : decode cX8_drainIfOnly 83 = .ok (.iload 4, 2) := by decide +kernel
theorem dX8_drainIfOnly_85 : decode cX8_drainIfOnly 85 = .ok (.ireturn, 1) := by decide +kernel
theorem dX9_init_0 : decode cX9_init 0 = .ok (.aload_n 0, 1) := by decide +kernel
theorem dX9_init_1 : decode cX9_init 1 = .ok (.iload_n 1, 1) := by decide +kernel
theorem dX9_init_2 : decode cX9_init 2 = .ok (.iload_n 2, 1) := by decide +kernel
theorem dX9_init_3 : decode cX9_init 3 = .ok (.iload_n 3, 1) := by decide +kernel
theorem dX9_init_4 : decode cX9_init 4 = .ok (.invokespecial 3, 3) := by decide +kernel
theorem dX9_init_7 : decode cX9_init 7 = .ok (.return_, 1) := by decide +kernel
theorem dX9_kindNumber_0 : decode cX9_kindNumber 0 = .ok (.iconst 2, 1) := by decide +kernel
theorem dX9_kindNumber_1 : decode cX9_kindNumber 1 = .ok (.ireturn, 1) := by decide +kernel
theorem dX9_drainBy_0 : decode cX9_drainBy 0 = .ok (.iload_n 1, 1) := by decide +kernel
theorem dX9_drainBy_1 : decode cX9_drainBy 1 = .ok (.aload_n 0, 1) := by decide +kernel
theorem dX9_drainBy_2 : decode cX9_drainBy 2 = .ok (.getfield 9, 3) := by decide +kernel
theorem dX9_drainBy_5 : decode cX9_drainBy 5 = .ok (.iadd, 1) := by decide +kernel
theorem dX9_drainBy_6 : decode cX9_drainBy 6 = .ok (.iconst 2, 1) := by decide +kernel
theorem dX9_drainBy_7 : decode cX9_drainBy 7 = .ok (.idiv, 1) := by decide +kernel
theorem dX9_drainBy_8 : decode cX9_drainBy 8 = .ok (.ireturn, 1) := by decide +kernel
theorem dX9_telling_0 : decode cX9_telling 0 = .ok (.aload_n 1, 1) := by decide +kernel
theorem dX9_telling_1 : decode cX9_telling 1 = .ok (.iconst 3, 1) := by decide +kernel
theorem dX9_telling_2 : decode cX9_telling 2 = .ok (.invokevirtual 15, 3) := by decide +kernel
theorem dX9_telling_5 : decode cX9_telling 5 = .ok (.aload_n 0, 1) := by decide +kernel
theorem dX9_telling_6 : decode cX9_telling 6 = .ok (.aload_n 1, 1) := by decide +kernel
theorem dX9_telling_7 : decode cX9_telling 7 = .ok (.invokespecial 21, 3) := by decide +kernel
theorem dX9_telling_10 : decode cX9_telling 10 = .ok (.istore_n 2, 1) := by decide +kernel
theorem dX9_telling_11 : decode cX9_telling 11 = .ok (.iload_n 2, 1) := by decide +kernel
theorem dX9_telling_12 : decode cX9_telling 12 = .ok (.aload_n 0, 1) := by decide +kernel
theorem dX9_telling_13 : decode cX9_telling 13 = .ok (.aload_n 1, 1) := by decide +kernel
theorem dX9_telling_14 : decode cX9_telling 14 = .ok (.invokevirtual 25, 3) := by decide +kernel
theorem dX9_telling_17 : decode cX9_telling 17 = .ok (.iadd, 1) := by decide +kernel
theorem dX9_telling_18 : decode cX9_telling 18 = .ok (.ireturn, 1) := by decide +kernel
theorem dX9_rung_0 : decode cX9_rung 0 = .ok (.aload_n 1, 1) := by decide +kernel
theorem dX9_rung_1 : decode cX9_rung 1 = .ok (.iconst 5, 1) := by decide +kernel
theorem dX9_rung_2 : decode cX9_rung 2 = .ok (.invokevirtual 15, 3) := by decide +kernel
theorem dX9_rung_5 : decode cX9_rung 5 = .ok (.bipush 40, 2) := by decide +kernel
theorem dX9_rung_7 : decode cX9_rung 7 = .ok (.ireturn, 1) := by decide +kernel
theorem dX10_init_0 : decode cX10_init 0 = .ok (.aload_n 0, 1) := by decide +kernel
theorem dX10_init_1 : decode cX10_init 1 = .ok (.invokespecial 3, 3) := by decide +kernel
theorem dX10_init_4 : decode cX10_init 4 = .ok (.aload_n 0, 1) := by decide +kernel
theorem dX10_init_5 : decode cX10_init 5 = .ok (.iconst 4, 1) := by decide +kernel
theorem dX10_init_6 : decode cX10_init 6 = .ok (.anewarray 11, 3) := by decide +kernel
theorem dX10_init_9 : decode cX10_init 9 = .ok (.putfield 13, 3) := by decide +kernel
theorem dX10_init_12 : decode cX10_init 12 = .ok (.aload_n 0, 1) := by decide +kernel
theorem dX10_init_13 : decode cX10_init 13 = .ok (.new 17, 3) := by decide +kernel
theorem dX10_init_16 : decode cX10_init 16 = .ok (.dup, 1) := by decide +kernel
theorem dX10_init_17 : decode cX10_init 17 = .ok (.invokespecial 19, 3) := by decide +kernel
theorem dX10_init_20 : decode cX10_init 20 = .ok (.putfield 20, 3) := by decide +kernel
theorem dX10_init_23 : decode cX10_init 23 = .ok (.aload_n 0, 1) := by decide +kernel
theorem dX10_init_24 : decode cX10_init 24 = .ok (.new 24, 3) := by decide +kernel
theorem dX10_init_27 : decode cX10_init 27 = .ok (.dup, 1) := by decide +kernel
theorem dX10_init_28 : decode cX10_init 28 = .ok (.invokespecial 26, 3) := by decide +kernel
theorem dX10_init_31 : decode cX10_init 31 = .ok (.putfield 27, 3) := by decide +kernel
theorem dX10_init_34 : decode cX10_init 34 = .ok (.aload_n 0, 1) := by decide +kernel
theorem dX10_init_35 : decode cX10_init 35 = .ok (.new 31, 3) := by decide +kernel
theorem dX10_init_38 : decode cX10_init 38 = .ok (.dup, 1) := by decide +kernel
theorem dX10_init_39 : decode cX10_init 39 = .ok (.invokespecial 33, 3) := by decide +kernel
theorem dX10_init_42 : decode cX10_init 42 = .ok (.putfield 34, 3) := by decide +kernel
theorem dX10_init_45 : decode cX10_init 45 = .ok (.aload_n 0, 1) := by decide +kernel
theorem dX10_init_46 : decode cX10_init 46 = .ok (.new 38, 3) := by decide +kernel
theorem dX10_init_49 : decode cX10_init 49 = .ok (.dup, 1) := by decide +kernel
theorem dX10_init_50 : decode cX10_init 50 = .ok (.invokespecial 40, 3) := by decide +kernel
theorem dX10_init_53 : decode cX10_init 53 = .ok (.putfield 41, 3) := by decide +kernel
theorem dX10_init_56 : decode cX10_init 56 = .ok (.aload_n 0, 1) := by decide +kernel
theorem dX10_init_57 : decode cX10_init 57 = .ok (.new 45, 3) := by decide +kernel
theorem dX10_init_60 : decode cX10_init 60 = .ok (.dup, 1) := by decide +kernel
theorem dX10_init_61 : decode cX10_init 61 = .ok (.invokespecial 47, 3) := by decide +kernel
theorem dX10_init_64 : decode cX10_init 64 = .ok (.putfield 48, 3) := by decide +kernel
theorem dX10_init_67 : decode cX10_init 67 = .ok (.aload_n 0, 1) := by decide +kernel
theorem dX10_init_68 : decode cX10_init 68 = .ok (.new 52, 3) := by decide +kernel
theorem dX10_init_71 : decode cX10_init 71 = .ok (.dup, 1) := by decide +kernel
theorem dX10_init_72 : decode cX10_init 72 = .ok (.invokespecial 54, 3) := by decide +kernel
theorem dX10_init_75 : decode cX10_init 75 = .ok (.putfield 55, 3) := by decide +kernel
theorem dX10_init_78 : decode cX10_init 78 = .ok (.aload_n 0, 1) := by decide +kernel
theorem dX10_init_79 : decode cX10_init 79 = .ok (.iconst 0, 1) := by decide +kernel
theorem dX10_init_80 : decode cX10_init 80 = .ok (.putfield 59, 3) := by decide +kernel
theorem dX10_init_83 : decode cX10_init 83 = .ok (.return_, 1) := by decide +kernel
theorem dX10_vault_0 : decode cX10_vault 0 = .ok (.aload_n 0, 1) := by decide +kernel
theorem dX10_vault_1 : decode cX10_vault 1 = .ok (.iconst 0, 1) := by decide +kernel
theorem dX10_vault_2 : decode cX10_vault 2 = .ok (.putfield 59, 3) := by decide +kernel
theorem dX10_vault_5 : decode cX10_vault 5 = .ok (.iload_n 1, 1) := by decide +kernel
theorem dX10_vault_6 : decode cX10_vault 6 = .ok (.invokestatic 63, 3) := by decide +kernel
theorem dX10_vault_9 : decode cX10_vault 9 = .ok (.ifCond .ne 5, 3) := by decide +kernel
theorem dX10_vault_12 : decode cX10_vault 12 = .ok (.iconst (-1), 1) := by decide +kernel
theorem dX10_vault_13 : decode cX10_vault 13 = .ok (.ireturn, 1) := by decide +kernel
theorem dX10_vault_14 : decode cX10_vault 14 = .ok (.iload_n 2, 1) := by decide +kernel
theorem dX10_vault_15 : decode cX10_vault 15 = .ok (.invokestatic 67, 3) := by decide +kernel
theorem dX10_vault_18 : decode cX10_vault 18 = .ok (.ifCond .ne 6, 3) := by decide +kernel
theorem dX10_vault_21 : decode cX10_vault 21 = .ok (.bipush (-2), 2) := by decide +kernel
theorem dX10_vault_23 : decode cX10_vault 23 = .ok (.ireturn, 1) := by decide +kernel
theorem dX10_vault_24 : decode cX10_vault 24 = .ok (.aload_n 0, 1) := by decide +kernel
theorem dX10_vault_25 : decode cX10_vault 25 = .ok (.getfield 13, 3) := by decide +kernel
theorem dX10_vault_28 : decode cX10_vault 28 = .ok (.iload_n 1, 1) := by decide +kernel
theorem dX10_vault_29 : decode cX10_vault 29 = .ok (.aaload, 1) := by decide +kernel
theorem dX10_vault_30 : decode cX10_vault 30 = .ok (.astore 5, 2) := by decide +kernel
theorem dX10_vault_32 : decode cX10_vault 32 = .ok (.aload 5, 2) := by decide +kernel
theorem dX10_vault_34 : decode cX10_vault 34 = .ok (.ifnonnull 9, 3) := by decide +kernel
theorem dX10_vault_37 : decode cX10_vault 37 = .ok (.aload_n 0, 1) := by decide +kernel
theorem dX10_vault_38 : decode cX10_vault 38 = .ok (.iconst 1, 1) := by decide +kernel
theorem dX10_vault_39 : decode cX10_vault 39 = .ok (.invokevirtual 70, 3) := by decide +kernel
theorem dX10_vault_42 : decode cX10_vault 42 = .ok (.ireturn, 1) := by decide +kernel
theorem dX10_vault_43 : decode cX10_vault 43 = .ok (.aload 5, 2) := by decide +kernel
theorem dX10_vault_45 : decode cX10_vault 45 = .ok (.getfield 74, 3) := by decide +kernel
theorem dX10_vault_48 : decode cX10_vault 48 = .ok (.iload_n 2, 1) := by decide +kernel
theorem dX10_vault_49 : decode cX10_vault 49 = .ok (.if_icmp .eq 9, 3) := by decide +kernel
theorem dX10_vault_52 : decode cX10_vault 52 = .ok (.aload_n 0, 1) := by decide +kernel
theorem dX10_vault_53 : decode cX10_vault 53 = .ok (.iconst 2, 1) := by decide +kernel
theorem dX10_vault_54 : decode cX10_vault 54 = .ok (.invokevirtual 70, 3) := by decide +kernel
theorem dX10_vault_57 : decode cX10_vault 57 = .ok (.ireturn, 1) := by decide +kernel
theorem dX10_vault_58 : decode cX10_vault 58 = .ok (.iload 4, 2) := by decide +kernel
theorem dX10_vault_60 : decode cX10_vault 60 = .ok (.ifCond .ge 9, 3) := by decide +kernel
theorem dX10_vault_63 : decode cX10_vault 63 = .ok (.aload_n 0, 1) := by decide +kernel
theorem dX10_vault_64 : decode cX10_vault 64 = .ok (.iconst 4, 1) := by decide +kernel
theorem dX10_vault_65 : decode cX10_vault 65 = .ok (.invokevirtual 70, 3) := by decide +kernel
theorem dX10_vault_68 : decode cX10_vault 68 = .ok (.ireturn, 1) := by decide +kernel
theorem dX10_vault_69 : decode cX10_vault 69 = .ok (.aload 5, 2) := by decide +kernel
theorem dX10_vault_71 : decode cX10_vault 71 = .ok (.iload_n 3, 1) := by decide +kernel
theorem dX10_vault_72 : decode cX10_vault 72 = .ok (.iload 4, 2) := by decide +kernel
theorem dX10_vault_74 : decode cX10_vault 74 = .ok (.invokevirtual 77, 3) := by decide +kernel
theorem dX10_vault_77 : decode cX10_vault 77 = .ok (.ifCond .ne 9, 3) := by decide +kernel
theorem dX10_vault_80 : decode cX10_vault 80 = .ok (.aload_n 0, 1) := by decide +kernel
theorem dX10_vault_81 : decode cX10_vault 81 = .ok (.iconst 3, 1) := by decide +kernel
theorem dX10_vault_82 : decode cX10_vault 82 = .ok (.invokevirtual 70, 3) := by decide +kernel
theorem dX10_vault_85 : decode cX10_vault 85 = .ok (.ireturn, 1) := by decide +kernel
theorem dX10_vault_86 : decode cX10_vault 86 = .ok (.aload_n 0, 1) := by decide +kernel
theorem dX10_vault_87 : decode cX10_vault 87 = .ok (.getfield 20, 3) := by decide +kernel
theorem dX10_vault_90 : decode cX10_vault 90 = .ok (.aload 5, 2) := by decide +kernel
theorem dX10_vault_92 : decode cX10_vault 92 = .ok (.iload_n 3, 1) := by decide +kernel
theorem dX10_vault_93 : decode cX10_vault 93 = .ok (.iload 4, 2) := by decide +kernel
theorem dX10_vault_95 : decode cX10_vault 95 = .ok (.invokevirtual 81, 3) := by decide +kernel
theorem dX10_vault_98 : decode cX10_vault 98 = .ok (.istore 6, 2) := by decide +kernel
theorem dX10_vault_100 : decode cX10_vault 100 = .ok (.iload 6, 2) := by decide +kernel
theorem dX10_vault_102 : decode cX10_vault 102 = .ok (.bipush (-9), 2) := by decide +kernel
theorem dX10_vault_104 : decode cX10_vault 104 = .ok (.if_icmp .eq 9, 3) := by decide +kernel
theorem dX10_vault_107 : decode cX10_vault 107 = .ok (.bipush (-100), 2) := by decide +kernel
theorem dX10_vault_109 : decode cX10_vault 109 = .ok (.iload 6, 2) := by decide +kernel
theorem dX10_vault_111 : decode cX10_vault 111 = .ok (.isub, 1) := by decide +kernel
theorem dX10_vault_112 : decode cX10_vault 112 = .ok (.ireturn, 1) := by decide +kernel
theorem dX10_vault_113 : decode cX10_vault 113 = .ok (.aload_n 0, 1) := by decide +kernel
theorem dX10_vault_114 : decode cX10_vault 114 = .ok (.aload_n 0, 1) := by decide +kernel
theorem dX10_vault_115 : decode cX10_vault 115 = .ok (.getfield 20, 3) := by decide +kernel
theorem dX10_vault_118 : decode cX10_vault 118 = .ok (.aload_n 0, 1) := by decide +kernel
theorem dX10_vault_119 : decode cX10_vault 119 = .ok (.getfield 55, 3) := by decide +kernel
theorem dX10_vault_122 : decode cX10_vault 122 = .ok (.invokevirtual 85, 3) := by decide +kernel
theorem dX10_vault_125 : decode cX10_vault 125 = .ok (.putfield 55, 3) := by decide +kernel
theorem dX10_vault_128 : decode cX10_vault 128 = .ok (.aload_n 0, 1) := by decide +kernel
theorem dX10_vault_129 : decode cX10_vault 129 = .ok (.getfield 27, 3) := by decide +kernel
theorem dX10_vault_132 : decode cX10_vault 132 = .ok (.iconst 0, 1) := by decide +kernel
theorem dX10_vault_133 : decode cX10_vault 133 = .ok (.putfield 89, 3) := by decide +kernel
theorem dX10_vault_136 : decode cX10_vault 136 = .ok (.aload_n 0, 1) := by decide +kernel
theorem dX10_vault_137 : decode cX10_vault 137 = .ok (.getfield 55, 3) := by decide +kernel
theorem dX10_vault_140 : decode cX10_vault 140 = .ok (.getfield 92, 3) := by decide +kernel
theorem dX10_vault_143 : decode cX10_vault 143 = .ok (.ireturn, 1) := by decide +kernel
theorem dX10_ofTaker_0 : decode cX10_ofTaker 0 = .ok (.aload_n 0, 1) := by decide +kernel
theorem dX10_ofTaker_1 : decode cX10_ofTaker 1 = .ok (.getfield 55, 3) := by decide +kernel
theorem dX10_ofTaker_4 : decode cX10_ofTaker 4 = .ok (.iload_n 1, 1) := by decide +kernel
theorem dX10_ofTaker_5 : decode cX10_ofTaker 5 = .ok (.invokevirtual 95, 3) := by decide +kernel
theorem dX10_ofTaker_8 : decode cX10_ofTaker 8 = .ok (.astore_n 3, 1) := by decide +kernel
theorem dX10_ofTaker_9 : decode cX10_ofTaker 9 = .ok (.aload_n 3, 1) := by decide +kernel
theorem dX10_ofTaker_10 : decode cX10_ofTaker 10 = .ok (.ifnonnull 5, 3) := by decide +kernel
theorem dX10_ofTaker_13 : decode cX10_ofTaker 13 = .ok (.iconst (-1), 1) := by decide +kernel
theorem dX10_ofTaker_14 : decode cX10_ofTaker 14 = .ok (.ireturn, 1) := by decide +kernel
theorem dX10_ofTaker_15 : decode cX10_ofTaker 15 = .ok (.iload_n 2, 1) := by decide +kernel
theorem dX10_ofTaker_16 : decode cX10_ofTaker 16 = .ok (.tableswitch 43 0 2 #[28, 33, 38], 28) := by decide +kernel
theorem dX10_ofTaker_44 : decode cX10_ofTaker 44 = .ok (.aload_n 3, 1) := by decide +kernel
theorem dX10_ofTaker_45 : decode cX10_ofTaker 45 = .ok (.invokevirtual 99, 3) := by decide +kernel
theorem dX10_ofTaker_48 : decode cX10_ofTaker 48 = .ok (.ireturn, 1) := by decide +kernel
theorem dX10_ofTaker_49 : decode cX10_ofTaker 49 = .ok (.aload_n 3, 1) := by decide +kernel
theorem dX10_ofTaker_50 : decode cX10_ofTaker 50 = .ok (.getfield 105, 3) := by decide +kernel
theorem dX10_ofTaker_53 : decode cX10_ofTaker 53 = .ok (.ireturn, 1) := by decide +kernel
theorem dX10_ofTaker_54 : decode cX10_ofTaker 54 = .ok (.aload_n 3, 1) := by decide +kernel
theorem dX10_ofTaker_55 : decode cX10_ofTaker 55 = .ok (.getfield 108, 3) := by decide +kernel
theorem dX10_ofTaker_58 : decode cX10_ofTaker 58 = .ok (.ireturn, 1) := by decide +kernel
theorem dX10_ofTaker_59 : decode cX10_ofTaker 59 = .ok (.bipush (-2), 2) := by decide +kernel
theorem dX10_ofTaker_61 : decode cX10_ofTaker 61 = .ok (.ireturn, 1) := by decide +kernel
theorem dX10_depth_0 : decode cX10_depth 0 = .ok (.aload_n 0, 1) := by decide +kernel
theorem dX10_depth_1 : decode cX10_depth 1 = .ok (.getfield 55, 3) := by decide +kernel
theorem dX10_depth_4 : decode cX10_depth 4 = .ok (.iload_n 1, 1) := by decide +kernel
theorem dX10_depth_5 : decode cX10_depth 5 = .ok (.invokevirtual 111, 3) := by decide +kernel
theorem dX10_depth_8 : decode cX10_depth 8 = .ok (.ifCond .eq 15, 3) := by decide +kernel
theorem dX10_depth_11 : decode cX10_depth 11 = .ok (.aload_n 0, 1) := by decide +kernel
theorem dX10_depth_12 : decode cX10_depth 12 = .ok (.getfield 55, 3) := by decide +kernel
theorem dX10_depth_15 : decode cX10_depth 15 = .ok (.getfield 114, 3) := by decide +kernel
theorem dX10_depth_18 : decode cX10_depth 18 = .ok (.iload_n 1, 1) := by decide +kernel
theorem dX10_depth_19 : decode cX10_depth 19 = .ok (.iaload, 1) := by decide +kernel
theorem dX10_depth_20 : decode cX10_depth 20 = .ok (.goto 4, 3) := by decide +kernel
theorem dX10_depth_23 : decode cX10_depth 23 = .ok (.iconst (-1), 1) := by decide +kernel
theorem dX10_depth_24 : decode cX10_depth 24 = .ok (.ireturn, 1) := by decide +kernel
theorem dX10_gloom_0 : decode cX10_gloom 0 = .ok (.aload_n 0, 1) := by decide +kernel
theorem dX10_gloom_1 : decode cX10_gloom 1 = .ok (.getfield 55, 3) := by decide +kernel
theorem dX10_gloom_4 : decode cX10_gloom 4 = .ok (.iload_n 1, 1) := by decide +kernel
theorem dX10_gloom_5 : decode cX10_gloom 5 = .ok (.invokevirtual 118, 3) := by decide +kernel
theorem dX10_gloom_8 : decode cX10_gloom 8 = .ok (.ifCond .eq 15, 3) := by decide +kernel
theorem dX10_gloom_11 : decode cX10_gloom 11 = .ok (.aload_n 0, 1) := by decide +kernel
theorem dX10_gloom_12 : decode cX10_gloom 12 = .ok (.getfield 55, 3) := by decide +kernel
theorem dX10_gloom_15 : decode cX10_gloom 15 = .ok (.getfield 121, 3) := by decide +kernel
theorem dX10_gloom_18 : decode cX10_gloom 18 = .ok (.iload_n 1, 1) := by decide +kernel
theorem dX10_gloom_19 : decode cX10_gloom 19 = .ok (.iaload, 1) := by decide +kernel
theorem dX10_gloom_20 : decode cX10_gloom 20 = .ok (.goto 4, 3) := by decide +kernel
theorem dX10_gloom_23 : decode cX10_gloom 23 = .ok (.iconst (-1), 1) := by decide +kernel
theorem dX10_gloom_24 : decode cX10_gloom 24 = .ok (.ireturn, 1) := by decide +kernel
theorem dX10_hush_0 : decode cX10_hush 0 = .ok (.aload_n 0, 1) := by decide +kernel
theorem dX10_hush_1 : decode cX10_hush 1 = .ok (.getfield 55, 3) := by decide +kernel
theorem dX10_hush_4 : decode cX10_hush 4 = .ok (.iload_n 1, 1) := by decide +kernel
theorem dX10_hush_5 : decode cX10_hush 5 = .ok (.invokevirtual 118, 3) := by decide +kernel
theorem dX10_hush_8 : decode cX10_hush 8 = .ok (.ifCond .ne 5, 3) := by decide +kernel
theorem dX10_hush_11 : decode cX10_hush 11 = .ok (.iconst (-1), 1) := by decide +kernel
theorem dX10_hush_12 : decode cX10_hush 12 = .ok (.ireturn, 1) := by decide +kernel
theorem dX10_hush_13 : decode cX10_hush 13 = .ok (.iload_n 2, 1) := by decide +kernel
theorem dX10_hush_14 : decode cX10_hush 14 = .ok (.ifCond .lt 9, 3) := by decide +kernel
theorem dX10_hush_17 : decode cX10_hush 17 = .ok (.iload_n 2, 1) := by decide +kernel
theorem dX10_hush_18 : decode cX10_hush 18 = .ok (.bipush 9, 2) := by decide +kernel
theorem dX10_hush_20 : decode cX10_hush 20 = .ok (.if_icmp .le 6, 3) := by decide +kernel
theorem dX10_hush_23 : decode cX10_hush 23 = .ok (.bipush (-2), 2) := by decide +kernel
theorem dX10_hush_25 : decode cX10_hush 25 = .ok (.ireturn, 1) := by decide +kernel
theorem dX10_hush_26 : decode cX10_hush 26 = .ok (.aload_n 0, 1) := by decide +kernel
theorem dX10_hush_27 : decode cX10_hush 27 = .ok (.getfield 55, 3) := by decide +kernel
theorem dX10_hush_30 : decode cX10_hush 30 = .ok (.getfield 121, 3) := by decide +kernel
theorem dX10_hush_33 : decode cX10_hush 33 = .ok (.iload_n 1, 1) := by decide +kernel
theorem dX10_hush_34 : decode cX10_hush 34 = .ok (.iaload, 1) := by decide +kernel
theorem dX10_hush_35 : decode cX10_hush 35 = .ok (.istore_n 3, 1) := by decide +kernel
theorem dX10_hush_36 : decode cX10_hush 36 = .ok (.aload_n 0, 1) := by decide +kernel
theorem dX10_hush_37 : decode cX10_hush 37 = .ok (.getfield 55, 3) := by decide +kernel
theorem dX10_hush_40 : decode cX10_hush 40 = .ok (.getfield 121, 3) := by decide +kernel
theorem dX10_hush_43 : decode cX10_hush 43 = .ok (.iload_n 1, 1) := by decide +kernel
theorem dX10_hush_44 : decode cX10_hush 44 = .ok (.iload_n 2, 1) := by decide +kernel
theorem dX10_hush_45 : decode cX10_hush 45 = .ok (.iastore, 1) := by decide +kernel
theorem dX10_hush_46 : decode cX10_hush 46 = .ok (.iload_n 3, 1) := by decide +kernel
theorem dX10_hush_47 : decode cX10_hush 47 = .ok (.ireturn, 1) := by decide +kernel
theorem dX10_think_0 : decode cX10_think 0 = .ok (.aload_n 0, 1) := by decide +kernel
theorem dX10_think_1 : decode cX10_think 1 = .ok (.getfield 55, 3) := by decide +kernel
theorem dX10_think_4 : decode cX10_think 4 = .ok (.iload_n 1, 1) := by decide +kernel
theorem dX10_think_5 : decode cX10_think 5 = .ok (.invokevirtual 95, 3) := by decide +kernel
theorem dX10_think_8 : decode cX10_think 8 = .ok (.astore_n 3, 1) := by decide +kernel
theorem dX10_think_9 : decode cX10_think 9 = .ok (.aload_n 3, 1) := by decide +kernel
theorem dX10_think_10 : decode cX10_think 10 = .ok (.ifnonnull 5, 3) := by decide +kernel
theorem dX10_think_13 : decode cX10_think 13 = .ok (.iconst (-1), 1) := by decide +kernel
theorem dX10_think_14 : decode cX10_think 14 = .ok (.ireturn, 1) := by decide +kernel
theorem dX10_think_15 : decode cX10_think 15 = .ok (.iload_n 2, 1) := by decide +kernel
theorem dX10_think_16 : decode cX10_think 16 = .ok (.ifCond .lt 9, 3) := by decide +kernel
theorem dX10_think_19 : decode cX10_think 19 = .ok (.iload_n 2, 1) := by decide +kernel
theorem dX10_think_20 : decode cX10_think 20 = .ok (.bipush 9, 2) := by decide +kernel
theorem dX10_think_22 : decode cX10_think 22 = .ok (.if_icmp .le 6, 3) := by decide +kernel
theorem dX10_think_25 : decode cX10_think 25 = .ok (.bipush (-2), 2) := by decide +kernel
theorem dX10_think_27 : decode cX10_think 27 = .ok (.ireturn, 1) := by decide +kernel
theorem dX10_think_28 : decode cX10_think 28 = .ok (.aload_n 3, 1) := by decide +kernel
theorem dX10_think_29 : decode cX10_think 29 = .ok (.getfield 108, 3) := by decide +kernel
theorem dX10_think_32 : decode cX10_think 32 = .ok (.istore 4, 2) := by decide +kernel
theorem dX10_think_34 : decode cX10_think 34 = .ok (.aload_n 3, 1) := by decide +kernel
theorem dX10_think_35 : decode cX10_think 35 = .ok (.iload_n 2, 1) := by decide +kernel
theorem dX10_think_36 : decode cX10_think 36 = .ok (.putfield 108, 3) := by decide +kernel
theorem dX10_think_39 : decode cX10_think 39 = .ok (.iload 4, 2) := by decide +kernel
theorem dX10_think_41 : decode cX10_think 41 = .ok (.ireturn, 1) := by decide +kernel
theorem dX10_brace_0 : decode cX10_brace 0 = .ok (.aload_n 0, 1) := by decide +kernel
theorem dX10_brace_1 : decode cX10_brace 1 = .ok (.getfield 55, 3) := by decide +kernel
theorem dX10_brace_4 : decode cX10_brace 4 = .ok (.iload_n 1, 1) := by decide +kernel
theorem dX10_brace_5 : decode cX10_brace 5 = .ok (.invokevirtual 95, 3) := by decide +kernel
theorem dX10_brace_8 : decode cX10_brace 8 = .ok (.astore_n 3, 1) := by decide +kernel
theorem dX10_brace_9 : decode cX10_brace 9 = .ok (.aload_n 3, 1) := by decide +kernel
theorem dX10_brace_10 : decode cX10_brace 10 = .ok (.ifnonnull 5, 3) := by decide +kernel
theorem dX10_brace_13 : decode cX10_brace 13 = .ok (.iconst (-1), 1) := by decide +kernel
theorem dX10_brace_14 : decode cX10_brace 14 = .ok (.ireturn, 1) := by decide +kernel
theorem dX10_brace_15 : decode cX10_brace 15 = .ok (.iload_n 2, 1) := by decide +kernel
theorem dX10_brace_16 : decode cX10_brace 16 = .ok (.ifCond .lt 9, 3) := by decide +kernel
theorem dX10_brace_19 : decode cX10_brace 19 = .ok (.iload_n 2, 1) := by decide +kernel
theorem dX10_brace_20 : decode cX10_brace 20 = .ok (.bipush 99, 2) := by decide +kernel
theorem dX10_brace_22 : decode cX10_brace 22 = .ok (.if_icmp .le 6, 3) := by decide +kernel
theorem dX10_brace_25 : decode cX10_brace 25 = .ok (.bipush (-2), 2) := by decide +kernel
theorem dX10_brace_27 : decode cX10_brace 27 = .ok (.ireturn, 1) := by decide +kernel
theorem dX10_brace_28 : decode cX10_brace 28 = .ok (.aload_n 3, 1) := by decide +kernel
theorem dX10_brace_29 : decode cX10_brace 29 = .ok (.getfield 105, 3) := by decide +kernel
theorem dX10_brace_32 : decode cX10_brace 32 = .ok (.istore 4, 2) := by decide +kernel
theorem dX10_brace_34 : decode cX10_brace 34 = .ok (.aload_n 3, 1) := by decide +kernel
theorem dX10_brace_35 : decode cX10_brace 35 = .ok (.iload_n 2, 1) := by decide +kernel
theorem dX10_brace_36 : decode cX10_brace 36 = .ok (.putfield 105, 3) := by decide +kernel
theorem dX10_brace_39 : decode cX10_brace 39 = .ok (.iload 4, 2) := by decide +kernel
theorem dX10_brace_41 : decode cX10_brace 41 = .ok (.ireturn, 1) := by decide +kernel
theorem dX10_drain_0 : decode cX10_drain 0 = .ok (.aload_n 0, 1) := by decide +kernel
theorem dX10_drain_1 : decode cX10_drain 1 = .ok (.getfield 55, 3) := by decide +kernel
theorem dX10_drain_4 : decode cX10_drain 4 = .ok (.iload_n 1, 1) := by decide +kernel
theorem dX10_drain_5 : decode cX10_drain 5 = .ok (.invokevirtual 95, 3) := by decide +kernel
theorem dX10_drain_8 : decode cX10_drain 8 = .ok (.astore_n 3, 1) := by decide +kernel
theorem dX10_drain_9 : decode cX10_drain 9 = .ok (.aload_n 3, 1) := by decide +kernel
theorem dX10_drain_10 : decode cX10_drain 10 = .ok (.ifnonnull 5, 3) := by decide +kernel
theorem dX10_drain_13 : decode cX10_drain 13 = .ok (.iconst (-1), 1) := by decide +kernel
theorem dX10_drain_14 : decode cX10_drain 14 = .ok (.ireturn, 1) := by decide +kernel
theorem dX10_drain_15 : decode cX10_drain 15 = .ok (.iload_n 2, 1) := by decide +kernel
theorem dX10_drain_16 : decode cX10_drain 16 = .ok (.ifCond .lt 9, 3) := by decide +kernel
theorem dX10_drain_19 : decode cX10_drain 19 = .ok (.iload_n 2, 1) := by decide +kernel
theorem dX10_drain_20 : decode cX10_drain 20 = .ok (.bipush 100, 2) := by decide +kernel
theorem dX10_drain_22 : decode cX10_drain 22 = .ok (.if_icmp .lt 6, 3) := by decide +kernel
theorem dX10_drain_25 : decode cX10_drain 25 = .ok (.bipush (-2), 2) := by decide +kernel
theorem dX10_drain_27 : decode cX10_drain 27 = .ok (.ireturn, 1) := by decide +kernel
theorem dX10_drain_28 : decode cX10_drain 28 = .ok (.aload_n 3, 1) := by decide +kernel
theorem dX10_drain_29 : decode cX10_drain 29 = .ok (.aload_n 0, 1) := by decide +kernel
theorem dX10_drain_30 : decode cX10_drain 30 = .ok (.getfield 55, 3) := by decide +kernel
theorem dX10_drain_33 : decode cX10_drain 33 = .ok (.iload_n 2, 1) := by decide +kernel
theorem dX10_drain_34 : decode cX10_drain 34 = .ok (.invokevirtual 124, 3) := by decide +kernel
theorem dX10_drain_37 : decode cX10_drain 37 = .ok (.invokevirtual 127, 3) := by decide +kernel
theorem dX10_drain_40 : decode cX10_drain 40 = .ok (.ireturn, 1) := by decide +kernel
theorem dX10_holds_0 : decode cX10_holds 0 = .ok (.aload_n 0, 1) := by decide +kernel
theorem dX10_holds_1 : decode cX10_holds 1 = .ok (.getfield 55, 3) := by decide +kernel
theorem dX10_holds_4 : decode cX10_holds 4 = .ok (.iload_n 1, 1) := by decide +kernel
theorem dX10_holds_5 : decode cX10_holds 5 = .ok (.invokevirtual 95, 3) := by decide +kernel
theorem dX10_holds_8 : decode cX10_holds 8 = .ok (.astore_n 3, 1) := by decide +kernel
theorem dX10_holds_9 : decode cX10_holds 9 = .ok (.aload_n 3, 1) := by decide +kernel
theorem dX10_holds_10 : decode cX10_holds 10 = .ok (.ifnonnull 5, 3) := by decide +kernel
theorem dX10_holds_13 : decode cX10_holds 13 = .ok (.iconst (-1), 1) := by decide +kernel
theorem dX10_holds_14 : decode cX10_holds 14 = .ok (.ireturn, 1) := by decide +kernel
theorem dX10_holds_15 : decode cX10_holds 15 = .ok (.iload_n 2, 1) := by decide +kernel
theorem dX10_holds_16 : decode cX10_holds 16 = .ok (.invokestatic 130, 3) := by decide +kernel
theorem dX10_holds_19 : decode cX10_holds 19 = .ok (.ifCond .eq 15, 3) := by decide +kernel
theorem dX10_holds_22 : decode cX10_holds 22 = .ok (.aload_n 0, 1) := by decide +kernel
theorem dX10_holds_23 : decode cX10_holds 23 = .ok (.getfield 55, 3) := by decide +kernel
theorem dX10_holds_26 : decode cX10_holds 26 = .ok (.aload_n 3, 1) := by decide +kernel
theorem dX10_holds_27 : decode cX10_holds 27 = .ok (.iload_n 2, 1) := by decide +kernel
theorem dX10_holds_28 : decode cX10_holds 28 = .ok (.invokevirtual 133, 3) := by decide +kernel
theorem dX10_holds_31 : decode cX10_holds 31 = .ok (.goto 5, 3) := by decide +kernel
theorem dX10_holds_34 : decode cX10_holds 34 = .ok (.bipush (-2), 2) := by decide +kernel
theorem dX10_holds_36 : decode cX10_holds 36 = .ok (.ireturn, 1) := by decide +kernel
theorem dX10_best_0 : decode cX10_best 0 = .ok (.aload_n 0, 1) := by decide +kernel
theorem dX10_best_1 : decode cX10_best 1 = .ok (.getfield 55, 3) := by decide +kernel
theorem dX10_best_4 : decode cX10_best 4 = .ok (.iload_n 1, 1) := by decide +kernel
theorem dX10_best_5 : decode cX10_best 5 = .ok (.invokevirtual 95, 3) := by decide +kernel
theorem dX10_best_8 : decode cX10_best 8 = .ok (.astore_n 3, 1) := by decide +kernel
theorem dX10_best_9 : decode cX10_best 9 = .ok (.aload_n 3, 1) := by decide +kernel
theorem dX10_best_10 : decode cX10_best 10 = .ok (.ifnonnull 5, 3) := by decide +kernel
theorem dX10_best_13 : decode cX10_best 13 = .ok (.iconst (-1), 1) := by decide +kernel
theorem dX10_best_14 : decode cX10_best 14 = .ok (.ireturn, 1) := by decide +kernel
theorem dX10_best_15 : decode cX10_best 15 = .ok (.iload_n 2, 1) := by decide +kernel
theorem dX10_best_16 : decode cX10_best 16 = .ok (.ifCond .eq 11, 3) := by decide +kernel
theorem dX10_best_19 : decode cX10_best 19 = .ok (.iload_n 2, 1) := by decide +kernel
theorem dX10_best_20 : decode cX10_best 20 = .ok (.iconst 1, 1) := by decide +kernel
theorem dX10_best_21 : decode cX10_best 21 = .ok (.if_icmp .eq 6, 3) := by decide +kernel
theorem dX10_best_24 : decode cX10_best 24 = .ok (.bipush (-2), 2) := by decide +kernel
theorem dX10_best_26 : decode cX10_best 26 = .ok (.ireturn, 1) := by decide +kernel
theorem dX10_best_27 : decode cX10_best 27 = .ok (.aload_n 0, 1) := by decide +kernel
theorem dX10_best_28 : decode cX10_best 28 = .ok (.getfield 55, 3) := by decide +kernel
theorem dX10_best_31 : decode cX10_best 31 = .ok (.aload_n 3, 1) := by decide +kernel
theorem dX10_best_32 : decode cX10_best 32 = .ok (.invokevirtual 137, 3) := by decide +kernel
theorem dX10_best_35 : decode cX10_best 35 = .ok (.istore 4, 2) := by decide +kernel
theorem dX10_best_37 : decode cX10_best 37 = .ok (.iload_n 2, 1) := by decide +kernel
theorem dX10_best_38 : decode cX10_best 38 = .ok (.ifCond .ne 8, 3) := by decide +kernel
theorem dX10_best_41 : decode cX10_best 41 = .ok (.iload 4, 2) := by decide +kernel
theorem dX10_best_43 : decode cX10_best 43 = .ok (.goto 13, 3) := by decide +kernel
theorem dX10_best_46 : decode cX10_best 46 = .ok (.aload_n 0, 1) := by decide +kernel
theorem dX10_best_47 : decode cX10_best 47 = .ok (.getfield 55, 3) := by decide +kernel
theorem dX10_best_50 : decode cX10_best 50 = .ok (.aload_n 3, 1) := by decide +kernel
theorem dX10_best_51 : decode cX10_best 51 = .ok (.iload 4, 2) := by decide +kernel
theorem dX10_best_53 : decode cX10_best 53 = .ok (.invokevirtual 133, 3) := by decide +kernel
theorem dX10_best_56 : decode cX10_best 56 = .ok (.ireturn, 1) := by decide +kernel
theorem dX10_together_0 : decode cX10_together 0 = .ok (.aload_n 0, 1) := by decide +kernel
theorem dX10_together_1 : decode cX10_together 1 = .ok (.getfield 55, 3) := by decide +kernel
theorem dX10_together_4 : decode cX10_together 4 = .ok (.iload_n 1, 1) := by decide +kernel
theorem dX10_together_5 : decode cX10_together 5 = .ok (.invokevirtual 95, 3) := by decide +kernel
theorem dX10_together_8 : decode cX10_together 8 = .ok (.astore 4, 2) := by decide +kernel
theorem dX10_together_10 : decode cX10_together 10 = .ok (.aload_n 0, 1) := by decide +kernel
theorem dX10_together_11 : decode cX10_together 11 = .ok (.getfield 55, 3) := by decide +kernel
theorem dX10_together_14 : decode cX10_together 14 = .ok (.iload_n 2, 1) := by decide +kernel
theorem dX10_together_15 : decode cX10_together 15 = .ok (.invokevirtual 95, 3) := by decide +kernel
theorem dX10_together_18 : decode cX10_together 18 = .ok (.astore 5, 2) := by decide +kernel
theorem dX10_together_20 : decode cX10_together 20 = .ok (.aload 4, 2) := by decide +kernel
theorem dX10_together_22 : decode cX10_together 22 = .ok (.ifnull 13, 3) := by decide +kernel
theorem dX10_together_25 : decode cX10_together 25 = .ok (.aload 5, 2) := by decide +kernel
theorem dX10_together_27 : decode cX10_together 27 = .ok (.ifnull 8, 3) := by decide +kernel
theorem dX10_together_30 : decode cX10_together 30 = .ok (.iload_n 1, 1) := by decide +kernel
theorem dX10_together_31 : decode cX10_together 31 = .ok (.iload_n 2, 1) := by decide +kernel
theorem dX10_together_32 : decode cX10_together 32 = .ok (.if_icmp .ne 5, 3) := by decide +kernel
theorem dX10_together_35 : decode cX10_together 35 = .ok (.iconst (-1), 1) := by decide +kernel
theorem dX10_together_36 : decode cX10_together 36 = .ok (.ireturn, 1) := by decide +kernel
theorem dX10_together_37 : decode cX10_together 37 = .ok (.iload_n 3, 1) := by decide +kernel
theorem dX10_together_38 : decode cX10_together 38 = .ok (.invokestatic 130, 3) := by decide +kernel
theorem dX10_together_41 : decode cX10_together 41 = .ok (.ifCond .eq 18, 3) := by decide +kernel
theorem dX10_together_44 : decode cX10_together 44 = .ok (.aload_n 0, 1) := by decide +kernel
theorem dX10_together_45 : decode cX10_together 45 = .ok (.getfield 55, 3) := by decide +kernel
theorem dX10_together_48 : decode cX10_together 48 = .ok (.aload 4, 2) := by decide +kernel
theorem dX10_together_50 : decode cX10_together 50 = .ok (.aload 5, 2) := by decide +kernel
theorem dX10_together_52 : decode cX10_together 52 = .ok (.iload_n 3, 1) := by decide +kernel
theorem dX10_together_53 : decode cX10_together 53 = .ok (.invokevirtual 141, 3) := by decide +kernel
theorem dX10_together_56 : decode cX10_together 56 = .ok (.goto 5, 3) := by decide +kernel
theorem dX10_together_59 : decode cX10_together 59 = .ok (.bipush (-2), 2) := by decide +kernel
theorem dX10_together_61 : decode cX10_together 61 = .ok (.ireturn, 1) := by decide +kernel
theorem dX10_friend_0 : decode cX10_friend 0 = .ok (.aload_n 0, 1) := by decide +kernel
theorem dX10_friend_1 : decode cX10_friend 1 = .ok (.getfield 55, 3) := by decide +kernel
theorem dX10_friend_4 : decode cX10_friend 4 = .ok (.iload_n 1, 1) := by decide +kernel
theorem dX10_friend_5 : decode cX10_friend 5 = .ok (.invokevirtual 95, 3) := by decide +kernel
theorem dX10_friend_8 : decode cX10_friend 8 = .ok (.astore_n 3, 1) := by decide +kernel
theorem dX10_friend_9 : decode cX10_friend 9 = .ok (.aload_n 3, 1) := by decide +kernel
theorem dX10_friend_10 : decode cX10_friend 10 = .ok (.ifnonnull 5, 3) := by decide +kernel
theorem dX10_friend_13 : decode cX10_friend 13 = .ok (.iconst (-1), 1) := by decide +kernel
theorem dX10_friend_14 : decode cX10_friend 14 = .ok (.ireturn, 1) := by decide +kernel
theorem dX10_friend_15 : decode cX10_friend 15 = .ok (.iload_n 2, 1) := by decide +kernel
theorem dX10_friend_16 : decode cX10_friend 16 = .ok (.invokestatic 130, 3) := by decide +kernel
theorem dX10_friend_19 : decode cX10_friend 19 = .ok (.ifCond .eq 15, 3) := by decide +kernel
theorem dX10_friend_22 : decode cX10_friend 22 = .ok (.aload_n 0, 1) := by decide +kernel
theorem dX10_friend_23 : decode cX10_friend 23 = .ok (.getfield 55, 3) := by decide +kernel
theorem dX10_friend_26 : decode cX10_friend 26 = .ok (.aload_n 3, 1) := by decide +kernel
theorem dX10_friend_27 : decode cX10_friend 27 = .ok (.iload_n 2, 1) := by decide +kernel
theorem dX10_friend_28 : decode cX10_friend 28 = .ok (.invokevirtual 145, 3) := by decide +kernel
theorem dX10_friend_31 : decode cX10_friend 31 = .ok (.goto 5, 3) := by decide +kernel
theorem dX10_friend_34 : decode cX10_friend 34 = .ok (.bipush (-2), 2) := by decide +kernel
theorem dX10_friend_36 : decode cX10_friend 36 = .ok (.ireturn, 1) := by decide +kernel
theorem dX10_night_0 : decode cX10_night 0 = .ok (.aload_n 0, 1) := by decide +kernel
theorem dX10_night_1 : decode cX10_night 1 = .ok (.iconst 0, 1) := by decide +kernel
theorem dX10_night_2 : decode cX10_night 2 = .ok (.putfield 59, 3) := by decide +kernel
theorem dX10_night_5 : decode cX10_night 5 = .ok (.iload_n 1, 1) := by decide +kernel
theorem dX10_night_6 : decode cX10_night 6 = .ok (.invokestatic 63, 3) := by decide +kernel
theorem dX10_night_9 : decode cX10_night 9 = .ok (.ifCond .ne 5, 3) := by decide +kernel
theorem dX10_night_12 : decode cX10_night 12 = .ok (.iconst (-1), 1) := by decide +kernel
theorem dX10_night_13 : decode cX10_night 13 = .ok (.ireturn, 1) := by decide +kernel
theorem dX10_night_14 : decode cX10_night 14 = .ok (.iload_n 2, 1) := by decide +kernel
theorem dX10_night_15 : decode cX10_night 15 = .ok (.invokestatic 67, 3) := by decide +kernel
theorem dX10_night_18 : decode cX10_night 18 = .ok (.ifCond .eq 23, 3) := by decide +kernel
theorem dX10_night_21 : decode cX10_night 21 = .ok (.iload 4, 2) := by decide +kernel
theorem dX10_night_23 : decode cX10_night 23 = .ok (.ifCond .lt 18, 3) := by decide +kernel
theorem dX10_night_26 : decode cX10_night 26 = .ok (.iload 4, 2) := by decide +kernel
theorem dX10_night_28 : decode cX10_night 28 = .ok (.bipush 20, 2) := by decide +kernel
theorem dX10_night_30 : decode cX10_night 30 = .ok (.if_icmp .gt 11, 3) := by decide +kernel
theorem dX10_night_33 : decode cX10_night 33 = .ok (.iload 5, 2) := by decide +kernel
theorem dX10_night_35 : decode cX10_night 35 = .ok (.invokestatic 148, 3) := by decide +kernel
theorem dX10_night_38 : decode cX10_night 38 = .ok (.ifCond .ne 6, 3) := by decide +kernel
theorem dX10_night_41 : decode cX10_night 41 = .ok (.bipush (-2), 2) := by decide +kernel
theorem dX10_night_43 : decode cX10_night 43 = .ok (.ireturn, 1) := by decide +kernel
theorem dX10_night_44 : decode cX10_night 44 = .ok (.aload_n 0, 1) := by decide +kernel
theorem dX10_night_45 : decode cX10_night 45 = .ok (.getfield 13, 3) := by decide +kernel
theorem dX10_night_48 : decode cX10_night 48 = .ok (.iload_n 1, 1) := by decide +kernel
theorem dX10_night_49 : decode cX10_night 49 = .ok (.aaload, 1) := by decide +kernel
theorem dX10_night_50 : decode cX10_night 50 = .ok (.astore 6, 2) := by decide +kernel
theorem dX10_night_52 : decode cX10_night 52 = .ok (.aload 6, 2) := by decide +kernel
theorem dX10_night_54 : decode cX10_night 54 = .ok (.ifnonnull 9, 3) := by decide +kernel
theorem dX10_night_57 : decode cX10_night 57 = .ok (.aload_n 0, 1) := by decide +kernel
theorem dX10_night_58 : decode cX10_night 58 = .ok (.iconst 1, 1) := by decide +kernel
theorem dX10_night_59 : decode cX10_night 59 = .ok (.invokevirtual 70, 3) := by decide +kernel
theorem dX10_night_62 : decode cX10_night 62 = .ok (.ireturn, 1) := by decide +kernel
theorem dX10_night_63 : decode cX10_night 63 = .ok (.aload 6, 2) := by decide +kernel
theorem dX10_night_65 : decode cX10_night 65 = .ok (.getfield 74, 3) := by decide +kernel
theorem dX10_night_68 : decode cX10_night 68 = .ok (.iload_n 2, 1) := by decide +kernel
theorem dX10_night_69 : decode cX10_night 69 = .ok (.if_icmp .eq 9, 3) := by decide +kernel
theorem dX10_night_72 : decode cX10_night 72 = .ok (.aload_n 0, 1) := by decide +kernel
theorem dX10_night_73 : decode cX10_night 73 = .ok (.iconst 2, 1) := by decide +kernel
theorem dX10_night_74 : decode cX10_night 74 = .ok (.invokevirtual 70, 3) := by decide +kernel
theorem dX10_night_77 : decode cX10_night 77 = .ok (.ireturn, 1) := by decide +kernel
theorem dX10_night_78 : decode cX10_night 78 = .ok (.aload 6, 2) := by decide +kernel
theorem dX10_night_80 : decode cX10_night 80 = .ok (.iload_n 3, 1) := by decide +kernel
theorem dX10_night_81 : decode cX10_night 81 = .ok (.iconst 2, 1) := by decide +kernel
theorem dX10_night_82 : decode cX10_night 82 = .ok (.iload 4, 2) := by decide +kernel
theorem dX10_night_84 : decode cX10_night 84 = .ok (.imul, 1) := by decide +kernel
theorem dX10_night_85 : decode cX10_night 85 = .ok (.invokevirtual 77, 3) := by decide +kernel
theorem dX10_night_88 : decode cX10_night 88 = .ok (.ifCond .ne 9, 3) := by decide +kernel
theorem dX10_night_91 : decode cX10_night 91 = .ok (.aload_n 0, 1) := by decide +kernel
theorem dX10_night_92 : decode cX10_night 92 = .ok (.iconst 3, 1) := by decide +kernel
theorem dX10_night_93 : decode cX10_night 93 = .ok (.invokevirtual 70, 3) := by decide +kernel
theorem dX10_night_96 : decode cX10_night 96 = .ok (.ireturn, 1) := by decide +kernel
theorem dX10_night_97 : decode cX10_night 97 = .ok (.aload_n 0, 1) := by decide +kernel
theorem dX10_night_98 : decode cX10_night 98 = .ok (.getfield 55, 3) := by decide +kernel
theorem dX10_night_101 : decode cX10_night 101 = .ok (.invokevirtual 151, 3) := by decide +kernel
theorem dX10_night_104 : decode cX10_night 104 = .ok (.ifCond .ne 6, 3) := by decide +kernel
theorem dX10_night_107 : decode cX10_night 107 = .ok (.bipush (-3), 2) := by decide +kernel
theorem dX10_night_109 : decode cX10_night 109 = .ok (.ireturn, 1) := by decide +kernel
theorem dX10_night_110 : decode cX10_night 110 = .ok (.aload_n 0, 1) := by decide +kernel
theorem dX10_night_111 : decode cX10_night 111 = .ok (.getfield 34, 3) := by decide +kernel
theorem dX10_night_114 : decode cX10_night 114 = .ok (.aload_n 0, 1) := by decide +kernel
theorem dX10_night_115 : decode cX10_night 115 = .ok (.getfield 55, 3) := by decide +kernel
theorem dX10_night_118 : decode cX10_night 118 = .ok (.aload 6, 2) := by decide +kernel
theorem dX10_night_120 : decode cX10_night 120 = .ok (.iload_n 3, 1) := by decide +kernel
theorem dX10_night_121 : decode cX10_night 121 = .ok (.iload 4, 2) := by decide +kernel
theorem dX10_night_123 : decode cX10_night 123 = .ok (.invokevirtual 155, 3) := by decide +kernel
theorem dX10_night_126 : decode cX10_night 126 = .ok (.istore 7, 2) := by decide +kernel
theorem dX10_night_128 : decode cX10_night 128 = .ok (.iload 7, 2) := by decide +kernel
theorem dX10_night_130 : decode cX10_night 130 = .ok (.ifCond .ne 19, 3) := by decide +kernel
theorem dX10_night_133 : decode cX10_night 133 = .ok (.aload_n 0, 1) := by decide +kernel
theorem dX10_night_134 : decode cX10_night 134 = .ok (.getfield 34, 3) := by decide +kernel
theorem dX10_night_137 : decode cX10_night 137 = .ok (.aload_n 0, 1) := by decide +kernel
theorem dX10_night_138 : decode cX10_night 138 = .ok (.getfield 55, 3) := by decide +kernel
theorem dX10_night_141 : decode cX10_night 141 = .ok (.iload 5, 2) := by decide +kernel
theorem dX10_night_143 : decode cX10_night 143 = .ok (.invokevirtual 159, 3) := by decide +kernel
theorem dX10_night_146 : decode cX10_night 146 = .ok (.goto 5, 3) := by decide +kernel
theorem dX10_night_149 : decode cX10_night 149 = .ok (.iload 7, 2) := by decide +kernel
theorem dX10_night_151 : decode cX10_night 151 = .ok (.ireturn, 1) := by decide +kernel
theorem dX10_gets_0 : decode cX10_gets 0 = .ok (.aload_n 0, 1) := by decide +kernel
theorem dX10_gets_1 : decode cX10_gets 1 = .ok (.getfield 55, 3) := by decide +kernel
theorem dX10_gets_4 : decode cX10_gets 4 = .ok (.iload_n 1, 1) := by decide +kernel
theorem dX10_gets_5 : decode cX10_gets 5 = .ok (.invokevirtual 95, 3) := by decide +kernel
theorem dX10_gets_8 : decode cX10_gets 8 = .ok (.astore_n 3, 1) := by decide +kernel
theorem dX10_gets_9 : decode cX10_gets 9 = .ok (.aload_n 3, 1) := by decide +kernel
theorem dX10_gets_10 : decode cX10_gets 10 = .ok (.ifnonnull 5, 3) := by decide +kernel
theorem dX10_gets_13 : decode cX10_gets 13 = .ok (.iconst (-1), 1) := by decide +kernel
theorem dX10_gets_14 : decode cX10_gets 14 = .ok (.ireturn, 1) := by decide +kernel
theorem dX10_gets_15 : decode cX10_gets 15 = .ok (.iload_n 2, 1) := by decide +kernel
theorem dX10_gets_16 : decode cX10_gets 16 = .ok (.invokestatic 130, 3) := by decide +kernel
theorem dX10_gets_19 : decode cX10_gets 19 = .ok (.ifCond .eq 15, 3) := by decide +kernel
theorem dX10_gets_22 : decode cX10_gets 22 = .ok (.aload_n 0, 1) := by decide +kernel
theorem dX10_gets_23 : decode cX10_gets 23 = .ok (.getfield 55, 3) := by decide +kernel
theorem dX10_gets_26 : decode cX10_gets 26 = .ok (.aload_n 3, 1) := by decide +kernel
theorem dX10_gets_27 : decode cX10_gets 27 = .ok (.iload_n 2, 1) := by decide +kernel
theorem dX10_gets_28 : decode cX10_gets 28 = .ok (.invokevirtual 163, 3) := by decide +kernel
theorem dX10_gets_31 : decode cX10_gets 31 = .ok (.goto 5, 3) := by decide +kernel
theorem dX10_gets_34 : decode cX10_gets 34 = .ok (.bipush (-2), 2) := by decide +kernel
theorem dX10_gets_36 : decode cX10_gets 36 = .ok (.ireturn, 1) := by decide +kernel
theorem dX10_send_0 : decode cX10_send 0 = .ok (.iload_n 1, 1) := by decide +kernel
theorem dX10_send_1 : decode cX10_send 1 = .ok (.invokestatic 130, 3) := by decide +kernel
theorem dX10_send_4 : decode cX10_send 4 = .ok (.ifCond .eq 13, 3) := by decide +kernel
theorem dX10_send_7 : decode cX10_send 7 = .ok (.iload_n 2, 1) := by decide +kernel
theorem dX10_send_8 : decode cX10_send 8 = .ok (.iconst (-1), 1) := by decide +kernel
theorem dX10_send_9 : decode cX10_send 9 = .ok (.if_icmp .lt 8, 3) := by decide +kernel
theorem dX10_send_12 : decode cX10_send 12 = .ok (.iload_n 2, 1) := by decide +kernel
theorem dX10_send_13 : decode cX10_send 13 = .ok (.iconst 5, 1) := by decide +kernel
theorem dX10_send_14 : decode cX10_send 14 = .ok (.if_icmp .lt 6, 3) := by decide +kernel
theorem dX10_send_17 : decode cX10_send 17 = .ok (.bipush (-2), 2) := by decide +kernel
theorem dX10_send_19 : decode cX10_send 19 = .ok (.ireturn, 1) := by decide +kernel
theorem dX10_send_20 : decode cX10_send 20 = .ok (.aload_n 0, 1) := by decide +kernel
theorem dX10_send_21 : decode cX10_send 21 = .ok (.getfield 55, 3) := by decide +kernel
theorem dX10_send_24 : decode cX10_send 24 = .ok (.invokevirtual 151, 3) := by decide +kernel
theorem dX10_send_27 : decode cX10_send 27 = .ok (.ifCond .ne 6, 3) := by decide +kernel
theorem dX10_send_30 : decode cX10_send 30 = .ok (.bipush (-3), 2) := by decide +kernel
theorem dX10_send_32 : decode cX10_send 32 = .ok (.ireturn, 1) := by decide +kernel
theorem dX10_send_33 : decode cX10_send 33 = .ok (.aload_n 0, 1) := by decide +kernel
theorem dX10_send_34 : decode cX10_send 34 = .ok (.getfield 41, 3) := by decide +kernel
theorem dX10_send_37 : decode cX10_send 37 = .ok (.aload_n 0, 1) := by decide +kernel
theorem dX10_send_38 : decode cX10_send 38 = .ok (.getfield 55, 3) := by decide +kernel
theorem dX10_send_41 : decode cX10_send 41 = .ok (.iload_n 1, 1) := by decide +kernel
theorem dX10_send_42 : decode cX10_send 42 = .ok (.invokevirtual 166, 3) := by decide +kernel
theorem dX10_send_45 : decode cX10_send 45 = .ok (.iload_n 2, 1) := by decide +kernel
theorem dX10_send_46 : decode cX10_send 46 = .ok (.iconst (-1), 1) := by decide +kernel
theorem dX10_send_47 : decode cX10_send 47 = .ok (.if_icmp .ne 13, 3) := by decide +kernel
theorem dX10_send_50 : decode cX10_send 50 = .ok (.aload_n 0, 1) := by decide +kernel
theorem dX10_send_51 : decode cX10_send 51 = .ok (.getfield 41, 3) := by decide +kernel
theorem dX10_send_54 : decode cX10_send 54 = .ok (.invokevirtual 170, 3) := by decide +kernel
theorem dX10_send_57 : decode cX10_send 57 = .ok (.goto 15, 3) := by decide +kernel
theorem dX10_send_60 : decode cX10_send 60 = .ok (.aload_n 0, 1) := by decide +kernel
theorem dX10_send_61 : decode cX10_send 61 = .ok (.getfield 41, 3) := by decide +kernel
theorem dX10_send_64 : decode cX10_send 64 = .ok (.aload_n 0, 1) := by decide +kernel
theorem dX10_send_65 : decode cX10_send 65 = .ok (.getfield 55, 3) := by decide +kernel
theorem dX10_send_68 : decode cX10_send 68 = .ok (.iload_n 2, 1) := by decide +kernel
theorem dX10_send_69 : decode cX10_send 69 = .ok (.invokevirtual 173, 3) := by decide +kernel
theorem dX10_send_72 : decode cX10_send 72 = .ok (.ireturn, 1) := by decide +kernel
theorem dX10_reading_0 : decode cX10_reading 0 = .ok (.aload_n 0, 1) := by decide +kernel
theorem dX10_reading_1 : decode cX10_reading 1 = .ok (.getfield 55, 3) := by decide +kernel
theorem dX10_reading_4 : decode cX10_reading 4 = .ok (.iload_n 1, 1) := by decide +kernel
theorem dX10_reading_5 : decode cX10_reading 5 = .ok (.invokevirtual 95, 3) := by decide +kernel
theorem dX10_reading_8 : decode cX10_reading 8 = .ok (.ifnonnull 5, 3) := by decide +kernel
theorem dX10_reading_11 : decode cX10_reading 11 = .ok (.iconst (-1), 1) := by decide +kernel
theorem dX10_reading_12 : decode cX10_reading 12 = .ok (.ireturn, 1) := by decide +kernel
theorem dX10_reading_13 : decode cX10_reading 13 = .ok (.iload_n 2, 1) := by decide +kernel
theorem dX10_reading_14 : decode cX10_reading 14 = .ok (.invokestatic 130, 3) := by decide +kernel
theorem dX10_reading_17 : decode cX10_reading 17 = .ok (.ifCond .eq 13, 3) := by decide +kernel
theorem dX10_reading_20 : decode cX10_reading 20 = .ok (.iload_n 3, 1) := by decide +kernel
theorem dX10_reading_21 : decode cX10_reading 21 = .ok (.ifCond .lt 9, 3) := by decide +kernel
theorem dX10_reading_24 : decode cX10_reading 24 = .ok (.iload_n 3, 1) := by decide +kernel
theorem dX10_reading_25 : decode cX10_reading 25 = .ok (.bipush 40, 2) := by decide +kernel
theorem dX10_reading_27 : decode cX10_reading 27 = .ok (.if_icmp .le 6, 3) := by decide +kernel
theorem dX10_reading_30 : decode cX10_reading 30 = .ok (.bipush (-2), 2) := by decide +kernel
theorem dX10_reading_32 : decode cX10_reading 32 = .ok (.ireturn, 1) := by decide +kernel
theorem dX10_reading_33 : decode cX10_reading 33 = .ok (.aload_n 0, 1) := by decide +kernel
theorem dX10_reading_34 : decode cX10_reading 34 = .ok (.getfield 27, 3) := by decide +kernel
theorem dX10_reading_37 : decode cX10_reading 37 = .ok (.iload_n 1, 1) := by decide +kernel
theorem dX10_reading_38 : decode cX10_reading 38 = .ok (.iload_n 2, 1) := by decide +kernel
theorem dX10_reading_39 : decode cX10_reading 39 = .ok (.iload_n 3, 1) := by decide +kernel
theorem dX10_reading_40 : decode cX10_reading 40 = .ok (.invokevirtual 176, 3) := by decide +kernel
theorem dX10_reading_43 : decode cX10_reading 43 = .ok (.ireturn, 1) := by decide +kernel
theorem dX10_back_0 : decode cX10_back 0 = .ok (.iload_n 1, 1) := by decide +kernel
theorem dX10_back_1 : decode cX10_back 1 = .ok (.ifCond .lt 14, 3) := by decide +kernel
theorem dX10_back_4 : decode cX10_back 4 = .ok (.iload_n 1, 1) := by decide +kernel
theorem dX10_back_5 : decode cX10_back 5 = .ok (.aload_n 0, 1) := by decide +kernel
theorem dX10_back_6 : decode cX10_back 6 = .ok (.getfield 27, 3) := by decide +kernel
theorem dX10_back_9 : decode cX10_back 9 = .ok (.getfield 89, 3) := by decide +kernel
theorem dX10_back_12 : decode cX10_back 12 = .ok (.if_icmp .le 6, 3) := by decide +kernel
theorem dX10_back_15 : decode cX10_back 15 = .ok (.bipush (-2), 2) := by decide +kernel
theorem dX10_back_17 : decode cX10_back 17 = .ok (.ireturn, 1) := by decide +kernel
theorem dX10_back_18 : decode cX10_back 18 = .ok (.aload_n 0, 1) := by decide +kernel
theorem dX10_back_19 : decode cX10_back 19 = .ok (.getfield 27, 3) := by decide +kernel
theorem dX10_back_22 : decode cX10_back 22 = .ok (.dup, 1) := by decide +kernel
theorem dX10_back_23 : decode cX10_back 23 = .ok (.getfield 89, 3) := by decide +kernel
theorem dX10_back_26 : decode cX10_back 26 = .ok (.iload_n 1, 1) := by decide +kernel
theorem dX10_back_27 : decode cX10_back 27 = .ok (.isub, 1) := by decide +kernel
theorem dX10_back_28 : decode cX10_back 28 = .ok (.putfield 89, 3) := by decide +kernel
theorem dX10_back_31 : decode cX10_back 31 = .ok (.aload_n 0, 1) := by decide +kernel
theorem dX10_back_32 : decode cX10_back 32 = .ok (.getfield 27, 3) := by decide +kernel
theorem dX10_back_35 : decode cX10_back 35 = .ok (.getfield 89, 3) := by decide +kernel
theorem dX10_back_38 : decode cX10_back 38 = .ok (.ireturn, 1) := by decide +kernel
theorem dX10_minds_0 : decode cX10_minds 0 = .ok (.aload_n 0, 1) := by decide +kernel
theorem dX10_minds_1 : decode cX10_minds 1 = .ok (.getfield 55, 3) := by decide +kernel
theorem dX10_minds_4 : decode cX10_minds 4 = .ok (.iload_n 1, 1) := by decide +kernel
theorem dX10_minds_5 : decode cX10_minds 5 = .ok (.invokevirtual 95, 3) := by decide +kernel
theorem dX10_minds_8 : decode cX10_minds 8 = .ok (.astore_n 2, 1) := by decide +kernel
theorem dX10_minds_9 : decode cX10_minds 9 = .ok (.aload_n 2, 1) := by decide +kernel
theorem dX10_minds_10 : decode cX10_minds 10 = .ok (.ifnonnull 5, 3) := by decide +kernel
theorem dX10_minds_13 : decode cX10_minds 13 = .ok (.iconst (-1), 1) := by decide +kernel
theorem dX10_minds_14 : decode cX10_minds 14 = .ok (.ireturn, 1) := by decide +kernel
theorem dX10_minds_15 : decode cX10_minds 15 = .ok (.aload_n 2, 1) := by decide +kernel
theorem dX10_minds_16 : decode cX10_minds 16 = .ok (.getfield 108, 3) := by decide +kernel
theorem dX10_minds_19 : decode cX10_minds 19 = .ok (.istore_n 3, 1) := by decide +kernel
theorem dX10_minds_20 : decode cX10_minds 20 = .ok (.iconst 0, 1) := by decide +kernel
theorem dX10_minds_21 : decode cX10_minds 21 = .ok (.istore 4, 2) := by decide +kernel
theorem dX10_minds_23 : decode cX10_minds 23 = .ok (.iconst 0, 1) := by decide +kernel
theorem dX10_minds_24 : decode cX10_minds 24 = .ok (.istore 5, 2) := by decide +kernel
theorem dX10_minds_26 : decode cX10_minds 26 = .ok (.iload 5, 2) := by decide +kernel
theorem dX10_minds_28 : decode cX10_minds 28 = .ok (.bipush 9, 2) := by decide +kernel
theorem dX10_minds_30 : decode cX10_minds 30 = .ok (.if_icmp .gt 38, 3) := by decide +kernel
theorem dX10_minds_33 : decode cX10_minds 33 = .ok (.aload_n 2, 1) := by decide +kernel
theorem dX10_minds_34 : decode cX10_minds 34 = .ok (.iload 5, 2) := by decide +kernel
theorem dX10_minds_36 : decode cX10_minds 36 = .ok (.putfield 108, 3) := by decide +kernel
theorem dX10_minds_39 : decode cX10_minds 39 = .ok (.aload_n 0, 1) := by decide +kernel
theorem dX10_minds_40 : decode cX10_minds 40 = .ok (.getfield 27, 3) := by decide +kernel
theorem dX10_minds_43 : decode cX10_minds 43 = .ok (.aload_n 0, 1) := by decide +kernel
theorem dX10_minds_44 : decode cX10_minds 44 = .ok (.getfield 55, 3) := by decide +kernel
theorem dX10_minds_47 : decode cX10_minds 47 = .ok (.invokevirtual 180, 3) := by decide +kernel
theorem dX10_minds_50 : decode cX10_minds 50 = .ok (.ifCond .eq 12, 3) := by decide +kernel
theorem dX10_minds_53 : decode cX10_minds 53 = .ok (.iload 4, 2) := by decide +kernel
theorem dX10_minds_55 : decode cX10_minds 55 = .ok (.iconst 1, 1) := by decide +kernel
theorem dX10_minds_56 : decode cX10_minds 56 = .ok (.iload 5, 2) := by decide +kernel
theorem dX10_minds_58 : decode cX10_minds 58 = .ok (.ishl, 1) := by decide +kernel
theorem dX10_minds_59 : decode cX10_minds 59 = .ok (.ior, 1) := by decide +kernel
theorem dX10_minds_60 : decode cX10_minds 60 = .ok (.istore 4, 2) := by decide +kernel
theorem dX10_minds_62 : decode cX10_minds 62 = .ok (.iinc 5 1, 3) := by decide +kernel
theorem dX10_minds_65 : decode cX10_minds 65 = .ok (.goto (-39), 3) := by decide +kernel
theorem dX10_minds_68 : decode cX10_minds 68 = .ok (.aload_n 2, 1) := by decide +kernel
theorem dX10_minds_69 : decode cX10_minds 69 = .ok (.iload_n 3, 1) := by decide +kernel
theorem dX10_minds_70 : decode cX10_minds 70 = .ok (.putfield 108, 3) := by decide +kernel
theorem dX10_minds_73 : decode cX10_minds 73 = .ok (.iload 4, 2) := by decide +kernel
theorem dX10_minds_75 : decode cX10_minds 75 = .ok (.ireturn, 1) := by decide +kernel
theorem dX10_kinds_0 : decode cX10_kinds 0 = .ok (.aload_n 0, 1) := by decide +kernel
theorem dX10_kinds_1 : decode cX10_kinds 1 = .ok (.getfield 55, 3) := by decide +kernel
theorem dX10_kinds_4 : decode cX10_kinds 4 = .ok (.iload_n 1, 1) := by decide +kernel
theorem dX10_kinds_5 : decode cX10_kinds 5 = .ok (.invokevirtual 95, 3) := by decide +kernel
theorem dX10_kinds_8 : decode cX10_kinds 8 = .ok (.astore_n 2, 1) := by decide +kernel
theorem dX10_kinds_9 : decode cX10_kinds 9 = .ok (.aload_n 2, 1) := by decide +kernel
theorem dX10_kinds_10 : decode cX10_kinds 10 = .ok (.ifnonnull 5, 3) := by decide +kernel
theorem dX10_kinds_13 : decode cX10_kinds 13 = .ok (.iconst (-1), 1) := by decide +kernel
theorem dX10_kinds_14 : decode cX10_kinds 14 = .ok (.ireturn, 1) := by decide +kernel
theorem dX10_kinds_15 : decode cX10_kinds 15 = .ok (.iconst 0, 1) := by decide +kernel
theorem dX10_kinds_16 : decode cX10_kinds 16 = .ok (.istore_n 3, 1) := by decide +kernel
theorem dX10_kinds_17 : decode cX10_kinds 17 = .ok (.iconst 0, 1) := by decide +kernel
theorem dX10_kinds_18 : decode cX10_kinds 18 = .ok (.istore 4, 2) := by decide +kernel
theorem dX10_kinds_20 : decode cX10_kinds 20 = .ok (.iload 4, 2) := by decide +kernel
theorem dX10_kinds_22 : decode cX10_kinds 22 = .ok (.iconst 2, 1) := by decide +kernel
theorem dX10_kinds_23 : decode cX10_kinds 23 = .ok (.if_icmp .gt 53, 3) := by decide +kernel
theorem dX10_kinds_26 : decode cX10_kinds 26 = .ok (.aload_n 0, 1) := by decide +kernel
theorem dX10_kinds_27 : decode cX10_kinds 27 = .ok (.getfield 55, 3) := by decide +kernel
theorem dX10_kinds_30 : decode cX10_kinds 30 = .ok (.getfield 184, 3) := by decide +kernel
theorem dX10_kinds_33 : decode cX10_kinds 33 = .ok (.iload_n 1, 1) := by decide +kernel
theorem dX10_kinds_34 : decode cX10_kinds 34 = .ok (.iload 4, 2) := by decide +kernel
theorem dX10_kinds_36 : decode cX10_kinds 36 = .ok (.iload_n 1, 1) := by decide +kernel
theorem dX10_kinds_37 : decode cX10_kinds 37 = .ok (.aload_n 2, 1) := by decide +kernel
theorem dX10_kinds_38 : decode cX10_kinds 38 = .ok (.getfield 105, 3) := by decide +kernel
theorem dX10_kinds_41 : decode cX10_kinds 41 = .ok (.aload_n 2, 1) := by decide +kernel
theorem dX10_kinds_42 : decode cX10_kinds 42 = .ok (.getfield 108, 3) := by decide +kernel
theorem dX10_kinds_45 : decode cX10_kinds 45 = .ok (.invokestatic 188, 3) := by decide +kernel
theorem dX10_kinds_48 : decode cX10_kinds 48 = .ok (.aastore, 1) := by decide +kernel
theorem dX10_kinds_49 : decode cX10_kinds 49 = .ok (.aload_n 0, 1) := by decide +kernel
theorem dX10_kinds_50 : decode cX10_kinds 50 = .ok (.getfield 27, 3) := by decide +kernel
theorem dX10_kinds_53 : decode cX10_kinds 53 = .ok (.aload_n 0, 1) := by decide +kernel
theorem dX10_kinds_54 : decode cX10_kinds 54 = .ok (.getfield 55, 3) := by decide +kernel
theorem dX10_kinds_57 : decode cX10_kinds 57 = .ok (.invokevirtual 180, 3) := by decide +kernel
theorem dX10_kinds_60 : decode cX10_kinds 60 = .ok (.ifCond .eq 10, 3) := by decide +kernel
theorem dX10_kinds_63 : decode cX10_kinds 63 = .ok (.iload_n 3, 1) := by decide +kernel
theorem dX10_kinds_64 : decode cX10_kinds 64 = .ok (.iconst 1, 1) := by decide +kernel
theorem dX10_kinds_65 : decode cX10_kinds 65 = .ok (.iload 4, 2) := by decide +kernel
theorem dX10_kinds_67 : decode cX10_kinds 67 = .ok (.ishl, 1) := by decide +kernel
theorem dX10_kinds_68 : decode cX10_kinds 68 = .ok (.ior, 1) := by decide +kernel
theorem dX10_kinds_69 : decode cX10_kinds 69 = .ok (.istore_n 3, 1) := by decide +kernel
theorem dX10_kinds_70 : decode cX10_kinds 70 = .ok (.iinc 4 1, 3) := by decide +kernel
theorem dX10_kinds_73 : decode cX10_kinds 73 = .ok (.goto (-53), 3) := by decide +kernel
theorem dX10_kinds_76 : decode cX10_kinds 76 = .ok (.aload_n 0, 1) := by decide +kernel
theorem dX10_kinds_77 : decode cX10_kinds 77 = .ok (.getfield 55, 3) := by decide +kernel
theorem dX10_kinds_80 : decode cX10_kinds 80 = .ok (.getfield 184, 3) := by decide +kernel
theorem dX10_kinds_83 : decode cX10_kinds 83 = .ok (.iload_n 1, 1) := by decide +kernel
theorem dX10_kinds_84 : decode cX10_kinds 84 = .ok (.aload_n 2, 1) := by decide +kernel
theorem dX10_kinds_85 : decode cX10_kinds 85 = .ok (.aastore, 1) := by decide +kernel
theorem dX10_kinds_86 : decode cX10_kinds 86 = .ok (.iload_n 3, 1) := by decide +kernel
theorem dX10_kinds_87 : decode cX10_kinds 87 = .ok (.ireturn, 1) := by decide +kernel
theorem dX10_glooms_0 : decode cX10_glooms 0 = .ok (.aload_n 0, 1) := by decide +kernel
theorem dX10_glooms_1 : decode cX10_glooms 1 = .ok (.getfield 55, 3) := by decide +kernel
theorem dX10_glooms_4 : decode cX10_glooms 4 = .ok (.iload_n 1, 1) := by decide +kernel
theorem dX10_glooms_5 : decode cX10_glooms 5 = .ok (.invokevirtual 118, 3) := by decide +kernel
theorem dX10_glooms_8 : decode cX10_glooms 8 = .ok (.ifCond .ne 5, 3) := by decide +kernel
theorem dX10_glooms_11 : decode cX10_glooms 11 = .ok (.iconst (-1), 1) := by decide +kernel
theorem dX10_glooms_12 : decode cX10_glooms 12 = .ok (.ireturn, 1) := by decide +kernel
theorem dX10_glooms_13 : decode cX10_glooms 13 = .ok (.aload_n 0, 1) := by decide +kernel
theorem dX10_glooms_14 : decode cX10_glooms 14 = .ok (.getfield 55, 3) := by decide +kernel
theorem dX10_glooms_17 : decode cX10_glooms 17 = .ok (.getfield 121, 3) := by decide +kernel
theorem dX10_glooms_20 : decode cX10_glooms 20 = .ok (.iload_n 1, 1) := by decide +kernel
theorem dX10_glooms_21 : decode cX10_glooms 21 = .ok (.iaload, 1) := by decide +kernel
theorem dX10_glooms_22 : decode cX10_glooms 22 = .ok (.istore_n 2, 1) := by decide +kernel
theorem dX10_glooms_23 : decode cX10_glooms 23 = .ok (.iconst 0, 1) := by decide +kernel
theorem dX10_glooms_24 : decode cX10_glooms 24 = .ok (.istore_n 3, 1) := by decide +kernel
theorem dX10_glooms_25 : decode cX10_glooms 25 = .ok (.iconst 0, 1) := by decide +kernel
theorem dX10_glooms_26 : decode cX10_glooms 26 = .ok (.istore 4, 2) := by decide +kernel
theorem dX10_glooms_28 : decode cX10_glooms 28 = .ok (.iload 4, 2) := by decide +kernel
theorem dX10_glooms_30 : decode cX10_glooms 30 = .ok (.bipush 9, 2) := by decide +kernel
theorem dX10_glooms_32 : decode cX10_glooms 32 = .ok (.if_icmp .gt 41, 3) := by decide +kernel
theorem dX10_glooms_35 : decode cX10_glooms 35 = .ok (.aload_n 0, 1) := by decide +kernel
theorem dX10_glooms_36 : decode cX10_glooms 36 = .ok (.getfield 55, 3) := by decide +kernel
theorem dX10_glooms_39 : decode cX10_glooms 39 = .ok (.getfield 121, 3) := by decide +kernel
theorem dX10_glooms_42 : decode cX10_glooms 42 = .ok (.iload_n 1, 1) := by decide +kernel
theorem dX10_glooms_43 : decode cX10_glooms 43 = .ok (.iload 4, 2) := by decide +kernel
theorem dX10_glooms_45 : decode cX10_glooms 45 = .ok (.iastore, 1) := by decide +kernel
theorem dX10_glooms_46 : decode cX10_glooms 46 = .ok (.aload_n 0, 1) := by decide +kernel
theorem dX10_glooms_47 : decode cX10_glooms 47 = .ok (.getfield 27, 3) := by decide +kernel
theorem dX10_glooms_50 : decode cX10_glooms 50 = .ok (.aload_n 0, 1) := by decide +kernel
theorem dX10_glooms_51 : decode cX10_glooms 51 = .ok (.getfield 55, 3) := by decide +kernel
theorem dX10_glooms_54 : decode cX10_glooms 54 = .ok (.invokevirtual 180, 3) := by decide +kernel
theorem dX10_glooms_57 : decode cX10_glooms 57 = .ok (.ifCond .eq 10, 3) := by decide +kernel
theorem dX10_glooms_60 : decode cX10_glooms 60 = .ok (.iload_n 3, 1) := by decide +kernel
theorem dX10_glooms_61 : decode cX10_glooms 61 = .ok (.iconst 1, 1) := by decide +kernel
theorem dX10_glooms_62 : decode cX10_glooms 62 = .ok (.iload 4, 2) := by decide +kernel
theorem dX10_glooms_64 : decode cX10_glooms 64 = .ok (.ishl, 1) := by decide +kernel
theorem dX10_glooms_65 : decode cX10_glooms 65 = .ok (.ior, 1) := by decide +kernel
theorem dX10_glooms_66 : decode cX10_glooms 66 = .ok (.istore_n 3, 1) := by decide +kernel
theorem dX10_glooms_67 : decode cX10_glooms 67 = .ok (.iinc 4 1, 3) := by decide +kernel
theorem dX10_glooms_70 : decode cX10_glooms 70 = .ok (.goto (-42), 3) := by decide +kernel
theorem dX10_glooms_73 : decode cX10_glooms 73 = .ok (.aload_n 0, 1) := by decide +kernel
theorem dX10_glooms_74 : decode cX10_glooms 74 = .ok (.getfield 55, 3) := by decide +kernel
theorem dX10_glooms_77 : decode cX10_glooms 77 = .ok (.getfield 121, 3) := by decide +kernel
theorem dX10_glooms_80 : decode cX10_glooms 80 = .ok (.iload_n 1, 1) := by decide +kernel
theorem dX10_glooms_81 : decode cX10_glooms 81 = .ok (.iload_n 2, 1) := by decide +kernel
theorem dX10_glooms_82 : decode cX10_glooms 82 = .ok (.iastore, 1) := by decide +kernel
theorem dX10_glooms_83 : decode cX10_glooms 83 = .ok (.iload_n 3, 1) := by decide +kernel
theorem dX10_glooms_84 : decode cX10_glooms 84 = .ok (.ireturn, 1) := by decide +kernel
theorem dX10_odds_0 : decode cX10_odds 0 = .ok (.aload_n 0, 1) := by decide +kernel
theorem dX10_odds_1 : decode cX10_odds 1 = .ok (.getfield 55, 3) := by decide +kernel
theorem dX10_odds_4 : decode cX10_odds 4 = .ok (.iload_n 1, 1) := by decide +kernel
theorem dX10_odds_5 : decode cX10_odds 5 = .ok (.invokevirtual 95, 3) := by decide +kernel
theorem dX10_odds_8 : decode cX10_odds 8 = .ok (.astore 4, 2) := by decide +kernel
theorem dX10_odds_10 : decode cX10_odds 10 = .ok (.aload 4, 2) := by decide +kernel
theorem dX10_odds_12 : decode cX10_odds 12 = .ok (.ifnull 22, 3) := by decide +kernel
theorem dX10_odds_15 : decode cX10_odds 15 = .ok (.iload_n 2, 1) := by decide +kernel
theorem dX10_odds_16 : decode cX10_odds 16 = .ok (.ifCond .lt 18, 3) := by decide +kernel
theorem dX10_odds_19 : decode cX10_odds 19 = .ok (.iload_n 2, 1) := by decide +kernel
theorem dX10_odds_20 : decode cX10_odds 20 = .ok (.bipush 40, 2) := by decide +kernel
theorem dX10_odds_22 : decode cX10_odds 22 = .ok (.if_icmp .gt 12, 3) := by decide +kernel
theorem dX10_odds_25 : decode cX10_odds 25 = .ok (.iload_n 3, 1) := by decide +kernel
theorem dX10_odds_26 : decode cX10_odds 26 = .ok (.ifCond .lt 8, 3) := by decide +kernel
theorem dX10_odds_29 : decode cX10_odds 29 = .ok (.iload_n 3, 1) := by decide +kernel
theorem dX10_odds_30 : decode cX10_odds 30 = .ok (.iconst 1, 1) := by decide +kernel
theorem dX10_odds_31 : decode cX10_odds 31 = .ok (.if_icmp .le 7, 3) := by decide +kernel
theorem dX10_odds_34 : decode cX10_odds 34 = .ok (.ldc2_w 192, 3) := by decide +kernel
theorem dX10_odds_37 : decode cX10_odds 37 = .ok (.lreturn, 1) := by decide +kernel
theorem dX10_odds_38 : decode cX10_odds 38 = .ok (.aload_n 0, 1) := by decide +kernel
theorem dX10_odds_39 : decode cX10_odds 39 = .ok (.getfield 55, 3) := by decide +kernel
theorem dX10_odds_42 : decode cX10_odds 42 = .ok (.aload 4, 2) := by decide +kernel
theorem dX10_odds_44 : decode cX10_odds 44 = .ok (.iload_n 2, 1) := by decide +kernel
theorem dX10_odds_45 : decode cX10_odds 45 = .ok (.invokevirtual 194, 3) := by decide +kernel
theorem dX10_odds_48 : decode cX10_odds 48 = .ok (.istore 5, 2) := by decide +kernel
theorem dX10_odds_50 : decode cX10_odds 50 = .ok (.iconst 1, 1) := by decide +kernel
theorem dX10_odds_51 : decode cX10_odds 51 = .ok (.aload_n 0, 1) := by decide +kernel
theorem dX10_odds_52 : decode cX10_odds 52 = .ok (.getfield 55, 3) := by decide +kernel
theorem dX10_odds_55 : decode cX10_odds 55 = .ok (.getfield 197, 3) := by decide +kernel
theorem dX10_odds_58 : decode cX10_odds 58 = .ok (.ishl, 1) := by decide +kernel
theorem dX10_odds_59 : decode cX10_odds 59 = .ok (.istore 6, 2) := by decide +kernel
theorem dX10_odds_61 : decode cX10_odds 61 = .ok (.iload 6, 2) := by decide +kernel
theorem dX10_odds_63 : decode cX10_odds 63 = .ok (.iconst 1, 1) := by decide +kernel
theorem dX10_odds_64 : decode cX10_odds 64 = .ok (.if_icmp .le 25, 3) := by decide +kernel
theorem dX10_odds_67 : decode cX10_odds 67 = .ok (.iload 5, 2) := by decide +kernel
theorem dX10_odds_69 : decode cX10_odds 69 = .ok (.iconst 2, 1) := by decide +kernel
theorem dX10_odds_70 : decode cX10_odds 70 = .ok (.irem, 1) := by decide +kernel
theorem dX10_odds_71 : decode cX10_odds 71 = .ok (.ifCond .ne 18, 3) := by decide +kernel
theorem dX10_odds_74 : decode cX10_odds 74 = .ok (.iload 5, 2) := by decide +kernel
theorem dX10_odds_76 : decode cX10_odds 76 = .ok (.iconst 2, 1) := by decide +kernel
theorem dX10_odds_77 : decode cX10_odds 77 = .ok (.idiv, 1) := by decide +kernel
theorem dX10_odds_78 : decode cX10_odds 78 = .ok (.istore 5, 2) := by decide +kernel
theorem dX10_odds_80 : decode cX10_odds 80 = .ok (.iload 6, 2) := by decide +kernel
theorem dX10_odds_82 : decode cX10_odds 82 = .ok (.iconst 2, 1) := by decide +kernel
theorem dX10_odds_83 : decode cX10_odds 83 = .ok (.idiv, 1) := by decide +kernel
theorem dX10_odds_84 : decode cX10_odds 84 = .ok (.istore 6, 2) := by decide +kernel
theorem dX10_odds_86 : decode cX10_odds 86 = .ok (.goto (-25), 3) := by decide +kernel
theorem dX10_odds_89 : decode cX10_odds 89 = .ok (.iload_n 3, 1) := by decide +kernel
theorem dX10_odds_90 : decode cX10_odds 90 = .ok (.ifCond .ne 9, 3) := by decide +kernel
theorem dX10_odds_93 : decode cX10_odds 93 = .ok (.iload 5, 2) := by decide +kernel
theorem dX10_odds_95 : decode cX10_odds 95 = .ok (.i2l, 1) := by decide +kernel
theorem dX10_odds_96 : decode cX10_odds 96 = .ok (.goto 6, 3) := by decide +kernel
theorem dX10_odds_99 : decode cX10_odds 99 = .ok (.iload 6, 2) := by decide +kernel
theorem dX10_odds_101 : decode cX10_odds 101 = .ok (.i2l, 1) := by decide +kernel
theorem dX10_odds_102 : decode cX10_odds 102 = .ok (.lreturn, 1) := by decide +kernel
theorem dX10_sheet_0 : decode cX10_sheet 0 = .ok (.aload_n 0, 1) := by decide +kernel
theorem dX10_sheet_1 : decode cX10_sheet 1 = .ok (.iconst 0, 1) := by decide +kernel
theorem dX10_sheet_2 : decode cX10_sheet 2 = .ok (.putfield 59, 3) := by decide +kernel
theorem dX10_sheet_5 : decode cX10_sheet 5 = .ok (.iload_n 1, 1) := by decide +kernel
theorem dX10_sheet_6 : decode cX10_sheet 6 = .ok (.invokestatic 63, 3) := by decide +kernel
theorem dX10_sheet_9 : decode cX10_sheet 9 = .ok (.ifCond .ne 5, 3) := by decide +kernel
theorem dX10_sheet_12 : decode cX10_sheet 12 = .ok (.iconst (-1), 1) := by decide +kernel
theorem dX10_sheet_13 : decode cX10_sheet 13 = .ok (.ireturn, 1) := by decide +kernel
theorem dX10_sheet_14 : decode cX10_sheet 14 = .ok (.iload_n 2, 1) := by decide +kernel
theorem dX10_sheet_15 : decode cX10_sheet 15 = .ok (.invokestatic 67, 3) := by decide +kernel
theorem dX10_sheet_18 : decode cX10_sheet 18 = .ok (.ifCond .eq 9, 3) := by decide +kernel
theorem dX10_sheet_21 : decode cX10_sheet 21 = .ok (.iload_n 3, 1) := by decide +kernel
theorem dX10_sheet_22 : decode cX10_sheet 22 = .ok (.bipush 60, 2) := by decide +kernel
theorem dX10_sheet_24 : decode cX10_sheet 24 = .ok (.if_icmp .le 6, 3) := by decide +kernel
theorem dX10_sheet_27 : decode cX10_sheet 27 = .ok (.bipush (-2), 2) := by decide +kernel
theorem dX10_sheet_29 : decode cX10_sheet 29 = .ok (.ireturn, 1) := by decide +kernel
theorem dX10_sheet_30 : decode cX10_sheet 30 = .ok (.iload_n 3, 1) := by decide +kernel
theorem dX10_sheet_31 : decode cX10_sheet 31 = .ok (.ifCond .ge 9, 3) := by decide +kernel
theorem dX10_sheet_34 : decode cX10_sheet 34 = .ok (.aload_n 0, 1) := by decide +kernel
theorem dX10_sheet_35 : decode cX10_sheet 35 = .ok (.iconst 4, 1) := by decide +kernel
theorem dX10_sheet_36 : decode cX10_sheet 36 = .ok (.invokevirtual 70, 3) := by decide +kernel
theorem dX10_sheet_39 : decode cX10_sheet 39 = .ok (.ireturn, 1) := by decide +kernel
theorem dX10_sheet_40 : decode cX10_sheet 40 = .ok (.aload_n 0, 1) := by decide +kernel
theorem dX10_sheet_41 : decode cX10_sheet 41 = .ok (.getfield 13, 3) := by decide +kernel
theorem dX10_sheet_44 : decode cX10_sheet 44 = .ok (.iload_n 1, 1) := by decide +kernel
theorem dX10_sheet_45 : decode cX10_sheet 45 = .ok (.new 11, 3) := by decide +kernel
theorem dX10_sheet_48 : decode cX10_sheet 48 = .ok (.dup, 1) := by decide +kernel
theorem dX10_sheet_49 : decode cX10_sheet 49 = .ok (.iload_n 2, 1) := by decide +kernel
theorem dX10_sheet_50 : decode cX10_sheet 50 = .ok (.iload_n 3, 1) := by decide +kernel
theorem dX10_sheet_51 : decode cX10_sheet 51 = .ok (.invokespecial 200, 3) := by decide +kernel
theorem dX10_sheet_54 : decode cX10_sheet 54 = .ok (.aastore, 1) := by decide +kernel
theorem dX10_sheet_55 : decode cX10_sheet 55 = .ok (.iconst 1, 1) := by decide +kernel
theorem dX10_sheet_56 : decode cX10_sheet 56 = .ok (.ireturn, 1) := by decide +kernel
theorem dX10_lose_0 : decode cX10_lose 0 = .ok (.iload_n 1, 1) := by decide +kernel
theorem dX10_lose_1 : decode cX10_lose 1 = .ok (.invokestatic 63, 3) := by decide +kernel
theorem dX10_lose_4 : decode cX10_lose 4 = .ok (.ifCond .ne 5, 3) := by decide +kernel
theorem dX10_lose_7 : decode cX10_lose 7 = .ok (.iconst (-1), 1) := by decide +kernel
theorem dX10_lose_8 : decode cX10_lose 8 = .ok (.ireturn, 1) := by decide +kernel
theorem dX10_lose_9 : decode cX10_lose 9 = .ok (.aload_n 0, 1) := by decide +kernel
theorem dX10_lose_10 : decode cX10_lose 10 = .ok (.getfield 13, 3) := by decide +kernel
theorem dX10_lose_13 : decode cX10_lose 13 = .ok (.iload_n 1, 1) := by decide +kernel
theorem dX10_lose_14 : decode cX10_lose 14 = .ok (.aaload, 1) := by decide +kernel
theorem dX10_lose_15 : decode cX10_lose 15 = .ok (.ifnonnull 7, 3) := by decide +kernel
theorem dX10_lose_18 : decode cX10_lose 18 = .ok (.iconst 0, 1) := by decide +kernel
theorem dX10_lose_19 : decode cX10_lose 19 = .ok (.goto 4, 3) := by decide +kernel
theorem dX10_lose_22 : decode cX10_lose 22 = .ok (.iconst 1, 1) := by decide +kernel
theorem dX10_lose_23 : decode cX10_lose 23 = .ok (.istore_n 2, 1) := by decide +kernel
theorem dX10_lose_24 : decode cX10_lose 24 = .ok (.aload_n 0, 1) := by decide +kernel
theorem dX10_lose_25 : decode cX10_lose 25 = .ok (.getfield 13, 3) := by decide +kernel
theorem dX10_lose_28 : decode cX10_lose 28 = .ok (.iload_n 1, 1) := by decide +kernel
theorem dX10_lose_29 : decode cX10_lose 29 = .ok (.aconst_null, 1) := by decide +kernel
theorem dX10_lose_30 : decode cX10_lose 30 = .ok (.aastore, 1) := by decide +kernel
theorem dX10_lose_31 : decode cX10_lose 31 = .ok (.iload_n 2, 1) := by decide +kernel
theorem dX10_lose_32 : decode cX10_lose 32 = .ok (.ireturn, 1) := by decide +kernel
theorem dX10_put_0 : decode cX10_put 0 = .ok (.aload_n 0, 1) := by decide +kernel
theorem dX10_put_1 : decode cX10_put 1 = .ok (.iconst 0, 1) := by decide +kernel
theorem dX10_put_2 : decode cX10_put 2 = .ok (.putfield 59, 3) := by decide +kernel
theorem dX10_put_5 : decode cX10_put 5 = .ok (.iload_n 1, 1) := by decide +kernel
theorem dX10_put_6 : decode cX10_put 6 = .ok (.invokestatic 63, 3) := by decide +kernel
theorem dX10_put_9 : decode cX10_put 9 = .ok (.ifCond .ne 5, 3) := by decide +kernel
theorem dX10_put_12 : decode cX10_put 12 = .ok (.iconst (-1), 1) := by decide +kernel
theorem dX10_put_13 : decode cX10_put 13 = .ok (.ireturn, 1) := by decide +kernel
theorem dX10_put_14 : decode cX10_put 14 = .ok (.aload_n 0, 1) := by decide +kernel
theorem dX10_put_15 : decode cX10_put 15 = .ok (.getfield 13, 3) := by decide +kernel
theorem dX10_put_18 : decode cX10_put 18 = .ok (.iload_n 1, 1) := by decide +kernel
theorem dX10_put_19 : decode cX10_put 19 = .ok (.aaload, 1) := by decide +kernel
theorem dX10_put_20 : decode cX10_put 20 = .ok (.astore 4, 2) := by decide +kernel
theorem dX10_put_22 : decode cX10_put 22 = .ok (.aload 4, 2) := by decide +kernel
theorem dX10_put_24 : decode cX10_put 24 = .ok (.ifnonnull 9, 3) := by decide +kernel
theorem dX10_put_27 : decode cX10_put 27 = .ok (.aload_n 0, 1) := by decide +kernel
theorem dX10_put_28 : decode cX10_put 28 = .ok (.iconst 1, 1) := by decide +kernel
theorem dX10_put_29 : decode cX10_put 29 = .ok (.invokevirtual 70, 3) := by decide +kernel
theorem dX10_put_32 : decode cX10_put 32 = .ok (.ireturn, 1) := by decide +kernel
theorem dX10_put_33 : decode cX10_put 33 = .ok (.aload 4, 2) := by decide +kernel
theorem dX10_put_35 : decode cX10_put 35 = .ok (.iload_n 2, 1) := by decide +kernel
theorem dX10_put_36 : decode cX10_put 36 = .ok (.iconst 1, 1) := by decide +kernel
theorem dX10_put_37 : decode cX10_put 37 = .ok (.invokevirtual 77, 3) := by decide +kernel
theorem dX10_put_40 : decode cX10_put 40 = .ok (.ifCond .ne 9, 3) := by decide +kernel
theorem dX10_put_43 : decode cX10_put 43 = .ok (.aload_n 0, 1) := by decide +kernel
theorem dX10_put_44 : decode cX10_put 44 = .ok (.iconst 3, 1) := by decide +kernel
theorem dX10_put_45 : decode cX10_put 45 = .ok (.invokevirtual 70, 3) := by decide +kernel
theorem dX10_put_48 : decode cX10_put 48 = .ok (.ireturn, 1) := by decide +kernel
theorem dX10_put_49 : decode cX10_put 49 = .ok (.aload 4, 2) := by decide +kernel
theorem dX10_put_51 : decode cX10_put 51 = .ok (.getfield 203, 3) := by decide +kernel
theorem dX10_put_54 : decode cX10_put 54 = .ok (.iload_n 2, 1) := by decide +kernel
theorem dX10_put_55 : decode cX10_put 55 = .ok (.aload 4, 2) := by decide +kernel
theorem dX10_put_57 : decode cX10_put 57 = .ok (.iload_n 3, 1) := by decide +kernel
theorem dX10_put_58 : decode cX10_put 58 = .ok (.invokevirtual 206, 3) := by decide +kernel
theorem dX10_put_61 : decode cX10_put 61 = .ok (.iastore, 1) := by decide +kernel
theorem dX10_put_62 : decode cX10_put 62 = .ok (.iconst 1, 1) := by decide +kernel
theorem dX10_put_63 : decode cX10_put 63 = .ok (.ireturn, 1) := by decide +kernel
theorem dX10_cell_0 : decode cX10_cell 0 = .ok (.aload_n 0, 1) := by decide +kernel
theorem dX10_cell_1 : decode cX10_cell 1 = .ok (.iconst 0, 1) := by decide +kernel
theorem dX10_cell_2 : decode cX10_cell 2 = .ok (.putfield 59, 3) := by decide +kernel
theorem dX10_cell_5 : decode cX10_cell 5 = .ok (.iload_n 1, 1) := by decide +kernel
theorem dX10_cell_6 : decode cX10_cell 6 = .ok (.invokestatic 63, 3) := by decide +kernel
theorem dX10_cell_9 : decode cX10_cell 9 = .ok (.ifCond .eq 10, 3) := by decide +kernel
theorem dX10_cell_12 : decode cX10_cell 12 = .ok (.iload_n 3, 1) := by decide +kernel
theorem dX10_cell_13 : decode cX10_cell 13 = .ok (.invokestatic 67, 3) := by decide +kernel
theorem dX10_cell_16 : decode cX10_cell 16 = .ok (.ifCond .ne 7, 3) := by decide +kernel
theorem dX10_cell_19 : decode cX10_cell 19 = .ok (.ldc2_w 192, 3) := by decide +kernel
theorem dX10_cell_22 : decode cX10_cell 22 = .ok (.lreturn, 1) := by decide +kernel
theorem dX10_cell_23 : decode cX10_cell 23 = .ok (.aload_n 0, 1) := by decide +kernel
theorem dX10_cell_24 : decode cX10_cell 24 = .ok (.getfield 13, 3) := by decide +kernel
theorem dX10_cell_27 : decode cX10_cell 27 = .ok (.iload_n 1, 1) := by decide +kernel
theorem dX10_cell_28 : decode cX10_cell 28 = .ok (.aaload, 1) := by decide +kernel
theorem dX10_cell_29 : decode cX10_cell 29 = .ok (.astore 4, 2) := by decide +kernel
theorem dX10_cell_31 : decode cX10_cell 31 = .ok (.aload 4, 2) := by decide +kernel
theorem dX10_cell_33 : decode cX10_cell 33 = .ok (.ifnonnull 9, 3) := by decide +kernel
theorem dX10_cell_36 : decode cX10_cell 36 = .ok (.aload_n 0, 1) := by decide +kernel
theorem dX10_cell_37 : decode cX10_cell 37 = .ok (.iconst 1, 1) := by decide +kernel
theorem dX10_cell_38 : decode cX10_cell 38 = .ok (.invokevirtual 209, 3) := by decide +kernel
theorem dX10_cell_41 : decode cX10_cell 41 = .ok (.lreturn, 1) := by decide +kernel
theorem dX10_cell_42 : decode cX10_cell 42 = .ok (.aload 4, 2) := by decide +kernel
theorem dX10_cell_44 : decode cX10_cell 44 = .ok (.getfield 74, 3) := by decide +kernel
theorem dX10_cell_47 : decode cX10_cell 47 = .ok (.iload_n 3, 1) := by decide +kernel
theorem dX10_cell_48 : decode cX10_cell 48 = .ok (.if_icmp .eq 9, 3) := by decide +kernel
theorem dX10_cell_51 : decode cX10_cell 51 = .ok (.aload_n 0, 1) := by decide +kernel
theorem dX10_cell_52 : decode cX10_cell 52 = .ok (.iconst 2, 1) := by decide +kernel
theorem dX10_cell_53 : decode cX10_cell 53 = .ok (.invokevirtual 209, 3) := by decide +kernel
theorem dX10_cell_56 : decode cX10_cell 56 = .ok (.lreturn, 1) := by decide +kernel
theorem dX10_cell_57 : decode cX10_cell 57 = .ok (.aload 4, 2) := by decide +kernel
theorem dX10_cell_59 : decode cX10_cell 59 = .ok (.iload_n 2, 1) := by decide +kernel
theorem dX10_cell_60 : decode cX10_cell 60 = .ok (.iconst 1, 1) := by decide +kernel
theorem dX10_cell_61 : decode cX10_cell 61 = .ok (.invokevirtual 77, 3) := by decide +kernel
theorem dX10_cell_64 : decode cX10_cell 64 = .ok (.ifCond .ne 9, 3) := by decide +kernel
theorem dX10_cell_67 : decode cX10_cell 67 = .ok (.aload_n 0, 1) := by decide +kernel
theorem dX10_cell_68 : decode cX10_cell 68 = .ok (.iconst 3, 1) := by decide +kernel
theorem dX10_cell_69 : decode cX10_cell 69 = .ok (.invokevirtual 209, 3) := by decide +kernel
theorem dX10_cell_72 : decode cX10_cell 72 = .ok (.lreturn, 1) := by decide +kernel
theorem dX10_cell_73 : decode cX10_cell 73 = .ok (.aload 4, 2) := by decide +kernel
theorem dX10_cell_75 : decode cX10_cell 75 = .ok (.getfield 203, 3) := by decide +kernel
theorem dX10_cell_78 : decode cX10_cell 78 = .ok (.iload_n 2, 1) := by decide +kernel
theorem dX10_cell_79 : decode cX10_cell 79 = .ok (.iaload, 1) := by decide +kernel
theorem dX10_cell_80 : decode cX10_cell 80 = .ok (.i2l, 1) := by decide +kernel
theorem dX10_cell_81 : decode cX10_cell 81 = .ok (.lreturn, 1) := by decide +kernel
theorem dX10_copy_0 : decode cX10_copy 0 = .ok (.aload_n 0, 1) := by decide +kernel
theorem dX10_copy_1 : decode cX10_copy 1 = .ok (.iconst 0, 1) := by decide +kernel
theorem dX10_copy_2 : decode cX10_copy 2 = .ok (.putfield 59, 3) := by decide +kernel
theorem dX10_copy_5 : decode cX10_copy 5 = .ok (.iload_n 1, 1) := by decide +kernel
theorem dX10_copy_6 : decode cX10_copy 6 = .ok (.invokestatic 63, 3) := by decide +kernel
theorem dX10_copy_9 : decode cX10_copy 9 = .ok (.ifCond .eq 10, 3) := by decide +kernel
theorem dX10_copy_12 : decode cX10_copy 12 = .ok (.iload_n 3, 1) := by decide +kernel
theorem dX10_copy_13 : decode cX10_copy 13 = .ok (.invokestatic 63, 3) := by decide +kernel
theorem dX10_copy_16 : decode cX10_copy 16 = .ok (.ifCond .ne 5, 3) := by decide +kernel
theorem dX10_copy_19 : decode cX10_copy 19 = .ok (.iconst (-1), 1) := by decide +kernel
theorem dX10_copy_20 : decode cX10_copy 20 = .ok (.ireturn, 1) := by decide +kernel
theorem dX10_copy_21 : decode cX10_copy 21 = .ok (.aload_n 0, 1) := by decide +kernel
theorem dX10_copy_22 : decode cX10_copy 22 = .ok (.getfield 13, 3) := by decide +kernel
theorem dX10_copy_25 : decode cX10_copy 25 = .ok (.iload_n 1, 1) := by decide +kernel
theorem dX10_copy_26 : decode cX10_copy 26 = .ok (.aaload, 1) := by decide +kernel
theorem dX10_copy_27 : decode cX10_copy 27 = .ok (.astore 6, 2) := by decide +kernel
theorem dX10_copy_29 : decode cX10_copy 29 = .ok (.aload_n 0, 1) := by decide +kernel
theorem dX10_copy_30 : decode cX10_copy 30 = .ok (.getfield 13, 3) := by decide +kernel
theorem dX10_copy_33 : decode cX10_copy 33 = .ok (.iload_n 3, 1) := by decide +kernel
theorem dX10_copy_34 : decode cX10_copy 34 = .ok (.aaload, 1) := by decide +kernel
theorem dX10_copy_35 : decode cX10_copy 35 = .ok (.astore 7, 2) := by decide +kernel
theorem dX10_copy_37 : decode cX10_copy 37 = .ok (.aload 6, 2) := by decide +kernel
theorem dX10_copy_39 : decode cX10_copy 39 = .ok (.ifnull 8, 3) := by decide +kernel
theorem dX10_copy_42 : decode cX10_copy 42 = .ok (.aload 7, 2) := by decide +kernel
theorem dX10_copy_44 : decode cX10_copy 44 = .ok (.ifnonnull 9, 3) := by decide +kernel
theorem dX10_copy_47 : decode cX10_copy 47 = .ok (.aload_n 0, 1) := by decide +kernel
theorem dX10_copy_48 : decode cX10_copy 48 = .ok (.iconst 1, 1) := by decide +kernel
theorem dX10_copy_49 : decode cX10_copy 49 = .ok (.invokevirtual 70, 3) := by decide +kernel
theorem dX10_copy_52 : decode cX10_copy 52 = .ok (.ireturn, 1) := by decide +kernel
theorem dX10_copy_53 : decode cX10_copy 53 = .ok (.aload 6, 2) := by decide +kernel
theorem dX10_copy_55 : decode cX10_copy 55 = .ok (.getfield 74, 3) := by decide +kernel
theorem dX10_copy_58 : decode cX10_copy 58 = .ok (.aload 7, 2) := by decide +kernel
theorem dX10_copy_60 : decode cX10_copy 60 = .ok (.getfield 74, 3) := by decide +kernel
theorem dX10_copy_63 : decode cX10_copy 63 = .ok (.if_icmp .eq 9, 3) := by decide +kernel
theorem dX10_copy_66 : decode cX10_copy 66 = .ok (.aload_n 0, 1) := by decide +kernel
theorem dX10_copy_67 : decode cX10_copy 67 = .ok (.iconst 2, 1) := by decide +kernel
theorem dX10_copy_68 : decode cX10_copy 68 = .ok (.invokevirtual 70, 3) := by decide +kernel
theorem dX10_copy_71 : decode cX10_copy 71 = .ok (.ireturn, 1) := by decide +kernel
theorem dX10_copy_72 : decode cX10_copy 72 = .ok (.aload 6, 2) := by decide +kernel
theorem dX10_copy_74 : decode cX10_copy 74 = .ok (.iload_n 2, 1) := by decide +kernel
theorem dX10_copy_75 : decode cX10_copy 75 = .ok (.iload 5, 2) := by decide +kernel
theorem dX10_copy_77 : decode cX10_copy 77 = .ok (.invokevirtual 77, 3) := by decide +kernel
theorem dX10_copy_80 : decode cX10_copy 80 = .ok (.ifCond .eq 15, 3) := by decide +kernel
theorem dX10_copy_83 : decode cX10_copy 83 = .ok (.aload 7, 2) := by decide +kernel
theorem dX10_copy_85 : decode cX10_copy 85 = .ok (.iload 4, 2) := by decide +kernel
theorem dX10_copy_87 : decode cX10_copy 87 = .ok (.iload 5, 2) := by decide +kernel
theorem dX10_copy_89 : decode cX10_copy 89 = .ok (.invokevirtual 77, 3) := by decide +kernel
theorem dX10_copy_92 : decode cX10_copy 92 = .ok (.ifCond .ne 9, 3) := by decide +kernel
theorem dX10_copy_95 : decode cX10_copy 95 = .ok (.aload_n 0, 1) := by decide +kernel
theorem dX10_copy_96 : decode cX10_copy 96 = .ok (.iconst 3, 1) := by decide +kernel
theorem dX10_copy_97 : decode cX10_copy 97 = .ok (.invokevirtual 70, 3) := by decide +kernel
theorem dX10_copy_100 : decode cX10_copy 100 = .ok (.ireturn, 1) := by decide +kernel
theorem dX10_copy_101 : decode cX10_copy 101 = .ok (.aload 6, 2) := by decide +kernel
theorem dX10_copy_103 : decode cX10_copy 103 = .ok (.getfield 203, 3) := by decide +kernel
theorem dX10_copy_106 : decode cX10_copy 106 = .ok (.iload_n 2, 1) := by decide +kernel
theorem dX10_copy_107 : decode cX10_copy 107 = .ok (.aload 7, 2) := by decide +kernel
theorem dX10_copy_109 : decode cX10_copy 109 = .ok (.getfield 203, 3) := by decide +kernel
theorem dX10_copy_112 : decode cX10_copy 112 = .ok (.iload 4, 2) := by decide +kernel
theorem dX10_copy_114 : decode cX10_copy 114 = .ok (.iload 5, 2) := by decide +kernel
theorem dX10_copy_116 : decode cX10_copy 116 = .ok (.invokestatic 213, 3) := by decide +kernel
theorem dX10_copy_119 : decode cX10_copy 119 = .ok (.iload 5, 2) := by decide +kernel
theorem dX10_copy_121 : decode cX10_copy 121 = .ok (.ireturn, 1) := by decide +kernel
theorem dX10_tell_0 : decode cX10_tell 0 = .ok (.aload_n 0, 1) := by decide +kernel
theorem dX10_tell_1 : decode cX10_tell 1 = .ok (.getfield 55, 3) := by decide +kernel
theorem dX10_tell_4 : decode cX10_tell 4 = .ok (.iload_n 1, 1) := by decide +kernel
theorem dX10_tell_5 : decode cX10_tell 5 = .ok (.invokevirtual 95, 3) := by decide +kernel
theorem dX10_tell_8 : decode cX10_tell 8 = .ok (.astore_n 2, 1) := by decide +kernel
theorem dX10_tell_9 : decode cX10_tell 9 = .ok (.aload_n 2, 1) := by decide +kernel
theorem dX10_tell_10 : decode cX10_tell 10 = .ok (.ifnonnull 7, 3) := by decide +kernel
theorem dX10_tell_13 : decode cX10_tell 13 = .ok (.iconst (-1), 1) := by decide +kernel
theorem dX10_tell_14 : decode cX10_tell 14 = .ok (.goto 11, 3) := by decide +kernel
theorem dX10_tell_17 : decode cX10_tell 17 = .ok (.aload_n 2, 1) := by decide +kernel
theorem dX10_tell_18 : decode cX10_tell 18 = .ok (.aload_n 0, 1) := by decide +kernel
theorem dX10_tell_19 : decode cX10_tell 19 = .ok (.getfield 48, 3) := by decide +kernel
theorem dX10_tell_22 : decode cX10_tell 22 = .ok (.invokevirtual 219, 3) := by decide +kernel
theorem dX10_tell_25 : decode cX10_tell 25 = .ok (.ireturn, 1) := by decide +kernel
theorem dX10_ring_0 : decode cX10_ring 0 = .ok (.aload_n 0, 1) := by decide +kernel
theorem dX10_ring_1 : decode cX10_ring 1 = .ok (.getfield 55, 3) := by decide +kernel
theorem dX10_ring_4 : decode cX10_ring 4 = .ok (.iload_n 1, 1) := by decide +kernel
theorem dX10_ring_5 : decode cX10_ring 5 = .ok (.invokevirtual 95, 3) := by decide +kernel
theorem dX10_ring_8 : decode cX10_ring 8 = .ok (.astore_n 2, 1) := by decide +kernel
theorem dX10_ring_9 : decode cX10_ring 9 = .ok (.aload_n 2, 1) := by decide +kernel
theorem dX10_ring_10 : decode cX10_ring 10 = .ok (.ifnonnull 7, 3) := by decide +kernel
theorem dX10_ring_13 : decode cX10_ring 13 = .ok (.iconst (-1), 1) := by decide +kernel
theorem dX10_ring_14 : decode cX10_ring 14 = .ok (.goto 11, 3) := by decide +kernel
theorem dX10_ring_17 : decode cX10_ring 17 = .ok (.aload_n 2, 1) := by decide +kernel
theorem dX10_ring_18 : decode cX10_ring 18 = .ok (.aload_n 0, 1) := by decide +kernel
theorem dX10_ring_19 : decode cX10_ring 19 = .ok (.getfield 48, 3) := by decide +kernel
theorem dX10_ring_22 : decode cX10_ring 22 = .ok (.invokevirtual 223, 3) := by decide +kernel
theorem dX10_ring_25 : decode cX10_ring 25 = .ok (.ireturn, 1) := by decide +kernel
theorem dX10_as_0 : decode cX10_as 0 = .ok (.aload_n 0, 1) := by decide +kernel
theorem dX10_as_1 : decode cX10_as 1 = .ok (.iconst 0, 1) := by decide +kernel
theorem dX10_as_2 : decode cX10_as 2 = .ok (.putfield 59, 3) := by decide +kernel
theorem dX10_as_5 : decode cX10_as 5 = .ok (.aload_n 0, 1) := by decide +kernel
theorem dX10_as_6 : decode cX10_as 6 = .ok (.getfield 55, 3) := by decide +kernel
theorem dX10_as_9 : decode cX10_as 9 = .ok (.iload_n 1, 1) := by decide +kernel
theorem dX10_as_10 : decode cX10_as 10 = .ok (.invokevirtual 95, 3) := by decide +kernel
theorem dX10_as_13 : decode cX10_as 13 = .ok (.astore_n 3, 1) := by decide +kernel
theorem dX10_as_14 : decode cX10_as 14 = .ok (.aload_n 3, 1) := by decide +kernel
theorem dX10_as_15 : decode cX10_as 15 = .ok (.ifnonnull 5, 3) := by decide +kernel
theorem dX10_as_18 : decode cX10_as 18 = .ok (.iconst (-1), 1) := by decide +kernel
theorem dX10_as_19 : decode cX10_as 19 = .ok (.ireturn, 1) := by decide +kernel
theorem dX10_as_20 : decode cX10_as 20 = .ok (.iload_n 2, 1) := by decide +kernel
theorem dX10_as_21 : decode cX10_as 21 = .ok (.ifCond .lt 8, 3) := by decide +kernel
theorem dX10_as_24 : decode cX10_as 24 = .ok (.iload_n 2, 1) := by decide +kernel
theorem dX10_as_25 : decode cX10_as 25 = .ok (.iconst 2, 1) := by decide +kernel
theorem dX10_as_26 : decode cX10_as 26 = .ok (.if_icmp .le 6, 3) := by decide +kernel
theorem dX10_as_29 : decode cX10_as 29 = .ok (.bipush (-2), 2) := by decide +kernel
theorem dX10_as_31 : decode cX10_as 31 = .ok (.ireturn, 1) := by decide +kernel
theorem dX10_as_32 : decode cX10_as 32 = .ok (.iload_n 2, 1) := by decide +kernel
theorem dX10_as_33 : decode cX10_as 33 = .ok (.iconst 1, 1) := by decide +kernel
theorem dX10_as_34 : decode cX10_as 34 = .ok (.if_icmp .ne 16, 3) := by decide +kernel
theorem dX10_as_37 : decode cX10_as 37 = .ok (.aload_n 3, 1) := by decide +kernel
theorem dX10_as_38 : decode cX10_as 38 = .ok (.instanceof 226, 3) := by decide +kernel
theorem dX10_as_41 : decode cX10_as 41 = .ok (.ifCond .ne 9, 3) := by decide +kernel
theorem dX10_as_44 : decode cX10_as 44 = .ok (.aload_n 0, 1) := by decide +kernel
theorem dX10_as_45 : decode cX10_as 45 = .ok (.iconst 2, 1) := by decide +kernel
theorem dX10_as_46 : decode cX10_as 46 = .ok (.invokevirtual 70, 3) := by decide +kernel
theorem dX10_as_49 : decode cX10_as 49 = .ok (.ireturn, 1) := by decide +kernel
theorem dX10_as_50 : decode cX10_as 50 = .ok (.iload_n 2, 1) := by decide +kernel
theorem dX10_as_51 : decode cX10_as 51 = .ok (.iconst 2, 1) := by decide +kernel
theorem dX10_as_52 : decode cX10_as 52 = .ok (.if_icmp .ne 16, 3) := by decide +kernel
theorem dX10_as_55 : decode cX10_as 55 = .ok (.aload_n 3, 1) := by decide +kernel
theorem dX10_as_56 : decode cX10_as 56 = .ok (.instanceof 228, 3) := by decide +kernel
theorem dX10_as_59 : decode cX10_as 59 = .ok (.ifCond .ne 9, 3) := by decide +kernel
theorem dX10_as_62 : decode cX10_as 62 = .ok (.aload_n 0, 1) := by decide +kernel
theorem dX10_as_63 : decode cX10_as 63 = .ok (.iconst 2, 1) := by decide +kernel
theorem dX10_as_64 : decode cX10_as 64 = .ok (.invokevirtual 70, 3) := by decide +kernel
theorem dX10_as_67 : decode cX10_as 67 = .ok (.ireturn, 1) := by decide +kernel
theorem dX10_as_68 : decode cX10_as 68 = .ok (.iconst 1, 1) := by decide +kernel
theorem dX10_as_69 : decode cX10_as 69 = .ok (.ireturn, 1) := by decide +kernel
theorem dX10_trace_0 : decode cX10_trace 0 = .ok (.aload_n 0, 1) := by decide +kernel
theorem dX10_trace_1 : decode cX10_trace 1 = .ok (.getfield 48, 3) := by decide +kernel
theorem dX10_trace_4 : decode cX10_trace 4 = .ok (.getfield 230, 3) := by decide +kernel
theorem dX10_trace_7 : decode cX10_trace 7 = .ok (.ireturn, 1) := by decide +kernel
theorem dX10_fault_0 : decode cX10_fault 0 = .ok (.aload_n 0, 1) := by decide +kernel
theorem dX10_fault_1 : decode cX10_fault 1 = .ok (.getfield 59, 3) := by decide +kernel
theorem dX10_fault_4 : decode cX10_fault 4 = .ok (.ireturn, 1) := by decide +kernel
theorem dX10_many_0 : decode cX10_many 0 = .ok (.iload_n 1, 1) := by decide +kernel
theorem dX10_many_1 : decode cX10_many 1 = .ok (.tableswitch 63 0 3 #[31, 39, 47, 55], 31) := by decide +kernel
theorem dX10_many_32 : decode cX10_many 32 = .ok (.aload_n 0, 1) := by decide +kernel
theorem dX10_many_33 : decode cX10_many 33 = .ok (.getfield 55, 3) := by decide +kernel
theorem dX10_many_36 : decode cX10_many 36 = .ok (.getfield 92, 3) := by decide +kernel
theorem dX10_many_39 : decode cX10_many 39 = .ok (.ireturn, 1) := by decide +kernel
theorem dX10_many_40 : decode cX10_many 40 = .ok (.aload_n 0, 1) := by decide +kernel
theorem dX10_many_41 : decode cX10_many 41 = .ok (.getfield 55, 3) := by decide +kernel
theorem dX10_many_44 : decode cX10_many 44 = .ok (.getfield 233, 3) := by decide +kernel
theorem dX10_many_47 : decode cX10_many 47 = .ok (.ireturn, 1) := by decide +kernel
theorem dX10_many_48 : decode cX10_many 48 = .ok (.aload_n 0, 1) := by decide +kernel
theorem dX10_many_49 : decode cX10_many 49 = .ok (.getfield 55, 3) := by decide +kernel
theorem dX10_many_52 : decode cX10_many 52 = .ok (.getfield 197, 3) := by decide +kernel
theorem dX10_many_55 : decode cX10_many 55 = .ok (.ireturn, 1) := by decide +kernel
theorem dX10_many_56 : decode cX10_many 56 = .ok (.aload_n 0, 1) := by decide +kernel
theorem dX10_many_57 : decode cX10_many 57 = .ok (.getfield 27, 3) := by decide +kernel
theorem dX10_many_60 : decode cX10_many 60 = .ok (.getfield 89, 3) := by decide +kernel
theorem dX10_many_63 : decode cX10_many 63 = .ok (.ireturn, 1) := by decide +kernel
theorem dX10_many_64 : decode cX10_many 64 = .ok (.bipush (-2), 2) := by decide +kernel
theorem dX10_many_66 : decode cX10_many 66 = .ok (.ireturn, 1) := by decide +kernel
theorem dX10_faulted_0 : decode cX10_faulted 0 = .ok (.aload_n 0, 1) := by decide +kernel
theorem dX10_faulted_1 : decode cX10_faulted 1 = .ok (.iload_n 1, 1) := by decide +kernel
theorem dX10_faulted_2 : decode cX10_faulted 2 = .ok (.putfield 59, 3) := by decide +kernel
theorem dX10_faulted_5 : decode cX10_faulted 5 = .ok (.bipush (-10), 2) := by decide +kernel
theorem dX10_faulted_7 : decode cX10_faulted 7 = .ok (.iload_n 1, 1) := by decide +kernel
theorem dX10_faulted_8 : decode cX10_faulted 8 = .ok (.isub, 1) := by decide +kernel
theorem dX10_faulted_9 : decode cX10_faulted 9 = .ok (.ireturn, 1) := by decide +kernel
theorem dX10_lost_0 : decode cX10_lost 0 = .ok (.aload_n 0, 1) := by decide +kernel
theorem dX10_lost_1 : decode cX10_lost 1 = .ok (.iload_n 1, 1) := by decide +kernel
theorem dX10_lost_2 : decode cX10_lost 2 = .ok (.putfield 59, 3) := by decide +kernel
theorem dX10_lost_5 : decode cX10_lost 5 = .ok (.ldc2_w 192, 3) := by decide +kernel
theorem dX10_lost_8 : decode cX10_lost 8 = .ok (.lreturn, 1) := by decide +kernel
theorem dX10_isSheet_0 : decode cX10_isSheet 0 = .ok (.iload_n 0, 1) := by decide +kernel
theorem dX10_isSheet_1 : decode cX10_isSheet 1 = .ok (.ifCond .lt 12, 3) := by decide +kernel
theorem dX10_isSheet_4 : decode cX10_isSheet 4 = .ok (.iload_n 0, 1) := by decide +kernel
theorem dX10_isSheet_5 : decode cX10_isSheet 5 = .ok (.iconst 4, 1) := by decide +kernel
theorem dX10_isSheet_6 : decode cX10_isSheet 6 = .ok (.if_icmp .ge 7, 3) := by decide +kernel
theorem dX10_isSheet_9 : decode cX10_isSheet 9 = .ok (.iconst 1, 1) := by decide +kernel
theorem dX10_isSheet_10 : decode cX10_isSheet 10 = .ok (.goto 4, 3) := by decide +kernel
theorem dX10_isSheet_13 : decode cX10_isSheet 13 = .ok (.iconst 0, 1) := by decide +kernel
theorem dX10_isSheet_14 : decode cX10_isSheet 14 = .ok (.ireturn, 1) := by decide +kernel
theorem dX10_isLane_0 : decode cX10_isLane 0 = .ok (.iload_n 0, 1) := by decide +kernel
theorem dX10_isLane_1 : decode cX10_isLane 1 = .ok (.ifCond .lt 12, 3) := by decide +kernel
theorem dX10_isLane_4 : decode cX10_isLane 4 = .ok (.iload_n 0, 1) := by decide +kernel
theorem dX10_isLane_5 : decode cX10_isLane 5 = .ok (.iconst 2, 1) := by decide +kernel
theorem dX10_isLane_6 : decode cX10_isLane 6 = .ok (.if_icmp .gt 7, 3) := by decide +kernel
theorem dX10_isLane_9 : decode cX10_isLane 9 = .ok (.iconst 1, 1) := by decide +kernel
theorem dX10_isLane_10 : decode cX10_isLane 10 = .ok (.goto 4, 3) := by decide +kernel
theorem dX10_isLane_13 : decode cX10_isLane 13 = .ok (.iconst 0, 1) := by decide +kernel
theorem dX10_isLane_14 : decode cX10_isLane 14 = .ok (.ireturn, 1) := by decide +kernel
theorem dX10_isMinute_0 : decode cX10_isMinute 0 = .ok (.iload_n 0, 1) := by decide +kernel
theorem dX10_isMinute_1 : decode cX10_isMinute 1 = .ok (.ifCond .lt 13, 3) := by decide +kernel
theorem dX10_isMinute_4 : decode cX10_isMinute 4 = .ok (.iload_n 0, 1) := by decide +kernel
theorem dX10_isMinute_5 : decode cX10_isMinute 5 = .ok (.bipush 60, 2) := by decide +kernel
theorem dX10_isMinute_7 : decode cX10_isMinute 7 = .ok (.if_icmp .ge 7, 3) := by decide +kernel
theorem dX10_isMinute_10 : decode cX10_isMinute 10 = .ok (.iconst 1, 1) := by decide +kernel
theorem dX10_isMinute_11 : decode cX10_isMinute 11 = .ok (.goto 4, 3) := by decide +kernel
theorem dX10_isMinute_14 : decode cX10_isMinute 14 = .ok (.iconst 0, 1) := by decide +kernel
theorem dX10_isMinute_15 : decode cX10_isMinute 15 = .ok (.ireturn, 1) := by decide +kernel
theorem dX10_newTaker_0 : decode cX10_newTaker 0 = .ok (.iload_n 0, 1) := by decide +kernel
theorem dX10_newTaker_1 : decode cX10_newTaker 1 = .ok (.lookupswitch 49 #[(1, 27), (2, 38)], 27) := by decide +kernel
theorem dX10_newTaker_28 : decode cX10_newTaker 28 = .ok (.new 226, 3) := by decide +kernel
theorem dX10_newTaker_31 : decode cX10_newTaker 31 = .ok (.dup, 1) := by decide +kernel
theorem dX10_newTaker_32 : decode cX10_newTaker 32 = .ok (.iload_n 1, 1) := by decide +kernel
theorem dX10_newTaker_33 : decode cX10_newTaker 33 = .ok (.iload_n 2, 1) := by decide +kernel
theorem dX10_newTaker_34 : decode cX10_newTaker 34 = .ok (.iload_n 3, 1) := by decide +kernel
theorem dX10_newTaker_35 : decode cX10_newTaker 35 = .ok (.invokespecial 236, 3) := by decide +kernel
theorem dX10_newTaker_38 : decode cX10_newTaker 38 = .ok (.areturn, 1) := by decide +kernel
theorem dX10_newTaker_39 : decode cX10_newTaker 39 = .ok (.new 228, 3) := by decide +kernel
theorem dX10_newTaker_42 : decode cX10_newTaker 42 = .ok (.dup, 1) := by decide +kernel
theorem dX10_newTaker_43 : decode cX10_newTaker 43 = .ok (.iload_n 1, 1) := by decide +kernel
theorem dX10_newTaker_44 : decode cX10_newTaker 44 = .ok (.iload_n 2, 1) := by decide +kernel
theorem dX10_newTaker_45 : decode cX10_newTaker 45 = .ok (.iload_n 3, 1) := by decide +kernel
theorem dX10_newTaker_46 : decode cX10_newTaker 46 = .ok (.invokespecial 239, 3) := by decide +kernel
theorem dX10_newTaker_49 : decode cX10_newTaker 49 = .ok (.areturn, 1) := by decide +kernel
theorem dX10_newTaker_50 : decode cX10_newTaker 50 = .ok (.new 100, 3) := by decide +kernel
theorem dX10_newTaker_53 : decode cX10_newTaker 53 = .ok (.dup, 1) := by decide +kernel
theorem dX10_newTaker_54 : decode cX10_newTaker 54 = .ok (.iload_n 1, 1) := by decide +kernel
theorem dX10_newTaker_55 : decode cX10_newTaker 55 = .ok (.iload_n 2, 1) := by decide +kernel
theorem dX10_newTaker_56 : decode cX10_newTaker 56 = .ok (.iload_n 3, 1) := by decide +kernel
theorem dX10_newTaker_57 : decode cX10_newTaker 57 = .ok (.invokespecial 240, 3) := by decide +kernel
theorem dX10_newTaker_60 : decode cX10_newTaker 60 = .ok (.areturn, 1) := by decide +kernel
end
section
theorem dL_law_0 : decode cL_law 0 = .ok (.new 7, 3) := by decide +kernel
theorem dL_law_3 : decode cL_law 3 = .ok (.dup, 1) := by decide +kernel
theorem dL_law_4 : decode cL_law 4 = .ok (.invokespecial 9, 3) := by decide +kernel
theorem dL_law_7 : decode cL_law 7 = .ok (.astore_n 1, 1) := by decide +kernel
theorem dL_law_8 : decode cL_law 8 = .ok (.new 10, 3) := by decide +kernel
theorem dL_law_11 : decode cL_law 11 = .ok (.dup, 1) := by decide +kernel
theorem dL_law_12 : decode cL_law 12 = .ok (.invokespecial 12, 3) := by decide +kernel
theorem dL_law_15 : decode cL_law 15 = .ok (.astore_n 2, 1) := by decide +kernel
theorem dL_law_16 : decode cL_law 16 = .ok (.iconst 0, 1) := by decide +kernel
theorem dL_law_17 : decode cL_law 17 = .ok (.istore_n 3, 1) := by decide +kernel
theorem dL_law_18 : decode cL_law 18 = .ok (.iload_n 3, 1) := by decide +kernel
theorem dL_law_19 : decode cL_law 19 = .ok (.aload_n 0, 1) := by decide +kernel
theorem dL_law_20 : decode cL_law 20 = .ok (.arraylength, 1) := by decide +kernel
theorem dL_law_21 : decode cL_law 21 = .ok (.bipush 6, 2) := by decide +kernel
theorem dL_law_23 : decode cL_law 23 = .ok (.isub, 1) := by decide +kernel
theorem dL_law_24 : decode cL_law 24 = .ok (.if_icmp .gt 1216, 3) := by decide +kernel
theorem dL_law_27 : decode cL_law 27 = .ok (.aload_n 0, 1) := by decide +kernel
theorem dL_law_28 : decode cL_law 28 = .ok (.iload_n 3, 1) := by decide +kernel
theorem dL_law_29 : decode cL_law 29 = .ok (.iaload, 1) := by decide +kernel
theorem dL_law_30 : decode cL_law 30 = .ok (.bipush 31, 2) := by decide +kernel
theorem dL_law_32 : decode cL_law 32 = .ok (.iand, 1) := by decide +kernel
theorem dL_law_33 : decode cL_law 33 = .ok (.tableswitch 1201 0 31 #[143, 196, 229, 252, 275, 308, 341, 374, 407, 440, 473, 516, 549, 612, 645, 678, 721, 744, 767, 790, 813, 857, 900, 923, 966, 1010, 1073, 1096, 1119, 1152, 1165, 1178], 143) := by decide +kernel
theorem dL_law_176 : decode cL_law 176 = .ok (.aload_n 1, 1) := by decide +kernel
theorem dL_law_177 : decode cL_law 177 = .ok (.aload_n 0, 1) := by decide +kernel
theorem dL_law_178 : decode cL_law 178 = .ok (.iload_n 3, 1) := by decide +kernel
theorem dL_law_179 : decode cL_law 179 = .ok (.iconst 1, 1) := by decide +kernel
theorem dL_law_180 : decode cL_law 180 = .ok (.iadd, 1) := by decide +kernel
theorem dL_law_181 : decode cL_law 181 = .ok (.iaload, 1) := by decide +kernel
theorem dL_law_182 : decode cL_law 182 = .ok (.aload_n 0, 1) := by decide +kernel
theorem dL_law_183 : decode cL_law 183 = .ok (.iload_n 3, 1) := by decide +kernel
theorem dL_law_184 : decode cL_law 184 = .ok (.iconst 2, 1) := by decide +kernel
theorem dL_law_185 : decode cL_law 185 = .ok (.iadd, 1) := by decide +kernel
theorem dL_law_186 : decode cL_law 186 = .ok (.iaload, 1) := by decide +kernel
theorem dL_law_187 : decode cL_law 187 = .ok (.aload_n 0, 1) := by decide +kernel
theorem dL_law_188 : decode cL_law 188 = .ok (.iload_n 3, 1) := by decide +kernel
theorem dL_law_189 : decode cL_law 189 = .ok (.iconst 3, 1) := by decide +kernel
theorem dL_law_190 : decode cL_law 190 = .ok (.iadd, 1) := by decide +kernel
theorem dL_law_191 : decode cL_law 191 = .ok (.iaload, 1) := by decide +kernel
theorem dL_law_192 : decode cL_law 192 = .ok (.aload_n 0, 1) := by decide +kernel
theorem dL_law_193 : decode cL_law 193 = .ok (.iload_n 3, 1) := by decide +kernel
theorem dL_law_194 : decode cL_law 194 = .ok (.iconst 4, 1) := by decide +kernel
theorem dL_law_195 : decode cL_law 195 = .ok (.iadd, 1) := by decide +kernel
theorem dL_law_196 : decode cL_law 196 = .ok (.iaload, 1) := by decide +kernel
theorem dL_law_197 : decode cL_law 197 = .ok (.invokevirtual 13, 3) := by decide +kernel
theorem dL_law_200 : decode cL_law 200 = .ok (.aload_n 2, 1) := by decide +kernel
theorem dL_law_201 : decode cL_law 201 = .ok (.aload_n 0, 1) := by decide +kernel
theorem dL_law_202 : decode cL_law 202 = .ok (.iload_n 3, 1) := by decide +kernel
theorem dL_law_203 : decode cL_law 203 = .ok (.iconst 1, 1) := by decide +kernel
theorem dL_law_204 : decode cL_law 204 = .ok (.iadd, 1) := by decide +kernel
theorem dL_law_205 : decode cL_law 205 = .ok (.iaload, 1) := by decide +kernel
theorem dL_law_206 : decode cL_law 206 = .ok (.aload_n 0, 1) := by decide +kernel
theorem dL_law_207 : decode cL_law 207 = .ok (.iload_n 3, 1) := by decide +kernel
theorem dL_law_208 : decode cL_law 208 = .ok (.iconst 2, 1) := by decide +kernel
theorem dL_law_209 : decode cL_law 209 = .ok (.iadd, 1) := by decide +kernel
theorem dL_law_210 : decode cL_law 210 = .ok (.iaload, 1) := by decide +kernel
theorem dL_law_211 : decode cL_law 211 = .ok (.aload_n 0, 1) := by decide +kernel
theorem dL_law_212 : decode cL_law 212 = .ok (.iload_n 3, 1) := by decide +kernel
theorem dL_law_213 : decode cL_law 213 = .ok (.iconst 3, 1) := by decide +kernel
theorem dL_law_214 : decode cL_law 214 = .ok (.iadd, 1) := by decide +kernel
theorem dL_law_215 : decode cL_law 215 = .ok (.iaload, 1) := by decide +kernel
theorem dL_law_216 : decode cL_law 216 = .ok (.aload_n 0, 1) := by decide +kernel
theorem dL_law_217 : decode cL_law 217 = .ok (.iload_n 3, 1) := by decide +kernel
theorem dL_law_218 : decode cL_law 218 = .ok (.iconst 4, 1) := by decide +kernel
theorem dL_law_219 : decode cL_law 219 = .ok (.iadd, 1) := by decide +kernel
theorem dL_law_220 : decode cL_law 220 = .ok (.iaload, 1) := by decide +kernel
theorem dL_law_221 : decode cL_law 221 = .ok (.invokevirtual 17, 3) := by decide +kernel
theorem dL_law_224 : decode cL_law 224 = .ok (.if_icmp .eq 1010, 3) := by decide +kernel
theorem dL_law_227 : decode cL_law 227 = .ok (.iconst 0, 1) := by decide +kernel
theorem dL_law_228 : decode cL_law 228 = .ok (.ireturn, 1) := by decide +kernel
theorem dL_law_229 : decode cL_law 229 = .ok (.aload_n 1, 1) := by decide +kernel
theorem dL_law_230 : decode cL_law 230 = .ok (.aload_n 0, 1) := by decide +kernel
theorem dL_law_231 : decode cL_law 231 = .ok (.iload_n 3, 1) := by decide +kernel
theorem dL_law_232 : decode cL_law 232 = .ok (.iconst 1, 1) := by decide +kernel
theorem dL_law_233 : decode cL_law 233 = .ok (.iadd, 1) := by decide +kernel
theorem dL_law_234 : decode cL_law 234 = .ok (.iaload, 1) := by decide +kernel
theorem dL_law_235 : decode cL_law 235 = .ok (.aload_n 0, 1) := by decide +kernel
theorem dL_law_236 : decode cL_law 236 = .ok (.iload_n 3, 1) := by decide +kernel
theorem dL_law_237 : decode cL_law 237 = .ok (.iconst 2, 1) := by decide +kernel
theorem dL_law_238 : decode cL_law 238 = .ok (.iadd, 1) := by decide +kernel
theorem dL_law_239 : decode cL_law 239 = .ok (.iaload, 1) := by decide +kernel
theorem dL_law_240 : decode cL_law 240 = .ok (.invokevirtual 18, 3) := by decide +kernel
theorem dL_law_243 : decode cL_law 243 = .ok (.aload_n 2, 1) := by decide +kernel
theorem dL_law_244 : decode cL_law 244 = .ok (.aload_n 0, 1) := by decide +kernel
theorem dL_law_245 : decode cL_law 245 = .ok (.iload_n 3, 1) := by decide +kernel
theorem dL_law_246 : decode cL_law 246 = .ok (.iconst 1, 1) := by decide +kernel
theorem dL_law_247 : decode cL_law 247 = .ok (.iadd, 1) := by decide +kernel
theorem dL_law_248 : decode cL_law 248 = .ok (.iaload, 1) := by decide +kernel
theorem dL_law_249 : decode cL_law 249 = .ok (.aload_n 0, 1) := by decide +kernel
theorem dL_law_250 : decode cL_law 250 = .ok (.iload_n 3, 1) := by decide +kernel
theorem dL_law_251 : decode cL_law 251 = .ok (.iconst 2, 1) := by decide +kernel
theorem dL_law_252 : decode cL_law 252 = .ok (.iadd, 1) := by decide +kernel
theorem dL_law_253 : decode cL_law 253 = .ok (.iaload, 1) := by decide +kernel
theorem dL_law_254 : decode cL_law 254 = .ok (.invokevirtual 22, 3) := by decide +kernel
theorem dL_law_257 : decode cL_law 257 = .ok (.if_icmp .eq 977, 3) := by decide +kernel
theorem dL_law_260 : decode cL_law 260 = .ok (.iconst 0, 1) := by decide +kernel
theorem dL_law_261 : decode cL_law 261 = .ok (.ireturn, 1) := by decide +kernel
theorem dL_law_262 : decode cL_law 262 = .ok (.aload_n 1, 1) := by decide +kernel
theorem dL_law_263 : decode cL_law 263 = .ok (.aload_n 0, 1) := by decide +kernel
theorem dL_law_264 : decode cL_law 264 = .ok (.iload_n 3, 1) := by decide +kernel
theorem dL_law_265 : decode cL_law 265 = .ok (.iconst 1, 1) := by decide +kernel
theorem dL_law_266 : decode cL_law 266 = .ok (.iadd, 1) := by decide +kernel
theorem dL_law_267 : decode cL_law 267 = .ok (.iaload, 1) := by decide +kernel
theorem dL_law_268 : decode cL_law 268 = .ok (.invokevirtual 23, 3) := by decide +kernel
theorem dL_law_271 : decode cL_law 271 = .ok (.aload_n 2, 1) := by decide +kernel
theorem dL_law_272 : decode cL_law 272 = .ok (.aload_n 0, 1) := by decide +kernel
theorem dL_law_273 : decode cL_law 273 = .ok (.iload_n 3, 1) := by decide +kernel
theorem dL_law_274 : decode cL_law 274 = .ok (.iconst 1, 1) := by decide +kernel
theorem dL_law_275 : decode cL_law 275 = .ok (.iadd, 1) := by decide +kernel
theorem dL_law_276 : decode cL_law 276 = .ok (.iaload, 1) := by decide +kernel
theorem dL_law_277 : decode cL_law 277 = .ok (.invokevirtual 27, 3) := by decide +kernel
theorem dL_law_280 : decode cL_law 280 = .ok (.if_icmp .eq 954, 3) := by decide +kernel
theorem dL_law_283 : decode cL_law 283 = .ok (.iconst 0, 1) := by decide +kernel
theorem dL_law_284 : decode cL_law 284 = .ok (.ireturn, 1) := by decide +kernel
theorem dL_law_285 : decode cL_law 285 = .ok (.aload_n 1, 1) := by decide +kernel
theorem dL_law_286 : decode cL_law 286 = .ok (.aload_n 0, 1) := by decide +kernel
theorem dL_law_287 : decode cL_law 287 = .ok (.iload_n 3, 1) := by decide +kernel
theorem dL_law_288 : decode cL_law 288 = .ok (.iconst 1, 1) := by decide +kernel
theorem dL_law_289 : decode cL_law 289 = .ok (.iadd, 1) := by decide +kernel
theorem dL_law_290 : decode cL_law 290 = .ok (.iaload, 1) := by decide +kernel
theorem dL_law_291 : decode cL_law 291 = .ok (.invokevirtual 28, 3) := by decide +kernel
theorem dL_law_294 : decode cL_law 294 = .ok (.aload_n 2, 1) := by decide +kernel
theorem dL_law_295 : decode cL_law 295 = .ok (.aload_n 0, 1) := by decide +kernel
theorem dL_law_296 : decode cL_law 296 = .ok (.iload_n 3, 1) := by decide +kernel
theorem dL_law_297 : decode cL_law 297 = .ok (.iconst 1, 1) := by decide +kernel
theorem dL_law_298 : decode cL_law 298 = .ok (.iadd, 1) := by decide +kernel
theorem dL_law_299 : decode cL_law 299 = .ok (.iaload, 1) := by decide +kernel
theorem dL_law_300 : decode cL_law 300 = .ok (.invokevirtual 31, 3) := by decide +kernel
theorem dL_law_303 : decode cL_law 303 = .ok (.if_icmp .eq 931, 3) := by decide +kernel
theorem dL_law_306 : decode cL_law 306 = .ok (.iconst 0, 1) := by decide +kernel
theorem dL_law_307 : decode cL_law 307 = .ok (.ireturn, 1) := by decide +kernel
theorem dL_law_308 : decode cL_law 308 = .ok (.aload_n 1, 1) := by decide +kernel
theorem dL_law_309 : decode cL_law 309 = .ok (.aload_n 0, 1) := by decide +kernel
theorem dL_law_310 : decode cL_law 310 = .ok (.iload_n 3, 1) := by decide +kernel
theorem dL_law_311 : decode cL_law 311 = .ok (.iconst 1, 1) := by decide +kernel
theorem dL_law_312 : decode cL_law 312 = .ok (.iadd, 1) := by decide +kernel
theorem dL_law_313 : decode cL_law 313 = .ok (.iaload, 1) := by decide +kernel
theorem dL_law_314 : decode cL_law 314 = .ok (.aload_n 0, 1) := by decide +kernel
theorem dL_law_315 : decode cL_law 315 = .ok (.iload_n 3, 1) := by decide +kernel
theorem dL_law_316 : decode cL_law 316 = .ok (.iconst 2, 1) := by decide +kernel
theorem dL_law_317 : decode cL_law 317 = .ok (.iadd, 1) := by decide +kernel
theorem dL_law_318 : decode cL_law 318 = .ok (.iaload, 1) := by decide +kernel
theorem dL_law_319 : decode cL_law 319 = .ok (.invokevirtual 32, 3) := by decide +kernel
theorem dL_law_322 : decode cL_law 322 = .ok (.aload_n 2, 1) := by decide +kernel
theorem dL_law_323 : decode cL_law 323 = .ok (.aload_n 0, 1) := by decide +kernel
theorem dL_law_324 : decode cL_law 324 = .ok (.iload_n 3, 1) := by decide +kernel
theorem dL_law_325 : decode cL_law 325 = .ok (.iconst 1, 1) := by decide +kernel
theorem dL_law_326 : decode cL_law 326 = .ok (.iadd, 1) := by decide +kernel
theorem dL_law_327 : decode cL_law 327 = .ok (.iaload, 1) := by decide +kernel
theorem dL_law_328 : decode cL_law 328 = .ok (.aload_n 0, 1) := by decide +kernel
theorem dL_law_329 : decode cL_law 329 = .ok (.iload_n 3, 1) := by decide +kernel
theorem dL_law_330 : decode cL_law 330 = .ok (.iconst 2, 1) := by decide +kernel
theorem dL_law_331 : decode cL_law 331 = .ok (.iadd, 1) := by decide +kernel
theorem dL_law_332 : decode cL_law 332 = .ok (.iaload, 1) := by decide +kernel
theorem dL_law_333 : decode cL_law 333 = .ok (.invokevirtual 35, 3) := by decide +kernel
theorem dL_law_336 : decode cL_law 336 = .ok (.if_icmp .eq 898, 3) := by decide +kernel
theorem dL_law_339 : decode cL_law 339 = .ok (.iconst 0, 1) := by decide +kernel
theorem dL_law_340 : decode cL_law 340 = .ok (.ireturn, 1) := by decide +kernel
theorem dL_law_341 : decode cL_law 341 = .ok (.aload_n 1, 1) := by decide +kernel
theorem dL_law_342 : decode cL_law 342 = .ok (.aload_n 0, 1) := by decide +kernel
theorem dL_law_343 : decode cL_law 343 = .ok (.iload_n 3, 1) := by decide +kernel
theorem dL_law_344 : decode cL_law 344 = .ok (.iconst 1, 1) := by decide +kernel
theorem dL_law_345 : decode cL_law 345 = .ok (.iadd, 1) := by decide +kernel
theorem dL_law_346 : decode cL_law 346 = .ok (.iaload, 1) := by decide +kernel
theorem dL_law_347 : decode cL_law 347 = .ok (.aload_n 0, 1) := by decide +kernel
theorem dL_law_348 : decode cL_law 348 = .ok (.iload_n 3, 1) := by decide +kernel
theorem dL_law_349 : decode cL_law 349 = .ok (.iconst 2, 1) := by decide +kernel
theorem dL_law_350 : decode cL_law 350 = .ok (.iadd, 1) := by decide +kernel
theorem dL_law_351 : decode cL_law 351 = .ok (.iaload, 1) := by decide +kernel
theorem dL_law_352 : decode cL_law 352 = .ok (.invokevirtual 36, 3) := by decide +kernel
theorem dL_law_355 : decode cL_law 355 = .ok (.aload_n 2, 1) := by decide +kernel
theorem dL_law_356 : decode cL_law 356 = .ok (.aload_n 0, 1) := by decide +kernel
theorem dL_law_357 : decode cL_law 357 = .ok (.iload_n 3, 1) := by decide +kernel
theorem dL_law_358 : decode cL_law 358 = .ok (.iconst 1, 1) := by decide +kernel
theorem dL_law_359 : decode cL_law 359 = .ok (.iadd, 1) := by decide +kernel
theorem dL_law_360 : decode cL_law 360 = .ok (.iaload, 1) := by decide +kernel
theorem dL_law_361 : decode cL_law 361 = .ok (.aload_n 0, 1) := by decide +kernel
theorem dL_law_362 : decode cL_law 362 = .ok (.iload_n 3, 1) := by decide +kernel
theorem dL_law_363 : decode cL_law 363 = .ok (.iconst 2, 1) := by decide +kernel
theorem dL_law_364 : decode cL_law 364 = .ok (.iadd, 1) := by decide +kernel
theorem dL_law_365 : decode cL_law 365 = .ok (.iaload, 1) := by decide +kernel
theorem dL_law_366 : decode cL_law 366 = .ok (.invokevirtual 39, 3) := by decide +kernel
theorem dL_law_369 : decode cL_law 369 = .ok (.if_icmp .eq 865, 3) := by decide +kernel
theorem dL_law_372 : decode cL_law 372 = .ok (.iconst 0, 1) := by decide +kernel
theorem dL_law_373 : decode cL_law 373 = .ok (.ireturn, 1) := by decide +kernel
theorem dL_law_374 : decode cL_law 374 = .ok (.aload_n 1, 1) := by decide +kernel
theorem dL_law_375 : decode cL_law 375 = .ok (.aload_n 0, 1) := by decide +kernel
theorem dL_law_376 : decode cL_law 376 = .ok (.iload_n 3, 1) := by decide +kernel
theorem dL_law_377 : decode cL_law 377 = .ok (.iconst 1, 1) := by decide +kernel
theorem dL_law_378 : decode cL_law 378 = .ok (.iadd, 1) := by decide +kernel
theorem dL_law_379 : decode cL_law 379 = .ok (.iaload, 1) := by decide +kernel
theorem dL_law_380 : decode cL_law 380 = .ok (.aload_n 0, 1) := by decide +kernel
theorem dL_law_381 : decode cL_law 381 = .ok (.iload_n 3, 1) := by decide +kernel
theorem dL_law_382 : decode cL_law 382 = .ok (.iconst 2, 1) := by decide +kernel
theorem dL_law_383 : decode cL_law 383 = .ok (.iadd, 1) := by decide +kernel
theorem dL_law_384 : decode cL_law 384 = .ok (.iaload, 1) := by decide +kernel
theorem dL_law_385 : decode cL_law 385 = .ok (.invokevirtual 40, 3) := by decide +kernel
theorem dL_law_388 : decode cL_law 388 = .ok (.aload_n 2, 1) := by decide +kernel
theorem dL_law_389 : decode cL_law 389 = .ok (.aload_n 0, 1) := by decide +kernel
theorem dL_law_390 : decode cL_law 390 = .ok (.iload_n 3, 1) := by decide +kernel
theorem dL_law_391 : decode cL_law 391 = .ok (.iconst 1, 1) := by decide +kernel
theorem dL_law_392 : decode cL_law 392 = .ok (.iadd, 1) := by decide +kernel
theorem dL_law_393 : decode cL_law 393 = .ok (.iaload, 1) := by decide +kernel
theorem dL_law_394 : decode cL_law 394 = .ok (.aload_n 0, 1) := by decide +kernel
theorem dL_law_395 : decode cL_law 395 = .ok (.iload_n 3, 1) := by decide +kernel
theorem dL_law_396 : decode cL_law 396 = .ok (.iconst 2, 1) := by decide +kernel
theorem dL_law_397 : decode cL_law 397 = .ok (.iadd, 1) := by decide +kernel
theorem dL_law_398 : decode cL_law 398 = .ok (.iaload, 1) := by decide +kernel
theorem dL_law_399 : decode cL_law 399 = .ok (.invokevirtual 43, 3) := by decide +kernel
theorem dL_law_402 : decode cL_law 402 = .ok (.if_icmp .eq 832, 3) := by decide +kernel
theorem dL_law_405 : decode cL_law 405 = .ok (.iconst 0, 1) := by decide +kernel
theorem dL_law_406 : decode cL_law 406 = .ok (.ireturn, 1) := by decide +kernel
theorem dL_law_407 : decode cL_law 407 = .ok (.aload_n 1, 1) := by decide +kernel
theorem dL_law_408 : decode cL_law 408 = .ok (.aload_n 0, 1) := by decide +kernel
theorem dL_law_409 : decode cL_law 409 = .ok (.iload_n 3, 1) := by decide +kernel
theorem dL_law_410 : decode cL_law 410 = .ok (.iconst 1, 1) := by decide +kernel
theorem dL_law_411 : decode cL_law 411 = .ok (.iadd, 1) := by decide +kernel
theorem dL_law_412 : decode cL_law 412 = .ok (.iaload, 1) := by decide +kernel
theorem dL_law_413 : decode cL_law 413 = .ok (.aload_n 0, 1) := by decide +kernel
theorem dL_law_414 : decode cL_law 414 = .ok (.iload_n 3, 1) := by decide +kernel
theorem dL_law_415 : decode cL_law 415 = .ok (.iconst 2, 1) := by decide +kernel
theorem dL_law_416 : decode cL_law 416 = .ok (.iadd, 1) := by decide +kernel
theorem dL_law_417 : decode cL_law 417 = .ok (.iaload, 1) := by decide +kernel
theorem dL_law_418 : decode cL_law 418 = .ok (.invokevirtual 44, 3) := by decide +kernel
theorem dL_law_421 : decode cL_law 421 = .ok (.aload_n 2, 1) := by decide +kernel
theorem dL_law_422 : decode cL_law 422 = .ok (.aload_n 0, 1) := by decide +kernel
theorem dL_law_423 : decode cL_law 423 = .ok (.iload_n 3, 1) := by decide +kernel
theorem dL_law_424 : decode cL_law 424 = .ok (.iconst 1, 1) := by decide +kernel
theorem dL_law_425 : decode cL_law 425 = .ok (.iadd, 1) := by decide +kernel
theorem dL_law_426 : decode cL_law 426 = .ok (.iaload, 1) := by decide +kernel
theorem dL_law_427 : decode cL_law 427 = .ok (.aload_n 0, 1) := by decide +kernel
theorem dL_law_428 : decode cL_law 428 = .ok (.iload_n 3, 1) := by decide +kernel
theorem dL_law_429 : decode cL_law 429 = .ok (.iconst 2, 1) := by decide +kernel
theorem dL_law_430 : decode cL_law 430 = .ok (.iadd, 1) := by decide +kernel
theorem dL_law_431 : decode cL_law 431 = .ok (.iaload, 1) := by decide +kernel
theorem dL_law_432 : decode cL_law 432 = .ok (.invokevirtual 47, 3) := by decide +kernel
theorem dL_law_435 : decode cL_law 435 = .ok (.if_icmp .eq 799, 3) := by decide +kernel
theorem dL_law_438 : decode cL_law 438 = .ok (.iconst 0, 1) := by decide +kernel
theorem dL_law_439 : decode cL_law 439 = .ok (.ireturn, 1) := by decide +kernel
theorem dL_law_440 : decode cL_law 440 = .ok (.aload_n 1, 1) := by decide +kernel
theorem dL_law_441 : decode cL_law 441 = .ok (.aload_n 0, 1) := by decide +kernel
theorem dL_law_442 : decode cL_law 442 = .ok (.iload_n 3, 1) := by decide +kernel
theorem dL_law_443 : decode cL_law 443 = .ok (.iconst 1, 1) := by decide +kernel
theorem dL_law_444 : decode cL_law 444 = .ok (.iadd, 1) := by decide +kernel
theorem dL_law_445 : decode cL_law 445 = .ok (.iaload, 1) := by decide +kernel
theorem dL_law_446 : decode cL_law 446 = .ok (.aload_n 0, 1) := by decide +kernel
theorem dL_law_447 : decode cL_law 447 = .ok (.iload_n 3, 1) := by decide +kernel
theorem dL_law_448 : decode cL_law 448 = .ok (.iconst 2, 1) := by decide +kernel
theorem dL_law_449 : decode cL_law 449 = .ok (.iadd, 1) := by decide +kernel
theorem dL_law_450 : decode cL_law 450 = .ok (.iaload, 1) := by decide +kernel
theorem dL_law_451 : decode cL_law 451 = .ok (.invokevirtual 48, 3) := by decide +kernel
theorem dL_law_454 : decode cL_law 454 = .ok (.aload_n 2, 1) := by decide +kernel
theorem dL_law_455 : decode cL_law 455 = .ok (.aload_n 0, 1) := by decide +kernel
theorem dL_law_456 : decode cL_law 456 = .ok (.iload_n 3, 1) := by decide +kernel
theorem dL_law_457 : decode cL_law 457 = .ok (.iconst 1, 1) := by decide +kernel
theorem dL_law_458 : decode cL_law 458 = .ok (.iadd, 1) := by decide +kernel
theorem dL_law_459 : decode cL_law 459 = .ok (.iaload, 1) := by decide +kernel
theorem dL_law_460 : decode cL_law 460 = .ok (.aload_n 0, 1) := by decide +kernel
theorem dL_law_461 : decode cL_law 461 = .ok (.iload_n 3, 1) := by decide +kernel
theorem dL_law_462 : decode cL_law 462 = .ok (.iconst 2, 1) := by decide +kernel
theorem dL_law_463 : decode cL_law 463 = .ok (.iadd, 1) := by decide +kernel
theorem dL_law_464 : decode cL_law 464 = .ok (.iaload, 1) := by decide +kernel
theorem dL_law_465 : decode cL_law 465 = .ok (.invokevirtual 51, 3) := by decide +kernel
theorem dL_law_468 : decode cL_law 468 = .ok (.if_icmp .eq 766, 3) := by decide +kernel
theorem dL_law_471 : decode cL_law 471 = .ok (.iconst 0, 1) := by decide +kernel
theorem dL_law_472 : decode cL_law 472 = .ok (.ireturn, 1) := by decide +kernel
theorem dL_law_473 : decode cL_law 473 = .ok (.aload_n 1, 1) := by decide +kernel
theorem dL_law_474 : decode cL_law 474 = .ok (.aload_n 0, 1) := by decide +kernel
theorem dL_law_475 : decode cL_law 475 = .ok (.iload_n 3, 1) := by decide +kernel
theorem dL_law_476 : decode cL_law 476 = .ok (.iconst 1, 1) := by decide +kernel
theorem dL_law_477 : decode cL_law 477 = .ok (.iadd, 1) := by decide +kernel
theorem dL_law_478 : decode cL_law 478 = .ok (.iaload, 1) := by decide +kernel
theorem dL_law_479 : decode cL_law 479 = .ok (.aload_n 0, 1) := by decide +kernel
theorem dL_law_480 : decode cL_law 480 = .ok (.iload_n 3, 1) := by decide +kernel
theorem dL_law_481 : decode cL_law 481 = .ok (.iconst 2, 1) := by decide +kernel
theorem dL_law_482 : decode cL_law 482 = .ok (.iadd, 1) := by decide +kernel
theorem dL_law_483 : decode cL_law 483 = .ok (.iaload, 1) := by decide +kernel
theorem dL_law_484 : decode cL_law 484 = .ok (.invokevirtual 52, 3) := by decide +kernel
theorem dL_law_487 : decode cL_law 487 = .ok (.aload_n 2, 1) := by decide +kernel
theorem dL_law_488 : decode cL_law 488 = .ok (.aload_n 0, 1) := by decide +kernel
theorem dL_law_489 : decode cL_law 489 = .ok (.iload_n 3, 1) := by decide +kernel
theorem dL_law_490 : decode cL_law 490 = .ok (.iconst 1, 1) := by decide +kernel
theorem dL_law_491 : decode cL_law 491 = .ok (.iadd, 1) := by decide +kernel
theorem dL_law_492 : decode cL_law 492 = .ok (.iaload, 1) := by decide +kernel
theorem dL_law_493 : decode cL_law 493 = .ok (.aload_n 0, 1) := by decide +kernel
theorem dL_law_494 : decode cL_law 494 = .ok (.iload_n 3, 1) := by decide +kernel
theorem dL_law_495 : decode cL_law 495 = .ok (.iconst 2, 1) := by decide +kernel
theorem dL_law_496 : decode cL_law 496 = .ok (.iadd, 1) := by decide +kernel
theorem dL_law_497 : decode cL_law 497 = .ok (.iaload, 1) := by decide +kernel
theorem dL_law_498 : decode cL_law 498 = .ok (.invokevirtual 55, 3) := by decide +kernel
theorem dL_law_501 : decode cL_law 501 = .ok (.if_icmp .eq 733, 3) := by decide +kernel
theorem dL_law_504 : decode cL_law 504 = .ok (.iconst 0, 1) := by decide +kernel
theorem dL_law_505 : decode cL_law 505 = .ok (.ireturn, 1) := by decide +kernel
theorem dL_law_506 : decode cL_law 506 = .ok (.aload_n 1, 1) := by decide +kernel
theorem dL_law_507 : decode cL_law 507 = .ok (.aload_n 0, 1) := by decide +kernel
theorem dL_law_508 : decode cL_law 508 = .ok (.iload_n 3, 1) := by decide +kernel
theorem dL_law_509 : decode cL_law 509 = .ok (.iconst 1, 1) := by decide +kernel
theorem dL_law_510 : decode cL_law 510 = .ok (.iadd, 1) := by decide +kernel
theorem dL_law_511 : decode cL_law 511 = .ok (.iaload, 1) := by decide +kernel
theorem dL_law_512 : decode cL_law 512 = .ok (.aload_n 0, 1) := by decide +kernel
theorem dL_law_513 : decode cL_law 513 = .ok (.iload_n 3, 1) := by decide +kernel
theorem dL_law_514 : decode cL_law 514 = .ok (.iconst 2, 1) := by decide +kernel
theorem dL_law_515 : decode cL_law 515 = .ok (.iadd, 1) := by decide +kernel
theorem dL_law_516 : decode cL_law 516 = .ok (.iaload, 1) := by decide +kernel
theorem dL_law_517 : decode cL_law 517 = .ok (.aload_n 0, 1) := by decide +kernel
theorem dL_law_518 : decode cL_law 518 = .ok (.iload_n 3, 1) := by decide +kernel
theorem dL_law_519 : decode cL_law 519 = .ok (.iconst 3, 1) := by decide +kernel
theorem dL_law_520 : decode cL_law 520 = .ok (.iadd, 1) := by decide +kernel
theorem dL_law_521 : decode cL_law 521 = .ok (.iaload, 1) := by decide +kernel
theorem dL_law_522 : decode cL_law 522 = .ok (.invokevirtual 56, 3) := by decide +kernel
theorem dL_law_525 : decode cL_law 525 = .ok (.aload_n 2, 1) := by decide +kernel
theorem dL_law_526 : decode cL_law 526 = .ok (.aload_n 0, 1) := by decide +kernel
theorem dL_law_527 : decode cL_law 527 = .ok (.iload_n 3, 1) := by decide +kernel
theorem dL_law_528 : decode cL_law 528 = .ok (.iconst 1, 1) := by decide +kernel
theorem dL_law_529 : decode cL_law 529 = .ok (.iadd, 1) := by decide +kernel
theorem dL_law_530 : decode cL_law 530 = .ok (.iaload, 1) := by decide +kernel
theorem dL_law_531 : decode cL_law 531 = .ok (.aload_n 0, 1) := by decide +kernel
theorem dL_law_532 : decode cL_law 532 = .ok (.iload_n 3, 1) := by decide +kernel
theorem dL_law_533 : decode cL_law 533 = .ok (.iconst 2, 1) := by decide +kernel
theorem dL_law_534 : decode cL_law 534 = .ok (.iadd, 1) := by decide +kernel
theorem dL_law_535 : decode cL_law 535 = .ok (.iaload, 1) := by decide +kernel
theorem dL_law_536 : decode cL_law 536 = .ok (.aload_n 0, 1) := by decide +kernel
theorem dL_law_537 : decode cL_law 537 = .ok (.iload_n 3, 1) := by decide +kernel
theorem dL_law_538 : decode cL_law 538 = .ok (.iconst 3, 1) := by decide +kernel
theorem dL_law_539 : decode cL_law 539 = .ok (.iadd, 1) := by decide +kernel
theorem dL_law_540 : decode cL_law 540 = .ok (.iaload, 1) := by decide +kernel
theorem dL_law_541 : decode cL_law 541 = .ok (.invokevirtual 60, 3) := by decide +kernel
theorem dL_law_544 : decode cL_law 544 = .ok (.if_icmp .eq 690, 3) := by decide +kernel
theorem dL_law_547 : decode cL_law 547 = .ok (.iconst 0, 1) := by decide +kernel
theorem dL_law_548 : decode cL_law 548 = .ok (.ireturn, 1) := by decide +kernel
theorem dL_law_549 : decode cL_law 549 = .ok (.aload_n 1, 1) := by decide +kernel
theorem dL_law_550 : decode cL_law 550 = .ok (.aload_n 0, 1) := by decide +kernel
theorem dL_law_551 : decode cL_law 551 = .ok (.iload_n 3, 1) := by decide +kernel
theorem dL_law_552 : decode cL_law 552 = .ok (.iconst 1, 1) := by decide +kernel
theorem dL_law_553 : decode cL_law 553 = .ok (.iadd, 1) := by decide +kernel
theorem dL_law_554 : decode cL_law 554 = .ok (.iaload, 1) := by decide +kernel
theorem dL_law_555 : decode cL_law 555 = .ok (.aload_n 0, 1) := by decide +kernel
theorem dL_law_556 : decode cL_law 556 = .ok (.iload_n 3, 1) := by decide +kernel
theorem dL_law_557 : decode cL_law 557 = .ok (.iconst 2, 1) := by decide +kernel
theorem dL_law_558 : decode cL_law 558 = .ok (.iadd, 1) := by decide +kernel
theorem dL_law_559 : decode cL_law 559 = .ok (.iaload, 1) := by decide +kernel
theorem dL_law_560 : decode cL_law 560 = .ok (.invokevirtual 61, 3) := by decide +kernel
theorem dL_law_563 : decode cL_law 563 = .ok (.aload_n 2, 1) := by decide +kernel
theorem dL_law_564 : decode cL_law 564 = .ok (.aload_n 0, 1) := by decide +kernel
theorem dL_law_565 : decode cL_law 565 = .ok (.iload_n 3, 1) := by decide +kernel
theorem dL_law_566 : decode cL_law 566 = .ok (.iconst 1, 1) := by decide +kernel
theorem dL_law_567 : decode cL_law 567 = .ok (.iadd, 1) := by decide +kernel
theorem dL_law_568 : decode cL_law 568 = .ok (.iaload, 1) := by decide +kernel
theorem dL_law_569 : decode cL_law 569 = .ok (.aload_n 0, 1) := by decide +kernel
theorem dL_law_570 : decode cL_law 570 = .ok (.iload_n 3, 1) := by decide +kernel
theorem dL_law_571 : decode cL_law 571 = .ok (.iconst 2, 1) := by decide +kernel
theorem dL_law_572 : decode cL_law 572 = .ok (.iadd, 1) := by decide +kernel
theorem dL_law_573 : decode cL_law 573 = .ok (.iaload, 1) := by decide +kernel
theorem dL_law_574 : decode cL_law 574 = .ok (.invokevirtual 64, 3) := by decide +kernel
theorem dL_law_577 : decode cL_law 577 = .ok (.if_icmp .eq 657, 3) := by decide +kernel
theorem dL_law_580 : decode cL_law 580 = .ok (.iconst 0, 1) := by decide +kernel
theorem dL_law_581 : decode cL_law 581 = .ok (.ireturn, 1) := by decide +kernel
theorem dL_law_582 : decode cL_law 582 = .ok (.aload_n 1, 1) := by decide +kernel
theorem dL_law_583 : decode cL_law 583 = .ok (.aload_n 0, 1) := by decide +kernel
theorem dL_law_584 : decode cL_law 584 = .ok (.iload_n 3, 1) := by decide +kernel
theorem dL_law_585 : decode cL_law 585 = .ok (.iconst 1, 1) := by decide +kernel
theorem dL_law_586 : decode cL_law 586 = .ok (.iadd, 1) := by decide +kernel
theorem dL_law_587 : decode cL_law 587 = .ok (.iaload, 1) := by decide +kernel
theorem dL_law_588 : decode cL_law 588 = .ok (.aload_n 0, 1) := by decide +kernel
theorem dL_law_589 : decode cL_law 589 = .ok (.iload_n 3, 1) := by decide +kernel
theorem dL_law_590 : decode cL_law 590 = .ok (.iconst 2, 1) := by decide +kernel
theorem dL_law_591 : decode cL_law 591 = .ok (.iadd, 1) := by decide +kernel
theorem dL_law_592 : decode cL_law 592 = .ok (.iaload, 1) := by decide +kernel
theorem dL_law_593 : decode cL_law 593 = .ok (.aload_n 0, 1) := by decide +kernel
theorem dL_law_594 : decode cL_law 594 = .ok (.iload_n 3, 1) := by decide +kernel
theorem dL_law_595 : decode cL_law 595 = .ok (.iconst 3, 1) := by decide +kernel
theorem dL_law_596 : decode cL_law 596 = .ok (.iadd, 1) := by decide +kernel
theorem dL_law_597 : decode cL_law 597 = .ok (.iaload, 1) := by decide +kernel
theorem dL_law_598 : decode cL_law 598 = .ok (.aload_n 0, 1) := by decide +kernel
theorem dL_law_599 : decode cL_law 599 = .ok (.iload_n 3, 1) := by decide +kernel
theorem dL_law_600 : decode cL_law 600 = .ok (.iconst 4, 1) := by decide +kernel
theorem dL_law_601 : decode cL_law 601 = .ok (.iadd, 1) := by decide +kernel
theorem dL_law_602 : decode cL_law 602 = .ok (.iaload, 1) := by decide +kernel
theorem dL_law_603 : decode cL_law 603 = .ok (.aload_n 0, 1) := by decide +kernel
theorem dL_law_604 : decode cL_law 604 = .ok (.iload_n 3, 1) := by decide +kernel
theorem dL_law_605 : decode cL_law 605 = .ok (.iconst 5, 1) := by decide +kernel
theorem dL_law_606 : decode cL_law 606 = .ok (.iadd, 1) := by decide +kernel
theorem dL_law_607 : decode cL_law 607 = .ok (.iaload, 1) := by decide +kernel
theorem dL_law_608 : decode cL_law 608 = .ok (.invokevirtual 65, 3) := by decide +kernel
theorem dL_law_611 : decode cL_law 611 = .ok (.aload_n 2, 1) := by decide +kernel
theorem dL_law_612 : decode cL_law 612 = .ok (.aload_n 0, 1) := by decide +kernel
theorem dL_law_613 : decode cL_law 613 = .ok (.iload_n 3, 1) := by decide +kernel
theorem dL_law_614 : decode cL_law 614 = .ok (.iconst 1, 1) := by decide +kernel
theorem dL_law_615 : decode cL_law 615 = .ok (.iadd, 1) := by decide +kernel
theorem dL_law_616 : decode cL_law 616 = .ok (.iaload, 1) := by decide +kernel
theorem dL_law_617 : decode cL_law 617 = .ok (.aload_n 0, 1) := by decide +kernel
theorem dL_law_618 : decode cL_law 618 = .ok (.iload_n 3, 1) := by decide +kernel
theorem dL_law_619 : decode cL_law 619 = .ok (.iconst 2, 1) := by decide +kernel
theorem dL_law_620 : decode cL_law 620 = .ok (.iadd, 1) := by decide +kernel
theorem dL_law_621 : decode cL_law 621 = .ok (.iaload, 1) := by decide +kernel
theorem dL_law_622 : decode cL_law 622 = .ok (.aload_n 0, 1) := by decide +kernel
theorem dL_law_623 : decode cL_law 623 = .ok (.iload_n 3, 1) := by decide +kernel
theorem dL_law_624 : decode cL_law 624 = .ok (.iconst 3, 1) := by decide +kernel
theorem dL_law_625 : decode cL_law 625 = .ok (.iadd, 1) := by decide +kernel
theorem dL_law_626 : decode cL_law 626 = .ok (.iaload, 1) := by decide +kernel
theorem dL_law_627 : decode cL_law 627 = .ok (.aload_n 0, 1) := by decide +kernel
theorem dL_law_628 : decode cL_law 628 = .ok (.iload_n 3, 1) := by decide +kernel
theorem dL_law_629 : decode cL_law 629 = .ok (.iconst 4, 1) := by decide +kernel
theorem dL_law_630 : decode cL_law 630 = .ok (.iadd, 1) := by decide +kernel
theorem dL_law_631 : decode cL_law 631 = .ok (.iaload, 1) := by decide +kernel
theorem dL_law_632 : decode cL_law 632 = .ok (.aload_n 0, 1) := by decide +kernel
theorem dL_law_633 : decode cL_law 633 = .ok (.iload_n 3, 1) := by decide +kernel
theorem dL_law_634 : decode cL_law 634 = .ok (.iconst 5, 1) := by decide +kernel
theorem dL_law_635 : decode cL_law 635 = .ok (.iadd, 1) := by decide +kernel
theorem dL_law_636 : decode cL_law 636 = .ok (.iaload, 1) := by decide +kernel
theorem dL_law_637 : decode cL_law 637 = .ok (.invokevirtual 69, 3) := by decide +kernel
theorem dL_law_640 : decode cL_law 640 = .ok (.if_icmp .eq 594, 3) := by decide +kernel
theorem dL_law_643 : decode cL_law 643 = .ok (.iconst 0, 1) := by decide +kernel
theorem dL_law_644 : decode cL_law 644 = .ok (.ireturn, 1) := by decide +kernel
theorem dL_law_645 : decode cL_law 645 = .ok (.aload_n 1, 1) := by decide +kernel
theorem dL_law_646 : decode cL_law 646 = .ok (.aload_n 0, 1) := by decide +kernel
theorem dL_law_647 : decode cL_law 647 = .ok (.iload_n 3, 1) := by decide +kernel
theorem dL_law_648 : decode cL_law 648 = .ok (.iconst 1, 1) := by decide +kernel
theorem dL_law_649 : decode cL_law 649 = .ok (.iadd, 1) := by decide +kernel
theorem dL_law_650 : decode cL_law 650 = .ok (.iaload, 1) := by decide +kernel
theorem dL_law_651 : decode cL_law 651 = .ok (.aload_n 0, 1) := by decide +kernel
theorem dL_law_652 : decode cL_law 652 = .ok (.iload_n 3, 1) := by decide +kernel
theorem dL_law_653 : decode cL_law 653 = .ok (.iconst 2, 1) := by decide +kernel
theorem dL_law_654 : decode cL_law 654 = .ok (.iadd, 1) := by decide +kernel
theorem dL_law_655 : decode cL_law 655 = .ok (.iaload, 1) := by decide +kernel
theorem dL_law_656 : decode cL_law 656 = .ok (.invokevirtual 70, 3) := by decide +kernel
theorem dL_law_659 : decode cL_law 659 = .ok (.aload_n 2, 1) := by decide +kernel
theorem dL_law_660 : decode cL_law 660 = .ok (.aload_n 0, 1) := by decide +kernel
theorem dL_law_661 : decode cL_law 661 = .ok (.iload_n 3, 1) := by decide +kernel
theorem dL_law_662 : decode cL_law 662 = .ok (.iconst 1, 1) := by decide +kernel
theorem dL_law_663 : decode cL_law 663 = .ok (.iadd, 1) := by decide +kernel
theorem dL_law_664 : decode cL_law 664 = .ok (.iaload, 1) := by decide +kernel
theorem dL_law_665 : decode cL_law 665 = .ok (.aload_n 0, 1) := by decide +kernel
theorem dL_law_666 : decode cL_law 666 = .ok (.iload_n 3, 1) := by decide +kernel
theorem dL_law_667 : decode cL_law 667 = .ok (.iconst 2, 1) := by decide +kernel
theorem dL_law_668 : decode cL_law 668 = .ok (.iadd, 1) := by decide +kernel
theorem dL_law_669 : decode cL_law 669 = .ok (.iaload, 1) := by decide +kernel
theorem dL_law_670 : decode cL_law 670 = .ok (.invokevirtual 73, 3) := by decide +kernel
theorem dL_law_673 : decode cL_law 673 = .ok (.if_icmp .eq 561, 3) := by decide +kernel
theorem dL_law_676 : decode cL_law 676 = .ok (.iconst 0, 1) := by decide +kernel
theorem dL_law_677 : decode cL_law 677 = .ok (.ireturn, 1) := by decide +kernel
theorem dL_law_678 : decode cL_law 678 = .ok (.aload_n 1, 1) := by decide +kernel
theorem dL_law_679 : decode cL_law 679 = .ok (.aload_n 0, 1) := by decide +kernel
theorem dL_law_680 : decode cL_law 680 = .ok (.iload_n 3, 1) := by decide +kernel
theorem dL_law_681 : decode cL_law 681 = .ok (.iconst 1, 1) := by decide +kernel
theorem dL_law_682 : decode cL_law 682 = .ok (.iadd, 1) := by decide +kernel
theorem dL_law_683 : decode cL_law 683 = .ok (.iaload, 1) := by decide +kernel
theorem dL_law_684 : decode cL_law 684 = .ok (.aload_n 0, 1) := by decide +kernel
theorem dL_law_685 : decode cL_law 685 = .ok (.iload_n 3, 1) := by decide +kernel
theorem dL_law_686 : decode cL_law 686 = .ok (.iconst 2, 1) := by decide +kernel
theorem dL_law_687 : decode cL_law 687 = .ok (.iadd, 1) := by decide +kernel
theorem dL_law_688 : decode cL_law 688 = .ok (.iaload, 1) := by decide +kernel
theorem dL_law_689 : decode cL_law 689 = .ok (.invokevirtual 74, 3) := by decide +kernel
theorem dL_law_692 : decode cL_law 692 = .ok (.aload_n 2, 1) := by decide +kernel
theorem dL_law_693 : decode cL_law 693 = .ok (.aload_n 0, 1) := by decide +kernel
theorem dL_law_694 : decode cL_law 694 = .ok (.iload_n 3, 1) := by decide +kernel
theorem dL_law_695 : decode cL_law 695 = .ok (.iconst 1, 1) := by decide +kernel
theorem dL_law_696 : decode cL_law 696 = .ok (.iadd, 1) := by decide +kernel
theorem dL_law_697 : decode cL_law 697 = .ok (.iaload, 1) := by decide +kernel
theorem dL_law_698 : decode cL_law 698 = .ok (.aload_n 0, 1) := by decide +kernel
theorem dL_law_699 : decode cL_law 699 = .ok (.iload_n 3, 1) := by decide +kernel
theorem dL_law_700 : decode cL_law 700 = .ok (.iconst 2, 1) := by decide +kernel
theorem dL_law_701 : decode cL_law 701 = .ok (.iadd, 1) := by decide +kernel
theorem dL_law_702 : decode cL_law 702 = .ok (.iaload, 1) := by decide +kernel
theorem dL_law_703 : decode cL_law 703 = .ok (.invokevirtual 77, 3) := by decide +kernel
theorem dL_law_706 : decode cL_law 706 = .ok (.if_icmp .eq 528, 3) := by decide +kernel
theorem dL_law_709 : decode cL_law 709 = .ok (.iconst 0, 1) := by decide +kernel
theorem dL_law_710 : decode cL_law 710 = .ok (.ireturn, 1) := by decide +kernel
theorem dL_law_711 : decode cL_law 711 = .ok (.aload_n 1, 1) := by decide +kernel
theorem dL_law_712 : decode cL_law 712 = .ok (.aload_n 0, 1) := by decide +kernel
theorem dL_law_713 : decode cL_law 713 = .ok (.iload_n 3, 1) := by decide +kernel
theorem dL_law_714 : decode cL_law 714 = .ok (.iconst 1, 1) := by decide +kernel
theorem dL_law_715 : decode cL_law 715 = .ok (.iadd, 1) := by decide +kernel
theorem dL_law_716 : decode cL_law 716 = .ok (.iaload, 1) := by decide +kernel
theorem dL_law_717 : decode cL_law 717 = .ok (.aload_n 0, 1) := by decide +kernel
theorem dL_law_718 : decode cL_law 718 = .ok (.iload_n 3, 1) := by decide +kernel
theorem dL_law_719 : decode cL_law 719 = .ok (.iconst 2, 1) := by decide +kernel
theorem dL_law_720 : decode cL_law 720 = .ok (.iadd, 1) := by decide +kernel
theorem dL_law_721 : decode cL_law 721 = .ok (.iaload, 1) := by decide +kernel
theorem dL_law_722 : decode cL_law 722 = .ok (.aload_n 0, 1) := by decide +kernel
theorem dL_law_723 : decode cL_law 723 = .ok (.iload_n 3, 1) := by decide +kernel
theorem dL_law_724 : decode cL_law 724 = .ok (.iconst 3, 1) := by decide +kernel
theorem dL_law_725 : decode cL_law 725 = .ok (.iadd, 1) := by decide +kernel
theorem dL_law_726 : decode cL_law 726 = .ok (.iaload, 1) := by decide +kernel
theorem dL_law_727 : decode cL_law 727 = .ok (.invokevirtual 78, 3) := by decide +kernel
theorem dL_law_730 : decode cL_law 730 = .ok (.aload_n 2, 1) := by decide +kernel
theorem dL_law_731 : decode cL_law 731 = .ok (.aload_n 0, 1) := by decide +kernel
theorem dL_law_732 : decode cL_law 732 = .ok (.iload_n 3, 1) := by decide +kernel
theorem dL_law_733 : decode cL_law 733 = .ok (.iconst 1, 1) := by decide +kernel
theorem dL_law_734 : decode cL_law 734 = .ok (.iadd, 1) := by decide +kernel
theorem dL_law_735 : decode cL_law 735 = .ok (.iaload, 1) := by decide +kernel
theorem dL_law_736 : decode cL_law 736 = .ok (.aload_n 0, 1) := by decide +kernel
theorem dL_law_737 : decode cL_law 737 = .ok (.iload_n 3, 1) := by decide +kernel
theorem dL_law_738 : decode cL_law 738 = .ok (.iconst 2, 1) := by decide +kernel
theorem dL_law_739 : decode cL_law 739 = .ok (.iadd, 1) := by decide +kernel
theorem dL_law_740 : decode cL_law 740 = .ok (.iaload, 1) := by decide +kernel
theorem dL_law_741 : decode cL_law 741 = .ok (.aload_n 0, 1) := by decide +kernel
theorem dL_law_742 : decode cL_law 742 = .ok (.iload_n 3, 1) := by decide +kernel
theorem dL_law_743 : decode cL_law 743 = .ok (.iconst 3, 1) := by decide +kernel
theorem dL_law_744 : decode cL_law 744 = .ok (.iadd, 1) := by decide +kernel
theorem dL_law_745 : decode cL_law 745 = .ok (.iaload, 1) := by decide +kernel
theorem dL_law_746 : decode cL_law 746 = .ok (.invokevirtual 81, 3) := by decide +kernel
theorem dL_law_749 : decode cL_law 749 = .ok (.if_icmp .eq 485, 3) := by decide +kernel
theorem dL_law_752 : decode cL_law 752 = .ok (.iconst 0, 1) := by decide +kernel
theorem dL_law_753 : decode cL_law 753 = .ok (.ireturn, 1) := by decide +kernel
theorem dL_law_754 : decode cL_law 754 = .ok (.aload_n 1, 1) := by decide +kernel
theorem dL_law_755 : decode cL_law 755 = .ok (.aload_n 0, 1) := by decide +kernel
theorem dL_law_756 : decode cL_law 756 = .ok (.iload_n 3, 1) := by decide +kernel
theorem dL_law_757 : decode cL_law 757 = .ok (.iconst 1, 1) := by decide +kernel
theorem dL_law_758 : decode cL_law 758 = .ok (.iadd, 1) := by decide +kernel
theorem dL_law_759 : decode cL_law 759 = .ok (.iaload, 1) := by decide +kernel
theorem dL_law_760 : decode cL_law 760 = .ok (.invokevirtual 82, 3) := by decide +kernel
theorem dL_law_763 : decode cL_law 763 = .ok (.aload_n 2, 1) := by decide +kernel
theorem dL_law_764 : decode cL_law 764 = .ok (.aload_n 0, 1) := by decide +kernel
theorem dL_law_765 : decode cL_law 765 = .ok (.iload_n 3, 1) := by decide +kernel
theorem dL_law_766 : decode cL_law 766 = .ok (.iconst 1, 1) := by decide +kernel
theorem dL_law_767 : decode cL_law 767 = .ok (.iadd, 1) := by decide +kernel
theorem dL_law_768 : decode cL_law 768 = .ok (.iaload, 1) := by decide +kernel
theorem dL_law_769 : decode cL_law 769 = .ok (.invokevirtual 85, 3) := by decide +kernel
theorem dL_law_772 : decode cL_law 772 = .ok (.if_icmp .eq 462, 3) := by decide +kernel
theorem dL_law_775 : decode cL_law 775 = .ok (.iconst 0, 1) := by decide +kernel
theorem dL_law_776 : decode cL_law 776 = .ok (.ireturn, 1) := by decide +kernel
theorem dL_law_777 : decode cL_law 777 = .ok (.aload_n 1, 1) := by decide +kernel
theorem dL_law_778 : decode cL_law 778 = .ok (.aload_n 0, 1) := by decide +kernel
theorem dL_law_779 : decode cL_law 779 = .ok (.iload_n 3, 1) := by decide +kernel
theorem dL_law_780 : decode cL_law 780 = .ok (.iconst 1, 1) := by decide +kernel
theorem dL_law_781 : decode cL_law 781 = .ok (.iadd, 1) := by decide +kernel
theorem dL_law_782 : decode cL_law 782 = .ok (.iaload, 1) := by decide +kernel
theorem dL_law_783 : decode cL_law 783 = .ok (.invokevirtual 86, 3) := by decide +kernel
theorem dL_law_786 : decode cL_law 786 = .ok (.aload_n 2, 1) := by decide +kernel
theorem dL_law_787 : decode cL_law 787 = .ok (.aload_n 0, 1) := by decide +kernel
theorem dL_law_788 : decode cL_law 788 = .ok (.iload_n 3, 1) := by decide +kernel
theorem dL_law_789 : decode cL_law 789 = .ok (.iconst 1, 1) := by decide +kernel
theorem dL_law_790 : decode cL_law 790 = .ok (.iadd, 1) := by decide +kernel
theorem dL_law_791 : decode cL_law 791 = .ok (.iaload, 1) := by decide +kernel
theorem dL_law_792 : decode cL_law 792 = .ok (.invokevirtual 89, 3) := by decide +kernel
theorem dL_law_795 : decode cL_law 795 = .ok (.if_icmp .eq 439, 3) := by decide +kernel
theorem dL_law_798 : decode cL_law 798 = .ok (.iconst 0, 1) := by decide +kernel
theorem dL_law_799 : decode cL_law 799 = .ok (.ireturn, 1) := by decide +kernel
theorem dL_law_800 : decode cL_law 800 = .ok (.aload_n 1, 1) := by decide +kernel
theorem dL_law_801 : decode cL_law 801 = .ok (.aload_n 0, 1) := by decide +kernel
theorem dL_law_802 : decode cL_law 802 = .ok (.iload_n 3, 1) := by decide +kernel
theorem dL_law_803 : decode cL_law 803 = .ok (.iconst 1, 1) := by decide +kernel
theorem dL_law_804 : decode cL_law 804 = .ok (.iadd, 1) := by decide +kernel
theorem dL_law_805 : decode cL_law 805 = .ok (.iaload, 1) := by decide +kernel
theorem dL_law_806 : decode cL_law 806 = .ok (.invokevirtual 90, 3) := by decide +kernel
theorem dL_law_809 : decode cL_law 809 = .ok (.aload_n 2, 1) := by decide +kernel
theorem dL_law_810 : decode cL_law 810 = .ok (.aload_n 0, 1) := by decide +kernel
theorem dL_law_811 : decode cL_law 811 = .ok (.iload_n 3, 1) := by decide +kernel
theorem dL_law_812 : decode cL_law 812 = .ok (.iconst 1, 1) := by decide +kernel
theorem dL_law_813 : decode cL_law 813 = .ok (.iadd, 1) := by decide +kernel
theorem dL_law_814 : decode cL_law 814 = .ok (.iaload, 1) := by decide +kernel
theorem dL_law_815 : decode cL_law 815 = .ok (.invokevirtual 93, 3) := by decide +kernel
theorem dL_law_818 : decode cL_law 818 = .ok (.if_icmp .eq 416, 3) := by decide +kernel
theorem dL_law_821 : decode cL_law 821 = .ok (.iconst 0, 1) := by decide +kernel
theorem dL_law_822 : decode cL_law 822 = .ok (.ireturn, 1) := by decide +kernel
theorem dL_law_823 : decode cL_law 823 = .ok (.aload_n 1, 1) := by decide +kernel
theorem dL_law_824 : decode cL_law 824 = .ok (.aload_n 0, 1) := by decide +kernel
theorem dL_law_825 : decode cL_law 825 = .ok (.iload_n 3, 1) := by decide +kernel
theorem dL_law_826 : decode cL_law 826 = .ok (.iconst 1, 1) := by decide +kernel
theorem dL_law_827 : decode cL_law 827 = .ok (.iadd, 1) := by decide +kernel
theorem dL_law_828 : decode cL_law 828 = .ok (.iaload, 1) := by decide +kernel
theorem dL_law_829 : decode cL_law 829 = .ok (.invokevirtual 94, 3) := by decide +kernel
theorem dL_law_832 : decode cL_law 832 = .ok (.aload_n 2, 1) := by decide +kernel
theorem dL_law_833 : decode cL_law 833 = .ok (.aload_n 0, 1) := by decide +kernel
theorem dL_law_834 : decode cL_law 834 = .ok (.iload_n 3, 1) := by decide +kernel
theorem dL_law_835 : decode cL_law 835 = .ok (.iconst 1, 1) := by decide +kernel
theorem dL_law_836 : decode cL_law 836 = .ok (.iadd, 1) := by decide +kernel
theorem dL_law_837 : decode cL_law 837 = .ok (.iaload, 1) := by decide +kernel
theorem dL_law_838 : decode cL_law 838 = .ok (.invokevirtual 97, 3) := by decide +kernel
theorem dL_law_841 : decode cL_law 841 = .ok (.if_icmp .eq 393, 3) := by decide +kernel
theorem dL_law_844 : decode cL_law 844 = .ok (.iconst 0, 1) := by decide +kernel
theorem dL_law_845 : decode cL_law 845 = .ok (.ireturn, 1) := by decide +kernel
theorem dL_law_846 : decode cL_law 846 = .ok (.aload_n 1, 1) := by decide +kernel
theorem dL_law_847 : decode cL_law 847 = .ok (.aload_n 0, 1) := by decide +kernel
theorem dL_law_848 : decode cL_law 848 = .ok (.iload_n 3, 1) := by decide +kernel
theorem dL_law_849 : decode cL_law 849 = .ok (.iconst 1, 1) := by decide +kernel
theorem dL_law_850 : decode cL_law 850 = .ok (.iadd, 1) := by decide +kernel
theorem dL_law_851 : decode cL_law 851 = .ok (.iaload, 1) := by decide +kernel
theorem dL_law_852 : decode cL_law 852 = .ok (.aload_n 0, 1) := by decide +kernel
theorem dL_law_853 : decode cL_law 853 = .ok (.iload_n 3, 1) := by decide +kernel
theorem dL_law_854 : decode cL_law 854 = .ok (.iconst 2, 1) := by decide +kernel
theorem dL_law_855 : decode cL_law 855 = .ok (.iadd, 1) := by decide +kernel
theorem dL_law_856 : decode cL_law 856 = .ok (.iaload, 1) := by decide +kernel
theorem dL_law_857 : decode cL_law 857 = .ok (.aload_n 0, 1) := by decide +kernel
theorem dL_law_858 : decode cL_law 858 = .ok (.iload_n 3, 1) := by decide +kernel
theorem dL_law_859 : decode cL_law 859 = .ok (.iconst 3, 1) := by decide +kernel
theorem dL_law_860 : decode cL_law 860 = .ok (.iadd, 1) := by decide +kernel
theorem dL_law_861 : decode cL_law 861 = .ok (.iaload, 1) := by decide +kernel
theorem dL_law_862 : decode cL_law 862 = .ok (.invokevirtual 98, 3) := by decide +kernel
theorem dL_law_865 : decode cL_law 865 = .ok (.aload_n 2, 1) := by decide +kernel
theorem dL_law_866 : decode cL_law 866 = .ok (.aload_n 0, 1) := by decide +kernel
theorem dL_law_867 : decode cL_law 867 = .ok (.iload_n 3, 1) := by decide +kernel
theorem dL_law_868 : decode cL_law 868 = .ok (.iconst 1, 1) := by decide +kernel
theorem dL_law_869 : decode cL_law 869 = .ok (.iadd, 1) := by decide +kernel
theorem dL_law_870 : decode cL_law 870 = .ok (.iaload, 1) := by decide +kernel
theorem dL_law_871 : decode cL_law 871 = .ok (.aload_n 0, 1) := by decide +kernel
theorem dL_law_872 : decode cL_law 872 = .ok (.iload_n 3, 1) := by decide +kernel
theorem dL_law_873 : decode cL_law 873 = .ok (.iconst 2, 1) := by decide +kernel
theorem dL_law_874 : decode cL_law 874 = .ok (.iadd, 1) := by decide +kernel
theorem dL_law_875 : decode cL_law 875 = .ok (.iaload, 1) := by decide +kernel
theorem dL_law_876 : decode cL_law 876 = .ok (.aload_n 0, 1) := by decide +kernel
theorem dL_law_877 : decode cL_law 877 = .ok (.iload_n 3, 1) := by decide +kernel
theorem dL_law_878 : decode cL_law 878 = .ok (.iconst 3, 1) := by decide +kernel
theorem dL_law_879 : decode cL_law 879 = .ok (.iadd, 1) := by decide +kernel
theorem dL_law_880 : decode cL_law 880 = .ok (.iaload, 1) := by decide +kernel
theorem dL_law_881 : decode cL_law 881 = .ok (.invokevirtual 102, 3) := by decide +kernel
theorem dL_law_884 : decode cL_law 884 = .ok (.lcmp, 1) := by decide +kernel
theorem dL_law_885 : decode cL_law 885 = .ok (.ifCond .eq 349, 3) := by decide +kernel
theorem dL_law_888 : decode cL_law 888 = .ok (.iconst 0, 1) := by decide +kernel
theorem dL_law_889 : decode cL_law 889 = .ok (.ireturn, 1) := by decide +kernel
theorem dL_law_890 : decode cL_law 890 = .ok (.aload_n 1, 1) := by decide +kernel
theorem dL_law_891 : decode cL_law 891 = .ok (.aload_n 0, 1) := by decide +kernel
theorem dL_law_892 : decode cL_law 892 = .ok (.iload_n 3, 1) := by decide +kernel
theorem dL_law_893 : decode cL_law 893 = .ok (.iconst 1, 1) := by decide +kernel
theorem dL_law_894 : decode cL_law 894 = .ok (.iadd, 1) := by decide +kernel
theorem dL_law_895 : decode cL_law 895 = .ok (.iaload, 1) := by decide +kernel
theorem dL_law_896 : decode cL_law 896 = .ok (.aload_n 0, 1) := by decide +kernel
theorem dL_law_897 : decode cL_law 897 = .ok (.iload_n 3, 1) := by decide +kernel
theorem dL_law_898 : decode cL_law 898 = .ok (.iconst 2, 1) := by decide +kernel
theorem dL_law_899 : decode cL_law 899 = .ok (.iadd, 1) := by decide +kernel
theorem dL_law_900 : decode cL_law 900 = .ok (.iaload, 1) := by decide +kernel
theorem dL_law_901 : decode cL_law 901 = .ok (.aload_n 0, 1) := by decide +kernel
theorem dL_law_902 : decode cL_law 902 = .ok (.iload_n 3, 1) := by decide +kernel
theorem dL_law_903 : decode cL_law 903 = .ok (.iconst 3, 1) := by decide +kernel
theorem dL_law_904 : decode cL_law 904 = .ok (.iadd, 1) := by decide +kernel
theorem dL_law_905 : decode cL_law 905 = .ok (.iaload, 1) := by decide +kernel
theorem dL_law_906 : decode cL_law 906 = .ok (.invokevirtual 103, 3) := by decide +kernel
theorem dL_law_909 : decode cL_law 909 = .ok (.aload_n 2, 1) := by decide +kernel
theorem dL_law_910 : decode cL_law 910 = .ok (.aload_n 0, 1) := by decide +kernel
theorem dL_law_911 : decode cL_law 911 = .ok (.iload_n 3, 1) := by decide +kernel
theorem dL_law_912 : decode cL_law 912 = .ok (.iconst 1, 1) := by decide +kernel
theorem dL_law_913 : decode cL_law 913 = .ok (.iadd, 1) := by decide +kernel
theorem dL_law_914 : decode cL_law 914 = .ok (.iaload, 1) := by decide +kernel
theorem dL_law_915 : decode cL_law 915 = .ok (.aload_n 0, 1) := by decide +kernel
theorem dL_law_916 : decode cL_law 916 = .ok (.iload_n 3, 1) := by decide +kernel
theorem dL_law_917 : decode cL_law 917 = .ok (.iconst 2, 1) := by decide +kernel
theorem dL_law_918 : decode cL_law 918 = .ok (.iadd, 1) := by decide +kernel
theorem dL_law_919 : decode cL_law 919 = .ok (.iaload, 1) := by decide +kernel
theorem dL_law_920 : decode cL_law 920 = .ok (.aload_n 0, 1) := by decide +kernel
theorem dL_law_921 : decode cL_law 921 = .ok (.iload_n 3, 1) := by decide +kernel
theorem dL_law_922 : decode cL_law 922 = .ok (.iconst 3, 1) := by decide +kernel
theorem dL_law_923 : decode cL_law 923 = .ok (.iadd, 1) := by decide +kernel
theorem dL_law_924 : decode cL_law 924 = .ok (.iaload, 1) := by decide +kernel
theorem dL_law_925 : decode cL_law 925 = .ok (.invokevirtual 106, 3) := by decide +kernel
theorem dL_law_928 : decode cL_law 928 = .ok (.if_icmp .eq 306, 3) := by decide +kernel
theorem dL_law_931 : decode cL_law 931 = .ok (.iconst 0, 1) := by decide +kernel
theorem dL_law_932 : decode cL_law 932 = .ok (.ireturn, 1) := by decide +kernel
theorem dL_law_933 : decode cL_law 933 = .ok (.aload_n 1, 1) := by decide +kernel
theorem dL_law_934 : decode cL_law 934 = .ok (.aload_n 0, 1) := by decide +kernel
theorem dL_law_935 : decode cL_law 935 = .ok (.iload_n 3, 1) := by decide +kernel
theorem dL_law_936 : decode cL_law 936 = .ok (.iconst 1, 1) := by decide +kernel
theorem dL_law_937 : decode cL_law 937 = .ok (.iadd, 1) := by decide +kernel
theorem dL_law_938 : decode cL_law 938 = .ok (.iaload, 1) := by decide +kernel
theorem dL_law_939 : decode cL_law 939 = .ok (.invokevirtual 107, 3) := by decide +kernel
theorem dL_law_942 : decode cL_law 942 = .ok (.aload_n 2, 1) := by decide +kernel
theorem dL_law_943 : decode cL_law 943 = .ok (.aload_n 0, 1) := by decide +kernel
theorem dL_law_944 : decode cL_law 944 = .ok (.iload_n 3, 1) := by decide +kernel
theorem dL_law_945 : decode cL_law 945 = .ok (.iconst 1, 1) := by decide +kernel
theorem dL_law_946 : decode cL_law 946 = .ok (.iadd, 1) := by decide +kernel
theorem dL_law_947 : decode cL_law 947 = .ok (.iaload, 1) := by decide +kernel
theorem dL_law_948 : decode cL_law 948 = .ok (.invokevirtual 110, 3) := by decide +kernel
theorem dL_law_951 : decode cL_law 951 = .ok (.if_icmp .eq 283, 3) := by decide +kernel
theorem dL_law_954 : decode cL_law 954 = .ok (.iconst 0, 1) := by decide +kernel
theorem dL_law_955 : decode cL_law 955 = .ok (.ireturn, 1) := by decide +kernel
theorem dL_law_956 : decode cL_law 956 = .ok (.aload_n 1, 1) := by decide +kernel
theorem dL_law_957 : decode cL_law 957 = .ok (.aload_n 0, 1) := by decide +kernel
theorem dL_law_958 : decode cL_law 958 = .ok (.iload_n 3, 1) := by decide +kernel
theorem dL_law_959 : decode cL_law 959 = .ok (.iconst 1, 1) := by decide +kernel
theorem dL_law_960 : decode cL_law 960 = .ok (.iadd, 1) := by decide +kernel
theorem dL_law_961 : decode cL_law 961 = .ok (.iaload, 1) := by decide +kernel
theorem dL_law_962 : decode cL_law 962 = .ok (.aload_n 0, 1) := by decide +kernel
theorem dL_law_963 : decode cL_law 963 = .ok (.iload_n 3, 1) := by decide +kernel
theorem dL_law_964 : decode cL_law 964 = .ok (.iconst 2, 1) := by decide +kernel
theorem dL_law_965 : decode cL_law 965 = .ok (.iadd, 1) := by decide +kernel
theorem dL_law_966 : decode cL_law 966 = .ok (.iaload, 1) := by decide +kernel
theorem dL_law_967 : decode cL_law 967 = .ok (.aload_n 0, 1) := by decide +kernel
theorem dL_law_968 : decode cL_law 968 = .ok (.iload_n 3, 1) := by decide +kernel
theorem dL_law_969 : decode cL_law 969 = .ok (.iconst 3, 1) := by decide +kernel
theorem dL_law_970 : decode cL_law 970 = .ok (.iadd, 1) := by decide +kernel
theorem dL_law_971 : decode cL_law 971 = .ok (.iaload, 1) := by decide +kernel
theorem dL_law_972 : decode cL_law 972 = .ok (.invokevirtual 111, 3) := by decide +kernel
theorem dL_law_975 : decode cL_law 975 = .ok (.aload_n 2, 1) := by decide +kernel
theorem dL_law_976 : decode cL_law 976 = .ok (.aload_n 0, 1) := by decide +kernel
theorem dL_law_977 : decode cL_law 977 = .ok (.iload_n 3, 1) := by decide +kernel
theorem dL_law_978 : decode cL_law 978 = .ok (.iconst 1, 1) := by decide +kernel
theorem dL_law_979 : decode cL_law 979 = .ok (.iadd, 1) := by decide +kernel
theorem dL_law_980 : decode cL_law 980 = .ok (.iaload, 1) := by decide +kernel
theorem dL_law_981 : decode cL_law 981 = .ok (.aload_n 0, 1) := by decide +kernel
theorem dL_law_982 : decode cL_law 982 = .ok (.iload_n 3, 1) := by decide +kernel
theorem dL_law_983 : decode cL_law 983 = .ok (.iconst 2, 1) := by decide +kernel
theorem dL_law_984 : decode cL_law 984 = .ok (.iadd, 1) := by decide +kernel
theorem dL_law_985 : decode cL_law 985 = .ok (.iaload, 1) := by decide +kernel
theorem dL_law_986 : decode cL_law 986 = .ok (.aload_n 0, 1) := by decide +kernel
theorem dL_law_987 : decode cL_law 987 = .ok (.iload_n 3, 1) := by decide +kernel
theorem dL_law_988 : decode cL_law 988 = .ok (.iconst 3, 1) := by decide +kernel
theorem dL_law_989 : decode cL_law 989 = .ok (.iadd, 1) := by decide +kernel
theorem dL_law_990 : decode cL_law 990 = .ok (.iaload, 1) := by decide +kernel
theorem dL_law_991 : decode cL_law 991 = .ok (.invokevirtual 114, 3) := by decide +kernel
theorem dL_law_994 : decode cL_law 994 = .ok (.if_icmp .eq 240, 3) := by decide +kernel
theorem dL_law_997 : decode cL_law 997 = .ok (.iconst 0, 1) := by decide +kernel
theorem dL_law_998 : decode cL_law 998 = .ok (.ireturn, 1) := by decide +kernel
theorem dL_law_999 : decode cL_law 999 = .ok (.aload_n 1, 1) := by decide +kernel
theorem dL_law_1000 : decode cL_law 1000 = .ok (.aload_n 0, 1) := by decide +kernel
theorem dL_law_1001 : decode cL_law 1001 = .ok (.iload_n 3, 1) := by decide +kernel
theorem dL_law_1002 : decode cL_law 1002 = .ok (.iconst 1, 1) := by decide +kernel
theorem dL_law_1003 : decode cL_law 1003 = .ok (.iadd, 1) := by decide +kernel
theorem dL_law_1004 : decode cL_law 1004 = .ok (.iaload, 1) := by decide +kernel
theorem dL_law_1005 : decode cL_law 1005 = .ok (.aload_n 0, 1) := by decide +kernel
theorem dL_law_1006 : decode cL_law 1006 = .ok (.iload_n 3, 1) := by decide +kernel
theorem dL_law_1007 : decode cL_law 1007 = .ok (.iconst 2, 1) := by decide +kernel
theorem dL_law_1008 : decode cL_law 1008 = .ok (.iadd, 1) := by decide +kernel
theorem dL_law_1009 : decode cL_law 1009 = .ok (.iaload, 1) := by decide +kernel
theorem dL_law_1010 : decode cL_law 1010 = .ok (.aload_n 0, 1) := by decide +kernel
theorem dL_law_1011 : decode cL_law 1011 = .ok (.iload_n 3, 1) := by decide +kernel
theorem dL_law_1012 : decode cL_law 1012 = .ok (.iconst 3, 1) := by decide +kernel
theorem dL_law_1013 : decode cL_law 1013 = .ok (.iadd, 1) := by decide +kernel
theorem dL_law_1014 : decode cL_law 1014 = .ok (.iaload, 1) := by decide +kernel
theorem dL_law_1015 : decode cL_law 1015 = .ok (.invokevirtual 115, 3) := by decide +kernel
theorem dL_law_1018 : decode cL_law 1018 = .ok (.aload_n 2, 1) := by decide +kernel
theorem dL_law_1019 : decode cL_law 1019 = .ok (.aload_n 0, 1) := by decide +kernel
theorem dL_law_1020 : decode cL_law 1020 = .ok (.iload_n 3, 1) := by decide +kernel
theorem dL_law_1021 : decode cL_law 1021 = .ok (.iconst 1, 1) := by decide +kernel
theorem dL_law_1022 : decode cL_law 1022 = .ok (.iadd, 1) := by decide +kernel
theorem dL_law_1023 : decode cL_law 1023 = .ok (.iaload, 1) := by decide +kernel
theorem dL_law_1024 : decode cL_law 1024 = .ok (.aload_n 0, 1) := by decide +kernel
theorem dL_law_1025 : decode cL_law 1025 = .ok (.iload_n 3, 1) := by decide +kernel
theorem dL_law_1026 : decode cL_law 1026 = .ok (.iconst 2, 1) := by decide +kernel
theorem dL_law_1027 : decode cL_law 1027 = .ok (.iadd, 1) := by decide +kernel
theorem dL_law_1028 : decode cL_law 1028 = .ok (.iaload, 1) := by decide +kernel
theorem dL_law_1029 : decode cL_law 1029 = .ok (.aload_n 0, 1) := by decide +kernel
theorem dL_law_1030 : decode cL_law 1030 = .ok (.iload_n 3, 1) := by decide +kernel
theorem dL_law_1031 : decode cL_law 1031 = .ok (.iconst 3, 1) := by decide +kernel
theorem dL_law_1032 : decode cL_law 1032 = .ok (.iadd, 1) := by decide +kernel
theorem dL_law_1033 : decode cL_law 1033 = .ok (.iaload, 1) := by decide +kernel
theorem dL_law_1034 : decode cL_law 1034 = .ok (.invokevirtual 118, 3) := by decide +kernel
theorem dL_law_1037 : decode cL_law 1037 = .ok (.lcmp, 1) := by decide +kernel
theorem dL_law_1038 : decode cL_law 1038 = .ok (.ifCond .eq 196, 3) := by decide +kernel
theorem dL_law_1041 : decode cL_law 1041 = .ok (.iconst 0, 1) := by decide +kernel
theorem dL_law_1042 : decode cL_law 1042 = .ok (.ireturn, 1) := by decide +kernel
theorem dL_law_1043 : decode cL_law 1043 = .ok (.aload_n 1, 1) := by decide +kernel
theorem dL_law_1044 : decode cL_law 1044 = .ok (.aload_n 0, 1) := by decide +kernel
theorem dL_law_1045 : decode cL_law 1045 = .ok (.iload_n 3, 1) := by decide +kernel
theorem dL_law_1046 : decode cL_law 1046 = .ok (.iconst 1, 1) := by decide +kernel
theorem dL_law_1047 : decode cL_law 1047 = .ok (.iadd, 1) := by decide +kernel
theorem dL_law_1048 : decode cL_law 1048 = .ok (.iaload, 1) := by decide +kernel
theorem dL_law_1049 : decode cL_law 1049 = .ok (.aload_n 0, 1) := by decide +kernel
theorem dL_law_1050 : decode cL_law 1050 = .ok (.iload_n 3, 1) := by decide +kernel
theorem dL_law_1051 : decode cL_law 1051 = .ok (.iconst 2, 1) := by decide +kernel
theorem dL_law_1052 : decode cL_law 1052 = .ok (.iadd, 1) := by decide +kernel
theorem dL_law_1053 : decode cL_law 1053 = .ok (.iaload, 1) := by decide +kernel
theorem dL_law_1054 : decode cL_law 1054 = .ok (.aload_n 0, 1) := by decide +kernel
theorem dL_law_1055 : decode cL_law 1055 = .ok (.iload_n 3, 1) := by decide +kernel
theorem dL_law_1056 : decode cL_law 1056 = .ok (.iconst 3, 1) := by decide +kernel
theorem dL_law_1057 : decode cL_law 1057 = .ok (.iadd, 1) := by decide +kernel
theorem dL_law_1058 : decode cL_law 1058 = .ok (.iaload, 1) := by decide +kernel
theorem dL_law_1059 : decode cL_law 1059 = .ok (.aload_n 0, 1) := by decide +kernel
theorem dL_law_1060 : decode cL_law 1060 = .ok (.iload_n 3, 1) := by decide +kernel
theorem dL_law_1061 : decode cL_law 1061 = .ok (.iconst 4, 1) := by decide +kernel
theorem dL_law_1062 : decode cL_law 1062 = .ok (.iadd, 1) := by decide +kernel
theorem dL_law_1063 : decode cL_law 1063 = .ok (.iaload, 1) := by decide +kernel
theorem dL_law_1064 : decode cL_law 1064 = .ok (.aload_n 0, 1) := by decide +kernel
theorem dL_law_1065 : decode cL_law 1065 = .ok (.iload_n 3, 1) := by decide +kernel
theorem dL_law_1066 : decode cL_law 1066 = .ok (.iconst 5, 1) := by decide +kernel
theorem dL_law_1067 : decode cL_law 1067 = .ok (.iadd, 1) := by decide +kernel
theorem dL_law_1068 : decode cL_law 1068 = .ok (.iaload, 1) := by decide +kernel
theorem dL_law_1069 : decode cL_law 1069 = .ok (.invokevirtual 119, 3) := by decide +kernel
theorem dL_law_1072 : decode cL_law 1072 = .ok (.aload_n 2, 1) := by decide +kernel
theorem dL_law_1073 : decode cL_law 1073 = .ok (.aload_n 0, 1) := by decide +kernel
theorem dL_law_1074 : decode cL_law 1074 = .ok (.iload_n 3, 1) := by decide +kernel
theorem dL_law_1075 : decode cL_law 1075 = .ok (.iconst 1, 1) := by decide +kernel
theorem dL_law_1076 : decode cL_law 1076 = .ok (.iadd, 1) := by decide +kernel
theorem dL_law_1077 : decode cL_law 1077 = .ok (.iaload, 1) := by decide +kernel
theorem dL_law_1078 : decode cL_law 1078 = .ok (.aload_n 0, 1) := by decide +kernel
theorem dL_law_1079 : decode cL_law 1079 = .ok (.iload_n 3, 1) := by decide +kernel
theorem dL_law_1080 : decode cL_law 1080 = .ok (.iconst 2, 1) := by decide +kernel
theorem dL_law_1081 : decode cL_law 1081 = .ok (.iadd, 1) := by decide +kernel
theorem dL_law_1082 : decode cL_law 1082 = .ok (.iaload, 1) := by decide +kernel
theorem dL_law_1083 : decode cL_law 1083 = .ok (.aload_n 0, 1) := by decide +kernel
theorem dL_law_1084 : decode cL_law 1084 = .ok (.iload_n 3, 1) := by decide +kernel
theorem dL_law_1085 : decode cL_law 1085 = .ok (.iconst 3, 1) := by decide +kernel
theorem dL_law_1086 : decode cL_law 1086 = .ok (.iadd, 1) := by decide +kernel
theorem dL_law_1087 : decode cL_law 1087 = .ok (.iaload, 1) := by decide +kernel
theorem dL_law_1088 : decode cL_law 1088 = .ok (.aload_n 0, 1) := by decide +kernel
theorem dL_law_1089 : decode cL_law 1089 = .ok (.iload_n 3, 1) := by decide +kernel
theorem dL_law_1090 : decode cL_law 1090 = .ok (.iconst 4, 1) := by decide +kernel
theorem dL_law_1091 : decode cL_law 1091 = .ok (.iadd, 1) := by decide +kernel
theorem dL_law_1092 : decode cL_law 1092 = .ok (.iaload, 1) := by decide +kernel
theorem dL_law_1093 : decode cL_law 1093 = .ok (.aload_n 0, 1) := by decide +kernel
theorem dL_law_1094 : decode cL_law 1094 = .ok (.iload_n 3, 1) := by decide +kernel
theorem dL_law_1095 : decode cL_law 1095 = .ok (.iconst 5, 1) := by decide +kernel
theorem dL_law_1096 : decode cL_law 1096 = .ok (.iadd, 1) := by decide +kernel
theorem dL_law_1097 : decode cL_law 1097 = .ok (.iaload, 1) := by decide +kernel
theorem dL_law_1098 : decode cL_law 1098 = .ok (.invokevirtual 122, 3) := by decide +kernel
theorem dL_law_1101 : decode cL_law 1101 = .ok (.if_icmp .eq 133, 3) := by decide +kernel
theorem dL_law_1104 : decode cL_law 1104 = .ok (.iconst 0, 1) := by decide +kernel
theorem dL_law_1105 : decode cL_law 1105 = .ok (.ireturn, 1) := by decide +kernel
theorem dL_law_1106 : decode cL_law 1106 = .ok (.aload_n 1, 1) := by decide +kernel
theorem dL_law_1107 : decode cL_law 1107 = .ok (.aload_n 0, 1) := by decide +kernel
theorem dL_law_1108 : decode cL_law 1108 = .ok (.iload_n 3, 1) := by decide +kernel
theorem dL_law_1109 : decode cL_law 1109 = .ok (.iconst 1, 1) := by decide +kernel
theorem dL_law_1110 : decode cL_law 1110 = .ok (.iadd, 1) := by decide +kernel
theorem dL_law_1111 : decode cL_law 1111 = .ok (.iaload, 1) := by decide +kernel
theorem dL_law_1112 : decode cL_law 1112 = .ok (.invokevirtual 123, 3) := by decide +kernel
theorem dL_law_1115 : decode cL_law 1115 = .ok (.aload_n 2, 1) := by decide +kernel
theorem dL_law_1116 : decode cL_law 1116 = .ok (.aload_n 0, 1) := by decide +kernel
theorem dL_law_1117 : decode cL_law 1117 = .ok (.iload_n 3, 1) := by decide +kernel
theorem dL_law_1118 : decode cL_law 1118 = .ok (.iconst 1, 1) := by decide +kernel
theorem dL_law_1119 : decode cL_law 1119 = .ok (.iadd, 1) := by decide +kernel
theorem dL_law_1120 : decode cL_law 1120 = .ok (.iaload, 1) := by decide +kernel
theorem dL_law_1121 : decode cL_law 1121 = .ok (.invokevirtual 126, 3) := by decide +kernel
theorem dL_law_1124 : decode cL_law 1124 = .ok (.if_icmp .eq 110, 3) := by decide +kernel
theorem dL_law_1127 : decode cL_law 1127 = .ok (.iconst 0, 1) := by decide +kernel
theorem dL_law_1128 : decode cL_law 1128 = .ok (.ireturn, 1) := by decide +kernel
theorem dL_law_1129 : decode cL_law 1129 = .ok (.aload_n 1, 1) := by decide +kernel
theorem dL_law_1130 : decode cL_law 1130 = .ok (.aload_n 0, 1) := by decide +kernel
theorem dL_law_1131 : decode cL_law 1131 = .ok (.iload_n 3, 1) := by decide +kernel
theorem dL_law_1132 : decode cL_law 1132 = .ok (.iconst 1, 1) := by decide +kernel
theorem dL_law_1133 : decode cL_law 1133 = .ok (.iadd, 1) := by decide +kernel
theorem dL_law_1134 : decode cL_law 1134 = .ok (.iaload, 1) := by decide +kernel
theorem dL_law_1135 : decode cL_law 1135 = .ok (.invokevirtual 127, 3) := by decide +kernel
theorem dL_law_1138 : decode cL_law 1138 = .ok (.aload_n 2, 1) := by decide +kernel
theorem dL_law_1139 : decode cL_law 1139 = .ok (.aload_n 0, 1) := by decide +kernel
theorem dL_law_1140 : decode cL_law 1140 = .ok (.iload_n 3, 1) := by decide +kernel
theorem dL_law_1141 : decode cL_law 1141 = .ok (.iconst 1, 1) := by decide +kernel
theorem dL_law_1142 : decode cL_law 1142 = .ok (.iadd, 1) := by decide +kernel
theorem dL_law_1143 : decode cL_law 1143 = .ok (.iaload, 1) := by decide +kernel
theorem dL_law_1144 : decode cL_law 1144 = .ok (.invokevirtual 130, 3) := by decide +kernel
theorem dL_law_1147 : decode cL_law 1147 = .ok (.if_icmp .eq 87, 3) := by decide +kernel
theorem dL_law_1150 : decode cL_law 1150 = .ok (.iconst 0, 1) := by decide +kernel
theorem dL_law_1151 : decode cL_law 1151 = .ok (.ireturn, 1) := by decide +kernel
theorem dL_law_1152 : decode cL_law 1152 = .ok (.aload_n 1, 1) := by decide +kernel
theorem dL_law_1153 : decode cL_law 1153 = .ok (.aload_n 0, 1) := by decide +kernel
theorem dL_law_1154 : decode cL_law 1154 = .ok (.iload_n 3, 1) := by decide +kernel
theorem dL_law_1155 : decode cL_law 1155 = .ok (.iconst 1, 1) := by decide +kernel
theorem dL_law_1156 : decode cL_law 1156 = .ok (.iadd, 1) := by decide +kernel
theorem dL_law_1157 : decode cL_law 1157 = .ok (.iaload, 1) := by decide +kernel
theorem dL_law_1158 : decode cL_law 1158 = .ok (.aload_n 0, 1) := by decide +kernel
theorem dL_law_1159 : decode cL_law 1159 = .ok (.iload_n 3, 1) := by decide +kernel
theorem dL_law_1160 : decode cL_law 1160 = .ok (.iconst 2, 1) := by decide +kernel
theorem dL_law_1161 : decode cL_law 1161 = .ok (.iadd, 1) := by decide +kernel
theorem dL_law_1162 : decode cL_law 1162 = .ok (.iaload, 1) := by decide +kernel
theorem dL_law_1163 : decode cL_law 1163 = .ok (.invokevirtual 131, 3) := by decide +kernel
theorem dL_law_1166 : decode cL_law 1166 = .ok (.aload_n 2, 1) := by decide +kernel
theorem dL_law_1167 : decode cL_law 1167 = .ok (.aload_n 0, 1) := by decide +kernel
theorem dL_law_1168 : decode cL_law 1168 = .ok (.iload_n 3, 1) := by decide +kernel
theorem dL_law_1169 : decode cL_law 1169 = .ok (.iconst 1, 1) := by decide +kernel
theorem dL_law_1170 : decode cL_law 1170 = .ok (.iadd, 1) := by decide +kernel
theorem dL_law_1171 : decode cL_law 1171 = .ok (.iaload, 1) := by decide +kernel
theorem dL_law_1172 : decode cL_law 1172 = .ok (.aload_n 0, 1) := by decide +kernel
theorem dL_law_1173 : decode cL_law 1173 = .ok (.iload_n 3, 1) := by decide +kernel
theorem dL_law_1174 : decode cL_law 1174 = .ok (.iconst 2, 1) := by decide +kernel
theorem dL_law_1175 : decode cL_law 1175 = .ok (.iadd, 1) := by decide +kernel
theorem dL_law_1176 : decode cL_law 1176 = .ok (.iaload, 1) := by decide +kernel
theorem dL_law_1177 : decode cL_law 1177 = .ok (.invokevirtual 134, 3) := by decide +kernel
theorem dL_law_1180 : decode cL_law 1180 = .ok (.if_icmp .eq 54, 3) := by decide +kernel
theorem dL_law_1183 : decode cL_law 1183 = .ok (.iconst 0, 1) := by decide +kernel
theorem dL_law_1184 : decode cL_law 1184 = .ok (.ireturn, 1) := by decide +kernel
theorem dL_law_1185 : decode cL_law 1185 = .ok (.aload_n 1, 1) := by decide +kernel
theorem dL_law_1186 : decode cL_law 1186 = .ok (.invokevirtual 135, 3) := by decide +kernel
theorem dL_law_1189 : decode cL_law 1189 = .ok (.aload_n 2, 1) := by decide +kernel
theorem dL_law_1190 : decode cL_law 1190 = .ok (.invokevirtual 139, 3) := by decide +kernel
theorem dL_law_1193 : decode cL_law 1193 = .ok (.if_icmp .eq 41, 3) := by decide +kernel
theorem dL_law_1196 : decode cL_law 1196 = .ok (.iconst 0, 1) := by decide +kernel
theorem dL_law_1197 : decode cL_law 1197 = .ok (.ireturn, 1) := by decide +kernel
theorem dL_law_1198 : decode cL_law 1198 = .ok (.aload_n 1, 1) := by decide +kernel
theorem dL_law_1199 : decode cL_law 1199 = .ok (.invokevirtual 140, 3) := by decide +kernel
theorem dL_law_1202 : decode cL_law 1202 = .ok (.aload_n 2, 1) := by decide +kernel
theorem dL_law_1203 : decode cL_law 1203 = .ok (.invokevirtual 143, 3) := by decide +kernel
theorem dL_law_1206 : decode cL_law 1206 = .ok (.if_icmp .eq 28, 3) := by decide +kernel
theorem dL_law_1209 : decode cL_law 1209 = .ok (.iconst 0, 1) := by decide +kernel
theorem dL_law_1210 : decode cL_law 1210 = .ok (.ireturn, 1) := by decide +kernel
theorem dL_law_1211 : decode cL_law 1211 = .ok (.aload_n 1, 1) := by decide +kernel
theorem dL_law_1212 : decode cL_law 1212 = .ok (.aload_n 0, 1) := by decide +kernel
theorem dL_law_1213 : decode cL_law 1213 = .ok (.iload_n 3, 1) := by decide +kernel
theorem dL_law_1214 : decode cL_law 1214 = .ok (.iconst 1, 1) := by decide +kernel
theorem dL_law_1215 : decode cL_law 1215 = .ok (.iadd, 1) := by decide +kernel
theorem dL_law_1216 : decode cL_law 1216 = .ok (.iaload, 1) := by decide +kernel
theorem dL_law_1217 : decode cL_law 1217 = .ok (.invokevirtual 144, 3) := by decide +kernel
theorem dL_law_1220 : decode cL_law 1220 = .ok (.aload_n 2, 1) := by decide +kernel
theorem dL_law_1221 : decode cL_law 1221 = .ok (.aload_n 0, 1) := by decide +kernel
theorem dL_law_1222 : decode cL_law 1222 = .ok (.iload_n 3, 1) := by decide +kernel
theorem dL_law_1223 : decode cL_law 1223 = .ok (.iconst 1, 1) := by decide +kernel
theorem dL_law_1224 : decode cL_law 1224 = .ok (.iadd, 1) := by decide +kernel
theorem dL_law_1225 : decode cL_law 1225 = .ok (.iaload, 1) := by decide +kernel
theorem dL_law_1226 : decode cL_law 1226 = .ok (.invokevirtual 147, 3) := by decide +kernel
theorem dL_law_1229 : decode cL_law 1229 = .ok (.if_icmp .eq 5, 3) := by decide +kernel
theorem dL_law_1232 : decode cL_law 1232 = .ok (.iconst 0, 1) := by decide +kernel
theorem dL_law_1233 : decode cL_law 1233 = .ok (.ireturn, 1) := by decide +kernel
theorem dL_law_1234 : decode cL_law 1234 = .ok (.iinc 3 6, 3) := by decide +kernel
theorem dL_law_1237 : decode cL_law 1237 = .ok (.goto (-1219), 3) := by decide +kernel
theorem dL_law_1240 : decode cL_law 1240 = .ok (.iconst 1, 1) := by decide +kernel
theorem dL_law_1241 : decode cL_law 1241 = .ok (.ireturn, 1) := by decide +kernel
end
section
/-! ===== the ground: words, rooms, contracts that read and contracts that change ===== -/
def wsOf (y : MethodName) (cc : ByteArray) (n : Nat) (ret : Option FieldType) : List Cond := Cond.code y cc n ret :: gtb
theorem wsOf_good {y : MethodName} {cc : ByteArray} {n : Nat} {ret : Option FieldType} (hc : Cond.code y cc n ret ∈ gtb) : GoodIn gtb (wsOf y cc n ret) := by
  intro w hw
  rcases List.mem_cons.mp hw with rfl | h
  · exact ⟨hc, good_of_word (List.mem_filter.mp hc).2⟩
  · exact ⟨h, good_of_word (List.mem_filter.mp h).2⟩
abbrev rmz (d mc ms : Nat) : Room := { frames := d, cells := mc, slots := ms, locals := 36 * d }
abbrev tysOf (ka : Nat → ClassId) : List (ClassId × FieldType) := [(ka 0, .int), (ka 1, .object "FourVault$Row"), (ka 2, .object "FourVault$Taker"), (ka 3, .array .int)]
def yX8i : MethodName := ⟨"FourVault$Vault", "<init>", "()V"⟩
abbrev nestM : List (String × Nat × MethodName) := [("FourVault", 19, yX1_init), ("FourVault$Reader", 11, yX8_init), ("FourVault", 26, yX2_init), ("FourVault", 33, yX0_init), ("FourVault", 40, yX4_init), ("FourVault", 47, yX7_init), ("FourVault", 54, yX8_init), ("FourVault$Reader", 82, yX10_newTaker), ("FourVault$Night", 36, yX10_isMinute)]
abbrev castW : List (String × String) := [("FourVault$Widow", "FourVault$Singer"), ("FourVault$Singer", "FourVault$Taker"), ("FourVault$Widow", "FourVault$Taker")]
abbrev ncastW : List (String × String) := [("FourVault$Taker", "FourVault$Singer"), ("FourVault$Taker", "FourVault$Widow"), ("FourVault$Singer", "FourVault$Widow")]
abbrev yTT : MethodName := ⟨"FourVault$Taker", "takersTelling", "(LFourVault$Trace;)I"⟩
/-- what is known of the classes, at a state -/
def EK (D : va_G) (ka : Nat → ClassId) (U : State) : Prop := va_K D vwCl (tysOf ka) U ∧ (∀ q ∈ nestM, va_Nw (.methodLinkNest q.1 q.2.1 q.2.2 "FourVault") U) ∧ (∀ q ∈ castW, va_Nw (.castable q.1 q.2) U) ∧ (∀ q ∈ ncastW, va_Nc q.1 q.2 U) ∧ va_AO "FourVault$Row" U ∧ va_AO "FourVault$Taker" U ∧ va_Nw (.declares yTT) U
theorem EK.warm {D : va_G} {ka : Nat → ClassId} {s U : State} (hW : s.WarmedH U.vm) (h : EK D ka s) : EK D ka U := by
  obtain ⟨h1, h2, h3, h4, h5, h6, h7⟩ := h
  exact ⟨va_K.moved hW.alike h1, fun q hq => (h2 q hq).warmM hW, fun q hq => (h3 q hq).warmC hW, fun q hq => (h4 q hq).moved hW.alike, h5.moved hW.alike, h6.moved hW.alike, h7.warmD hW⟩
theorem EK.calling {D : va_G} {ka : Nat → ClassId} {U : State} {g : JFrame} {mk : MethodId} {a : Array Value} (h : EK D ka U) : EK D ka (U.calling g mk a) := by
  obtain ⟨h1, h2, h3, h4, h5, h6, h7⟩ := h
  exact ⟨va_K.moved (u := U) (U := U.calling g mk a) (Vm.Alike.refl U.vm) h1, fun q hq => (h2 q hq).same rfl rfl, fun q hq => (h3 q hq).same rfl rfl, fun q hq => (h4 q hq).moved (u := U) (U := U.calling g mk a) (Vm.Alike.refl U.vm), h5.moved (u := U) (U := U.calling g mk a) (Vm.Alike.refl U.vm), h6.moved (u := U) (U := U.calling g mk a) (Vm.Alike.refl U.vm), h7.same rfl rfl⟩
/-- what is fixed in a walk -/
def Cx (p : Program) (s : State) (m : MethodId) (args : Array Value) (c : Code) (cc : ByteArray) (nL : Nat) (own : String) (D : va_G) (ka : Nat → ClassId) : Prop := p.tables.exec = Jvm.exec ∧ c.code = cc ∧ c.maxLocals = nL ∧ s.vm.findClass own = some m.cls ∧ (∀ w ∈ gtb, w.before args s = true) ∧ EK D ka s
/-- a method that reads -/
def RO (l : Launch) (D : va_G) (ka : Nat → ClassId) (y : MethodName) (cc : ByteArray) (nL : Nat) (ret : Option FieldType) (d : Nat) (av : List Value) (B : Heap → Prop) (Qc : Array Value → State → Outcome → State → Prop) : Prop :=
  Met l y (wsOf y cc nL ret) (rmz d 0 0) (va_Pc av (fun U => B U.heap ∧ EK D ka U)) Qc 0 0 (fun _ => False)
/-- the world: the cells ws are in the heap, apart, behind z -/
def wdH (D : va_G) (z : Nat) (ws : va_W) (H : Heap) : Prop := z ≤ H.size ∧ va_P D vwCl ws H ∧ va_D (fun q => z ≤ q) ws
/-- a method that changes -/
def MU (l : Launch) (D : va_G) (ka : Nat → ClassId) (z : Nat) (y : MethodName) (cc : ByteArray) (nL : Nat) (ret : Option FieldType) (d mc ms : Nat) (av : List Value) (ws : va_W) (Qc : Array Value → State → Outcome → State → Prop) : Prop :=
  Met l y (wsOf y cc nL ret) (rmz d mc ms) (va_Pc av (fun U => wdH D z ws U.heap ∧ EK D ka U)) Qc mc ms (fun q => z ≤ q)
abbrev Qi (D : va_G) (z : Nat) (post : Int32 → va_W → Prop) : Array Value → State → Outcome → State → Prop := va_Qi post (fun u t => wdH D z u t.heap) (fun q => z ≤ q)
abbrev Ql (D : va_G) (z : Nat) (post : Int64 → va_W → Prop) : Array Value → State → Outcome → State → Prop := va_Ql post (fun u t => wdH D z u t.heap) (fun q => z ≤ q)
abbrev Qv (D : va_G) (z : Nat) (post : va_W → Prop) : Array Value → State → Outcome → State → Prop := va_Qv post (fun u t => wdH D z u t.heap) (fun q => z ≤ q)
abbrev Qr (D : va_G) (z : Nat) (post : va_W → Nat → Prop) : Array Value → State → Outcome → State → Prop := va_Qr (S := va_W) (fun _ => True) (fun u a t => post u a ∧ wdH D z u t.heap) (fun q => z ≤ q)
section GR
variable {l : Launch} {D : va_G} {ka : Nat → ClassId} {y : MethodName} {cc : ByteArray} {nL : Nat} {ret : Option FieldType} {d z mc ms : Nat} {av : List Value} {B : Heap → Prop} {ws : va_W} {Qc : Array Value → State → Outcome → State → Prop}
theorem RO.of (hy : plainName y.cls = true) (hn : (lg_sl av).length ≤ nL) (body : ∀ (p : Program) (e : Env) (s : State) (m : MethodId) (args : Array Value) (below : List Frame) (meth : Method) (c : Code), Cx p s m args c cc nL y.cls D ka → meth.sig.returnType = ret → meth.locks = false → B s.heap → ∀ ls : Array Slot, lv_has ls nL (lv_args 0 av) → W p l e (rmz d 0 0) s m args below meth c s.heap [] 0 0 (MQ below Qc args s 0 0 (fun _ => False)) (F0 m 0 ls [])) : RO l D ka y cc nL ret d av B Qc := by
  refine Met.ofW (cc := cc) (maxL := nL) (ret := ret) hy rfl ?_
  intro p e s m args below meth c s₁ B' hml hv
  obtain ⟨rfl, hB, hE⟩ := hv
  rw [lg_entry_eq]
  exact body p e s m _ below meth c ⟨B'.exec, B'.bytes, hml, findClass_of_methodNamed B'.named, fun w h => atoms_spec (ws := wsOf y cc nL ret) B'.pre w (List.mem_cons_of_mem _ h), hE⟩ B'.returns B'.notSynchronized hB _ (lv_entry av hn)
theorem MU.of (hy : plainName y.cls = true) (hn : (lg_sl av).length ≤ nL) (body : ∀ (p : Program) (e : Env) (s : State) (m : MethodId) (args : Array Value) (below : List Frame) (meth : Method) (c : Code), Cx p s m args c cc nL y.cls D ka → meth.sig.returnType = ret → meth.locks = false → (y.name = "<init>" → meth.name = "<init>") → wdH D z ws s.heap → va_S (fun q => z ≤ q) s.heap s.heap [] → ∀ ls : Array Slot, lv_has ls nL (lv_args 0 av) → W p l e (rmz d mc ms) s m args below meth c s.heap [] 0 0 (MQ below Qc args s mc ms (fun q => z ≤ q)) (F0 m 0 ls [])) : MU l D ka z y cc nL ret d mc ms av ws Qc := by
  refine Met.ofW (cc := cc) (maxL := nL) (ret := ret) hy rfl ?_
  intro p e s m args below meth c s₁ B' hml hv
  obtain ⟨rfl, hB, hE⟩ := hv
  rw [lg_entry_eq]
  exact body p e s m _ below meth c ⟨B'.exec, B'.bytes, hml, findClass_of_methodNamed B'.named, fun w h => atoms_spec (ws := wsOf y cc nL ret) B'.pre w (List.mem_cons_of_mem _ h), hE⟩ B'.returns B'.notSynchronized (fun hi => by rw [← hi]; exact (name_of_methodNamed B'.named B'.method).1) hB va_S.rf _ (lv_entry av hn)
theorem RO.blind : FrameBlind (va_Pc av (fun U => B U.heap ∧ EK D ka U)) := fun _ _ _ _ q => ⟨q.1, q.2.1, q.2.2.calling⟩
theorem MU.blind : FrameBlind (va_Pc av (fun U => wdH D z ws U.heap ∧ EK D ka U)) := fun _ _ _ _ q => ⟨q.1, q.2.1, q.2.2.calling⟩
end GR
section GC
variable {p : Program} {l : Launch} {e : Env} {R : Room} {s : State} {m : MethodId} {args : Array Value} {below : List Frame} {meth : Method} {c : Code} {H : Heap} {locs : List Loc} {cells slots : Nat} {Q : State → Prop}
variable {D : va_G} {ka : Nat → ClassId} {y : MethodName} {cc bytes : ByteArray} {nL maxL : Nat} {ret : Option FieldType} {d z mc ms index pc : Nat} {ls : Array Slot} {As st rest : List Value} {own : String} {b : Nat}
variable {B : Heap → Prop} {ws : va_W} {Qc : Array Value → State → Outcome → State → Prop} {H0 : Heap}
abbrev okName (y : MethodName) (n : Nat) : Prop := y.cls ≠ "java/lang/invoke/MethodHandle" ∧ y.cls ≠ "java/lang/invoke/VarHandle" ∧ (parseMethodDescriptor y.desc).map (fun d => d.parameters.length) = some n
abbrev okRoom (R : Room) (d maxL : Nat) : Prop := d + 1 ≤ R.frames ∧ 8 + (maxL + 11) + 36 * d ≤ R.locals
theorem ro_runV (hM : RO l D ka y bytes maxL ret d (.ref b :: As) B Qc) (X : Cx p s m args c cc nL own D ka) (hcode : Cond.code y bytes maxL ret ∈ gtb) (hlink : Cond.methodLink own index y ∈ gtb) (hinst : Cond.instanceMethod y ∈ gtb) (hsel : Cond.selects y.cls y y ∈ gtb) (hini : Cond.initialized y.cls ∈ gtb) (hd : okName y As.length) (hR : okRoom R d maxL)
    (hrecv : ∃ cell : Cell, H[b]? = some cell ∧ cell.vm.isStatics = false ∧ s.vm.findClass y.cls = some cell.cls) (hB : B H) (hls : ls.size = nL) (hst : st = As.reverse ++ .ref b :: rest) (hW : (rest.map fun v => v.category).sum ≤ 8) (hf : cells ≤ R.cells ∧ slots ≤ R.slots) (hdg : decode cc pc = .ok (.invokevirtual index, 3)) :
    CallRun p l e R s m args below meth c H locs cells slots 0 0 (F0 m pc ls st) rest (Qc (Value.ref b :: As).toArray) (fun _ => False) := by
  obtain ⟨hx, hb, hml, hown, hts, hE⟩ := X
  exact (va_runV (Ts := gtb) (C := y.cls) ⟨hx, hb, hml, hown, hts⟩ hM ⟨callB_of As.length hts (wsOf_good hcode) rfl rfl rfl (hts _ hini) (hts _ hlink) hd hR, hts _ hinst, hts _ hsel⟩ ⟨RO.blind, hrecv, fun U hU hW => ⟨rfl, by rw [hU]; exact hB, hE.warm hW⟩⟩ rfl rfl hls hst (lv_room hW) hdg hf).run
theorem ro_runS (hM : RO l D ka y bytes maxL ret d As B Qc) (X : Cx p s m args c cc nL own D ka) (hcode : Cond.code y bytes maxL ret ∈ gtb) (hlink : Cond.methodLink own index y ∈ gtb) (hstat : Cond.static y ∈ gtb) (hini : Cond.initialized y.cls ∈ gtb) (hd : okName y As.length) (hR : okRoom R d maxL)
    (hB : B H) (hls : ls.size = nL) (hst : st = As.reverse ++ rest) (hW : (rest.map fun v => v.category).sum ≤ 8) (hf : cells ≤ R.cells ∧ slots ≤ R.slots) (hdg : decode cc pc = .ok (.invokestatic index, 3)) :
    CallRun p l e R s m args below meth c H locs cells slots 0 0 (F0 m pc ls st) rest (Qc As.toArray) (fun _ => False) := by
  obtain ⟨hx, hb, hml, hown, hts, hE⟩ := X
  exact (va_runS (Ts := gtb) ⟨hx, hb, hml, hown, hts⟩ hM ⟨callB_of As.length hts (wsOf_good hcode) rfl rfl rfl (hts _ hini) (hts _ hlink) hd hR, hts _ hstat⟩ ⟨RO.blind, fun U hU hW => ⟨rfl, by rw [hU]; exact hB, hE.warm hW⟩⟩ rfl rfl hls hst (lv_room hW) hdg hf).run
theorem ro_runSN (hM : RO l D ka y bytes maxL ret d As B Qc) (X : Cx p s m args c cc nL own D ka) (hcode : Cond.code y bytes maxL ret ∈ gtb) (hlink : (own, index, y) ∈ nestM) (hstat : Cond.static y ∈ gtb) (hini : Cond.initialized y.cls ∈ gtb) (hd : okName y As.length) (hR : okRoom R d maxL)
    (hB : B H) (hls : ls.size = nL) (hst : st = As.reverse ++ rest) (hW : (rest.map fun v => v.category).sum ≤ 8) (hf : cells ≤ R.cells ∧ slots ≤ R.slots) (hdg : decode cc pc = .ok (.invokestatic index, 3)) :
    CallRun p l e R s m args below meth c H locs cells slots 0 0 (F0 m pc ls st) rest (Qc As.toArray) (fun _ => False) := by
  obtain ⟨hx, hb, hml, hown, hts, hE⟩ := X
  exact (va_runSN (Ts := gtb) (host := "FourVault") ⟨hx, hb, hml, hown, hts⟩ hM ⟨va_cnB As.length hts (wsOf_good hcode) rfl rfl rfl (hE.2.1 _ hlink) (hts _ hini) hd hR, hts _ hstat, trivial⟩ ⟨RO.blind, fun U hU hW => ⟨rfl, by rw [hU]; exact hB, hE.warm hW⟩⟩ rfl rfl hls hst (lv_room hW) hdg hf).run
/-- a virtual call of an overriding (or inherited) method: x is named, y is run, the receiver is of class C -/
theorem ro_runU {x : MethodName} {C : String} {b0 : ByteArray} {m0 : Nat} {r0 : Option FieldType} (hM : RO l D ka y bytes maxL ret d (.ref b :: As) B Qc) (X : Cx p s m args c cc nL own D ka) (hcode : Cond.code y bytes maxL ret ∈ gtb) (hcode0 : Cond.code x b0 m0 r0 ∈ gtb) (hlink : Cond.methodLink own index x ∈ gtb) (hsame : Cond.sameMethod x.cls x.cls x.name x.desc ∈ gtb) (hinst0 : Cond.instanceMethod x ∈ gtb) (hsel : Cond.selects C x y ∈ gtb) (hinst : Cond.instanceMethod y ∈ gtb) (hini : Cond.initialized y.cls ∈ gtb) (hd : okName x As.length) (hR : okRoom R d maxL)
    (hrecv : ∃ cell : Cell, H[b]? = some cell ∧ cell.vm.isStatics = false ∧ s.vm.findClass C = some cell.cls) (hB : B H) (hls : ls.size = nL) (hst : st = As.reverse ++ .ref b :: rest) (hW : (rest.map fun v => v.category).sum ≤ 8) (hf : cells ≤ R.cells ∧ slots ≤ R.slots) (hdg : decode cc pc = .ok (.invokevirtual index, 3)) :
    CallRun p l e R s m args below meth c H locs cells slots 0 0 (F0 m pc ls st) rest (Qc (Value.ref b :: As).toArray) (fun _ => False) := by
  obtain ⟨hx, hb, hml, hown, hts, hE⟩ := X
  have hG : GoodIn gtb (va_wsO own index C x.cls x y (wsOf y bytes maxL ret)) := by
    intro w hw
    rcases List.mem_append.mp hw with h | h
    · have hm : w ∈ gtb := by
        simp only [List.mem_cons, List.not_mem_nil, or_false] at h
        rcases h with rfl | rfl | rfl | rfl | rfl | rfl <;> assumption
      exact ⟨hm, good_of_word (List.mem_filter.mp hm).2⟩
    · exact wsOf_good hcode w h
  exact (va_runU (Ts := gtb) (owner := x.cls) ⟨hx, hb, hml, hown, hts⟩ hM (va_cwO As.length hts hG rfl rfl rfl hcode0 hd hR) ⟨RO.blind, hrecv, fun U hU hW => ⟨rfl, by rw [hU]; exact hB, hE.warm hW⟩⟩ rfl rfl hls hst (lv_room hW) hdg hf).run
theorem mu_runV (hM : MU l D ka z y bytes maxL ret d mc ms (.ref b :: As) ws Qc) (X : Cx p s m args c cc nL own D ka) (hcode : Cond.code y bytes maxL ret ∈ gtb) (hlink : Cond.methodLink own index y ∈ gtb) (hinst : Cond.instanceMethod y ∈ gtb) (hsel : Cond.selects y.cls y y ∈ gtb) (hini : Cond.initialized y.cls ∈ gtb) (hd : okName y As.length) (hR : okRoom R d maxL)
    (hrecv : ∃ cell : Cell, H[b]? = some cell ∧ cell.vm.isStatics = false ∧ s.vm.findClass y.cls = some cell.cls) (hw : wdH D z ws H) (hls : ls.size = nL) (hst : st = As.reverse ++ .ref b :: rest) (hW : (rest.map fun v => v.category).sum ≤ 8) (hf : cells + mc ≤ R.cells ∧ slots + ms ≤ R.slots) (hdg : decode cc pc = .ok (.invokevirtual index, 3)) :
    va_Run p l e R s m args below meth c H locs cells slots mc ms (F0 m pc ls st) rest (Qc (Value.ref b :: As).toArray) (fun q => z ≤ q) := by
  obtain ⟨hx, hb, hml, hown, hts, hE⟩ := X
  exact va_runV (Ts := gtb) (C := y.cls) ⟨hx, hb, hml, hown, hts⟩ hM ⟨callB_of As.length hts (wsOf_good hcode) rfl rfl rfl (hts _ hini) (hts _ hlink) hd hR, hts _ hinst, hts _ hsel⟩ ⟨MU.blind, hrecv, fun U hU hW => ⟨rfl, by rw [hU]; exact hw, hE.warm hW⟩⟩ rfl rfl hls hst (lv_room hW) hdg hf
theorem mu_runS (hM : MU l D ka z y bytes maxL ret d mc ms As ws Qc) (X : Cx p s m args c cc nL own D ka) (hcode : Cond.code y bytes maxL ret ∈ gtb) (hlink : Cond.methodLink own index y ∈ gtb) (hstat : Cond.static y ∈ gtb) (hini : Cond.initialized y.cls ∈ gtb) (hd : okName y As.length) (hR : okRoom R d maxL)
    (hw : wdH D z ws H) (hls : ls.size = nL) (hst : st = As.reverse ++ rest) (hW : (rest.map fun v => v.category).sum ≤ 8) (hf : cells + mc ≤ R.cells ∧ slots + ms ≤ R.slots) (hdg : decode cc pc = .ok (.invokestatic index, 3)) :
    va_Run p l e R s m args below meth c H locs cells slots mc ms (F0 m pc ls st) rest (Qc As.toArray) (fun q => z ≤ q) := by
  obtain ⟨hx, hb, hml, hown, hts, hE⟩ := X
  exact va_runS (Ts := gtb) ⟨hx, hb, hml, hown, hts⟩ hM ⟨callB_of As.length hts (wsOf_good hcode) rfl rfl rfl (hts _ hini) (hts _ hlink) hd hR, hts _ hstat⟩ ⟨MU.blind, fun U hU hW => ⟨rfl, by rw [hU]; exact hw, hE.warm hW⟩⟩ rfl rfl hls hst (lv_room hW) hdg hf
theorem mu_runI (hM : MU l D ka z y bytes maxL none d mc ms (.ref b :: As) ws Qc) (X : Cx p s m args c cc nL own D ka) (hcode : Cond.code y bytes maxL none ∈ gtb) (hlink : Cond.methodLink own index y ∈ gtb) (hinst : Cond.instanceMethod y ∈ gtb) (hini : Cond.initialized y.cls ∈ gtb) (hyn : y.name = "<init>") (hd : okName y As.length) (hR : okRoom R d maxL)
    (hw : wdH D z ws H) (hls : ls.size = nL) (hst : st = As.reverse ++ .ref b :: rest) (hW : (rest.map fun v => v.category).sum ≤ 8) (hf : cells + mc ≤ R.cells ∧ slots + ms ≤ R.slots) (hdg : decode cc pc = .ok (.invokespecial index, 3)) :
    va_Run p l e R s m args below meth c H locs cells slots mc ms (F0 m pc ls st) rest (Qc (Value.ref b :: As).toArray) (fun q => z ≤ q) := by
  obtain ⟨hx, hb, hml, hown, hts, hE⟩ := X
  exact va_runI (Ts := gtb) ⟨hx, hb, hml, hown, hts⟩ hM ⟨callB_of As.length hts (wsOf_good hcode) rfl rfl rfl (hts _ hini) (hts _ hlink) hd hR, hyn, hts _ hinst⟩ ⟨MU.blind, fun U hU hW => ⟨rfl, by rw [hU]; exact hw, hE.warm hW⟩⟩ rfl rfl hls hst (lv_room hW) hdg hf
theorem mu_runIN (hM : MU l D ka z y bytes maxL none d mc ms (.ref b :: As) ws Qc) (X : Cx p s m args c cc nL own D ka) (hcode : Cond.code y bytes maxL none ∈ gtb) (hlink : (own, index, y) ∈ nestM) (hinst : Cond.instanceMethod y ∈ gtb) (hini : Cond.initialized y.cls ∈ gtb) (hyn : y.name = "<init>") (hd : okName y As.length) (hR : okRoom R d maxL)
    (hw : wdH D z ws H) (hls : ls.size = nL) (hst : st = As.reverse ++ .ref b :: rest) (hW : (rest.map fun v => v.category).sum ≤ 8) (hf : cells + mc ≤ R.cells ∧ slots + ms ≤ R.slots) (hdg : decode cc pc = .ok (.invokespecial index, 3)) :
    va_Run p l e R s m args below meth c H locs cells slots mc ms (F0 m pc ls st) rest (Qc (Value.ref b :: As).toArray) (fun q => z ≤ q) := by
  obtain ⟨hx, hb, hml, hown, hts, hE⟩ := X
  exact va_runIN (Ts := gtb) (host := "FourVault") ⟨hx, hb, hml, hown, hts⟩ hM ⟨va_cnB As.length hts (wsOf_good hcode) rfl rfl rfl (hE.2.1 _ hlink) (hts _ hini) hd hR, hyn, hts _ hinst⟩ ⟨MU.blind, fun U hU hW => ⟨rfl, by rw [hU]; exact hw, hE.warm hW⟩⟩ rfl rfl hls hst (lv_room hW) hdg hf
theorem mu_runSN (hM : MU l D ka z y bytes maxL ret d mc ms As ws Qc) (X : Cx p s m args c cc nL own D ka) (hcode : Cond.code y bytes maxL ret ∈ gtb) (hlink : (own, index, y) ∈ nestM) (hstat : Cond.static y ∈ gtb) (hini : Cond.initialized y.cls ∈ gtb) (hd : okName y As.length) (hR : okRoom R d maxL)
    (hw : wdH D z ws H) (hls : ls.size = nL) (hst : st = As.reverse ++ rest) (hW : (rest.map fun v => v.category).sum ≤ 8) (hf : cells + mc ≤ R.cells ∧ slots + ms ≤ R.slots) (hdg : decode cc pc = .ok (.invokestatic index, 3)) :
    va_Run p l e R s m args below meth c H locs cells slots mc ms (F0 m pc ls st) rest (Qc As.toArray) (fun q => z ≤ q) := by
  obtain ⟨hx, hb, hml, hown, hts, hE⟩ := X
  exact va_runSN (Ts := gtb) (host := "FourVault") ⟨hx, hb, hml, hown, hts⟩ hM ⟨va_cnB As.length hts (wsOf_good hcode) rfl rfl rfl (hE.2.1 _ hlink) (hts _ hini) hd hR, hts _ hstat, trivial⟩ ⟨MU.blind, fun U hU hW => ⟨rfl, by rw [hU]; exact hw, hE.warm hW⟩⟩ rfl rfl hls hst (lv_room hW) hdg hf
theorem mu_runU {x : MethodName} {C : String} {b0 : ByteArray} {m0 : Nat} {r0 : Option FieldType} (hM : MU l D ka z y bytes maxL ret d mc ms (.ref b :: As) ws Qc) (X : Cx p s m args c cc nL own D ka) (hcode : Cond.code y bytes maxL ret ∈ gtb) (hcode0 : Cond.code x b0 m0 r0 ∈ gtb) (hlink : Cond.methodLink own index x ∈ gtb) (hsame : Cond.sameMethod x.cls x.cls x.name x.desc ∈ gtb) (hinst0 : Cond.instanceMethod x ∈ gtb) (hsel : Cond.selects C x y ∈ gtb) (hinst : Cond.instanceMethod y ∈ gtb) (hini : Cond.initialized y.cls ∈ gtb) (hd : okName x As.length) (hR : okRoom R d maxL)
    (hrecv : ∃ cell : Cell, H[b]? = some cell ∧ cell.vm.isStatics = false ∧ s.vm.findClass C = some cell.cls) (hw : wdH D z ws H) (hls : ls.size = nL) (hst : st = As.reverse ++ .ref b :: rest) (hW : (rest.map fun v => v.category).sum ≤ 8) (hf : cells + mc ≤ R.cells ∧ slots + ms ≤ R.slots) (hdg : decode cc pc = .ok (.invokevirtual index, 3)) :
    va_Run p l e R s m args below meth c H locs cells slots mc ms (F0 m pc ls st) rest (Qc (Value.ref b :: As).toArray) (fun q => z ≤ q) := by
  obtain ⟨hx, hb, hml, hown, hts, hE⟩ := X
  have hG : GoodIn gtb (va_wsO own index C x.cls x y (wsOf y bytes maxL ret)) := by
    intro w hw
    rcases List.mem_append.mp hw with h | h
    · have hm : w ∈ gtb := by
        simp only [List.mem_cons, List.not_mem_nil, or_false] at h
        rcases h with rfl | rfl | rfl | rfl | rfl | rfl <;> assumption
      exact ⟨hm, good_of_word (List.mem_filter.mp hm).2⟩
    · exact wsOf_good hcode w h
  exact va_runU (Ts := gtb) (owner := x.cls) ⟨hx, hb, hml, hown, hts⟩ hM (va_cwO As.length hts hG rfl rfl rfl hcode0 hd hR) ⟨MU.blind, hrecv, fun U hU hW => ⟨rfl, by rw [hU]; exact hw, hE.warm hW⟩⟩ rfl rfl hls hst (lv_room hW) hdg hf
/-- behind a call that changes -/
theorem mu_i {post : Int32 → va_W → Prop} {a : Array Value} (hr : va_Run p l e R s m args below meth c H locs cells slots mc ms (F0 m pc ls st) rest (Qi D z post a) (fun q => z ≤ q)) (hS : va_S (fun q => z ≤ q) H0 H locs)
    (kk : ∀ (r : Int32) (u : va_W) (H1 : Heap) (locs1 : List Loc), post r u → wdH D z u H1 → va_S (fun q => z ≤ q) H0 H1 locs1 → W p l e R s m args below meth c H1 locs1 (cells + mc) (slots + ms) Q (F0 m (pc + 3) ls (.int r :: rest))) : W p l e R s m args below meth c H locs cells slots Q (F0 m pc ls st) :=
  va_calli hr hS (fun _ _ h => h) (fun _ h => h) (fun r u t H1 locs1 ht _ hp hB _ _ hS1 => kk r u H1 locs1 hp (by rw [← ht]; exact hB) hS1)
theorem mu_l {post : Int64 → va_W → Prop} {a : Array Value} (hr : va_Run p l e R s m args below meth c H locs cells slots mc ms (F0 m pc ls st) rest (Ql D z post a) (fun q => z ≤ q)) (hS : va_S (fun q => z ≤ q) H0 H locs)
    (kk : ∀ (r : Int64) (u : va_W) (H1 : Heap) (locs1 : List Loc), post r u → wdH D z u H1 → va_S (fun q => z ≤ q) H0 H1 locs1 → W p l e R s m args below meth c H1 locs1 (cells + mc) (slots + ms) Q (F0 m (pc + 3) ls (.long r :: rest))) : W p l e R s m args below meth c H locs cells slots Q (F0 m pc ls st) :=
  va_calll hr hS (fun _ _ h => h) (fun _ h => h) (fun r u t H1 locs1 ht _ hp hB _ _ hS1 => kk r u H1 locs1 hp (by rw [← ht]; exact hB) hS1)
theorem mu_v {post : va_W → Prop} {a : Array Value} (hr : va_Run p l e R s m args below meth c H locs cells slots mc ms (F0 m pc ls st) rest (Qv D z post a) (fun q => z ≤ q)) (hS : va_S (fun q => z ≤ q) H0 H locs)
    (kk : ∀ (u : va_W) (H1 : Heap) (locs1 : List Loc), post u → wdH D z u H1 → va_S (fun q => z ≤ q) H0 H1 locs1 → W p l e R s m args below meth c H1 locs1 (cells + mc) (slots + ms) Q (F0 m (pc + 3) ls rest)) : W p l e R s m args below meth c H locs cells slots Q (F0 m pc ls st) :=
  va_callv hr hS (fun _ _ h => h) (fun _ h => h) (fun u t H1 locs1 ht _ hp hB _ _ hS1 => kk u H1 locs1 hp (by rw [← ht]; exact hB) hS1)
theorem mu_r {post : va_W → Nat → Prop} {a : Array Value} (hr : va_Run p l e R s m args below meth c H locs cells slots mc ms (F0 m pc ls st) rest (Qr D z post a) (fun q => z ≤ q)) (hS : va_S (fun q => z ≤ q) H0 H locs)
    (kk : ∀ (u : va_W) (ra : Nat) (H1 : Heap) (locs1 : List Loc), post u ra → wdH D z u H1 → va_S (fun q => z ≤ q) H0 H1 locs1 → W p l e R s m args below meth c H1 locs1 (cells + mc) (slots + ms) Q (F0 m (pc + 3) ls (.ref ra :: rest))) : W p l e R s m args below meth c H locs cells slots Q (F0 m pc ls st) :=
  va_callr hr hS (fun _ _ h => h) (fun _ h => h) (fun u ra t H1 locs1 ht _ _ hB _ _ hS1 => kk u ra H1 locs1 hB.1 (by rw [← ht]; exact hB.2) hS1)
/-- the ends -/
theorem ro_iret {post : Int32 → Prop} {v : Int32} (X : Cx p s m args c cc nL own D ka) (hr : meth.sig.returnType = some .int) (hlk : meth.locks = false) (hdg : decode cc pc = .ok (.ireturn, 1)) (hq : post v) : W p l e R s m args below meth c s.heap [] 0 0 (MQ below (vp_Si post) args s 0 0 (fun _ => False)) (F0 m pc ls [.int v]) :=
  W.iret (v := v) X.1 X.2.1 hr (fun t ht _ => ⟨v, rfl, hq, ht⟩) (fun q h => by cases h) hdg hlk
theorem ro_zret {post : Int32 → Prop} {v : Int32} (X : Cx p s m args c cc nL own D ka) (hr : meth.sig.returnType = some .boolean) (hlk : meth.locks = false) (hdg : decode cc pc = .ok (.ireturn, 1)) (hn : v = 0 ∨ v = 1) (hq : post v) : W p l e R s m args below meth c s.heap [] 0 0 (MQ below (vp_Si post) args s 0 0 (fun _ => False)) (F0 m pc ls [.int v]) :=
  W.zret (v := v) X.1 X.2.1 hr (by rcases hn with rfl | rfl <;> rfl) (fun t ht _ => ⟨v, rfl, hq, ht⟩) (fun q h => by cases h) hdg hlk
theorem ro_lret {post : Int64 → Prop} {v : Int64} (X : Cx p s m args c cc nL own D ka) (hr : meth.sig.returnType = some .long) (hlk : meth.locks = false) (hdg : decode cc pc = .ok (.lreturn, 1)) (hq : post v) : W p l e R s m args below meth c s.heap [] 0 0 (MQ below (vp_Sl post) args s 0 0 (fun _ => False)) (F0 m pc ls [.long v]) :=
  W.lret (v := v) X.1 X.2.1 hr (fun t ht _ => ⟨v, rfl, hq, ht⟩) (fun q h => by cases h) hdg hlk
theorem mu_iret {post : Int32 → va_W → Prop} {v : Int32} (X : Cx p s m args c cc nL own D ka) (hr : meth.sig.returnType = some .int) (hlk : meth.locks = false) (hdg : decode cc pc = .ok (.ireturn, 1)) (hS : va_S (fun q => z ≤ q) s.heap H locs) (hw : wdH D z ws H) (hc : cells ≤ mc) (hs : slots ≤ ms) (hq : post v ws) : W p l e R s m args below meth c H locs cells slots (MQ below (Qi D z post) args s mc ms (fun q => z ≤ q)) (F0 m pc ls [.int v]) :=
  W.widen hc hs (W.iret (v := v) X.1 X.2.1 hr (fun t ht _ => ⟨⟨v, ws, rfl, hq, by show wdH D z ws t.heap; rw [ht]; exact hw⟩, hS.F ht⟩) hS.2.2 hdg hlk)
theorem mu_zret {post : Int32 → va_W → Prop} {v : Int32} (X : Cx p s m args c cc nL own D ka) (hr : meth.sig.returnType = some .boolean) (hlk : meth.locks = false) (hdg : decode cc pc = .ok (.ireturn, 1)) (hS : va_S (fun q => z ≤ q) s.heap H locs) (hw : wdH D z ws H) (hc : cells ≤ mc) (hs : slots ≤ ms) (hn : v = 0 ∨ v = 1) (hq : post v ws) : W p l e R s m args below meth c H locs cells slots (MQ below (Qi D z post) args s mc ms (fun q => z ≤ q)) (F0 m pc ls [.int v]) :=
  W.widen hc hs (W.zret (v := v) X.1 X.2.1 hr (by rcases hn with rfl | rfl <;> rfl) (fun t ht _ => ⟨⟨v, ws, rfl, hq, by show wdH D z ws t.heap; rw [ht]; exact hw⟩, hS.F ht⟩) hS.2.2 hdg hlk)
theorem mu_lret {post : Int64 → va_W → Prop} {v : Int64} (X : Cx p s m args c cc nL own D ka) (hr : meth.sig.returnType = some .long) (hlk : meth.locks = false) (hdg : decode cc pc = .ok (.lreturn, 1)) (hS : va_S (fun q => z ≤ q) s.heap H locs) (hw : wdH D z ws H) (hc : cells ≤ mc) (hs : slots ≤ ms) (hq : post v ws) : W p l e R s m args below meth c H locs cells slots (MQ below (Ql D z post) args s mc ms (fun q => z ≤ q)) (F0 m pc ls [.long v]) :=
  W.widen hc hs (W.lret (v := v) X.1 X.2.1 hr (fun t ht _ => ⟨⟨v, ws, rfl, hq, by show wdH D z ws t.heap; rw [ht]; exact hw⟩, hS.F ht⟩) hS.2.2 hdg hlk)
theorem mu_vret {post : va_W → Prop} (X : Cx p s m args c cc nL own D ka) (hr : meth.sig.returnType = none) (hlk : meth.locks = false) (hdg : decode cc pc = .ok (.return_, 1)) (hS : va_S (fun q => z ≤ q) s.heap H locs) (hw : wdH D z ws H) (hc : cells ≤ mc) (hs : slots ≤ ms) (hq : post ws) : W p l e R s m args below meth c H locs cells slots (MQ below (Qv D z post) args s mc ms (fun q => z ≤ q)) (F0 m pc ls []) :=
  W.widen hc hs (W.vret X.1 X.2.1 hr (fun t ht _ => ⟨⟨ws, rfl, hq, by show wdH D z ws t.heap; rw [ht]; exact hw⟩, hS.F ht⟩) hS.2.2 hdg hlk)
end GC
end
section
/-! ===== numbers: comparisons in Int, sums in Nat ===== -/
def bI (P : Prop) [Decidable P] : Int32 := if P then 1 else 0
theorem bI_t {P : Prop} [Decidable P] (h : P) : bI P = 1 := if_pos h
theorem bI_f {P : Prop} [Decidable P] (h : ¬ P) : bI P = 0 := if_neg h
theorem bI_01 {P : Prop} [Decidable P] : bI P = 0 ∨ bI P = 1 := by unfold bI; split <;> simp
theorem bI_congr {P Q : Prop} [Decidable P] [Decidable Q] (h : P ↔ Q) : bI P = bI Q := by
  unfold bI
  by_cases hp : P
  · rw [if_pos hp, if_pos (h.mp hp)]
  · rw [if_neg hp, if_neg (fun q => hp (h.mpr q))]
theorem ii_lt {x y : Int32} : x < y ↔ x.toInt < y.toInt := Int32.lt_iff_toInt_lt
theorem ii_le {x y : Int32} : x ≤ y ↔ x.toInt ≤ y.toInt := Int32.le_iff_toInt_le
theorem ii_eq {x y : Int32} : x = y ↔ x.toInt = y.toInt := ⟨fun h => by rw [h], fun h => Int32.toInt_inj.mp h⟩
theorem nT {n : Nat} (h : n < 2147483648) : (nI n).toInt = (n : Int) := nI_toInt h
theorem nat_of {x : Int32} {n : Nat} (h0 : 0 ≤ x.toInt) (h1 : x.toInt < n) : ∃ j : Nat, j < n ∧ x = nI j := by
  refine ⟨x.toInt.toNat, by omega, ?_⟩
  have := x.toInt_lt
  rw [ii_eq, nI_toInt (by omega)]
  omega
theorem cl_nI {n : Nat} (h : n < 2147483648) : (nI n).toNatClampNeg = n := nI_clamp h
theorem nI_inj {a b : Nat} (ha : a < 2147483648) (hb : b < 2147483648) (h : nI a = nI b) : a = b := (nI_eq ha hb).mp h
section AR
variable {p : Program} {l : Launch} {e : Env} {R : Room} {s : State} {m : MethodId} {args : Array Value} {below : List Frame} {meth : Method} {c : Code} {H : Heap} {locs : List Loc} {cells slots : Nat} {Q : State → Prop}
variable {cc : ByteArray} {pc : Nat} {ls : Array Slot} {rest : List Value}
theorem i_icmp_lt (hx : p.tables.exec = Jvm.exec) (hb : c.code = cc) {x y : Int32} {X Y : Int} (hX : x.toInt = X) (hY : y.toInt = Y) {off : Int} {tgt : Nat} (hdg : decode cc pc = .ok (.if_icmp .lt off, 3)) (ht : (pc : Int) + off = (tgt : Int)) (kt : X < Y → W p l e R s m args below meth c H locs cells slots Q (F0 m tgt ls rest)) (kf : ¬ X < Y → W p l e R s m args below meth c H locs cells slots Q (F0 m (pc + 3) ls rest)) : W p l e R s m args below meth c H locs cells slots Q (F0 m pc ls (.int y :: .int x :: rest)) :=
  lv_icmp_lt hx hb hdg ht (fun h => kt (by rw [← hX, ← hY]; exact ii_lt.mp h)) (fun h => kf (fun z => h (ii_lt.mpr (by rw [hX, hY]; exact z))))
theorem i_icmp_ge (hx : p.tables.exec = Jvm.exec) (hb : c.code = cc) {x y : Int32} {X Y : Int} (hX : x.toInt = X) (hY : y.toInt = Y) {off : Int} {tgt : Nat} (hdg : decode cc pc = .ok (.if_icmp .ge off, 3)) (ht : (pc : Int) + off = (tgt : Int)) (kt : Y ≤ X → W p l e R s m args below meth c H locs cells slots Q (F0 m tgt ls rest)) (kf : ¬ Y ≤ X → W p l e R s m args below meth c H locs cells slots Q (F0 m (pc + 3) ls rest)) : W p l e R s m args below meth c H locs cells slots Q (F0 m pc ls (.int y :: .int x :: rest)) :=
  lv_icmp_ge hx hb hdg ht (fun h => kt (by rw [← hX, ← hY]; exact ii_le.mp h)) (fun h => kf (fun z => h (ii_le.mpr (by rw [hX, hY]; exact z))))
theorem i_icmp_gt (hx : p.tables.exec = Jvm.exec) (hb : c.code = cc) {x y : Int32} {X Y : Int} (hX : x.toInt = X) (hY : y.toInt = Y) {off : Int} {tgt : Nat} (hdg : decode cc pc = .ok (.if_icmp .gt off, 3)) (ht : (pc : Int) + off = (tgt : Int)) (kt : Y < X → W p l e R s m args below meth c H locs cells slots Q (F0 m tgt ls rest)) (kf : ¬ Y < X → W p l e R s m args below meth c H locs cells slots Q (F0 m (pc + 3) ls rest)) : W p l e R s m args below meth c H locs cells slots Q (F0 m pc ls (.int y :: .int x :: rest)) :=
  lv_icmp_gt hx hb hdg ht (fun h => kt (by rw [← hX, ← hY]; exact ii_lt.mp h)) (fun h => kf (fun z => h (ii_lt.mpr (by rw [hX, hY]; exact z))))
theorem i_icmp_le (hx : p.tables.exec = Jvm.exec) (hb : c.code = cc) {x y : Int32} {X Y : Int} (hX : x.toInt = X) (hY : y.toInt = Y) {off : Int} {tgt : Nat} (hdg : decode cc pc = .ok (.if_icmp .le off, 3)) (ht : (pc : Int) + off = (tgt : Int)) (kt : X ≤ Y → W p l e R s m args below meth c H locs cells slots Q (F0 m tgt ls rest)) (kf : ¬ X ≤ Y → W p l e R s m args below meth c H locs cells slots Q (F0 m (pc + 3) ls rest)) : W p l e R s m args below meth c H locs cells slots Q (F0 m pc ls (.int y :: .int x :: rest)) :=
  lv_icmp_le hx hb hdg ht (fun h => kt (by rw [← hX, ← hY]; exact ii_le.mp h)) (fun h => kf (fun z => h (ii_le.mpr (by rw [hX, hY]; exact z))))
theorem i_icmp_eq (hx : p.tables.exec = Jvm.exec) (hb : c.code = cc) {x y : Int32} {X Y : Int} (hX : x.toInt = X) (hY : y.toInt = Y) {off : Int} {tgt : Nat} (hdg : decode cc pc = .ok (.if_icmp .eq off, 3)) (ht : (pc : Int) + off = (tgt : Int)) (kt : X = Y → W p l e R s m args below meth c H locs cells slots Q (F0 m tgt ls rest)) (kf : ¬ X = Y → W p l e R s m args below meth c H locs cells slots Q (F0 m (pc + 3) ls rest)) : W p l e R s m args below meth c H locs cells slots Q (F0 m pc ls (.int y :: .int x :: rest)) :=
  lv_icmp_eq hx hb hdg ht (fun h => kt (by rw [← hX, ← hY]; exact ii_eq.mp h)) (fun h => kf (fun z => h (ii_eq.mpr (by rw [hX, hY]; exact z))))
theorem i_icmp_ne (hx : p.tables.exec = Jvm.exec) (hb : c.code = cc) {x y : Int32} {X Y : Int} (hX : x.toInt = X) (hY : y.toInt = Y) {off : Int} {tgt : Nat} (hdg : decode cc pc = .ok (.if_icmp .ne off, 3)) (ht : (pc : Int) + off = (tgt : Int)) (kt : ¬ X = Y → W p l e R s m args below meth c H locs cells slots Q (F0 m tgt ls rest)) (kf : X = Y → W p l e R s m args below meth c H locs cells slots Q (F0 m (pc + 3) ls rest)) : W p l e R s m args below meth c H locs cells slots Q (F0 m pc ls (.int y :: .int x :: rest)) :=
  lv_icmp_ne hx hb hdg ht (fun h => kt (fun z => h (ii_eq.mpr (by rw [hX, hY]; exact z)))) (fun h => kf (by rw [← hX, ← hY]; exact ii_eq.mp h))
theorem i_if_lt (hx : p.tables.exec = Jvm.exec) (hb : c.code = cc) {x : Int32} {X : Int} (hX : x.toInt = X) {off : Int} {tgt : Nat} (hdg : decode cc pc = .ok (.ifCond .lt off, 3)) (ht : (pc : Int) + off = (tgt : Int)) (kt : X < 0 → W p l e R s m args below meth c H locs cells slots Q (F0 m tgt ls rest)) (kf : ¬ X < 0 → W p l e R s m args below meth c H locs cells slots Q (F0 m (pc + 3) ls rest)) : W p l e R s m args below meth c H locs cells slots Q (F0 m pc ls (.int x :: rest)) :=
  lv_if_lt hx hb hdg ht (fun h => kt (by rw [← hX]; exact ii_lt.mp h)) (fun h => kf (fun z => h (ii_lt.mpr (by rw [hX]; exact z))))
theorem i_if_ge (hx : p.tables.exec = Jvm.exec) (hb : c.code = cc) {x : Int32} {X : Int} (hX : x.toInt = X) {off : Int} {tgt : Nat} (hdg : decode cc pc = .ok (.ifCond .ge off, 3)) (ht : (pc : Int) + off = (tgt : Int)) (kt : 0 ≤ X → W p l e R s m args below meth c H locs cells slots Q (F0 m tgt ls rest)) (kf : ¬ 0 ≤ X → W p l e R s m args below meth c H locs cells slots Q (F0 m (pc + 3) ls rest)) : W p l e R s m args below meth c H locs cells slots Q (F0 m pc ls (.int x :: rest)) :=
  lv_if_ge hx hb hdg ht (fun h => kt (by rw [← hX]; exact ii_le.mp h)) (fun h => kf (fun z => h (ii_le.mpr (by rw [hX]; exact z))))
theorem i_if_gt (hx : p.tables.exec = Jvm.exec) (hb : c.code = cc) {x : Int32} {X : Int} (hX : x.toInt = X) {off : Int} {tgt : Nat} (hdg : decode cc pc = .ok (.ifCond .gt off, 3)) (ht : (pc : Int) + off = (tgt : Int)) (kt : 0 < X → W p l e R s m args below meth c H locs cells slots Q (F0 m tgt ls rest)) (kf : ¬ 0 < X → W p l e R s m args below meth c H locs cells slots Q (F0 m (pc + 3) ls rest)) : W p l e R s m args below meth c H locs cells slots Q (F0 m pc ls (.int x :: rest)) :=
  lv_if_gt hx hb hdg ht (fun h => kt (by rw [← hX]; exact ii_lt.mp h)) (fun h => kf (fun z => h (ii_lt.mpr (by rw [hX]; exact z))))
theorem i_if_le (hx : p.tables.exec = Jvm.exec) (hb : c.code = cc) {x : Int32} {X : Int} (hX : x.toInt = X) {off : Int} {tgt : Nat} (hdg : decode cc pc = .ok (.ifCond .le off, 3)) (ht : (pc : Int) + off = (tgt : Int)) (kt : X ≤ 0 → W p l e R s m args below meth c H locs cells slots Q (F0 m tgt ls rest)) (kf : ¬ X ≤ 0 → W p l e R s m args below meth c H locs cells slots Q (F0 m (pc + 3) ls rest)) : W p l e R s m args below meth c H locs cells slots Q (F0 m pc ls (.int x :: rest)) :=
  lv_if_le hx hb hdg ht (fun h => kt (by rw [← hX]; exact ii_le.mp h)) (fun h => kf (fun z => h (ii_le.mpr (by rw [hX]; exact z))))
theorem i_if_eq (hx : p.tables.exec = Jvm.exec) (hb : c.code = cc) {x : Int32} {X : Int} (hX : x.toInt = X) {off : Int} {tgt : Nat} (hdg : decode cc pc = .ok (.ifCond .eq off, 3)) (ht : (pc : Int) + off = (tgt : Int)) (kt : X = 0 → W p l e R s m args below meth c H locs cells slots Q (F0 m tgt ls rest)) (kf : ¬ X = 0 → W p l e R s m args below meth c H locs cells slots Q (F0 m (pc + 3) ls rest)) : W p l e R s m args below meth c H locs cells slots Q (F0 m pc ls (.int x :: rest)) :=
  lv_if_eq hx hb hdg ht (fun h => kt (by rw [← hX]; exact ii_eq.mp h)) (fun h => kf (fun z => h (ii_eq.mpr (by rw [hX]; exact z))))
theorem i_if_ne (hx : p.tables.exec = Jvm.exec) (hb : c.code = cc) {x : Int32} {X : Int} (hX : x.toInt = X) {off : Int} {tgt : Nat} (hdg : decode cc pc = .ok (.ifCond .ne off, 3)) (ht : (pc : Int) + off = (tgt : Int)) (kt : ¬ X = 0 → W p l e R s m args below meth c H locs cells slots Q (F0 m tgt ls rest)) (kf : X = 0 → W p l e R s m args below meth c H locs cells slots Q (F0 m (pc + 3) ls rest)) : W p l e R s m args below meth c H locs cells slots Q (F0 m pc ls (.int x :: rest)) :=
  lv_if_ne hx hb hdg ht (fun h => kt (fun z => h (ii_eq.mpr (by rw [hX]; exact z)))) (fun h => kf (by rw [← hX]; exact ii_eq.mp h))
theorem b_if_eq (hx : p.tables.exec = Jvm.exec) (hb : c.code = cc) {P : Prop} [Decidable P] {off : Int} {tgt : Nat} (hdg : decode cc pc = .ok (.ifCond .eq off, 3)) (ht : (pc : Int) + off = (tgt : Int)) (kt : ¬ P → W p l e R s m args below meth c H locs cells slots Q (F0 m tgt ls rest)) (kf : P → W p l e R s m args below meth c H locs cells slots Q (F0 m (pc + 3) ls rest)) : W p l e R s m args below meth c H locs cells slots Q (F0 m pc ls (.int (bI P) :: rest)) :=
  lv_if_eq hx hb hdg ht (fun h => kt (fun z => by rw [bI_t z] at h; exact absurd h (by decide))) (fun h => kf (Decidable.not_not.mp (fun z => h (bI_f z))))
theorem b_if_ne (hx : p.tables.exec = Jvm.exec) (hb : c.code = cc) {P : Prop} [Decidable P] {off : Int} {tgt : Nat} (hdg : decode cc pc = .ok (.ifCond .ne off, 3)) (ht : (pc : Int) + off = (tgt : Int)) (kt : P → W p l e R s m args below meth c H locs cells slots Q (F0 m tgt ls rest)) (kf : ¬ P → W p l e R s m args below meth c H locs cells slots Q (F0 m (pc + 3) ls rest)) : W p l e R s m args below meth c H locs cells slots Q (F0 m pc ls (.int (bI P) :: rest)) :=
  lv_if_ne hx hb hdg ht (fun h => kt (Decidable.not_not.mp (fun z => h (bI_f z)))) (fun h => kf (fun z => by rw [bI_t z] at h; exact absurd h (by decide)))
theorem n_iadd (hx : p.tables.exec = Jvm.exec) (hb : c.code = cc) {a b : Nat} (hdg : decode cc pc = .ok (.iadd, 1)) (k : W p l e R s m args below meth c H locs cells slots Q (F0 m (pc + 1) ls (.int (nI (a + b)) :: rest))) : W p l e R s m args below meth c H locs cells slots Q (F0 m pc ls (.int (nI b) :: .int (nI a) :: rest)) :=
  lv_iadd hx hb hdg (by rw [nI_add]; exact k)
theorem n_isub (hx : p.tables.exec = Jvm.exec) (hb : c.code = cc) {a b : Nat} (h : b ≤ a) (hdg : decode cc pc = .ok (.isub, 1)) (k : W p l e R s m args below meth c H locs cells slots Q (F0 m (pc + 1) ls (.int (nI (a - b)) :: rest))) : W p l e R s m args below meth c H locs cells slots Q (F0 m pc ls (.int (nI b) :: .int (nI a) :: rest)) :=
  lv_isub hx hb hdg (by rw [pk_sub h]; exact k)
theorem n_imul (hx : p.tables.exec = Jvm.exec) (hb : c.code = cc) {a b : Nat} (hdg : decode cc pc = .ok (.imul, 1)) (k : W p l e R s m args below meth c H locs cells slots Q (F0 m (pc + 1) ls (.int (nI (a * b)) :: rest))) : W p l e R s m args below meth c H locs cells slots Q (F0 m pc ls (.int (nI b) :: .int (nI a) :: rest)) :=
  lv_imul hx hb hdg (by rw [pk_mul]; exact k)
theorem n_idiv (hx : p.tables.exec = Jvm.exec) (hb : c.code = cc) {a b : Nat} (ha : a < 2147483648) (h0 : 0 < b) (hb2 : b < 2147483648) (hdg : decode cc pc = .ok (.idiv, 1)) (k : W p l e R s m args below meth c H locs cells slots Q (F0 m (pc + 1) ls (.int (nI (a / b)) :: rest))) : W p l e R s m args below meth c H locs cells slots Q (F0 m pc ls (.int (nI b) :: .int (nI a) :: rest)) :=
  lv_idiv hx hb hdg (nI_ne0 h0 hb2) (by rw [pk_div ha h0 hb2]; exact k)
theorem n_irem (hx : p.tables.exec = Jvm.exec) (hb : c.code = cc) {a b : Nat} (ha : a < 2147483648) (h0 : 0 < b) (hb2 : b < 2147483648) (hdg : decode cc pc = .ok (.irem, 1)) (k : W p l e R s m args below meth c H locs cells slots Q (F0 m (pc + 1) ls (.int (nI (a % b)) :: rest))) : W p l e R s m args below meth c H locs cells slots Q (F0 m pc ls (.int (nI b) :: .int (nI a) :: rest)) :=
  lv_irem hx hb hdg (nI_ne0 h0 hb2) (by rw [pk_rem ha h0 hb2]; exact k)
theorem n_iinc (hx : p.tables.exec = Jvm.exec) (hb : c.code = cc) {i nL k a d : Nat} {n : Int} {lv lv' : List (Nat × Value)} (hdg : decode cc pc = .ok (.iinc i n, 3)) (h : lv_has ls nL lv) (hk : lv[k]? = some (i, .int (nI a))) (hd : n = (d : Int)) (hn : i < nL) (hl : (i, Value.int (nI (a + d))) :: lv.filter (fun q => !(q.1 == i) && !(q.1 + 1 == i && q.2.category == 2)) = lv')
    (kk : ∀ ls' : Array Slot, lv_has ls' nL lv' → W p l e R s m args below meth c H locs cells slots Q (F0 m (pc + 3) ls' rest)) : W p l e R s m args below meth c H locs cells slots Q (F0 m pc ls rest) :=
  lv_iinc hx hb hdg h hk (v := nI (a + d)) (by subst hd; rw [← nI_add]; rfl) hn hl kk
end AR
end
section
/-! ===== the spec: numbers N, cells C ===== -/
def upN (u : Nat → Nat) (k v : Nat) : Nat → Nat := fun j => if j = k then v else u j
def up (N : Nat → Nat → Nat) (i k v : Nat) : Nat → Nat → Nat := fun a => if a = i then upN (N i) k v else N a
def upC (C : Nat → Nat → Int32) (i k : Nat) (v : Int32) : Nat → Nat → Int32 := fun a => if a = i then upd (C i) k v else C a
theorem upd_phi {φ : Nat → Int32} {u : Nat → Nat} {k v : Nat} : upd (fun j => φ (u j)) k (φ v) = fun j => φ (upN u k v j) := by
  funext j
  unfold upd upN
  split <;> rfl
def srt (n : Nat) : Int32 := if n = 3 then -9 else nI n
def dr0 (kd g mi : Nat) : Nat := if kd = 1 then g + mi - 1 else if kd = 0 then g + mi else (g + mi) / 2
def drn (N : Nat → Nat → Nat) (a m : Nat) : Nat := dr0 (N 2 a) (if N 0 5 / 2 ^ (m % N 0 0) % 2 = 1 then 0 else N 1 (m % N 0 0)) (N 4 a)
def hol (dr : Nat → Nat) : Nat → Nat → Nat → Nat
  | 0, _, _ => 0
  | k + 1, m, left => if dr m ≤ left then hol dr k (m + 1) (left - dr m) + 1 else 0
def hld (N : Nat → Nat → Nat) (a m part : Nat) : Nat := hol (fun t => drn N a t / part) 40 m (N 3 a)
theorem hol_le (dr : Nat → Nat) : ∀ (k m left : Nat), hol dr k m left ≤ k
  | 0, _, _ => Nat.le_refl _
  | k + 1, m, left => by
    unfold hol
    split
    · exact Nat.succ_le_succ (hol_le dr k _ _)
    · exact Nat.zero_le _
theorem hld_le (N : Nat → Nat → Nat) (a m part : Nat) : hld N a m part ≤ 40 := hol_le _ _ _ _
def WF (N : Nat → Nat → Nat) : Prop := (N 0 0 ≤ 6 ∧ N 0 1 ≤ 5 ∧ N 0 2 ≤ 5 ∧ N 0 3 ≤ 8 ∧ N 0 4 ≤ 4 ∧ (0 < N 0 1 → 0 < N 0 0) ∧ N 0 5 < 64) ∧ (∀ j, N 1 j ≤ 9) ∧ (∀ j, N 2 j ≤ 2) ∧ (∀ j, N 3 j ≤ 99) ∧ (∀ j, N 4 j ≤ 9) ∧ (∀ j, N 5 j ≤ 9) ∧ (∀ j, j < N 0 3 → N 6 j < N 0 1) ∧ (∀ j, N 7 j ≤ 59) ∧ (∀ j, N 8 j ≤ 40) ∧ (∀ j, N 9 j ≤ 3) ∧ (∀ j, N 10 j ≤ 60)
theorem dr0_le {kd g mi : Nat} (hg : g ≤ 9) (hm : mi ≤ 9) : dr0 kd g mi ≤ 18 := by
  unfold dr0
  split
  · omega
  · split <;> omega
theorem drn_le {N : Nat → Nat → Nat} (h : WF N) (a m : Nat) : drn N a m ≤ 18 := by
  unfold drn
  refine dr0_le ?_ (h.2.2.2.2.1 a)
  split
  · omega
  · exact h.2.1 _
theorem va_P.left {D : va_G} {cl : List vw_C} {w1 w2 : va_W} {H : Heap} (h : va_P D cl (w1 ++ w2) H) : va_P D cl w1 H := fun k q hk => h k q (by rw [List.getElem?_append_left (List.getElem?_eq_some_iff.mp hk).1]; exact hk)
theorem va_P.right {D : va_G} {cl : List vw_C} {w1 w2 : va_W} {H : Heap} (h : va_P D cl (w1 ++ w2) H) : va_P D cl w2 H := fun k q hk => h (w1.length + k) q (by rw [List.getElem?_append_right (Nat.le_add_right _ _), Nat.add_sub_cancel_left]; exact hk)
def mw (ka : Nat → ClassId) (h : Nat) (a : Nat → Nat) (N : Nat → Nat → Nat) (C : Nat → Nat → Int32) (f : Nat → Int32) (g : Nat → Nat → Int32) : va_W := [(h, .inr (11, [.int (nI (N 0 4)), .int (C 4 60), .ref (a 2), .ref (a 3), .ref (a 4), .int (nI (N 0 0)), .int (nI (N 0 1)), .int (nI (N 0 2)), .ref (a 8), .ref (a 9), .ref (a 10), .ref (a 11), .ref (a 12), .int (f 13), .int (f 14), .int (f 15), .int (f 16), .ref (a 17), .ref (a 18), .ref (a 19), .ref (a 20), .ref (a 21), .int (nI (N 0 5)), .int (f 23), .int (f 24), .ref (a 25), .ref (a 26), .ref (a 27), .ref (a 28), .ref (a 29), .ref (a 30), .int (nI (N 0 3)), .ref (a 32), .ref (a 33), .ref (a 34)])), (a 2, .inl (ka 0, 4, .inl (fun j => srt (N 9 j)))), (a 3, .inl (ka 0, 4, .inl (fun j => nI (N 10 j)))), (a 4, .inl (ka 0, 240, .inl (fun j => C (j / 60) (j % 60)))), (a 8, .inl (ka 0, 6, .inl (fun j => nI (N 1 j)))), (a 9, .inl (ka 0, 5, .inl (fun j => nI (N 2 j)))), (a 10, .inl (ka 0, 5, .inl (fun j => nI (N 3 j)))), (a 11, .inl (ka 0, 5, .inl (fun j => nI (N 4 j)))), (a 12, .inl (ka 0, 5, .inl (fun j => nI (N 5 j)))), (a 17, .inl (ka 0, 6, .inl (g 17))), (a 18, .inl (ka 0, 5, .inl (g 18))), (a 19, .inl (ka 0, 5, .inl (g 19))), (a 20, .inl (ka 0, 5, .inl (g 20))), (a 21, .inl (ka 0, 5, .inl (g 21))), (a 25, .inl (ka 0, 5, .inl (g 25))), (a 26, .inl (ka 0, 5, .inl (g 26))), (a 27, .inl (ka 0, 100, .inl (g 27))), (a 28, .inl (ka 0, 5, .inl (g 28))), (a 29, .inl (ka 0, 5, .inl (g 29))), (a 30, .inl (ka 0, 5, .inl (g 30))), (a 32, .inl (ka 0, 8, .inl (fun j => nI (N 6 j)))), (a 33, .inl (ka 0, 8, .inl (fun j => nI (N 7 j)))), (a 34, .inl (ka 0, 8, .inl (fun j => nI (N 8 j))))]
theorem ng1 : (-1 : Int32).toInt = -1 := by decide
theorem ng2 : (-2 : Int32).toInt = -2 := by decide
theorem ng3 : (-3 : Int32).toInt = -3 := by decide
theorem ng4 : (-4 : Int32).toInt = -4 := by decide
theorem ng9 : (-9 : Int32).toInt = -9 := by decide
theorem srt_T {n : Nat} (h : n < 2147483648) : (srt n).toInt = (if n = 3 then (-9 : Int) else (n : Int)) := by
  unfold srt
  split
  · exact ng9
  · exact nT h
theorem n_max {a b : Nat} (ha : a < 2147483648) (hb : b < 2147483648) : (if nI a < nI b then nI b else nI a) = nI (max a b) := by
  by_cases h : a < b
  · rw [if_pos ((nI_ltI ha hb).mpr h), Nat.max_eq_right (by omega)]
  · rw [if_neg (fun q => h ((nI_ltI ha hb).mp q)), Nat.max_eq_left (by omega)]
theorem n_min {a b : Nat} (ha : a < 2147483648) (hb : b < 2147483648) : (if nI b < nI a then nI b else nI a) = nI (min a b) := by
  by_cases h : b < a
  · rw [if_pos ((nI_ltI hb ha).mpr h), Nat.min_eq_right (by omega)]
  · rw [if_neg (fun q => h ((nI_ltI hb ha).mp q)), Nat.min_eq_left (by omega)]
theorem cells_upd {C : Nat → Nat → Int32} {k i : Nat} {x : Int32} (hi : i < 60) : upd (fun j => C (j / 60) (j % 60)) (60 * k + i) x = fun j => upC C k i x (j / 60) (j % 60) := by
  funext j
  unfold upC
  by_cases h : j = 60 * k + i
  · subst h
    have e1 : (60 * k + i) / 60 = k := by omega
    have e2 : (60 * k + i) % 60 = i := by omega
    rw [e1, e2, if_pos rfl]
    simp [upd]
  · unfold upd
    rw [if_neg h]
    by_cases h2 : j / 60 = k
    · rw [if_pos h2, if_neg (by omega), ← h2]
    · rw [if_neg h2]
def agst (N : Nat → Nat → Nat) (k q : Nat) (i n : Int) : Nat := if N 9 k ≠ 3 ∧ N 9 k ≠ q then 2 else if N 9 k = 3 then 1 else if n < 0 then 4 else if i < 0 ∨ (N 10 k : Int) < i ∨ (N 10 k : Int) - i < n then 3 else 0
theorem nat_ofK {x : Int32} {K : Int} {n : Nat} (hk : x.toInt = K) (h0 : 0 ≤ K) (h1 : K < n) : ∃ j : Nat, j < n ∧ x = nI j ∧ K = (j : Int) := by
  subst hk
  have hlt := x.toInt_lt
  refine ⟨x.toInt.toNat, by omega, ?_, by omega⟩
  rw [ii_eq, nI_toInt (n := x.toInt.toNat) (by omega)]
  omega
theorem n_shr {a k : Nat} (ha : a < 2147483648) (hk : k < 32) : nI a >>> (nI k &&& 31) = nI (a / 2 ^ k) := by
  refine pk_shrN ha _ k ?_
  have : ∀ n, n < 32 → ((nI n &&& 31).toBitVec.smod 32).toNat = n := by decide
  exact this k hk
theorem n_shl {a k : Nat} (hk : k < 32) (h : a * 2 ^ k < 4294967296) : nI a <<< (nI k &&& 31) = nI (a * 2 ^ k) := by
  refine pk_shlN _ k ?_ h
  have : ∀ n, n < 32 → ((nI n &&& 31).toBitVec.smod 32).toNat = n := by decide
  exact this k hk
theorem n_and1 {a : Nat} (ha : a < 2147483648) : nI a &&& nI 1 = nI (a % 2) := pk_andN (k := 1) (by omega) (by decide)
theorem n_or (a b : Nat) : nI a ||| nI b = nI (a ||| b) := by
  apply Int32.toBitVec_inj.1
  show BitVec.ofNat 32 a ||| BitVec.ofNat 32 b = BitVec.ofNat 32 (a ||| b)
  apply BitVec.eq_of_getLsbD_eq
  intro i hi
  simp [hi]
theorem n_and (a b : Nat) : nI a &&& nI b = nI (a &&& b) := by
  apply Int32.toBitVec_inj.1
  show BitVec.ofNat 32 a &&& BitVec.ofNat 32 b = BitVec.ofNat 32 (a &&& b)
  apply BitVec.eq_of_getLsbD_eq
  intro i hi
  simp [hi]
end
section
/-! ===== methods by their ends; loads and stores by places in Nat ===== -/
section G2
variable {l : Launch} {D : va_G} {ka : Nat → ClassId} {y : MethodName} {cc : ByteArray} {nL : Nat} {d z mc ms : Nat} {av : List Value} {B : Heap → Prop} {ws : va_W}
theorem RO.ofI {post : Int32 → Prop} (hy : plainName y.cls = true) (hn : (lg_sl av).length ≤ nL) (body : ∀ (p : Program) (e : Env) (s : State) (m : MethodId) (args : Array Value) (below : List Frame) (meth : Method) (c : Code) (Q : State → Prop), Cx p s m args c cc nL y.cls D ka → B s.heap → (∀ (v : Int32) (pc : Nat) (ls : Array Slot), decode cc pc = .ok (.ireturn, 1) → post v → W p l e (rmz d 0 0) s m args below meth c s.heap [] 0 0 Q (F0 m pc ls [.int v])) → ∀ ls : Array Slot, lv_has ls nL (lv_args 0 av) → W p l e (rmz d 0 0) s m args below meth c s.heap [] 0 0 Q (F0 m 0 ls [])) : RO l D ka y cc nL (some .int) d av B (vp_Si post) :=
  RO.of hy hn (fun p e s m args below meth c X hr hlk hB ls hl => body p e s m args below meth c _ X hB (fun _ _ _ hdg hq => ro_iret X hr hlk hdg hq) ls hl)
theorem RO.ofZ {post : Int32 → Prop} (hy : plainName y.cls = true) (hn : (lg_sl av).length ≤ nL) (body : ∀ (p : Program) (e : Env) (s : State) (m : MethodId) (args : Array Value) (below : List Frame) (meth : Method) (c : Code) (Q : State → Prop), Cx p s m args c cc nL y.cls D ka → B s.heap → (∀ (v : Int32) (pc : Nat) (ls : Array Slot), decode cc pc = .ok (.ireturn, 1) → v = 0 ∨ v = 1 → post v → W p l e (rmz d 0 0) s m args below meth c s.heap [] 0 0 Q (F0 m pc ls [.int v])) → ∀ ls : Array Slot, lv_has ls nL (lv_args 0 av) → W p l e (rmz d 0 0) s m args below meth c s.heap [] 0 0 Q (F0 m 0 ls [])) : RO l D ka y cc nL (some .boolean) d av B (vp_Si post) :=
  RO.of hy hn (fun p e s m args below meth c X hr hlk hB ls hl => body p e s m args below meth c _ X hB (fun _ _ _ hdg hn hq => ro_zret X hr hlk hdg hn hq) ls hl)
theorem RO.ofL {post : Int64 → Prop} (hy : plainName y.cls = true) (hn : (lg_sl av).length ≤ nL) (body : ∀ (p : Program) (e : Env) (s : State) (m : MethodId) (args : Array Value) (below : List Frame) (meth : Method) (c : Code) (Q : State → Prop), Cx p s m args c cc nL y.cls D ka → B s.heap → (∀ (v : Int64) (pc : Nat) (ls : Array Slot), decode cc pc = .ok (.lreturn, 1) → post v → W p l e (rmz d 0 0) s m args below meth c s.heap [] 0 0 Q (F0 m pc ls [.long v])) → ∀ ls : Array Slot, lv_has ls nL (lv_args 0 av) → W p l e (rmz d 0 0) s m args below meth c s.heap [] 0 0 Q (F0 m 0 ls [])) : RO l D ka y cc nL (some .long) d av B (vp_Sl post) :=
  RO.of hy hn (fun p e s m args below meth c X hr hlk hB ls hl => body p e s m args below meth c _ X hB (fun _ _ _ hdg hq => ro_lret X hr hlk hdg hq) ls hl)
theorem RO.ofA {post : Option Nat → Prop} {rt : FieldType} (hrt : (∃ n, rt = .object n) ∨ ∃ t, rt = .array t) (hy : plainName y.cls = true) (hn : (lg_sl av).length ≤ nL) (body : ∀ (p : Program) (e : Env) (s : State) (m : MethodId) (args : Array Value) (below : List Frame) (meth : Method) (c : Code) (Q : State → Prop), Cx p s m args c cc nL y.cls D ka → B s.heap → (∀ (v : Option Nat) (pc : Nat) (ls : Array Slot), decode cc pc = .ok (.areturn, 1) → post v → W p l e (rmz d 0 0) s m args below meth c s.heap [] 0 0 Q (F0 m pc ls [va_rf v])) → ∀ ls : Array Slot, lv_has ls nL (lv_args 0 av) → W p l e (rmz d 0 0) s m args below meth c s.heap [] 0 0 Q (F0 m 0 ls [])) : RO l D ka y cc nL (some rt) d av B (va_Sq post) :=
  RO.of hy hn (fun p e s m args below meth c X hr hlk hB ls hl => body p e s m args below meth c _ X hB (fun v _ _ hdg hq => W.aret (v := va_rf v) X.1 X.2.1 hr hrt (va_rf_or v) (fun t ht _ => ⟨v, rfl, hq, ht⟩) (fun q h => by cases h) hdg hlk) ls hl)
theorem MU.ofI {post : Int32 → va_W → Prop} (hy : plainName y.cls = true) (hn : (lg_sl av).length ≤ nL) (body : ∀ (p : Program) (e : Env) (s : State) (m : MethodId) (args : Array Value) (below : List Frame) (meth : Method) (c : Code) (Q : State → Prop), Cx p s m args c cc nL y.cls D ka → wdH D z ws s.heap → va_S (fun q => z ≤ q) s.heap s.heap [] → (∀ (v : Int32) (pc : Nat) (ls : Array Slot) (H : Heap) (locs : List Loc) (cells slots : Nat) (w : va_W), decode cc pc = .ok (.ireturn, 1) → va_S (fun q => z ≤ q) s.heap H locs → wdH D z w H → cells ≤ mc → slots ≤ ms → post v w → W p l e (rmz d mc ms) s m args below meth c H locs cells slots Q (F0 m pc ls [.int v])) → ∀ ls : Array Slot, lv_has ls nL (lv_args 0 av) → W p l e (rmz d mc ms) s m args below meth c s.heap [] 0 0 Q (F0 m 0 ls [])) : MU l D ka z y cc nL (some .int) d mc ms av ws (Qi D z post) :=
  MU.of hy hn (fun p e s m args below meth c X hr hlk _ hw hS ls hl => body p e s m args below meth c _ X hw hS (fun _ _ _ _ _ _ _ _ hdg hS hw hc hs hq => mu_iret X hr hlk hdg hS hw hc hs hq) ls hl)
theorem MU.ofZ {post : Int32 → va_W → Prop} (hy : plainName y.cls = true) (hn : (lg_sl av).length ≤ nL) (body : ∀ (p : Program) (e : Env) (s : State) (m : MethodId) (args : Array Value) (below : List Frame) (meth : Method) (c : Code) (Q : State → Prop), Cx p s m args c cc nL y.cls D ka → wdH D z ws s.heap → va_S (fun q => z ≤ q) s.heap s.heap [] → (∀ (v : Int32) (pc : Nat) (ls : Array Slot) (H : Heap) (locs : List Loc) (cells slots : Nat) (w : va_W), decode cc pc = .ok (.ireturn, 1) → va_S (fun q => z ≤ q) s.heap H locs → wdH D z w H → cells ≤ mc → slots ≤ ms → v = 0 ∨ v = 1 → post v w → W p l e (rmz d mc ms) s m args below meth c H locs cells slots Q (F0 m pc ls [.int v])) → ∀ ls : Array Slot, lv_has ls nL (lv_args 0 av) → W p l e (rmz d mc ms) s m args below meth c s.heap [] 0 0 Q (F0 m 0 ls [])) : MU l D ka z y cc nL (some .boolean) d mc ms av ws (Qi D z post) :=
  MU.of hy hn (fun p e s m args below meth c X hr hlk _ hw hS ls hl => body p e s m args below meth c _ X hw hS (fun _ _ _ _ _ _ _ _ hdg hS hw hc hs hn hq => mu_zret X hr hlk hdg hS hw hc hs hn hq) ls hl)
theorem MU.ofL {post : Int64 → va_W → Prop} (hy : plainName y.cls = true) (hn : (lg_sl av).length ≤ nL) (body : ∀ (p : Program) (e : Env) (s : State) (m : MethodId) (args : Array Value) (below : List Frame) (meth : Method) (c : Code) (Q : State → Prop), Cx p s m args c cc nL y.cls D ka → wdH D z ws s.heap → va_S (fun q => z ≤ q) s.heap s.heap [] → (∀ (v : Int64) (pc : Nat) (ls : Array Slot) (H : Heap) (locs : List Loc) (cells slots : Nat) (w : va_W), decode cc pc = .ok (.lreturn, 1) → va_S (fun q => z ≤ q) s.heap H locs → wdH D z w H → cells ≤ mc → slots ≤ ms → post v w → W p l e (rmz d mc ms) s m args below meth c H locs cells slots Q (F0 m pc ls [.long v])) → ∀ ls : Array Slot, lv_has ls nL (lv_args 0 av) → W p l e (rmz d mc ms) s m args below meth c s.heap [] 0 0 Q (F0 m 0 ls [])) : MU l D ka z y cc nL (some .long) d mc ms av ws (Ql D z post) :=
  MU.of hy hn (fun p e s m args below meth c X hr hlk _ hw hS ls hl => body p e s m args below meth c _ X hw hS (fun _ _ _ _ _ _ _ _ hdg hS hw hc hs hq => mu_lret X hr hlk hdg hS hw hc hs hq) ls hl)
theorem MU.ofV {post : va_W → Prop} (hy : plainName y.cls = true) (hn : (lg_sl av).length ≤ nL) (body : ∀ (p : Program) (e : Env) (s : State) (m : MethodId) (args : Array Value) (below : List Frame) (meth : Method) (c : Code) (Q : State → Prop), Cx p s m args c cc nL y.cls D ka → (y.name = "<init>" → meth.name = "<init>") → wdH D z ws s.heap → va_S (fun q => z ≤ q) s.heap s.heap [] → (∀ (pc : Nat) (ls : Array Slot) (H : Heap) (locs : List Loc) (cells slots : Nat) (w : va_W), decode cc pc = .ok (.return_, 1) → va_S (fun q => z ≤ q) s.heap H locs → wdH D z w H → cells ≤ mc → slots ≤ ms → post w → W p l e (rmz d mc ms) s m args below meth c H locs cells slots Q (F0 m pc ls [])) → ∀ ls : Array Slot, lv_has ls nL (lv_args 0 av) → W p l e (rmz d mc ms) s m args below meth c s.heap [] 0 0 Q (F0 m 0 ls [])) : MU l D ka z y cc nL none d mc ms av ws (Qv D z post) :=
  MU.of hy hn (fun p e s m args below meth c X hr hlk hi hw hS ls hl => body p e s m args below meth c _ X hi hw hS (fun _ _ _ _ _ _ _ hdg hS hw hc hs hq => mu_vret X hr hlk hdg hS hw hc hs hq) ls hl)
theorem MU.ofR {post : va_W → Nat → Prop} {rt : FieldType} (hrt : (∃ n, rt = .object n) ∨ ∃ t, rt = .array t) (hy : plainName y.cls = true) (hn : (lg_sl av).length ≤ nL) (body : ∀ (p : Program) (e : Env) (s : State) (m : MethodId) (args : Array Value) (below : List Frame) (meth : Method) (c : Code) (Q : State → Prop), Cx p s m args c cc nL y.cls D ka → wdH D z ws s.heap → va_S (fun q => z ≤ q) s.heap s.heap [] → (∀ (v : Nat) (pc : Nat) (ls : Array Slot) (H : Heap) (locs : List Loc) (cells slots : Nat) (w : va_W), decode cc pc = .ok (.areturn, 1) → va_S (fun q => z ≤ q) s.heap H locs → wdH D z w H → cells ≤ mc → slots ≤ ms → post w v → W p l e (rmz d mc ms) s m args below meth c H locs cells slots Q (F0 m pc ls [.ref v])) → ∀ ls : Array Slot, lv_has ls nL (lv_args 0 av) → W p l e (rmz d mc ms) s m args below meth c s.heap [] 0 0 Q (F0 m 0 ls [])) : MU l D ka z y cc nL (some rt) d mc ms av ws (Qr D z post) :=
  MU.of hy hn (fun p e s m args below meth c X hr hlk _ hw hS ls hl => body p e s m args below meth c _ X hw hS (fun v _ _ _ _ _ _ w hdg hS hw hc hs hq => W.widen hc hs (W.aret (v := .ref v) X.1 X.2.1 hr hrt (Or.inr ⟨v, rfl⟩) (fun t ht _ => ⟨⟨w, v, rfl, trivial, hq, by show wdH D z w t.heap; rw [ht]; exact hw⟩, hS.F ht⟩) hS.2.2 hdg hlk)) ls hl)
end G2
section G3
variable {p : Program} {l : Launch} {e : Env} {R : Room} {s : State} {m : MethodId} {args : Array Value} {below : List Frame} {meth : Method} {c : Code} {H : Heap} {locs : List Loc} {cells slots : Nat} {Q : State → Prop}
variable {cc : ByteArray} {pc : Nat} {ls : Array Slot} {rest : List Value} {D : va_G} {cl : List vw_C} {A : Nat → Prop} {a : Nat} {tys : List (ClassId × FieldType)} {ws : va_W} {H0 : Heap}
theorem n_iald (hexec : p.tables.exec = Jvm.exec) (hb : c.code = cc) (hK : va_K D cl tys s) (hP : va_P D cl ws H) (q0 t0 : Nat) {cA : ClassId} {n : Nat} {f : Nat → Int32} (ha : ws[q0]? = some (a, .inl (cA, n, .inl f))) (ht : tys[t0]? = some (cA, .int)) {k : Nat} (hk : k < n) (hn : n < 2147483648) (hdg : decode cc pc = .ok (.iaload, 1))
    (kk : W p l e R s m args below meth c H locs cells slots Q (F0 m (pc + 1) ls (.int (f k) :: rest))) : W p l e R s m args below meth c H locs cells slots Q (F0 m pc ls (.int (nI k) :: .ref a :: rest)) :=
  va_iald hexec hb hK hP q0 t0 ha ht (vp_in_nI hk hn) hdg (by rw [cl_nI (by omega)]; exact kk)
theorem n_iast (hexec : p.tables.exec = Jvm.exec) (hb : c.code = cc) (hK : va_K D cl tys s) (hP : va_P D cl ws H) (hD : va_D A ws) (hS : va_S A H0 H locs) (q0 t0 : Nat) {cA : ClassId} {n : Nat} {φ : Nat → Int32} {u : Nat → Nat} (ha : ws[q0]? = some (a, .inl (cA, n, .inl (fun j => φ (u j))))) (ht : tys[t0]? = some (cA, .int)) {k v : Nat} (hk : k < n) (hn : n < 2147483648) (hdg : decode cc pc = .ok (.iastore, 1))
    (kk : ∀ (H1 : Heap) (locs1 : List Loc), va_P D cl (ws.set q0 (a, .inl (cA, n, .inl (fun j => φ (upN u k v j))))) H1 → va_D A (ws.set q0 (a, .inl (cA, n, .inl (fun j => φ (upN u k v j))))) → va_S A H0 H1 locs1 → W p l e R s m args below meth c H1 locs1 cells slots Q (F0 m (pc + 1) ls rest)) : W p l e R s m args below meth c H locs cells slots Q (F0 m pc ls (.int (φ v) :: .int (nI k) :: .ref a :: rest)) :=
  va_iast hexec hb hK hP hD hS q0 t0 ha ht (vp_in_nI hk hn) hdg (by rw [cl_nI (by omega), upd_phi]; exact kk)
theorem r_iast (hexec : p.tables.exec = Jvm.exec) (hb : c.code = cc) (hK : va_K D cl tys s) (hP : va_P D cl ws H) (hD : va_D A ws) (hS : va_S A H0 H locs) (q0 t0 : Nat) {cA : ClassId} {n : Nat} {f : Nat → Int32} (ha : ws[q0]? = some (a, .inl (cA, n, .inl f))) (ht : tys[t0]? = some (cA, .int)) {k : Nat} {x : Int32} (hk : k < n) (hn : n < 2147483648) (hdg : decode cc pc = .ok (.iastore, 1))
    (kk : ∀ (H1 : Heap) (locs1 : List Loc), va_P D cl (ws.set q0 (a, .inl (cA, n, .inl (upd f k x)))) H1 → va_D A (ws.set q0 (a, .inl (cA, n, .inl (upd f k x)))) → va_S A H0 H1 locs1 → W p l e R s m args below meth c H1 locs1 cells slots Q (F0 m (pc + 1) ls rest)) : W p l e R s m args below meth c H locs cells slots Q (F0 m pc ls (.int x :: .int (nI k) :: .ref a :: rest)) :=
  va_iast hexec hb hK hP hD hS q0 t0 ha ht (vp_in_nI hk hn) hdg (by rw [cl_nI (by omega)]; exact kk)
theorem n_aald (hexec : p.tables.exec = Jvm.exec) (hb : c.code = cc) (hK : va_K D cl tys s) (hP : va_P D cl ws H) (q0 t0 : Nat) {cA : ClassId} {C : String} {n : Nat} {f : Nat → Option Nat} (ha : ws[q0]? = some (a, .inl (cA, n, .inr (.inr (.inr (.inr f)))))) (ht : tys[t0]? = some (cA, .object C)) {k : Nat} (hk : k < n) (hn : n < 2147483648) (hdg : decode cc pc = .ok (.aaload, 1))
    (kk : W p l e R s m args below meth c H locs cells slots Q (F0 m (pc + 1) ls (va_rf (f k) :: rest))) : W p l e R s m args below meth c H locs cells slots Q (F0 m pc ls (.int (nI k) :: .ref a :: rest)) :=
  va_aldq hexec hb hK hP q0 t0 ha ht (vp_in_nI hk hn) hdg (by rw [cl_nI (by omega)]; exact kk)
end G3
end
section
theorem on_X0_init : okName yX0_init 0 := by decide +kernel
theorem on_X0_tells : okName yX0_tells 1 := by decide +kernel
theorem on_X0_readPairs : okName yX0_readPairs 4 := by decide +kernel
theorem on_X0_answer : okName yX0_answer 2 := by decide +kernel
theorem on_X0_firstWrong : okName yX0_firstWrong 0 := by decide +kernel
theorem on_X0_isStillIn : okName yX0_isStillIn 1 := by decide +kernel
theorem on_X0_minutesOfAll : okName yX0_minutesOfAll 0 := by decide +kernel
theorem on_X0_minutesOf : okName yX0_minutesOf 1 := by decide +kernel
theorem on_X0_latestEnd : okName yX0_latestEnd 0 := by decide +kernel
theorem on_X0_mostAtOnce : okName yX0_mostAtOnce 0 := by decide +kernel
theorem on_X0_inAt : okName yX0_inAt 1 := by decide +kernel
theorem on_X1_init : okName yX1_init 0 := by decide +kernel
theorem on_X1_readAll : okName yX1_readAll 3 := by decide +kernel
theorem on_X1_swap : okName yX1_swap 1 := by decide +kernel
theorem on_X1_takes : okName yX1_takes 1 := by decide +kernel
theorem on_X1_goesOn : okName yX1_goesOn 2 := by decide +kernel
theorem on_X1_takesGloom : okName yX1_takesGloom 1 := by decide +kernel
theorem on_X1_takesKind : okName yX1_takesKind 1 := by decide +kernel
theorem on_X1_takesTens : okName yX1_takesTens 1 := by decide +kernel
theorem on_X1_takesOnes : okName yX1_takesOnes 1 := by decide +kernel
theorem on_X1_takesMind : okName yX1_takesMind 1 := by decide +kernel
theorem on_X1_takesBehindTaker : okName yX1_takesBehindTaker 1 := by decide +kernel
theorem on_X1_takesGood : okName yX1_takesGood 1 := by decide +kernel
theorem on_X1_isDigit : okName yX1_isDigit 1 := by decide +kernel
theorem on_X2_init : okName yX2_init 0 := by decide +kernel
theorem on_X2_add : okName yX2_add 3 := by decide +kernel
theorem on_X2_allAreSo : okName yX2_allAreSo 1 := by decide +kernel
theorem on_X3_init : okName yX3_init 2 := by decide +kernel
theorem on_X3_hasCells : okName yX3_hasCells 2 := by decide +kernel
theorem on_X3_cut : okName yX3_cut 1 := by decide +kernel
theorem on_X4_init : okName yX4_init 0 := by decide +kernel
theorem on_X4_weigh : okName yX4_weigh 2 := by decide +kernel
theorem on_X4_mostWith : okName yX4_mostWith 3 := by decide +kernel
theorem on_X4_isFree : okName yX4_isFree 3 := by decide +kernel
theorem on_X4_withGood : okName yX4_withGood 4 := by decide +kernel
theorem on_X4_most : okName yX4_most 0 := by decide +kernel
theorem on_X4_goodOf : okName yX4_goodOf 2 := by decide +kernel
theorem on_X4_firstGood : okName yX4_firstGood 3 := by decide +kernel
theorem on_X5_init : okName yX5_init 3 := by decide +kernel
theorem on_X5_kindNumber : okName yX5_kindNumber 0 := by decide +kernel
theorem on_X5_drainBy : okName yX5_drainBy 1 := by decide +kernel
theorem on_X5_telling : okName yX5_telling 1 := by decide +kernel
theorem on_X6_init : okName yX6_init 3 := by decide +kernel
theorem on_X6_kindNumber : okName yX6_kindNumber 0 := by decide +kernel
theorem on_X6_drainBy : okName yX6_drainBy 1 := by decide +kernel
theorem on_X6_telling : okName yX6_telling 1 := by decide +kernel
theorem on_X6_takersTelling : okName yX6_takersTelling 1 := by decide +kernel
theorem on_X6_rung : okName yX6_rung 1 := by decide +kernel
theorem on_X7_init : okName yX7_init 0 := by decide +kernel
theorem on_X7_leave : okName yX7_leave 1 := by decide +kernel
theorem on_X8_init : okName yX8_init 0 := by decide +kernel
theorem on_X8_clear : okName yX8_clear 0 := by decide +kernel
theorem on_X8_stands : okName yX8_stands 0 := by decide +kernel
theorem on_X8_isPlace : okName yX8_isPlace 1 := by decide +kernel
theorem on_X8_isGood : okName yX8_isGood 1 := by decide +kernel
theorem on_X8_takerAt : okName yX8_takerAt 1 := by decide +kernel
theorem on_X8_weightIn : okName yX8_weightIn 1 := by decide +kernel
theorem on_X8_heldAlone : okName yX8_heldAlone 2 := by decide +kernel
theorem on_X8_heldInPair : okName yX8_heldInPair 2 := by decide +kernel
theorem on_X8_heldByTwo : okName yX8_heldByTwo 3 := by decide +kernel
theorem on_X8_bestPlace : okName yX8_bestPlace 1 := by decide +kernel
theorem on_X8_bestFriend : okName yX8_bestFriend 2 := by decide +kernel
theorem on_X8_goodsGot : okName yX8_goodsGot 2 := by decide +kernel
theorem on_X8_setsHeld : okName yX8_setsHeld 2 := by decide +kernel
theorem on_X8_drainIfOnly : okName yX8_drainIfOnly 3 := by decide +kernel
theorem on_X9_init : okName yX9_init 3 := by decide +kernel
theorem on_X9_kindNumber : okName yX9_kindNumber 0 := by decide +kernel
theorem on_X9_drainBy : okName yX9_drainBy 1 := by decide +kernel
theorem on_X9_telling : okName yX9_telling 1 := by decide +kernel
theorem on_X9_rung : okName yX9_rung 1 := by decide +kernel
theorem on_X10_init : okName yX10_init 0 := by decide +kernel
theorem on_X10_vault : okName yX10_vault 4 := by decide +kernel
theorem on_X10_ofTaker : okName yX10_ofTaker 2 := by decide +kernel
theorem on_X10_depth : okName yX10_depth 1 := by decide +kernel
theorem on_X10_gloom : okName yX10_gloom 1 := by decide +kernel
theorem on_X10_hush : okName yX10_hush 2 := by decide +kernel
theorem on_X10_think : okName yX10_think 2 := by decide +kernel
theorem on_X10_brace : okName yX10_brace 2 := by decide +kernel
theorem on_X10_drain : okName yX10_drain 2 := by decide +kernel
theorem on_X10_holds : okName yX10_holds 2 := by decide +kernel
theorem on_X10_best : okName yX10_best 2 := by decide +kernel
theorem on_X10_together : okName yX10_together 3 := by decide +kernel
theorem on_X10_friend : okName yX10_friend 2 := by decide +kernel
theorem on_X10_night : okName yX10_night 5 := by decide +kernel
theorem on_X10_gets : okName yX10_gets 2 := by decide +kernel
theorem on_X10_send : okName yX10_send 2 := by decide +kernel
theorem on_X10_reading : okName yX10_reading 3 := by decide +kernel
theorem on_X10_back : okName yX10_back 1 := by decide +kernel
theorem on_X10_minds : okName yX10_minds 1 := by decide +kernel
theorem on_X10_kinds : okName yX10_kinds 1 := by decide +kernel
theorem on_X10_glooms : okName yX10_glooms 1 := by decide +kernel
theorem on_X10_odds : okName yX10_odds 3 := by decide +kernel
theorem on_X10_sheet : okName yX10_sheet 3 := by decide +kernel
theorem on_X10_lose : okName yX10_lose 1 := by decide +kernel
theorem on_X10_put : okName yX10_put 3 := by decide +kernel
theorem on_X10_cell : okName yX10_cell 3 := by decide +kernel
theorem on_X10_copy : okName yX10_copy 5 := by decide +kernel
theorem on_X10_tell : okName yX10_tell 1 := by decide +kernel
theorem on_X10_ring : okName yX10_ring 1 := by decide +kernel
theorem on_X10_as : okName yX10_as 2 := by decide +kernel
theorem on_X10_trace : okName yX10_trace 0 := by decide +kernel
theorem on_X10_fault : okName yX10_fault 0 := by decide +kernel
theorem on_X10_many : okName yX10_many 1 := by decide +kernel
theorem on_X10_faulted : okName yX10_faulted 1 := by decide +kernel
theorem on_X10_lost : okName yX10_lost 1 := by decide +kernel
theorem on_X10_isSheet : okName yX10_isSheet 1 := by decide +kernel
theorem on_X10_isLane : okName yX10_isLane 1 := by decide +kernel
theorem on_X10_isMinute : okName yX10_isMinute 1 := by decide +kernel
theorem on_X10_newTaker : okName yX10_newTaker 4 := by decide +kernel
theorem on_X11_init : okName yX11_init 0 := by decide +kernel
theorem on_X11_fails : okName yX11_fails 1 := by decide +kernel
theorem on_X11_lost : okName yX11_lost 1 := by decide +kernel
theorem on_X11_within : okName yX11_within 3 := by decide +kernel
theorem on_X11_isSheet : okName yX11_isSheet 1 := by decide +kernel
theorem on_X11_isSort : okName yX11_isSort 1 := by decide +kernel
theorem on_X11_against : okName yX11_against 4 := by decide +kernel
theorem on_X11_isTaker : okName yX11_isTaker 1 := by decide +kernel
theorem on_X11_isPlace : okName yX11_isPlace 1 := by decide +kernel
theorem on_X11_digit : okName yX11_digit 2 := by decide +kernel
theorem on_X11_isSign : okName yX11_isSign 2 := by decide +kernel
theorem on_X11_vault : okName yX11_vault 4 := by decide +kernel
theorem on_X11_takeVault : okName yX11_takeVault 0 := by decide +kernel
theorem on_X11_readVault : okName yX11_readVault 1 := by decide +kernel
theorem on_X11_readTheGloom : okName yX11_readTheGloom 1 := by decide +kernel
theorem on_X11_readTaker : okName yX11_readTaker 1 := by decide +kernel
theorem on_X11_readTheGoods : okName yX11_readTheGoods 1 := by decide +kernel
theorem on_X11_ofTaker : okName yX11_ofTaker 2 := by decide +kernel
theorem on_X11_depth : okName yX11_depth 1 := by decide +kernel
theorem on_X11_gloom : okName yX11_gloom 1 := by decide +kernel
theorem on_X11_hush : okName yX11_hush 2 := by decide +kernel
theorem on_X11_think : okName yX11_think 2 := by decide +kernel
theorem on_X11_brace : okName yX11_brace 2 := by decide +kernel
theorem on_X11_drainOf : okName yX11_drainOf 2 := by decide +kernel
theorem on_X11_drain : okName yX11_drain 2 := by decide +kernel
theorem on_X11_holdsBy : okName yX11_holdsBy 3 := by decide +kernel
theorem on_X11_isMinute : okName yX11_isMinute 1 := by decide +kernel
theorem on_X11_holds : okName yX11_holds 2 := by decide +kernel
theorem on_X11_best : okName yX11_best 2 := by decide +kernel
theorem on_X11_bothHold : okName yX11_bothHold 3 := by decide +kernel
theorem on_X11_together : okName yX11_together 3 := by decide +kernel
theorem on_X11_friend : okName yX11_friend 2 := by decide +kernel
theorem on_X11_goNight : okName yX11_goNight 2 := by decide +kernel
theorem on_X11_night : okName yX11_night 5 := by decide +kernel
theorem on_X11_tellNight : okName yX11_tellNight 1 := by decide +kernel
theorem on_X11_getsOf : okName yX11_getsOf 2 := by decide +kernel
theorem on_X11_gets : okName yX11_gets 2 := by decide +kernel
theorem on_X11_worthOfRow : okName yX11_worthOfRow 0 := by decide +kernel
theorem on_X11_findSend : okName yX11_findSend 1 := by decide +kernel
theorem on_X11_send : okName yX11_send 2 := by decide +kernel
theorem on_X11_reading : okName yX11_reading 3 := by decide +kernel
theorem on_X11_back : okName yX11_back 1 := by decide +kernel
theorem on_X11_areSo : okName yX11_areSo 0 := by decide +kernel
theorem on_X11_minds : okName yX11_minds 1 := by decide +kernel
theorem on_X11_kinds : okName yX11_kinds 1 := by decide +kernel
theorem on_X11_glooms : okName yX11_glooms 1 := by decide +kernel
theorem on_X11_inLeastTerms : okName yX11_inLeastTerms 3 := by decide +kernel
theorem on_X11_odds : okName yX11_odds 3 := by decide +kernel
theorem on_X11_sheet : okName yX11_sheet 3 := by decide +kernel
theorem on_X11_lose : okName yX11_lose 1 := by decide +kernel
theorem on_X11_put : okName yX11_put 3 := by decide +kernel
theorem on_X11_cell : okName yX11_cell 3 := by decide +kernel
theorem on_X11_copy : okName yX11_copy 5 := by decide +kernel
theorem on_X11_begins : okName yX11_begins 1 := by decide +kernel
theorem on_X11_tell : okName yX11_tell 1 := by decide +kernel
theorem on_X11_ring : okName yX11_ring 1 := by decide +kernel
theorem on_X11_as : okName yX11_as 2 := by decide +kernel
theorem on_X11_trace : okName yX11_trace 0 := by decide +kernel
theorem on_X11_fault : okName yX11_fault 0 := by decide +kernel
theorem on_X11_many : okName yX11_many 1 := by decide +kernel
theorem on_J9_max_7cf53 : okName yJ9_max_7cf53 2 := by decide +kernel
theorem on_J9_min_7cf53 : okName yJ9_min_7cf53 2 := by decide +kernel
theorem on_L_law : okName yL_law 1 := by decide +kernel
end
section
set_option maxRecDepth 100000 in
set_option maxHeartbeats 4000000 in
theorem c_X11_within (l : Launch) (D : va_G) (ka : Nat → ClassId) (v lo hi : Int32) (V L U : Int) (hv : v.toInt = V) (hlo : lo.toInt = L) (hhi : hi.toInt = U) : RO l D ka yX11_within cX11_within 3 (some .boolean) 0 [.int v, .int lo, .int hi] (fun H => True) (vp_Si (fun r => r = bI (L ≤ V ∧ V ≤ U))) := by
  refine RO.ofZ (by decide) (Nat.le_of_ble_eq_true rfl) ?_
  intro p e s m args below meth c Q X hP hret ls hl
  obtain ⟨hx, hb, hml, hown, hts, hE⟩ := id X
  have hK := hE.1
  have hl : lv_has ls 3 [(0, .int v), (1, .int lo), (2, .int hi)] := hl
  refine lv_iload_n hx hb dX11_within_0 rfl (lv_at hl 0 rfl) ?_
  refine lv_iload_n hx hb dX11_within_1 rfl (lv_at hl 1 rfl) ?_
  refine i_icmp_lt (tgt := 14) hx hb hv hlo dX11_within_2 (by decide) (fun c_1 => ?_) (fun c_1 => ?_)
  · refine lv_iconst (v := nI 0) hx hb dX11_within_14 (by decide) ?_
    refine hret _ _ _ dX11_within_15 (by decide) ?_
    exact (bI_f (by omega)).symm
  · refine lv_iload_n hx hb dX11_within_5 rfl (lv_at hl 0 rfl) ?_
    refine lv_iload_n hx hb dX11_within_6 rfl (lv_at hl 2 rfl) ?_
    refine i_icmp_gt (tgt := 14) hx hb hv hhi dX11_within_7 (by decide) (fun c_2 => ?_) (fun c_2 => ?_)
    · refine lv_iconst (v := nI 0) hx hb dX11_within_14 (by decide) ?_
      refine hret _ _ _ dX11_within_15 (by decide) ?_
      exact (bI_f (by omega)).symm
    · refine lv_iconst (v := nI 1) hx hb dX11_within_10 (by decide) ?_
      refine lv_goto (tgt := 15) hx hb dX11_within_11 (by decide) ?_
      refine hret _ _ _ dX11_within_15 (by decide) ?_
      exact (bI_t (by omega)).symm
set_option maxRecDepth 100000 in
set_option maxHeartbeats 4000000 in
theorem c_X11_isSheet (l : Launch) (D : va_G) (ka : Nat → ClassId) (v : Int32) (V : Int) (hv : v.toInt = V) : RO l D ka yX11_isSheet cX11_isSheet 1 (some .boolean) 1 [.int v] (fun H => True) (vp_Si (fun r => r = bI (0 ≤ V ∧ V ≤ 3))) := by
  refine RO.ofZ (by decide) (Nat.le_of_ble_eq_true rfl) ?_
  intro p e s m args below meth c Q X hP hret ls hl
  obtain ⟨hx, hb, hml, hown, hts, hE⟩ := id X
  have hK := hE.1
  have hl : lv_has ls 1 [(0, .int v)] := hl
  refine lv_iload_n hx hb dX11_isSheet_0 rfl (lv_at hl 0 rfl) ?_
  refine lv_iconst (v := nI 0) hx hb dX11_isSheet_1 (by decide) ?_
  refine lv_iconst (v := nI 3) hx hb dX11_isSheet_2 (by decide) ?_
  refine vp_callSi (ro_runS (c_X11_within l D ka v (nI 0) (nI 3) _ _ _ hv (nT (by decide)) (nT (by decide))) X wd_780 wd_778 wd_779 wd_8 on_X11_within ⟨Nat.le_of_ble_eq_true rfl, Nat.le_of_ble_eq_true rfl⟩ trivial hl.1 rfl (Nat.le_of_ble_eq_true rfl) ⟨(Nat.zero_le _), (Nat.zero_le _)⟩ dX11_isSheet_3) (fun r_1 hr_1 => ?_)
  subst hr_1
  refine hret _ _ _ dX11_isSheet_6 bI_01 ?_
  exact bI_congr (by omega)
set_option maxRecDepth 100000 in
set_option maxHeartbeats 4000000 in
theorem c_X11_isSort (l : Launch) (D : va_G) (ka : Nat → ClassId) (v : Int32) (V : Int) (hv : v.toInt = V) : RO l D ka yX11_isSort cX11_isSort 1 (some .boolean) 1 [.int v] (fun H => True) (vp_Si (fun r => r = bI (0 ≤ V ∧ V ≤ 2))) := by
  refine RO.ofZ (by decide) (Nat.le_of_ble_eq_true rfl) ?_
  intro p e s m args below meth c Q X hP hret ls hl
  obtain ⟨hx, hb, hml, hown, hts, hE⟩ := id X
  have hK := hE.1
  have hl : lv_has ls 1 [(0, .int v)] := hl
  refine lv_iload_n hx hb dX11_isSort_0 rfl (lv_at hl 0 rfl) ?_
  refine lv_iconst (v := nI 0) hx hb dX11_isSort_1 (by decide) ?_
  refine lv_iconst (v := nI 2) hx hb dX11_isSort_2 (by decide) ?_
  refine vp_callSi (ro_runS (c_X11_within l D ka v (nI 0) (nI 2) _ _ _ hv (nT (by decide)) (nT (by decide))) X wd_780 wd_778 wd_779 wd_8 on_X11_within ⟨Nat.le_of_ble_eq_true rfl, Nat.le_of_ble_eq_true rfl⟩ trivial hl.1 rfl (Nat.le_of_ble_eq_true rfl) ⟨(Nat.zero_le _), (Nat.zero_le _)⟩ dX11_isSort_3) (fun r_1 hr_1 => ?_)
  subst hr_1
  refine hret _ _ _ dX11_isSort_6 bI_01 ?_
  exact bI_congr (by omega)
set_option maxRecDepth 100000 in
set_option maxHeartbeats 4000000 in
theorem c_X11_isMinute (l : Launch) (D : va_G) (ka : Nat → ClassId) (v : Int32) (V : Int) (hv : v.toInt = V) : RO l D ka yX11_isMinute cX11_isMinute 1 (some .boolean) 1 [.int v] (fun H => True) (vp_Si (fun r => r = bI (0 ≤ V ∧ V ≤ 59))) := by
  refine RO.ofZ (by decide) (Nat.le_of_ble_eq_true rfl) ?_
  intro p e s m args below meth c Q X hP hret ls hl
  obtain ⟨hx, hb, hml, hown, hts, hE⟩ := id X
  have hK := hE.1
  have hl : lv_has ls 1 [(0, .int v)] := hl
  refine lv_iload_n hx hb dX11_isMinute_0 rfl (lv_at hl 0 rfl) ?_
  refine lv_iconst (v := nI 0) hx hb dX11_isMinute_1 (by decide) ?_
  refine lv_bipush (v := nI 59) hx hb dX11_isMinute_2 (by decide) ?_
  refine vp_callSi (ro_runS (c_X11_within l D ka v (nI 0) (nI 59) _ _ _ hv (nT (by decide)) (nT (by decide))) X wd_780 wd_778 wd_779 wd_8 on_X11_within ⟨Nat.le_of_ble_eq_true rfl, Nat.le_of_ble_eq_true rfl⟩ trivial hl.1 rfl (Nat.le_of_ble_eq_true rfl) ⟨(Nat.zero_le _), (Nat.zero_le _)⟩ dX11_isMinute_4) (fun r_1 hr_1 => ?_)
  subst hr_1
  refine hret _ _ _ dX11_isMinute_7 bI_01 ?_
  exact bI_congr (by omega)
set_option maxRecDepth 100000 in
set_option maxHeartbeats 4000000 in
theorem c_X11_isTaker (l : Launch) (D : va_G) (ka : Nat → ClassId) (h : Nat) (a : Nat → Nat) (N : Nat → Nat → Nat) (C : Nat → Nat → Int32) (f : Nat → Int32) (g : Nat → Nat → Int32) (R : va_W) (k : Int32) (K : Int) (hk : k.toInt = K) (hN : WF N) : RO l D ka yX11_isTaker cX11_isTaker 2 (some .boolean) 0 [.ref h, .int k] (fun H => va_P D vwCl (mw ka h a N C f g ++ R) H) (vp_Si (fun r => r = bI (0 ≤ K ∧ K < (N 0 1 : Int)))) := by
  refine RO.ofZ (by decide) (Nat.le_of_ble_eq_true rfl) ?_
  intro p e s m args below meth c Q X hP hret ls hl
  obtain ⟨hx, hb, hml, hown, hts, hE⟩ := id X
  have hK := hE.1
  have hl : lv_has ls 2 [(0, .ref h), (1, .int k)] := hl
  have hN1 := hN.1
  refine lv_iload_n hx hb dX11_isTaker_0 rfl (lv_at hl 1 rfl) ?_
  refine i_if_lt (tgt := 16) hx hb hk dX11_isTaker_1 (by decide) (fun c_1 => ?_) (fun c_1 => ?_)
  · refine lv_iconst (v := nI 0) hx hb dX11_isTaker_16 (by decide) ?_
    refine hret _ _ _ dX11_isTaker_17 (by decide) ?_
    exact (bI_f (by omega)).symm
  · refine lv_iload_n hx hb dX11_isTaker_4 rfl (lv_at hl 1 rfl) ?_
    refine lv_aload_n hx hb dX11_isTaker_5 rfl (lv_at hl 0 rfl) ?_
    refine va_get (D := D) (ci := 11) (v := .int (nI (N 0 1))) (C := RX11) (T := TX11) (N := 35) hx hb hts inX11 hown hK hP 0 rfl rfl 6 (by decide) (hts _ wd_671) (fun _ h9 => h9) rfl dX11_isTaker_6 ?_
    refine i_icmp_ge (tgt := 16) hx hb hk (nT (by omega)) dX11_isTaker_9 (by decide) (fun c_2 => ?_) (fun c_2 => ?_)
    · refine lv_iconst (v := nI 0) hx hb dX11_isTaker_16 (by decide) ?_
      refine hret _ _ _ dX11_isTaker_17 (by decide) ?_
      exact (bI_f (by omega)).symm
    · refine lv_iconst (v := nI 1) hx hb dX11_isTaker_12 (by decide) ?_
      refine lv_goto (tgt := 17) hx hb dX11_isTaker_13 (by decide) ?_
      refine hret _ _ _ dX11_isTaker_17 (by decide) ?_
      exact (bI_t (by omega)).symm
set_option maxRecDepth 100000 in
set_option maxHeartbeats 4000000 in
theorem c_X11_isPlace (l : Launch) (D : va_G) (ka : Nat → ClassId) (h : Nat) (a : Nat → Nat) (N : Nat → Nat → Nat) (C : Nat → Nat → Int32) (f : Nat → Int32) (g : Nat → Nat → Int32) (R : va_W) (k : Int32) (K : Int) (hk : k.toInt = K) (hN : WF N) : RO l D ka yX11_isPlace cX11_isPlace 2 (some .boolean) 0 [.ref h, .int k] (fun H => va_P D vwCl (mw ka h a N C f g ++ R) H) (vp_Si (fun r => r = bI (0 ≤ K ∧ K < (N 0 0 : Int)))) := by
  refine RO.ofZ (by decide) (Nat.le_of_ble_eq_true rfl) ?_
  intro p e s m args below meth c Q X hP hret ls hl
  obtain ⟨hx, hb, hml, hown, hts, hE⟩ := id X
  have hK := hE.1
  have hl : lv_has ls 2 [(0, .ref h), (1, .int k)] := hl
  have hN1 := hN.1
  refine lv_iload_n hx hb dX11_isPlace_0 rfl (lv_at hl 1 rfl) ?_
  refine i_if_lt (tgt := 16) hx hb hk dX11_isPlace_1 (by decide) (fun c_1 => ?_) (fun c_1 => ?_)
  · refine lv_iconst (v := nI 0) hx hb dX11_isPlace_16 (by decide) ?_
    refine hret _ _ _ dX11_isPlace_17 (by decide) ?_
    exact (bI_f (by omega)).symm
  · refine lv_iload_n hx hb dX11_isPlace_4 rfl (lv_at hl 1 rfl) ?_
    refine lv_aload_n hx hb dX11_isPlace_5 rfl (lv_at hl 0 rfl) ?_
    refine va_get (D := D) (ci := 11) (v := .int (nI (N 0 0))) (C := RX11) (T := TX11) (N := 35) hx hb hts inX11 hown hK hP 0 rfl rfl 5 (by decide) (hts _ wd_670) (fun _ h9 => h9) rfl dX11_isPlace_6 ?_
    refine i_icmp_ge (tgt := 16) hx hb hk (nT (by omega)) dX11_isPlace_9 (by decide) (fun c_2 => ?_) (fun c_2 => ?_)
    · refine lv_iconst (v := nI 0) hx hb dX11_isPlace_16 (by decide) ?_
      refine hret _ _ _ dX11_isPlace_17 (by decide) ?_
      exact (bI_f (by omega)).symm
    · refine lv_iconst (v := nI 1) hx hb dX11_isPlace_12 (by decide) ?_
      refine lv_goto (tgt := 17) hx hb dX11_isPlace_13 (by decide) ?_
      refine hret _ _ _ dX11_isPlace_17 (by decide) ?_
      exact (bI_t (by omega)).symm
set_option maxRecDepth 100000 in
set_option maxHeartbeats 4000000 in
theorem c_X11_against (l : Launch) (D : va_G) (ka : Nat → ClassId) (h : Nat) (a : Nat → Nat) (N : Nat → Nat → Nat) (C : Nat → Nat → Int32) (f : Nat → Int32) (g : Nat → Nat → Int32) (R : va_W) (k q : Nat) (i n : Int32) (I n2 : Int) (hi : i.toInt = I) (hn : n.toInt = n2) (hk : k < 4) (hq : q < 3) (hN : WF N) : RO l D ka yX11_against cX11_against 5 (some .int) 0 [.ref h, .int (nI k), .int (nI q), .int i, .int n] (fun H => va_P D vwCl (mw ka h a N C f g ++ R) H) (vp_Si (fun r => r = nI (agst N k q I n2))) := by
  refine RO.ofI (by decide) (Nat.le_of_ble_eq_true rfl) ?_
  intro p e s m args below meth c Q X hP hret ls hl
  obtain ⟨hx, hb, hml, hown, hts, hE⟩ := id X
  have hK := hE.1
  have hl : lv_has ls 5 [(0, .ref h), (1, .int (nI k)), (2, .int (nI q)), (3, .int i), (4, .int n)] := hl
  have hN1 := hN.1
  have hs9 := hN.2.2.2.2.2.2.2.2.2.1 k
  have hs10 := hN.2.2.2.2.2.2.2.2.2.2 k
  refine lv_aload_n hx hb dX11_against_0 rfl (lv_at hl 0 rfl) ?_
  refine va_get (D := D) (ci := 11) (v := .ref (a 2)) (C := RX11) (T := TX11) (N := 35) hx hb hts inX11 hown hK hP 0 rfl rfl 2 (by decide) (hts _ wd_667) (fun _ h9 => h9) rfl dX11_against_1 ?_
  refine lv_iload_n hx hb dX11_against_4 rfl (lv_at hl 1 rfl) ?_
  refine n_iald hx hb hK hP 1 0 rfl rfl (k := k) (by omega) (by decide) dX11_against_5 ?_
  have hv_1 : N 9 k ≤ 3 := hN.2.2.2.2.2.2.2.2.2.1 k
  refine lv_bipush (v := (-9)) hx hb dX11_against_6 (by decide) ?_
  refine i_icmp_eq (tgt := 23) hx hb (srt_T (by omega)) ng9 dX11_against_8 (by decide) (fun c_2 => ?_) (fun c_2 => ?_)
  · refine lv_aload_n hx hb dX11_against_23 rfl (lv_at hl 0 rfl) ?_
    refine va_get (D := D) (ci := 11) (v := .ref (a 2)) (C := RX11) (T := TX11) (N := 35) hx hb hts inX11 hown hK hP 0 rfl rfl 2 (by decide) (hts _ wd_667) (fun _ h9 => h9) rfl dX11_against_24 ?_
    refine lv_iload_n hx hb dX11_against_27 rfl (lv_at hl 1 rfl) ?_
    refine n_iald hx hb hK hP 1 0 rfl rfl (k := k) (by omega) (by decide) dX11_against_28 ?_
    have hv_3 : N 9 k ≤ 3 := hN.2.2.2.2.2.2.2.2.2.1 k
    refine lv_bipush (v := (-9)) hx hb dX11_against_29 (by decide) ?_
    refine i_icmp_ne (tgt := 36) hx hb (srt_T (by omega)) ng9 dX11_against_31 (by decide) (fun c_4 => ?_) (fun c_4 => ?_)
    · refine lv_iload hx hb dX11_against_36 (lv_at hl 4 rfl) ?_
      refine i_if_ge (tgt := 43) hx hb hn dX11_against_38 (by decide) (fun c_5 => ?_) (fun c_5 => ?_)
      · refine lv_iload_n hx hb dX11_against_43 rfl (lv_at hl 3 rfl) ?_
        refine i_if_lt (tgt := 70) hx hb hi dX11_against_44 (by decide) (fun c_6 => ?_) (fun c_6 => ?_)
        · refine lv_iconst (v := nI 3) hx hb dX11_against_70 (by decide) ?_
          refine lv_goto (tgt := 75) hx hb dX11_against_71 (by decide) ?_
          refine hret _ _ _ dX11_against_75 ?_
          unfold agst
          split at * <;> (repeat' split) <;> first | rfl | omega
        · refine lv_iload_n hx hb dX11_against_47 rfl (lv_at hl 3 rfl) ?_
          refine lv_aload_n hx hb dX11_against_48 rfl (lv_at hl 0 rfl) ?_
          refine va_get (D := D) (ci := 11) (v := .ref (a 3)) (C := RX11) (T := TX11) (N := 35) hx hb hts inX11 hown hK hP 0 rfl rfl 3 (by decide) (hts _ wd_668) (fun _ h9 => h9) rfl dX11_against_49 ?_
          refine lv_iload_n hx hb dX11_against_52 rfl (lv_at hl 1 rfl) ?_
          refine n_iald hx hb hK hP 2 0 rfl rfl (k := k) (by omega) (by decide) dX11_against_53 ?_
          have hv_7 : N 10 k ≤ 60 := hN.2.2.2.2.2.2.2.2.2.2 k
          refine i_icmp_gt (tgt := 70) hx hb hi (nT (by omega)) dX11_against_54 (by decide) (fun c_8 => ?_) (fun c_8 => ?_)
          · refine lv_iconst (v := nI 3) hx hb dX11_against_70 (by decide) ?_
            refine lv_goto (tgt := 75) hx hb dX11_against_71 (by decide) ?_
            refine hret _ _ _ dX11_against_75 ?_
            unfold agst
            split at * <;> (repeat' split) <;> first | rfl | omega
          · obtain ⟨j, hj, hij⟩ : ∃ j : Nat, j < N 10 k + 1 ∧ i = nI j := nat_of (by omega) (by omega)
            have hjT : (nI j).toInt = (j : Int) := nT (by omega)
            rw [← hij, hi] at hjT
            refine lv_iload hx hb dX11_against_57 (lv_at hl 4 rfl) ?_
            refine lv_aload_n hx hb dX11_against_59 rfl (lv_at hl 0 rfl) ?_
            refine va_get (D := D) (ci := 11) (v := .ref (a 3)) (C := RX11) (T := TX11) (N := 35) hx hb hts inX11 hown hK hP 0 rfl rfl 3 (by decide) (hts _ wd_668) (fun _ h9 => h9) rfl dX11_against_60 ?_
            refine lv_iload_n hx hb dX11_against_63 rfl (lv_at hl 1 rfl) ?_
            refine n_iald hx hb hK hP 2 0 rfl rfl (k := k) (by omega) (by decide) dX11_against_64 ?_
            have hv_9 : N 10 k ≤ 60 := hN.2.2.2.2.2.2.2.2.2.2 k
            refine lv_iload_n hx hb dX11_against_65 rfl (lv_at hl 3 rfl) ?_
            refine lv_isub hx hb dX11_against_66 ?_
            refine i_icmp_le (tgt := 74) hx hb hn (show (nI (N 10 k) - i).toInt = ((N 10 k : Int) - I) by rw [hij, pk_sub (by omega), nT (by omega)]; omega) dX11_against_67 (by decide) (fun c_10 => ?_) (fun c_10 => ?_)
            · refine lv_iconst (v := nI 0) hx hb dX11_against_74 (by decide) ?_
              refine hret _ _ _ dX11_against_75 ?_
              unfold agst
              split at * <;> (repeat' split) <;> first | rfl | omega
            · refine lv_iconst (v := nI 3) hx hb dX11_against_70 (by decide) ?_
              refine lv_goto (tgt := 75) hx hb dX11_against_71 (by decide) ?_
              refine hret _ _ _ dX11_against_75 ?_
              unfold agst
              split at * <;> (repeat' split) <;> first | rfl | omega
      · refine lv_iconst (v := nI 4) hx hb dX11_against_41 (by decide) ?_
        refine hret _ _ _ dX11_against_42 ?_
        unfold agst
        split at * <;> (repeat' split) <;> first | rfl | omega
    · refine lv_iconst (v := nI 1) hx hb dX11_against_34 (by decide) ?_
      refine hret _ _ _ dX11_against_35 ?_
      unfold agst
      split at * <;> (repeat' split) <;> first | rfl | omega
  · refine lv_aload_n hx hb dX11_against_11 rfl (lv_at hl 0 rfl) ?_
    refine va_get (D := D) (ci := 11) (v := .ref (a 2)) (C := RX11) (T := TX11) (N := 35) hx hb hts inX11 hown hK hP 0 rfl rfl 2 (by decide) (hts _ wd_667) (fun _ h9 => h9) rfl dX11_against_12 ?_
    refine lv_iload_n hx hb dX11_against_15 rfl (lv_at hl 1 rfl) ?_
    refine n_iald hx hb hK hP 1 0 rfl rfl (k := k) (by omega) (by decide) dX11_against_16 ?_
    have hv_11 : N 9 k ≤ 3 := hN.2.2.2.2.2.2.2.2.2.1 k
    refine lv_iload_n hx hb dX11_against_17 rfl (lv_at hl 2 rfl) ?_
    refine i_icmp_eq (tgt := 23) hx hb (srt_T (by omega)) (nT (by omega)) dX11_against_18 (by decide) (fun c_12 => ?_) (fun c_12 => ?_)
    · refine lv_aload_n hx hb dX11_against_23 rfl (lv_at hl 0 rfl) ?_
      refine va_get (D := D) (ci := 11) (v := .ref (a 2)) (C := RX11) (T := TX11) (N := 35) hx hb hts inX11 hown hK hP 0 rfl rfl 2 (by decide) (hts _ wd_667) (fun _ h9 => h9) rfl dX11_against_24 ?_
      refine lv_iload_n hx hb dX11_against_27 rfl (lv_at hl 1 rfl) ?_
      refine n_iald hx hb hK hP 1 0 rfl rfl (k := k) (by omega) (by decide) dX11_against_28 ?_
      have hv_13 : N 9 k ≤ 3 := hN.2.2.2.2.2.2.2.2.2.1 k
      refine lv_bipush (v := (-9)) hx hb dX11_against_29 (by decide) ?_
      refine i_icmp_ne (tgt := 36) hx hb (srt_T (by omega)) ng9 dX11_against_31 (by decide) (fun c_14 => ?_) (fun c_14 => ?_)
      · refine lv_iload hx hb dX11_against_36 (lv_at hl 4 rfl) ?_
        refine i_if_ge (tgt := 43) hx hb hn dX11_against_38 (by decide) (fun c_15 => ?_) (fun c_15 => ?_)
        · refine lv_iload_n hx hb dX11_against_43 rfl (lv_at hl 3 rfl) ?_
          refine i_if_lt (tgt := 70) hx hb hi dX11_against_44 (by decide) (fun c_16 => ?_) (fun c_16 => ?_)
          · refine lv_iconst (v := nI 3) hx hb dX11_against_70 (by decide) ?_
            refine lv_goto (tgt := 75) hx hb dX11_against_71 (by decide) ?_
            refine hret _ _ _ dX11_against_75 ?_
            unfold agst
            split at * <;> (repeat' split) <;> first | rfl | omega
          · refine lv_iload_n hx hb dX11_against_47 rfl (lv_at hl 3 rfl) ?_
            refine lv_aload_n hx hb dX11_against_48 rfl (lv_at hl 0 rfl) ?_
            refine va_get (D := D) (ci := 11) (v := .ref (a 3)) (C := RX11) (T := TX11) (N := 35) hx hb hts inX11 hown hK hP 0 rfl rfl 3 (by decide) (hts _ wd_668) (fun _ h9 => h9) rfl dX11_against_49 ?_
            refine lv_iload_n hx hb dX11_against_52 rfl (lv_at hl 1 rfl) ?_
            refine n_iald hx hb hK hP 2 0 rfl rfl (k := k) (by omega) (by decide) dX11_against_53 ?_
            have hv_17 : N 10 k ≤ 60 := hN.2.2.2.2.2.2.2.2.2.2 k
            refine i_icmp_gt (tgt := 70) hx hb hi (nT (by omega)) dX11_against_54 (by decide) (fun c_18 => ?_) (fun c_18 => ?_)
            · refine lv_iconst (v := nI 3) hx hb dX11_against_70 (by decide) ?_
              refine lv_goto (tgt := 75) hx hb dX11_against_71 (by decide) ?_
              refine hret _ _ _ dX11_against_75 ?_
              unfold agst
              split at * <;> (repeat' split) <;> first | rfl | omega
            · obtain ⟨j, hj, hij⟩ : ∃ j : Nat, j < N 10 k + 1 ∧ i = nI j := nat_of (by omega) (by omega)
              have hjT : (nI j).toInt = (j : Int) := nT (by omega)
              rw [← hij, hi] at hjT
              refine lv_iload hx hb dX11_against_57 (lv_at hl 4 rfl) ?_
              refine lv_aload_n hx hb dX11_against_59 rfl (lv_at hl 0 rfl) ?_
              refine va_get (D := D) (ci := 11) (v := .ref (a 3)) (C := RX11) (T := TX11) (N := 35) hx hb hts inX11 hown hK hP 0 rfl rfl 3 (by decide) (hts _ wd_668) (fun _ h9 => h9) rfl dX11_against_60 ?_
              refine lv_iload_n hx hb dX11_against_63 rfl (lv_at hl 1 rfl) ?_
              refine n_iald hx hb hK hP 2 0 rfl rfl (k := k) (by omega) (by decide) dX11_against_64 ?_
              have hv_19 : N 10 k ≤ 60 := hN.2.2.2.2.2.2.2.2.2.2 k
              refine lv_iload_n hx hb dX11_against_65 rfl (lv_at hl 3 rfl) ?_
              refine lv_isub hx hb dX11_against_66 ?_
              refine i_icmp_le (tgt := 74) hx hb hn (show (nI (N 10 k) - i).toInt = ((N 10 k : Int) - I) by rw [hij, pk_sub (by omega), nT (by omega)]; omega) dX11_against_67 (by decide) (fun c_20 => ?_) (fun c_20 => ?_)
              · refine lv_iconst (v := nI 0) hx hb dX11_against_74 (by decide) ?_
                refine hret _ _ _ dX11_against_75 ?_
                unfold agst
                split at * <;> (repeat' split) <;> first | rfl | omega
              · refine lv_iconst (v := nI 3) hx hb dX11_against_70 (by decide) ?_
                refine lv_goto (tgt := 75) hx hb dX11_against_71 (by decide) ?_
                refine hret _ _ _ dX11_against_75 ?_
                unfold agst
                split at * <;> (repeat' split) <;> first | rfl | omega
        · refine lv_iconst (v := nI 4) hx hb dX11_against_41 (by decide) ?_
          refine hret _ _ _ dX11_against_42 ?_
          unfold agst
          split at * <;> (repeat' split) <;> first | rfl | omega
      · refine lv_iconst (v := nI 1) hx hb dX11_against_34 (by decide) ?_
        refine hret _ _ _ dX11_against_35 ?_
        unfold agst
        split at * <;> (repeat' split) <;> first | rfl | omega
    · refine lv_iconst (v := nI 2) hx hb dX11_against_21 (by decide) ?_
      refine hret _ _ _ dX11_against_22 ?_
      unfold agst
      split at * <;> (repeat' split) <;> first | rfl | omega
set_option maxRecDepth 100000 in
set_option maxHeartbeats 4000000 in
theorem c_X11_trace (l : Launch) (D : va_G) (ka : Nat → ClassId) (h : Nat) (a : Nat → Nat) (N : Nat → Nat → Nat) (C : Nat → Nat → Int32) (f : Nat → Int32) (g : Nat → Nat → Int32) (R : va_W) : RO l D ka yX11_trace cX11_trace 1 (some .int) 0 [.ref h] (fun H => va_P D vwCl (mw ka h a N C f g ++ R) H) (vp_Si (fun r => r = C 4 60)) := by
  refine RO.ofI (by decide) (Nat.le_of_ble_eq_true rfl) ?_
  intro p e s m args below meth c Q X hP hret ls hl
  obtain ⟨hx, hb, hml, hown, hts, hE⟩ := id X
  have hK := hE.1
  have hl : lv_has ls 1 [(0, .ref h)] := hl
  refine lv_aload_n hx hb dX11_trace_0 rfl (lv_at hl 0 rfl) ?_
  refine va_get (D := D) (ci := 11) (v := .int (C 4 60)) (C := RX11) (T := TX11) (N := 35) hx hb hts inX11 hown hK hP 0 rfl rfl 1 (by decide) (hts _ wd_666) (fun _ h9 => h9) rfl dX11_trace_1 ?_
  refine hret _ _ _ dX11_trace_4 ?_
  rfl
set_option maxRecDepth 100000 in
set_option maxHeartbeats 4000000 in
theorem c_X11_fault (l : Launch) (D : va_G) (ka : Nat → ClassId) (h : Nat) (a : Nat → Nat) (N : Nat → Nat → Nat) (C : Nat → Nat → Int32) (f : Nat → Int32) (g : Nat → Nat → Int32) (R : va_W) : RO l D ka yX11_fault cX11_fault 1 (some .int) 0 [.ref h] (fun H => va_P D vwCl (mw ka h a N C f g ++ R) H) (vp_Si (fun r => r = nI (N 0 4))) := by
  refine RO.ofI (by decide) (Nat.le_of_ble_eq_true rfl) ?_
  intro p e s m args below meth c Q X hP hret ls hl
  obtain ⟨hx, hb, hml, hown, hts, hE⟩ := id X
  have hK := hE.1
  have hl : lv_has ls 1 [(0, .ref h)] := hl
  refine lv_aload_n hx hb dX11_fault_0 rfl (lv_at hl 0 rfl) ?_
  refine va_get (D := D) (ci := 11) (v := .int (nI (N 0 4))) (C := RX11) (T := TX11) (N := 35) hx hb hts inX11 hown hK hP 0 rfl rfl 0 (by decide) (hts _ wd_665) (fun _ h9 => h9) rfl dX11_fault_1 ?_
  refine hret _ _ _ dX11_fault_4 ?_
  rfl
set_option maxRecDepth 100000 in
set_option maxHeartbeats 4000000 in
theorem c_X11_many (l : Launch) (D : va_G) (ka : Nat → ClassId) (h : Nat) (a : Nat → Nat) (N : Nat → Nat → Nat) (C : Nat → Nat → Int32) (f : Nat → Int32) (g : Nat → Nat → Int32) (R : va_W) (k : Int32) (K : Int) (hk : k.toInt = K) : RO l D ka yX11_many cX11_many 2 (some .int) 0 [.ref h, .int k] (fun H => va_P D vwCl (mw ka h a N C f g ++ R) H) (vp_Si (fun r => r = (if K = 0 then nI (N 0 1) else if K = 1 then nI (N 0 2) else if K = 2 then nI (N 0 0) else if K = 3 then nI (N 0 3) else -2))) := by
  refine RO.ofI (by decide) (Nat.le_of_ble_eq_true rfl) ?_
  intro p e s m args below meth c Q X hP hret ls hl
  obtain ⟨hx, hb, hml, hown, hts, hE⟩ := id X
  have hK := hE.1
  have hl : lv_has ls 2 [(0, .ref h), (1, .int k)] := hl
  refine lv_iload_n hx hb dX11_many_0 rfl (lv_at hl 1 rfl) ?_
  refine i_if_ne (tgt := 11) hx hb hk dX11_many_1 (by decide) (fun c_1 => ?_) (fun c_1 => ?_)
  · refine lv_iload_n hx hb dX11_many_11 rfl (lv_at hl 1 rfl) ?_
    refine lv_iconst (v := nI 1) hx hb dX11_many_12 (by decide) ?_
    refine i_icmp_ne (tgt := 23) hx hb hk (nT (by decide)) dX11_many_13 (by decide) (fun c_2 => ?_) (fun c_2 => ?_)
    · refine lv_iload_n hx hb dX11_many_23 rfl (lv_at hl 1 rfl) ?_
      refine lv_iconst (v := nI 2) hx hb dX11_many_24 (by decide) ?_
      refine i_icmp_ne (tgt := 35) hx hb hk (nT (by decide)) dX11_many_25 (by decide) (fun c_3 => ?_) (fun c_3 => ?_)
      · refine lv_iload_n hx hb dX11_many_35 rfl (lv_at hl 1 rfl) ?_
        refine lv_iconst (v := nI 3) hx hb dX11_many_36 (by decide) ?_
        refine i_icmp_ne (tgt := 47) hx hb hk (nT (by decide)) dX11_many_37 (by decide) (fun c_4 => ?_) (fun c_4 => ?_)
        · refine lv_bipush (v := (-2)) hx hb dX11_many_47 (by decide) ?_
          refine hret _ _ _ dX11_many_49 ?_
          (repeat' split) <;> first | rfl | omega
        · refine lv_aload_n hx hb dX11_many_40 rfl (lv_at hl 0 rfl) ?_
          refine va_get (D := D) (ci := 11) (v := .int (nI (N 0 3))) (C := RX11) (T := TX11) (N := 35) hx hb hts inX11 hown hK hP 0 rfl rfl 31 (by decide) (hts _ wd_696) (fun _ h9 => h9) rfl dX11_many_41 ?_
          refine lv_goto (tgt := 49) hx hb dX11_many_44 (by decide) ?_
          refine hret _ _ _ dX11_many_49 ?_
          (repeat' split) <;> first | rfl | omega
      · refine lv_aload_n hx hb dX11_many_28 rfl (lv_at hl 0 rfl) ?_
        refine va_get (D := D) (ci := 11) (v := .int (nI (N 0 0))) (C := RX11) (T := TX11) (N := 35) hx hb hts inX11 hown hK hP 0 rfl rfl 5 (by decide) (hts _ wd_670) (fun _ h9 => h9) rfl dX11_many_29 ?_
        refine lv_goto (tgt := 49) hx hb dX11_many_32 (by decide) ?_
        refine hret _ _ _ dX11_many_49 ?_
        (repeat' split) <;> first | rfl | omega
    · refine lv_aload_n hx hb dX11_many_16 rfl (lv_at hl 0 rfl) ?_
      refine va_get (D := D) (ci := 11) (v := .int (nI (N 0 2))) (C := RX11) (T := TX11) (N := 35) hx hb hts inX11 hown hK hP 0 rfl rfl 7 (by decide) (hts _ wd_672) (fun _ h9 => h9) rfl dX11_many_17 ?_
      refine lv_goto (tgt := 49) hx hb dX11_many_20 (by decide) ?_
      refine hret _ _ _ dX11_many_49 ?_
      (repeat' split) <;> first | rfl | omega
  · refine lv_aload_n hx hb dX11_many_4 rfl (lv_at hl 0 rfl) ?_
    refine va_get (D := D) (ci := 11) (v := .int (nI (N 0 1))) (C := RX11) (T := TX11) (N := 35) hx hb hts inX11 hown hK hP 0 rfl rfl 6 (by decide) (hts _ wd_671) (fun _ h9 => h9) rfl dX11_many_5 ?_
    refine lv_goto (tgt := 49) hx hb dX11_many_8 (by decide) ?_
    refine hret _ _ _ dX11_many_49 ?_
    (repeat' split) <;> first | rfl | omega
set_option maxRecDepth 100000 in
set_option maxHeartbeats 4000000 in
theorem c_X11_depth (l : Launch) (D : va_G) (ka : Nat → ClassId) (h : Nat) (a : Nat → Nat) (N : Nat → Nat → Nat) (C : Nat → Nat → Int32) (f : Nat → Int32) (g : Nat → Nat → Int32) (R : va_W) (k : Int32) (K : Int) (hk : k.toInt = K) (hN : WF N) : RO l D ka yX11_depth cX11_depth 2 (some .int) 0 [.ref h, .int k] (fun H => va_P D vwCl (mw ka h a N C f g ++ R) H) (vp_Si (fun r => r = (if 0 ≤ K ∧ K < (N 0 2 : Int) then nI (N 5 K.toNat) else -1))) := by
  refine RO.ofI (by decide) (Nat.le_of_ble_eq_true rfl) ?_
  intro p e s m args below meth c Q X hP hret ls hl
  obtain ⟨hx, hb, hml, hown, hts, hE⟩ := id X
  have hK := hE.1
  have hl : lv_has ls 2 [(0, .ref h), (1, .int k)] := hl
  have hN1 := hN.1
  refine lv_iload_n hx hb dX11_depth_0 rfl (lv_at hl 1 rfl) ?_
  refine i_if_lt (tgt := 21) hx hb hk dX11_depth_1 (by decide) (fun c_1 => ?_) (fun c_1 => ?_)
  · refine lv_iconst (v := (-1)) hx hb dX11_depth_21 (by decide) ?_
    refine hret _ _ _ dX11_depth_22 ?_
    (repeat' split) <;> first | rfl | omega
  · refine lv_iload_n hx hb dX11_depth_4 rfl (lv_at hl 1 rfl) ?_
    refine lv_aload_n hx hb dX11_depth_5 rfl (lv_at hl 0 rfl) ?_
    refine va_get (D := D) (ci := 11) (v := .int (nI (N 0 2))) (C := RX11) (T := TX11) (N := 35) hx hb hts inX11 hown hK hP 0 rfl rfl 7 (by decide) (hts _ wd_672) (fun _ h9 => h9) rfl dX11_depth_6 ?_
    refine i_icmp_ge (tgt := 21) hx hb hk (nT (by omega)) dX11_depth_9 (by decide) (fun c_2 => ?_) (fun c_2 => ?_)
    · refine lv_iconst (v := (-1)) hx hb dX11_depth_21 (by decide) ?_
      refine hret _ _ _ dX11_depth_22 ?_
      (repeat' split) <;> first | rfl | omega
    · obtain ⟨j, hlt_j, rfl, rfl⟩ := nat_ofK (n := N 0 2) hk (by omega) (by omega)
      refine lv_aload_n hx hb dX11_depth_12 rfl (lv_at hl 0 rfl) ?_
      refine va_get (D := D) (ci := 11) (v := .ref (a 12)) (C := RX11) (T := TX11) (N := 35) hx hb hts inX11 hown hK hP 0 rfl rfl 12 (by decide) (hts _ wd_677) (fun _ h9 => h9) rfl dX11_depth_13 ?_
      refine lv_iload_n hx hb dX11_depth_16 rfl (lv_at hl 1 rfl) ?_
      refine n_iald hx hb hK hP 8 0 rfl rfl (k := j) (by omega) (by decide) dX11_depth_17 ?_
      have hv_3 : N 5 j ≤ 9 := hN.2.2.2.2.2.1 j
      refine lv_goto (tgt := 22) hx hb dX11_depth_18 (by decide) ?_
      refine hret _ _ _ dX11_depth_22 ?_
      (repeat' split) <;> first | rfl | omega
set_option maxRecDepth 100000 in
set_option maxHeartbeats 4000000 in
theorem c_X11_gloom (l : Launch) (D : va_G) (ka : Nat → ClassId) (h : Nat) (a : Nat → Nat) (N : Nat → Nat → Nat) (C : Nat → Nat → Int32) (f : Nat → Int32) (g : Nat → Nat → Int32) (R : va_W) (k : Int32) (K : Int) (hk : k.toInt = K) (hN : WF N) : RO l D ka yX11_gloom cX11_gloom 2 (some .int) 1 [.ref h, .int k] (fun H => va_P D vwCl (mw ka h a N C f g ++ R) H) (vp_Si (fun r => r = (if 0 ≤ K ∧ K < (N 0 0 : Int) then nI (N 1 K.toNat) else -1))) := by
  refine RO.ofI (by decide) (Nat.le_of_ble_eq_true rfl) ?_
  intro p e s m args below meth c Q X hP hret ls hl
  obtain ⟨hx, hb, hml, hown, hts, hE⟩ := id X
  have hK := hE.1
  have hl : lv_has ls 2 [(0, .ref h), (1, .int k)] := hl
  have hN1 := hN.1
  refine lv_aload_n hx hb dX11_gloom_0 rfl (lv_at hl 0 rfl) ?_
  refine lv_iload_n hx hb dX11_gloom_1 rfl (lv_at hl 1 rfl) ?_
  refine vp_callSi (ro_runV (c_X11_isPlace l D ka h a N C f g R k _ hk hN) X wd_839 wd_836 wd_838 ws_12 wd_8 on_X11_isPlace ⟨Nat.le_of_ble_eq_true rfl, Nat.le_of_ble_eq_true rfl⟩ (va_recv hK hP (ci := 11) (q0 := 0) rfl rfl) hP hl.1 rfl (Nat.le_of_ble_eq_true rfl) ⟨(Nat.zero_le _), (Nat.zero_le _)⟩ dX11_gloom_2) (fun r_1 hr_1 => ?_)
  subst hr_1
  refine b_if_eq (tgt := 17) hx hb dX11_gloom_5 (by decide) (fun c_2 => ?_) (fun c_2 => ?_)
  · refine lv_iconst (v := (-1)) hx hb dX11_gloom_17 (by decide) ?_
    refine hret _ _ _ dX11_gloom_18 ?_
    (repeat' split) <;> first | rfl | omega
  · obtain ⟨j, hlt_j, rfl, rfl⟩ := nat_ofK (n := N 0 0) hk (by omega) (by omega)
    refine lv_aload_n hx hb dX11_gloom_8 rfl (lv_at hl 0 rfl) ?_
    refine va_get (D := D) (ci := 11) (v := .ref (a 8)) (C := RX11) (T := TX11) (N := 35) hx hb hts inX11 hown hK hP 0 rfl rfl 8 (by decide) (hts _ wd_673) (fun _ h9 => h9) rfl dX11_gloom_9 ?_
    refine lv_iload_n hx hb dX11_gloom_12 rfl (lv_at hl 1 rfl) ?_
    refine n_iald hx hb hK hP 4 0 rfl rfl (k := j) (by omega) (by decide) dX11_gloom_13 ?_
    have hv_3 : N 1 j ≤ 9 := hN.2.1 j
    refine lv_goto (tgt := 18) hx hb dX11_gloom_14 (by decide) ?_
    refine hret _ _ _ dX11_gloom_18 ?_
    (repeat' split) <;> first | rfl | omega
set_option maxRecDepth 100000 in
set_option maxHeartbeats 4000000 in
theorem c_X11_ofTaker (l : Launch) (D : va_G) (ka : Nat → ClassId) (h : Nat) (a : Nat → Nat) (N : Nat → Nat → Nat) (C : Nat → Nat → Int32) (f : Nat → Int32) (g : Nat → Nat → Int32) (R : va_W) (k q : Int32) (K q2 : Int) (hk : k.toInt = K) (hq : q.toInt = q2) (hN : WF N) : RO l D ka yX11_ofTaker cX11_ofTaker 3 (some .int) 1 [.ref h, .int k, .int q] (fun H => va_P D vwCl (mw ka h a N C f g ++ R) H) (vp_Si (fun r => r = (if 0 ≤ K ∧ K < (N 0 1 : Int) then (if q2 = 0 then nI (N 2 K.toNat) else if q2 = 1 then nI (N 3 K.toNat) else if q2 = 2 then nI (N 4 K.toNat) else -2) else -1))) := by
  refine RO.ofI (by decide) (Nat.le_of_ble_eq_true rfl) ?_
  intro p e s m args below meth c Q X hP hret ls hl
  obtain ⟨hx, hb, hml, hown, hts, hE⟩ := id X
  have hK := hE.1
  have hl : lv_has ls 3 [(0, .ref h), (1, .int k), (2, .int q)] := hl
  have hN1 := hN.1
  refine lv_aload_n hx hb dX11_ofTaker_0 rfl (lv_at hl 0 rfl) ?_
  refine lv_iload_n hx hb dX11_ofTaker_1 rfl (lv_at hl 1 rfl) ?_
  refine vp_callSi (ro_runV (c_X11_isTaker l D ka h a N C f g R k _ hk hN) X wd_827 wd_824 wd_826 ws_11 wd_8 on_X11_isTaker ⟨Nat.le_of_ble_eq_true rfl, Nat.le_of_ble_eq_true rfl⟩ (va_recv hK hP (ci := 11) (q0 := 0) rfl rfl) hP hl.1 rfl (Nat.le_of_ble_eq_true rfl) ⟨(Nat.zero_le _), (Nat.zero_le _)⟩ dX11_ofTaker_2) (fun r_1 hr_1 => ?_)
  subst hr_1
  refine b_if_ne (tgt := 10) hx hb dX11_ofTaker_5 (by decide) (fun c_2 => ?_) (fun c_2 => ?_)
  · obtain ⟨j, hlt_j, rfl, rfl⟩ := nat_ofK (n := N 0 1) hk (by omega) (by omega)
    refine lv_iload_n hx hb dX11_ofTaker_10 rfl (lv_at hl 2 rfl) ?_
    refine i_if_ne (tgt := 23) hx hb hq dX11_ofTaker_11 (by decide) (fun c_3 => ?_) (fun c_3 => ?_)
    · refine lv_iload_n hx hb dX11_ofTaker_23 rfl (lv_at hl 2 rfl) ?_
      refine lv_iconst (v := nI 1) hx hb dX11_ofTaker_24 (by decide) ?_
      refine i_icmp_ne (tgt := 37) hx hb hq (nT (by decide)) dX11_ofTaker_25 (by decide) (fun c_4 => ?_) (fun c_4 => ?_)
      · refine lv_iload_n hx hb dX11_ofTaker_37 rfl (lv_at hl 2 rfl) ?_
        refine lv_iconst (v := nI 2) hx hb dX11_ofTaker_38 (by decide) ?_
        refine i_icmp_ne (tgt := 51) hx hb hq (nT (by decide)) dX11_ofTaker_39 (by decide) (fun c_5 => ?_) (fun c_5 => ?_)
        · refine lv_bipush (v := (-2)) hx hb dX11_ofTaker_51 (by decide) ?_
          refine hret _ _ _ dX11_ofTaker_53 ?_
          (repeat' split) <;> first | rfl | omega
        · refine lv_aload_n hx hb dX11_ofTaker_42 rfl (lv_at hl 0 rfl) ?_
          refine va_get (D := D) (ci := 11) (v := .ref (a 11)) (C := RX11) (T := TX11) (N := 35) hx hb hts inX11 hown hK hP 0 rfl rfl 11 (by decide) (hts _ wd_676) (fun _ h9 => h9) rfl dX11_ofTaker_43 ?_
          refine lv_iload_n hx hb dX11_ofTaker_46 rfl (lv_at hl 1 rfl) ?_
          refine n_iald hx hb hK hP 7 0 rfl rfl (k := j) (by omega) (by decide) dX11_ofTaker_47 ?_
          have hv_6 : N 4 j ≤ 9 := hN.2.2.2.2.1 j
          refine lv_goto (tgt := 53) hx hb dX11_ofTaker_48 (by decide) ?_
          refine hret _ _ _ dX11_ofTaker_53 ?_
          (repeat' split) <;> first | rfl | omega
      · refine lv_aload_n hx hb dX11_ofTaker_28 rfl (lv_at hl 0 rfl) ?_
        refine va_get (D := D) (ci := 11) (v := .ref (a 10)) (C := RX11) (T := TX11) (N := 35) hx hb hts inX11 hown hK hP 0 rfl rfl 10 (by decide) (hts _ wd_675) (fun _ h9 => h9) rfl dX11_ofTaker_29 ?_
        refine lv_iload_n hx hb dX11_ofTaker_32 rfl (lv_at hl 1 rfl) ?_
        refine n_iald hx hb hK hP 6 0 rfl rfl (k := j) (by omega) (by decide) dX11_ofTaker_33 ?_
        have hv_7 : N 3 j ≤ 99 := hN.2.2.2.1 j
        refine lv_goto (tgt := 53) hx hb dX11_ofTaker_34 (by decide) ?_
        refine hret _ _ _ dX11_ofTaker_53 ?_
        (repeat' split) <;> first | rfl | omega
    · refine lv_aload_n hx hb dX11_ofTaker_14 rfl (lv_at hl 0 rfl) ?_
      refine va_get (D := D) (ci := 11) (v := .ref (a 9)) (C := RX11) (T := TX11) (N := 35) hx hb hts inX11 hown hK hP 0 rfl rfl 9 (by decide) (hts _ wd_674) (fun _ h9 => h9) rfl dX11_ofTaker_15 ?_
      refine lv_iload_n hx hb dX11_ofTaker_18 rfl (lv_at hl 1 rfl) ?_
      refine n_iald hx hb hK hP 5 0 rfl rfl (k := j) (by omega) (by decide) dX11_ofTaker_19 ?_
      have hv_8 : N 2 j ≤ 2 := hN.2.2.1 j
      refine lv_goto (tgt := 53) hx hb dX11_ofTaker_20 (by decide) ?_
      refine hret _ _ _ dX11_ofTaker_53 ?_
      (repeat' split) <;> first | rfl | omega
  · refine lv_iconst (v := (-1)) hx hb dX11_ofTaker_8 (by decide) ?_
    refine hret _ _ _ dX11_ofTaker_9 ?_
    (repeat' split) <;> first | rfl | omega
set_option maxRecDepth 100000 in
set_option maxHeartbeats 4000000 in
theorem c_X11_drainOf (l : Launch) (D : va_G) (ka : Nat → ClassId) (h : Nat) (a : Nat → Nat) (N : Nat → Nat → Nat) (C : Nat → Nat → Int32) (f : Nat → Int32) (g : Nat → Nat → Int32) (R : va_W) (j m0 : Nat) (hj : j < 5) (hm : m0 < 1000) (hp : 0 < N 0 0) (hN : WF N) : RO l D ka yX11_drainOf cX11_drainOf 5 (some .int) 0 [.ref h, .int (nI j), .int (nI m0)] (fun H => va_P D vwCl (mw ka h a N C f g ++ R) H) (vp_Si (fun r => r = nI (drn N j m0))) := by
  refine RO.ofI (by decide) (Nat.le_of_ble_eq_true rfl) ?_
  intro p e s m args below meth c Q X hP hret ls hl
  obtain ⟨hx, hb, hml, hown, hts, hE⟩ := id X
  have hK := hE.1
  have hl : lv_has ls 5 [(0, .ref h), (1, .int (nI j)), (2, .int (nI m0))] := hl
  have hN1 := hN.1
  have hmp : m0 % N 0 0 < N 0 0 := Nat.mod_lt _ hp
  refine lv_iload_n hx hb dX11_drainOf_0 rfl (lv_at hl 2 rfl) ?_
  refine lv_aload_n hx hb dX11_drainOf_1 rfl (lv_at hl 0 rfl) ?_
  refine va_get (D := D) (ci := 11) (v := .int (nI (N 0 0))) (C := RX11) (T := TX11) (N := 35) hx hb hts inX11 hown hK hP 0 rfl rfl 5 (by decide) (hts _ wd_670) (fun _ h9 => h9) rfl dX11_drainOf_2 ?_
  refine n_irem hx hb (by omega) (by omega) (by omega) dX11_drainOf_5 ?_
  refine lv_istore_n (lv' := [(3, .int (nI (m0 % (N 0 0)))), (0, .ref h), (1, .int (nI j)), (2, .int (nI m0))]) hx hb dX11_drainOf_6 rfl hl (by decide) rfl (fun ls hl => ?_)
  refine lv_aload_n hx hb dX11_drainOf_7 rfl (lv_at hl 1 rfl) ?_
  refine va_get (D := D) (ci := 11) (v := .int (nI (N 0 5))) (C := RX11) (T := TX11) (N := 35) hx hb hts inX11 hown hK hP 0 rfl rfl 22 (by decide) (hts _ wd_687) (fun _ h9 => h9) rfl dX11_drainOf_8 ?_
  refine lv_iload_n hx hb dX11_drainOf_11 rfl (lv_at hl 0 rfl) ?_
  refine lv_ishr hx hb dX11_drainOf_12 ?_
  rw [n_shr (a := N 0 5) (k := m0 % (N 0 0)) (by omega) (by omega)]
  refine lv_iconst (v := nI 1) hx hb dX11_drainOf_13 (by decide) ?_
  refine lv_iand hx hb dX11_drainOf_14 ?_
  rw [n_and1 (a := (N 0 5) / 2 ^ (m0 % (N 0 0))) (Nat.lt_of_le_of_lt (Nat.div_le_self _ _) (by omega))]
  refine lv_iconst (v := nI 1) hx hb dX11_drainOf_15 (by decide) ?_
  refine i_icmp_ne (tgt := 23) hx hb (nT (by omega)) (nT (by decide)) dX11_drainOf_16 (by decide) (fun c_1 => ?_) (fun c_1 => ?_)
  · refine lv_aload_n hx hb dX11_drainOf_23 rfl (lv_at hl 1 rfl) ?_
    refine va_get (D := D) (ci := 11) (v := .ref (a 8)) (C := RX11) (T := TX11) (N := 35) hx hb hts inX11 hown hK hP 0 rfl rfl 8 (by decide) (hts _ wd_673) (fun _ h9 => h9) rfl dX11_drainOf_24 ?_
    refine lv_iload_n hx hb dX11_drainOf_27 rfl (lv_at hl 0 rfl) ?_
    refine n_iald hx hb hK hP 4 0 rfl rfl (k := m0 % (N 0 0)) (by omega) (by decide) dX11_drainOf_28 ?_
    have hv_2 : N 1 (m0 % (N 0 0)) ≤ 9 := hN.2.1 (m0 % (N 0 0))
    refine lv_aload_n hx hb dX11_drainOf_29 rfl (lv_at hl 1 rfl) ?_
    refine va_get (D := D) (ci := 11) (v := .ref (a 11)) (C := RX11) (T := TX11) (N := 35) hx hb hts inX11 hown hK hP 0 rfl rfl 11 (by decide) (hts _ wd_676) (fun _ h9 => h9) rfl dX11_drainOf_30 ?_
    refine lv_iload_n hx hb dX11_drainOf_33 rfl (lv_at hl 2 rfl) ?_
    refine n_iald hx hb hK hP 7 0 rfl rfl (k := j) (by omega) (by decide) dX11_drainOf_34 ?_
    have hv_3 : N 4 j ≤ 9 := hN.2.2.2.2.1 j
    refine n_iadd hx hb dX11_drainOf_35 ?_
    refine lv_istore (lv' := [(4, .int (nI ((N 1 (m0 % (N 0 0))) + (N 4 j)))), (3, .int (nI (m0 % (N 0 0)))), (0, .ref h), (1, .int (nI j)), (2, .int (nI m0))]) hx hb dX11_drainOf_36 hl (by decide) rfl (fun ls hl => ?_)
    refine lv_aload_n hx hb dX11_drainOf_38 rfl (lv_at hl 2 rfl) ?_
    refine va_get (D := D) (ci := 11) (v := .ref (a 9)) (C := RX11) (T := TX11) (N := 35) hx hb hts inX11 hown hK hP 0 rfl rfl 9 (by decide) (hts _ wd_674) (fun _ h9 => h9) rfl dX11_drainOf_39 ?_
    refine lv_iload_n hx hb dX11_drainOf_42 rfl (lv_at hl 3 rfl) ?_
    refine n_iald hx hb hK hP 5 0 rfl rfl (k := j) (by omega) (by decide) dX11_drainOf_43 ?_
    have hv_4 : N 2 j ≤ 2 := hN.2.2.1 j
    refine lv_iconst (v := nI 1) hx hb dX11_drainOf_44 (by decide) ?_
    refine i_icmp_ne (tgt := 62) hx hb (nT (by omega)) (nT (by decide)) dX11_drainOf_45 (by decide) (fun c_5 => ?_) (fun c_5 => ?_)
    · refine lv_aload_n hx hb dX11_drainOf_62 rfl (lv_at hl 2 rfl) ?_
      refine va_get (D := D) (ci := 11) (v := .ref (a 9)) (C := RX11) (T := TX11) (N := 35) hx hb hts inX11 hown hK hP 0 rfl rfl 9 (by decide) (hts _ wd_674) (fun _ h9 => h9) rfl dX11_drainOf_63 ?_
      refine lv_iload_n hx hb dX11_drainOf_66 rfl (lv_at hl 3 rfl) ?_
      refine n_iald hx hb hK hP 5 0 rfl rfl (k := j) (by omega) (by decide) dX11_drainOf_67 ?_
      have hv_6 : N 2 j ≤ 2 := hN.2.2.1 j
      refine i_if_ne (tgt := 76) hx hb (nT (by omega)) dX11_drainOf_68 (by decide) (fun c_7 => ?_) (fun c_7 => ?_)
      · refine lv_iload hx hb dX11_drainOf_76 (lv_at hl 0 rfl) ?_
        refine lv_iconst (v := nI 2) hx hb dX11_drainOf_78 (by decide) ?_
        refine n_idiv hx hb (by omega) (by omega) (by omega) dX11_drainOf_79 ?_
        refine hret _ _ _ dX11_drainOf_80 ?_
        unfold drn dr0
        (repeat' split) <;> first | rfl | omega | (congr 1; omega)
      · refine lv_iload hx hb dX11_drainOf_71 (lv_at hl 0 rfl) ?_
        refine lv_goto (tgt := 80) hx hb dX11_drainOf_73 (by decide) ?_
        refine hret _ _ _ dX11_drainOf_80 ?_
        unfold drn dr0
        (repeat' split) <;> first | rfl | omega | (congr 1; omega)
    · refine lv_iload hx hb dX11_drainOf_48 (lv_at hl 0 rfl) ?_
      refine i_if_le (tgt := 60) hx hb (nT (by omega)) dX11_drainOf_50 (by decide) (fun c_8 => ?_) (fun c_8 => ?_)
      · refine lv_iconst (v := nI 0) hx hb dX11_drainOf_60 (by decide) ?_
        refine hret _ _ _ dX11_drainOf_61 ?_
        unfold drn dr0
        (repeat' split) <;> first | rfl | omega | (congr 1; omega)
      · refine lv_iload hx hb dX11_drainOf_53 (lv_at hl 0 rfl) ?_
        refine lv_iconst (v := nI 1) hx hb dX11_drainOf_55 (by decide) ?_
        refine n_isub hx hb (by omega) dX11_drainOf_56 ?_
        refine lv_goto (tgt := 61) hx hb dX11_drainOf_57 (by decide) ?_
        refine hret _ _ _ dX11_drainOf_61 ?_
        unfold drn dr0
        (repeat' split) <;> first | rfl | omega | (congr 1; omega)
  · refine lv_iconst (v := nI 0) hx hb dX11_drainOf_19 (by decide) ?_
    refine lv_goto (tgt := 29) hx hb dX11_drainOf_20 (by decide) ?_
    refine lv_aload_n hx hb dX11_drainOf_29 rfl (lv_at hl 1 rfl) ?_
    refine va_get (D := D) (ci := 11) (v := .ref (a 11)) (C := RX11) (T := TX11) (N := 35) hx hb hts inX11 hown hK hP 0 rfl rfl 11 (by decide) (hts _ wd_676) (fun _ h9 => h9) rfl dX11_drainOf_30 ?_
    refine lv_iload_n hx hb dX11_drainOf_33 rfl (lv_at hl 2 rfl) ?_
    refine n_iald hx hb hK hP 7 0 rfl rfl (k := j) (by omega) (by decide) dX11_drainOf_34 ?_
    have hv_9 : N 4 j ≤ 9 := hN.2.2.2.2.1 j
    refine n_iadd hx hb dX11_drainOf_35 ?_
    refine lv_istore (lv' := [(4, .int (nI (0 + (N 4 j)))), (3, .int (nI (m0 % (N 0 0)))), (0, .ref h), (1, .int (nI j)), (2, .int (nI m0))]) hx hb dX11_drainOf_36 hl (by decide) rfl (fun ls hl => ?_)
    refine lv_aload_n hx hb dX11_drainOf_38 rfl (lv_at hl 2 rfl) ?_
    refine va_get (D := D) (ci := 11) (v := .ref (a 9)) (C := RX11) (T := TX11) (N := 35) hx hb hts inX11 hown hK hP 0 rfl rfl 9 (by decide) (hts _ wd_674) (fun _ h9 => h9) rfl dX11_drainOf_39 ?_
    refine lv_iload_n hx hb dX11_drainOf_42 rfl (lv_at hl 3 rfl) ?_
    refine n_iald hx hb hK hP 5 0 rfl rfl (k := j) (by omega) (by decide) dX11_drainOf_43 ?_
    have hv_10 : N 2 j ≤ 2 := hN.2.2.1 j
    refine lv_iconst (v := nI 1) hx hb dX11_drainOf_44 (by decide) ?_
    refine i_icmp_ne (tgt := 62) hx hb (nT (by omega)) (nT (by decide)) dX11_drainOf_45 (by decide) (fun c_11 => ?_) (fun c_11 => ?_)
    · refine lv_aload_n hx hb dX11_drainOf_62 rfl (lv_at hl 2 rfl) ?_
      refine va_get (D := D) (ci := 11) (v := .ref (a 9)) (C := RX11) (T := TX11) (N := 35) hx hb hts inX11 hown hK hP 0 rfl rfl 9 (by decide) (hts _ wd_674) (fun _ h9 => h9) rfl dX11_drainOf_63 ?_
      refine lv_iload_n hx hb dX11_drainOf_66 rfl (lv_at hl 3 rfl) ?_
      refine n_iald hx hb hK hP 5 0 rfl rfl (k := j) (by omega) (by decide) dX11_drainOf_67 ?_
      have hv_12 : N 2 j ≤ 2 := hN.2.2.1 j
      refine i_if_ne (tgt := 76) hx hb (nT (by omega)) dX11_drainOf_68 (by decide) (fun c_13 => ?_) (fun c_13 => ?_)
      · refine lv_iload hx hb dX11_drainOf_76 (lv_at hl 0 rfl) ?_
        refine lv_iconst (v := nI 2) hx hb dX11_drainOf_78 (by decide) ?_
        refine n_idiv hx hb (by omega) (by omega) (by omega) dX11_drainOf_79 ?_
        refine hret _ _ _ dX11_drainOf_80 ?_
        unfold drn dr0
        (repeat' split) <;> first | rfl | omega | (congr 1; omega)
      · refine lv_iload hx hb dX11_drainOf_71 (lv_at hl 0 rfl) ?_
        refine lv_goto (tgt := 80) hx hb dX11_drainOf_73 (by decide) ?_
        refine hret _ _ _ dX11_drainOf_80 ?_
        unfold drn dr0
        (repeat' split) <;> first | rfl | omega | (congr 1; omega)
    · refine lv_iload hx hb dX11_drainOf_48 (lv_at hl 0 rfl) ?_
      refine i_if_le (tgt := 60) hx hb (nT (by omega)) dX11_drainOf_50 (by decide) (fun c_14 => ?_) (fun c_14 => ?_)
      · refine lv_iconst (v := nI 0) hx hb dX11_drainOf_60 (by decide) ?_
        refine hret _ _ _ dX11_drainOf_61 ?_
        unfold drn dr0
        (repeat' split) <;> first | rfl | omega | (congr 1; omega)
      · refine lv_iload hx hb dX11_drainOf_53 (lv_at hl 0 rfl) ?_
        refine lv_iconst (v := nI 1) hx hb dX11_drainOf_55 (by decide) ?_
        refine n_isub hx hb (by omega) dX11_drainOf_56 ?_
        refine lv_goto (tgt := 61) hx hb dX11_drainOf_57 (by decide) ?_
        refine hret _ _ _ dX11_drainOf_61 ?_
        unfold drn dr0
        (repeat' split) <;> first | rfl | omega | (congr 1; omega)
set_option maxRecDepth 100000 in
set_option maxHeartbeats 4000000 in
theorem c_X11_drain (l : Launch) (D : va_G) (ka : Nat → ClassId) (h : Nat) (a : Nat → Nat) (N : Nat → Nat → Nat) (C : Nat → Nat → Int32) (f : Nat → Int32) (g : Nat → Nat → Int32) (R : va_W) (k q : Int32) (K q2 : Int) (hk : k.toInt = K) (hq : q.toInt = q2) (hN : WF N) : RO l D ka yX11_drain cX11_drain 3 (some .int) 1 [.ref h, .int k, .int q] (fun H => va_P D vwCl (mw ka h a N C f g ++ R) H) (vp_Si (fun r => r = (if 0 ≤ K ∧ K < (N 0 1 : Int) then (if 0 ≤ q2 ∧ q2 ≤ 99 then nI (drn N K.toNat q2.toNat) else -2) else -1))) := by
  refine RO.ofI (by decide) (Nat.le_of_ble_eq_true rfl) ?_
  intro p e s m args below meth c Q X hP hret ls hl
  obtain ⟨hx, hb, hml, hown, hts, hE⟩ := id X
  have hK := hE.1
  have hl : lv_has ls 3 [(0, .ref h), (1, .int k), (2, .int q)] := hl
  have hN1 := hN.1
  refine lv_aload_n hx hb dX11_drain_0 rfl (lv_at hl 0 rfl) ?_
  refine lv_iload_n hx hb dX11_drain_1 rfl (lv_at hl 1 rfl) ?_
  refine vp_callSi (ro_runV (c_X11_isTaker l D ka h a N C f g R k _ hk hN) X wd_827 wd_824 wd_826 ws_11 wd_8 on_X11_isTaker ⟨Nat.le_of_ble_eq_true rfl, Nat.le_of_ble_eq_true rfl⟩ (va_recv hK hP (ci := 11) (q0 := 0) rfl rfl) hP hl.1 rfl (Nat.le_of_ble_eq_true rfl) ⟨(Nat.zero_le _), (Nat.zero_le _)⟩ dX11_drain_2) (fun r_1 hr_1 => ?_)
  subst hr_1
  refine b_if_ne (tgt := 10) hx hb dX11_drain_5 (by decide) (fun c_2 => ?_) (fun c_2 => ?_)
  · obtain ⟨j, hlt_j, rfl, rfl⟩ := nat_ofK (n := N 0 1) hk (by omega) (by omega)
    refine lv_iload_n hx hb dX11_drain_10 rfl (lv_at hl 2 rfl) ?_
    refine lv_iconst (v := nI 0) hx hb dX11_drain_11 (by decide) ?_
    refine lv_bipush (v := nI 99) hx hb dX11_drain_12 (by decide) ?_
    refine vp_callSi (ro_runS (c_X11_within l D ka q (nI 0) (nI 99) _ _ _ hq (nT (by decide)) (nT (by decide))) X wd_780 wd_778 wd_779 wd_8 on_X11_within ⟨Nat.le_of_ble_eq_true rfl, Nat.le_of_ble_eq_true rfl⟩ trivial hl.1 rfl (Nat.le_of_ble_eq_true rfl) ⟨(Nat.zero_le _), (Nat.zero_le _)⟩ dX11_drain_14) (fun r_3 hr_3 => ?_)
    subst hr_3
    refine b_if_eq (tgt := 29) hx hb dX11_drain_17 (by decide) (fun c_4 => ?_) (fun c_4 => ?_)
    · refine lv_bipush (v := (-2)) hx hb dX11_drain_29 (by decide) ?_
      refine hret _ _ _ dX11_drain_31 ?_
      (repeat' split) <;> first | rfl | omega
    · obtain ⟨i, hlt_i, rfl, rfl⟩ := nat_ofK (n := 100) hq (by omega) (by omega)
      refine lv_aload_n hx hb dX11_drain_20 rfl (lv_at hl 0 rfl) ?_
      refine lv_iload_n hx hb dX11_drain_21 rfl (lv_at hl 1 rfl) ?_
      refine lv_iload_n hx hb dX11_drain_22 rfl (lv_at hl 2 rfl) ?_
      refine vp_callSi (ro_runV (c_X11_drainOf l D ka h a N C f g R j i (by omega) (by omega) (by omega) hN) X wd_859 wd_856 wd_858 ws_13 wd_8 on_X11_drainOf ⟨Nat.le_of_ble_eq_true rfl, Nat.le_of_ble_eq_true rfl⟩ (va_recv hK hP (ci := 11) (q0 := 0) rfl rfl) hP hl.1 rfl (Nat.le_of_ble_eq_true rfl) ⟨(Nat.zero_le _), (Nat.zero_le _)⟩ dX11_drain_23) (fun r_6 hr_6 => ?_)
      subst hr_6
      have hd_5 := drn_le hN j i
      refine lv_goto (tgt := 31) hx hb dX11_drain_26 (by decide) ?_
      refine hret _ _ _ dX11_drain_31 ?_
      (repeat' split) <;> first | rfl | omega
  · refine lv_iconst (v := (-1)) hx hb dX11_drain_8 (by decide) ?_
    refine hret _ _ _ dX11_drain_9 ?_
    (repeat' split) <;> first | rfl | omega
set_option maxRecDepth 100000 in
set_option maxHeartbeats 4000000 in
theorem c_X11_holdsBy (l : Launch) (D : va_G) (ka : Nat → ClassId) (h : Nat) (a : Nat → Nat) (N : Nat → Nat → Nat) (C : Nat → Nat → Int32) (f : Nat → Int32) (g : Nat → Nat → Int32) (R : va_W) (j m0 part : Nat) (hj : j < 5) (hm : m0 < 900) (hpt : 0 < part ∧ part < 3) (hp : 0 < N 0 0) (hN : WF N) : RO l D ka yX11_holdsBy cX11_holdsBy 6 (some .int) 1 [.ref h, .int (nI j), .int (nI m0), .int (nI part)] (fun H => va_P D vwCl (mw ka h a N C f g ++ R) H) (vp_Si (fun r => r = nI (hld N j m0 part))) := by
  refine RO.ofI (by decide) (Nat.le_of_ble_eq_true rfl) ?_
  intro p e s m args below meth c Q X hP hret ls hl
  obtain ⟨hx, hb, hml, hown, hts, hE⟩ := id X
  have hK := hE.1
  have hl : lv_has ls 6 [(0, .ref h), (1, .int (nI j)), (2, .int (nI m0)), (3, .int (nI part))] := hl
  have hN1 := hN.1
  refine lv_aload_n hx hb dX11_holdsBy_0 rfl (lv_at hl 0 rfl) ?_
  refine va_get (D := D) (ci := 11) (v := .ref (a 10)) (C := RX11) (T := TX11) (N := 35) hx hb hts inX11 hown hK hP 0 rfl rfl 10 (by decide) (hts _ wd_675) (fun _ h9 => h9) rfl dX11_holdsBy_1 ?_
  refine lv_iload_n hx hb dX11_holdsBy_4 rfl (lv_at hl 1 rfl) ?_
  refine n_iald hx hb hK hP 6 0 rfl rfl (k := j) (by omega) (by decide) dX11_holdsBy_5 ?_
  have hv_1 : N 3 j ≤ 99 := hN.2.2.2.1 j
  refine lv_istore (lv' := [(4, .int (nI (N 3 j))), (0, .ref h), (1, .int (nI j)), (2, .int (nI m0)), (3, .int (nI part))]) hx hb dX11_holdsBy_6 hl (by decide) rfl (fun ls hl => ?_)
  refine lv_iconst (v := nI 0) hx hb dX11_holdsBy_8 (by decide) ?_
  refine lv_istore (lv' := [(5, .int (nI 0)), (4, .int (nI (N 3 j))), (0, .ref h), (1, .int (nI j)), (2, .int (nI m0)), (3, .int (nI part))]) hx hb dX11_holdsBy_9 hl (by decide) rfl (fun ls hl => ?_)
  have loop11 : ∀ (fuel11 : Nat) (n : Nat) (left : Nat), 40 - n < fuel11 → (n ≤ 40) → (left ≤ 99) → (hol (fun t => drn N j t / part) (40 - n) (m0 + n) left + n = hld N j m0 part) → ∀ ls : Array Slot, lv_has ls 6 [(0, .ref h), (1, .int (nI j)), (2, .int (nI m0)), (3, .int (nI part)), (4, .int (nI left)), (5, .int (nI n))] → W p l e (rmz 1 0 0) s m args below meth c s.heap [] 0 0 Q (F0 m 11 ls []) := by
    intro fuel11
    induction fuel11 with
    | zero => intro n left hfu; exact absurd hfu (Nat.not_lt_zero _)
    | succ fuel11 ih11 =>
      intro n left hfu hi1 hi2 hi3 ls hl
      have hdd : drn N j (m0 + n) / part ≤ drn N j (m0 + n) := Nat.div_le_self _ _
      have hdz := Int.natCast_nonneg (drn N j (m0 + n) / part)
      refine lv_iload hx hb dX11_holdsBy_11 (lv_at hl 5 rfl) ?_
      refine lv_bipush (v := nI 40) hx hb dX11_holdsBy_13 (by decide) ?_
      refine i_icmp_ge (tgt := 56) hx hb (nT (by omega)) (nT (by decide)) dX11_holdsBy_15 (by decide) (fun c_2 => ?_) (fun c_2 => ?_)
      · refine lv_iload hx hb dX11_holdsBy_56 (lv_at hl 5 rfl) ?_
        refine hret _ _ _ dX11_holdsBy_58 ?_
        rw [← hi3]
        first | (rw [show 40 - n = 0 by omega, hol, Nat.zero_add]) | (rw [show 40 - n = (40 - (n + 1)) + 1 by omega, hol, if_neg (by omega), Nat.zero_add])
      · refine lv_aload_n hx hb dX11_holdsBy_18 rfl (lv_at hl 0 rfl) ?_
        refine lv_iload_n hx hb dX11_holdsBy_19 rfl (lv_at hl 1 rfl) ?_
        refine lv_iload_n hx hb dX11_holdsBy_20 rfl (lv_at hl 2 rfl) ?_
        refine lv_iload hx hb dX11_holdsBy_21 (lv_at hl 5 rfl) ?_
        refine n_iadd hx hb dX11_holdsBy_23 ?_
        refine vp_callSi (ro_runV (c_X11_drainOf l D ka h a N C f g R j (m0 + n) (by omega) (by omega) (by omega) hN) X wd_859 wd_856 wd_858 ws_13 wd_8 on_X11_drainOf ⟨Nat.le_of_ble_eq_true rfl, Nat.le_of_ble_eq_true rfl⟩ (va_recv hK hP (ci := 11) (q0 := 0) rfl rfl) hP hl.1 rfl (Nat.le_of_ble_eq_true rfl) ⟨(Nat.zero_le _), (Nat.zero_le _)⟩ dX11_holdsBy_24) (fun r_4 hr_4 => ?_)
        subst hr_4
        have hd_3 := drn_le hN j (m0 + n)
        refine lv_iload_n hx hb dX11_holdsBy_27 rfl (lv_at hl 3 rfl) ?_
        refine n_idiv hx hb (by omega) (by omega) (by omega) dX11_holdsBy_28 ?_
        refine lv_iload hx hb dX11_holdsBy_29 (lv_at hl 4 rfl) ?_
        refine i_icmp_gt (tgt := 56) hx hb (nT (by omega)) (nT (by omega)) dX11_holdsBy_31 (by decide) (fun c_5 => ?_) (fun c_5 => ?_)
        · refine lv_iload hx hb dX11_holdsBy_56 (lv_at hl 5 rfl) ?_
          refine hret _ _ _ dX11_holdsBy_58 ?_
          rw [← hi3]
          first | (rw [show 40 - n = 0 by omega, hol, Nat.zero_add]) | (rw [show 40 - n = (40 - (n + 1)) + 1 by omega, hol, if_neg (by omega), Nat.zero_add])
        · refine lv_iload hx hb dX11_holdsBy_34 (lv_at hl 4 rfl) ?_
          refine lv_aload_n hx hb dX11_holdsBy_36 rfl (lv_at hl 0 rfl) ?_
          refine lv_iload_n hx hb dX11_holdsBy_37 rfl (lv_at hl 1 rfl) ?_
          refine lv_iload_n hx hb dX11_holdsBy_38 rfl (lv_at hl 2 rfl) ?_
          refine lv_iload hx hb dX11_holdsBy_39 (lv_at hl 5 rfl) ?_
          refine n_iadd hx hb dX11_holdsBy_41 ?_
          refine vp_callSi (ro_runV (c_X11_drainOf l D ka h a N C f g R j (m0 + n) (by omega) (by omega) (by omega) hN) X wd_859 wd_856 wd_858 ws_13 wd_8 on_X11_drainOf ⟨Nat.le_of_ble_eq_true rfl, Nat.le_of_ble_eq_true rfl⟩ (va_recv hK hP (ci := 11) (q0 := 0) rfl rfl) hP hl.1 rfl (Nat.le_of_ble_eq_true rfl) ⟨(Nat.zero_le _), (Nat.zero_le _)⟩ dX11_holdsBy_42) (fun r_7 hr_7 => ?_)
          subst hr_7
          have hd_6 := drn_le hN j (m0 + n)
          refine lv_iload_n hx hb dX11_holdsBy_45 rfl (lv_at hl 3 rfl) ?_
          refine n_idiv hx hb (by omega) (by omega) (by omega) dX11_holdsBy_46 ?_
          refine n_isub hx hb (by omega) dX11_holdsBy_47 ?_
          refine lv_istore (lv' := [(4, .int (nI (left - ((drn N j (m0 + n)) / part)))), (0, .ref h), (1, .int (nI j)), (2, .int (nI m0)), (3, .int (nI part)), (5, .int (nI n))]) hx hb dX11_holdsBy_48 hl (by decide) rfl (fun ls hl => ?_)
          refine n_iinc (lv' := [(5, .int (nI (n + 1))), (4, .int (nI (left - ((drn N j (m0 + n)) / part)))), (0, .ref h), (1, .int (nI j)), (2, .int (nI m0)), (3, .int (nI part))]) (k := 5) (d := 1) hx hb dX11_holdsBy_50 hl rfl rfl (by decide) rfl (fun ls hl => ?_)
          refine lv_goto (tgt := 11) hx hb dX11_holdsBy_53 (by decide) ?_
          exact ih11 (n + 1) (left - ((drn N j (m0 + n)) / part)) (by omega) (by omega) (by omega) (by rw [← hi3, show 40 - n = (40 - (n + 1)) + 1 by omega, hol, if_pos (by omega)]; simp only [Nat.add_assoc]; omega) ls (lv_sub hl [2, 3, 4, 5, 1, 0] rfl)
  exact loop11 _ 0 (N 3 j) (Nat.lt_succ_self _) (by omega) (by omega) (by simp only [hld, Nat.add_zero, Nat.sub_zero]) ls (lv_sub hl [2, 3, 4, 5, 1, 0] rfl)
end
section
/-! ===== the spec, more of it ===== -/
def bstA (v : Nat → Nat) : Nat → Nat
  | 0 => 0
  | k + 1 => if v (bstA v k) < v (k + 1) then k + 1 else bstA v k
theorem bstA_le (v : Nat → Nat) : ∀ k, bstA v k ≤ k
  | 0 => Nat.le_refl _
  | k + 1 => by
    have := bstA_le v k
    unfold bstA
    split <;> omega
def bst (N : Nat → Nat → Nat) (j : Nat) : Nat := bstA (fun k => hld N j k 1) (N 0 0 - 1)
def bth (N : Nat → Nat → Nat) (a b m : Nat) : Nat := min (hld N a m 2) (hld N b m 2)
theorem bth_le (N : Nat → Nat → Nat) (a b m : Nat) : bth N a b m ≤ 40 := Nat.le_trans (Nat.min_le_left _ _) (hld_le _ _ _ _)
def frd (v : Nat → Nat) (a : Nat) : Nat → Option Nat
  | 0 => none
  | b + 1 => if b = a then frd v a b else match frd v a b with
    | none => some b
    | some q => if v q < v b then some b else some q
theorem frd_lt {v : Nat → Nat} {a q : Nat} : ∀ {b : Nat}, frd v a b = some q → q < b
  | 0, h => by simp [frd] at h
  | b + 1, h => by
    unfold frd at h
    split at h
    · exact Nat.lt_succ_of_lt (frd_lt h)
    · split at h
      · cases h; exact Nat.lt_succ_self _
      · split at h
        · cases h; exact Nat.lt_succ_self _
        · cases h; exact Nat.lt_succ_of_lt (frd_lt (by assumption))
def fno (o : Option Nat) : Int32 := match o with
  | none => -9
  | some q => nI q
def bset (P : Nat → Bool) : Nat → Nat
  | 0 => 0
  | k + 1 => bset P k + (if P k then 2 ^ k else 0)
theorem bset_lt (P : Nat → Bool) : ∀ k, bset P k < 2 ^ k
  | 0 => by simp [bset]
  | k + 1 => by
    have := bset_lt P k
    unfold bset
    rw [Nat.pow_succ]
    split <;> omega
theorem or_add {s k : Nat} (h : s < 2 ^ k) : s ||| 2 ^ k = s + 2 ^ k := by
  rw [Nat.or_comm]
  have := Nat.two_pow_add_eq_or_of_lt h 1
  rw [Nat.mul_one] at this
  rw [← this, Nat.add_comm]
theorem bset_t {P : Nat → Bool} {k : Nat} (h : P k = true) : bset P k ||| (1 * 2 ^ k) = bset P (k + 1) := by
  rw [Nat.one_mul, or_add (bset_lt P k), bset, if_pos h]
theorem bset_f {P : Nat → Bool} {k : Nat} (h : ¬ P k = true) : bset P k = bset P (k + 1) := by
  rw [bset, if_neg h, Nat.add_zero]
def gts (N : Nat → Nat → Nat) (j m : Nat) : Nat := bset (fun g => decide (2 * N 5 g ≤ hld N j m 1)) (N 0 2)
def soA (N : Nat → Nat → Nat) : Nat → Bool
  | 0 => true
  | k + 1 => soA N k && decide (hld N (N 6 k) (N 7 k) 1 = N 8 k)
theorem soA_f {N : Nat → Nat → Nat} {q : Nat} (h : ¬ hld N (N 6 q) (N 7 q) 1 = N 8 q) : ∀ {k : Nat}, q < k → soA N k = false
  | 0, h1 => absurd h1 (Nat.not_lt_zero _)
  | k + 1, h1 => by
    unfold soA
    rcases Nat.lt_or_ge q k with h2 | h2
    · rw [soA_f h h2]; rfl
    · have : q = k := by omega
      subst this
      simp [h]
theorem up_up (N : Nat → Nat → Nat) (i k v w : Nat) : up (up N i k v) i k w = up N i k w := by
  funext a b
  unfold up
  by_cases h : a = i
  · simp only [h, if_true]
    unfold upN
    by_cases h2 : b = k <;> simp [h2]
  · simp [h]
theorem up_self (N : Nat → Nat → Nat) (i k : Nat) : up N i k (N i k) = N := by
  funext a b
  unfold up
  by_cases h : a = i
  · subst h
    rw [if_pos rfl]
    unfold upN
    by_cases h2 : b = k
    · rw [if_pos h2, h2]
    · rw [if_neg h2]
  · rw [if_neg h]
theorem up_back (N : Nat → Nat → Nat) (i k v : Nat) : up (up N i k v) i k (N i k) = N := by rw [up_up, up_self]
theorem up_at (N : Nat → Nat → Nat) (i k v : Nat) : up N i k v i k = v := by simp [up, upN]
theorem up_row {N : Nat → Nat → Nat} {i k v a : Nat} (h : a ≠ i) : up N i k v a = N a := by simp [up, h]
theorem WF.up1 {N : Nat → Nat → Nat} (h : WF N) {k v : Nat} (hv : v ≤ 9) : WF (up N 1 k v) := by
  obtain ⟨h0, h1, h2⟩ := h
  refine ⟨h0, fun j => ?_, h2⟩
  show upN (N 1) k v j ≤ 9
  unfold upN; split
  · exact hv
  · exact h1 j
theorem WF.up2 {N : Nat → Nat → Nat} (h : WF N) {k v : Nat} (hv : v ≤ 2) : WF (up N 2 k v) := by
  obtain ⟨h0, h1, h2, h3⟩ := h
  refine ⟨h0, h1, fun j => ?_, h3⟩
  show upN (N 2) k v j ≤ 2
  unfold upN; split
  · exact hv
  · exact h2 j
theorem WF.up3 {N : Nat → Nat → Nat} (h : WF N) {k v : Nat} (hv : v ≤ 99) : WF (up N 3 k v) := by
  obtain ⟨h0, h1, h2, h3, h4⟩ := h
  refine ⟨h0, h1, h2, fun j => ?_, h4⟩
  show upN (N 3) k v j ≤ 99
  unfold upN; split
  · exact hv
  · exact h3 j
theorem WF.up4 {N : Nat → Nat → Nat} (h : WF N) {k v : Nat} (hv : v ≤ 9) : WF (up N 4 k v) := by
  obtain ⟨h0, h1, h2, h3, h4, h5⟩ := h
  refine ⟨h0, h1, h2, h3, fun j => ?_, h5⟩
  show upN (N 4) k v j ≤ 9
  unfold upN; split
  · exact hv
  · exact h4 j
theorem WF.up04 {N : Nat → Nat → Nat} (h : WF N) {v : Nat} (hv : v ≤ 4) : WF (up N 0 4 v) := by
  obtain ⟨⟨a1, a2, a3, a4, a5, a6, a7⟩, h1⟩ := h
  exact ⟨⟨a1, a2, a3, a4, hv, a6, a7⟩, h1⟩
theorem WF.up05 {N : Nat → Nat → Nat} (h : WF N) {v : Nat} (hv : v < 64) : WF (up N 0 5 v) := by
  obtain ⟨⟨a1, a2, a3, a4, a5, a6, a7⟩, h1⟩ := h
  exact ⟨⟨a1, a2, a3, a4, a5, a6, hv⟩, h1⟩
end
section
set_option maxRecDepth 100000 in
set_option maxHeartbeats 4000000 in
theorem c_X11_holds (l : Launch) (D : va_G) (ka : Nat → ClassId) (h : Nat) (a : Nat → Nat) (N : Nat → Nat → Nat) (C : Nat → Nat → Int32) (f : Nat → Int32) (g : Nat → Nat → Int32) (R : va_W) (k q : Int32) (K q2 : Int) (hk : k.toInt = K) (hq : q.toInt = q2) (hN : WF N) : RO l D ka yX11_holds cX11_holds 3 (some .int) 2 [.ref h, .int k, .int q] (fun H => va_P D vwCl (mw ka h a N C f g ++ R) H) (vp_Si (fun r => r = (if 0 ≤ K ∧ K < (N 0 1 : Int) then (if 0 ≤ q2 ∧ q2 ≤ 59 then nI (hld N K.toNat q2.toNat 1) else -2) else -1))) := by
  refine RO.ofI (by decide) (Nat.le_of_ble_eq_true rfl) ?_
  intro p e s m args below meth c Q X hP hret ls hl
  obtain ⟨hx, hb, hml, hown, hts, hE⟩ := id X
  have hK := hE.1
  have hl : lv_has ls 3 [(0, .ref h), (1, .int k), (2, .int q)] := hl
  have hN1 := hN.1
  refine lv_aload_n hx hb dX11_holds_0 rfl (lv_at hl 0 rfl) ?_
  refine lv_iload_n hx hb dX11_holds_1 rfl (lv_at hl 1 rfl) ?_
  refine vp_callSi (ro_runV (c_X11_isTaker l D ka h a N C f g R k _ hk hN) X wd_827 wd_824 wd_826 ws_11 wd_8 on_X11_isTaker ⟨Nat.le_of_ble_eq_true rfl, Nat.le_of_ble_eq_true rfl⟩ (va_recv hK hP (ci := 11) (q0 := 0) rfl rfl) hP hl.1 rfl (Nat.le_of_ble_eq_true rfl) ⟨(Nat.zero_le _), (Nat.zero_le _)⟩ dX11_holds_2) (fun r_1 hr_1 => ?_)
  subst hr_1
  refine b_if_ne (tgt := 10) hx hb dX11_holds_5 (by decide) (fun c_2 => ?_) (fun c_2 => ?_)
  · obtain ⟨j, hlt_j, rfl, rfl⟩ := nat_ofK (n := N 0 1) hk (by omega) (by omega)
    refine lv_iload_n hx hb dX11_holds_10 rfl (lv_at hl 2 rfl) ?_
    refine vp_callSi (ro_runS (c_X11_isMinute l D ka q _ hq) X wd_866 wd_864 wd_865 wd_8 on_X11_isMinute ⟨Nat.le_of_ble_eq_true rfl, Nat.le_of_ble_eq_true rfl⟩ trivial hl.1 rfl (Nat.le_of_ble_eq_true rfl) ⟨(Nat.zero_le _), (Nat.zero_le _)⟩ dX11_holds_11) (fun r_3 hr_3 => ?_)
    subst hr_3
    refine b_if_eq (tgt := 27) hx hb dX11_holds_14 (by decide) (fun c_4 => ?_) (fun c_4 => ?_)
    · refine lv_bipush (v := (-2)) hx hb dX11_holds_27 (by decide) ?_
      refine hret _ _ _ dX11_holds_29 ?_
      (repeat' split) <;> first | rfl | omega
    · obtain ⟨i, hlt_i, rfl, rfl⟩ := nat_ofK (n := 60) hq (by omega) (by omega)
      refine lv_aload_n hx hb dX11_holds_17 rfl (lv_at hl 0 rfl) ?_
      refine lv_iload_n hx hb dX11_holds_18 rfl (lv_at hl 1 rfl) ?_
      refine lv_iload_n hx hb dX11_holds_19 rfl (lv_at hl 2 rfl) ?_
      refine lv_iconst (v := nI 1) hx hb dX11_holds_20 (by decide) ?_
      refine vp_callSi (ro_runV (c_X11_holdsBy l D ka h a N C f g R j i 1 (by omega) (by omega) (by omega) (by omega) hN) X wd_870 wd_867 wd_869 ws_14 wd_8 on_X11_holdsBy ⟨Nat.le_of_ble_eq_true rfl, Nat.le_of_ble_eq_true rfl⟩ (va_recv hK hP (ci := 11) (q0 := 0) rfl rfl) hP hl.1 rfl (Nat.le_of_ble_eq_true rfl) ⟨(Nat.zero_le _), (Nat.zero_le _)⟩ dX11_holds_21) (fun r_6 hr_6 => ?_)
      subst hr_6
      have hd_5 := hld_le N j i 1
      refine lv_goto (tgt := 29) hx hb dX11_holds_24 (by decide) ?_
      refine hret _ _ _ dX11_holds_29 ?_
      (repeat' split) <;> first | rfl | omega
  · refine lv_iconst (v := (-1)) hx hb dX11_holds_8 (by decide) ?_
    refine hret _ _ _ dX11_holds_9 ?_
    (repeat' split) <;> first | rfl | omega
set_option maxRecDepth 100000 in
set_option maxHeartbeats 4000000 in
theorem c_X11_bothHold (l : Launch) (D : va_G) (ka : Nat → ClassId) (h : Nat) (a : Nat → Nat) (N : Nat → Nat → Nat) (C : Nat → Nat → Int32) (f : Nat → Int32) (g : Nat → Nat → Int32) (R : va_W) (j i m0 : Nat) (hj : j < 5) (hi : i < 5) (hm : m0 < 60) (hp : 0 < N 0 0) (hN : WF N) : RO l D ka yX11_bothHold cX11_bothHold 6 (some .int) 2 [.ref h, .int (nI j), .int (nI i), .int (nI m0)] (fun H => va_P D vwCl (mw ka h a N C f g ++ R) H) (vp_Si (fun r => r = nI (bth N j i m0))) := by
  refine RO.ofI (by decide) (Nat.le_of_ble_eq_true rfl) ?_
  intro p e s m args below meth c Q X hP hret ls hl
  obtain ⟨hx, hb, hml, hown, hts, hE⟩ := id X
  have hK := hE.1
  have hl : lv_has ls 6 [(0, .ref h), (1, .int (nI j)), (2, .int (nI i)), (3, .int (nI m0))] := hl
  have hN1 := hN.1
  refine lv_aload_n hx hb dX11_bothHold_0 rfl (lv_at hl 0 rfl) ?_
  refine lv_iload_n hx hb dX11_bothHold_1 rfl (lv_at hl 1 rfl) ?_
  refine lv_iload_n hx hb dX11_bothHold_2 rfl (lv_at hl 3 rfl) ?_
  refine lv_iconst (v := nI 2) hx hb dX11_bothHold_3 (by decide) ?_
  refine vp_callSi (ro_runV (c_X11_holdsBy l D ka h a N C f g R j m0 2 (by omega) (by omega) (by omega) (by omega) hN) X wd_870 wd_867 wd_869 ws_14 wd_8 on_X11_holdsBy ⟨Nat.le_of_ble_eq_true rfl, Nat.le_of_ble_eq_true rfl⟩ (va_recv hK hP (ci := 11) (q0 := 0) rfl rfl) hP hl.1 rfl (Nat.le_of_ble_eq_true rfl) ⟨(Nat.zero_le _), (Nat.zero_le _)⟩ dX11_bothHold_4) (fun r_2 hr_2 => ?_)
  subst hr_2
  have hd_1 := hld_le N j m0 2
  refine lv_istore (lv' := [(4, .int (nI (hld N j m0 2))), (0, .ref h), (1, .int (nI j)), (2, .int (nI i)), (3, .int (nI m0))]) hx hb dX11_bothHold_7 hl (by decide) rfl (fun ls hl => ?_)
  refine lv_aload_n hx hb dX11_bothHold_9 rfl (lv_at hl 1 rfl) ?_
  refine lv_iload_n hx hb dX11_bothHold_10 rfl (lv_at hl 3 rfl) ?_
  refine lv_iload_n hx hb dX11_bothHold_11 rfl (lv_at hl 4 rfl) ?_
  refine lv_iconst (v := nI 2) hx hb dX11_bothHold_12 (by decide) ?_
  refine vp_callSi (ro_runV (c_X11_holdsBy l D ka h a N C f g R i m0 2 (by omega) (by omega) (by omega) (by omega) hN) X wd_870 wd_867 wd_869 ws_14 wd_8 on_X11_holdsBy ⟨Nat.le_of_ble_eq_true rfl, Nat.le_of_ble_eq_true rfl⟩ (va_recv hK hP (ci := 11) (q0 := 0) rfl rfl) hP hl.1 rfl (Nat.le_of_ble_eq_true rfl) ⟨(Nat.zero_le _), (Nat.zero_le _)⟩ dX11_bothHold_13) (fun r_4 hr_4 => ?_)
  subst hr_4
  have hd_3 := hld_le N i m0 2
  refine lv_istore (lv' := [(5, .int (nI (hld N i m0 2))), (4, .int (nI (hld N j m0 2))), (0, .ref h), (1, .int (nI j)), (2, .int (nI i)), (3, .int (nI m0))]) hx hb dX11_bothHold_16 hl (by decide) rfl (fun ls hl => ?_)
  refine lv_iload hx hb dX11_bothHold_18 (lv_at hl 1 rfl) ?_
  refine lv_iload hx hb dX11_bothHold_20 (lv_at hl 0 rfl) ?_
  refine i_icmp_ge (tgt := 30) hx hb (nT (by omega)) (nT (by omega)) dX11_bothHold_22 (by decide) (fun c_5 => ?_) (fun c_5 => ?_)
  · refine lv_iload hx hb dX11_bothHold_30 (lv_at hl 0 rfl) ?_
    refine hret _ _ _ dX11_bothHold_32 ?_
    unfold bth
    congr 1; omega
  · refine lv_iload hx hb dX11_bothHold_25 (lv_at hl 1 rfl) ?_
    refine lv_goto (tgt := 32) hx hb dX11_bothHold_27 (by decide) ?_
    refine hret _ _ _ dX11_bothHold_32 ?_
    unfold bth
    congr 1; omega
set_option maxRecDepth 100000 in
set_option maxHeartbeats 4000000 in
theorem c_X11_best (l : Launch) (D : va_G) (ka : Nat → ClassId) (h : Nat) (a : Nat → Nat) (N : Nat → Nat → Nat) (C : Nat → Nat → Int32) (f : Nat → Int32) (g : Nat → Nat → Int32) (R : va_W) (k q : Int32) (K q2 : Int) (hk : k.toInt = K) (hq : q.toInt = q2) (hN : WF N) : RO l D ka yX11_best cX11_best 5 (some .int) 2 [.ref h, .int k, .int q] (fun H => va_P D vwCl (mw ka h a N C f g ++ R) H) (vp_Si (fun r => r = (if 0 ≤ K ∧ K < (N 0 1 : Int) then (if q2 = 0 then nI (bst N K.toNat) else if q2 = 1 then nI (hld N K.toNat (bst N K.toNat) 1) else -2) else -1))) := by
  refine RO.ofI (by decide) (Nat.le_of_ble_eq_true rfl) ?_
  intro p e s m args below meth c Q X hP hret ls hl
  obtain ⟨hx, hb, hml, hown, hts, hE⟩ := id X
  have hK := hE.1
  have hl : lv_has ls 5 [(0, .ref h), (1, .int k), (2, .int q)] := hl
  have hN1 := hN.1
  refine lv_aload_n hx hb dX11_best_0 rfl (lv_at hl 0 rfl) ?_
  refine lv_iload_n hx hb dX11_best_1 rfl (lv_at hl 1 rfl) ?_
  refine vp_callSi (ro_runV (c_X11_isTaker l D ka h a N C f g R k _ hk hN) X wd_827 wd_824 wd_826 ws_11 wd_8 on_X11_isTaker ⟨Nat.le_of_ble_eq_true rfl, Nat.le_of_ble_eq_true rfl⟩ (va_recv hK hP (ci := 11) (q0 := 0) rfl rfl) hP hl.1 rfl (Nat.le_of_ble_eq_true rfl) ⟨(Nat.zero_le _), (Nat.zero_le _)⟩ dX11_best_2) (fun r_1 hr_1 => ?_)
  subst hr_1
  refine b_if_ne (tgt := 10) hx hb dX11_best_5 (by decide) (fun c_2 => ?_) (fun c_2 => ?_)
  · refine lv_iload_n hx hb dX11_best_10 rfl (lv_at hl 2 rfl) ?_
    refine lv_iconst (v := nI 0) hx hb dX11_best_11 (by decide) ?_
    refine lv_iconst (v := nI 1) hx hb dX11_best_12 (by decide) ?_
    refine vp_callSi (ro_runS (c_X11_within l D ka q (nI 0) (nI 1) _ _ _ hq (nT (by decide)) (nT (by decide))) X wd_780 wd_778 wd_779 wd_8 on_X11_within ⟨Nat.le_of_ble_eq_true rfl, Nat.le_of_ble_eq_true rfl⟩ trivial hl.1 rfl (Nat.le_of_ble_eq_true rfl) ⟨(Nat.zero_le _), (Nat.zero_le _)⟩ dX11_best_13) (fun r_3 hr_3 => ?_)
    subst hr_3
    refine b_if_ne (tgt := 22) hx hb dX11_best_16 (by decide) (fun c_4 => ?_) (fun c_4 => ?_)
    · obtain ⟨j, hlt_j, rfl, rfl⟩ := nat_ofK (n := N 0 1) hk (by omega) (by omega)
      refine lv_iconst (v := nI 0) hx hb dX11_best_22 (by decide) ?_
      refine lv_istore_n (lv' := [(3, .int (nI 0)), (0, .ref h), (1, .int (nI j)), (2, .int q)]) hx hb dX11_best_23 rfl hl (by decide) rfl (fun ls hl => ?_)
      refine lv_iconst (v := nI 1) hx hb dX11_best_24 (by decide) ?_
      refine lv_istore (lv' := [(4, .int (nI 1)), (3, .int (nI 0)), (0, .ref h), (1, .int (nI j)), (2, .int q)]) hx hb dX11_best_25 hl (by decide) rfl (fun ls hl => ?_)
      have loop27 : ∀ (fuel27 : Nat) (i : Nat) (bs : Nat), N 0 0 - i < fuel27 → (i + 1 ≤ N 0 0) → (bs = bstA (fun k => hld N j k 1) i) → ∀ ls : Array Slot, lv_has ls 5 [(0, .ref h), (1, .int (nI j)), (2, .int q), (3, .int (nI bs)), (4, .int (nI (i + 1)))] → W p l e (rmz 2 0 0) s m args below meth c s.heap [] 0 0 Q (F0 m 27 ls []) := by
        intro fuel27
        induction fuel27 with
        | zero => intro i bs hfu; exact absurd hfu (Nat.not_lt_zero _)
        | succ fuel27 ih27 =>
          intro i bs hfu hi1 hi2 ls hl
          have hbs : bs ≤ i := by rw [hi2]; exact bstA_le _ _
          refine lv_iload hx hb dX11_best_27 (lv_at hl 4 rfl) ?_
          refine lv_aload_n hx hb dX11_best_29 rfl (lv_at hl 0 rfl) ?_
          refine va_get (D := D) (ci := 11) (v := .int (nI (N 0 0))) (C := RX11) (T := TX11) (N := 35) hx hb hts inX11 hown hK hP 0 rfl rfl 5 (by decide) (hts _ wd_670) (fun _ h9 => h9) rfl dX11_best_30 ?_
          refine i_icmp_ge (tgt := 67) hx hb (nT (by omega)) (nT (by omega)) dX11_best_33 (by decide) (fun c_5 => ?_) (fun c_5 => ?_)
          · refine lv_iload_n hx hb dX11_best_67 rfl (lv_at hl 2 rfl) ?_
            refine i_if_ne (tgt := 75) hx hb hq dX11_best_68 (by decide) (fun c_6 => ?_) (fun c_6 => ?_)
            · refine lv_aload_n hx hb dX11_best_75 rfl (lv_at hl 0 rfl) ?_
              refine lv_iload_n hx hb dX11_best_76 rfl (lv_at hl 1 rfl) ?_
              refine lv_iload_n hx hb dX11_best_77 rfl (lv_at hl 3 rfl) ?_
              refine lv_iconst (v := nI 1) hx hb dX11_best_78 (by decide) ?_
              refine vp_callSi (ro_runV (c_X11_holdsBy l D ka h a N C f g R j bs 1 (by omega) (by omega) (by omega) (by omega) hN) X wd_870 wd_867 wd_869 ws_14 wd_8 on_X11_holdsBy ⟨Nat.le_of_ble_eq_true rfl, Nat.le_of_ble_eq_true rfl⟩ (va_recv hK hP (ci := 11) (q0 := 0) rfl rfl) hP hl.1 rfl (Nat.le_of_ble_eq_true rfl) ⟨(Nat.zero_le _), (Nat.zero_le _)⟩ dX11_best_79) (fun r_8 hr_8 => ?_)
              subst hr_8
              have hd_7 := hld_le N j bs 1
              refine hret _ _ _ dX11_best_82 ?_
              (try rw [show bst N (↑j : Int).toNat = bs by rw [hi2]; show bstA _ (N 0 0 - 1) = _; congr 1; omega])
              (repeat' split) <;> first | rfl | omega
            · refine lv_iload_n hx hb dX11_best_71 rfl (lv_at hl 3 rfl) ?_
              refine lv_goto (tgt := 82) hx hb dX11_best_72 (by decide) ?_
              refine hret _ _ _ dX11_best_82 ?_
              (try rw [show bst N (↑j : Int).toNat = bs by rw [hi2]; show bstA _ (N 0 0 - 1) = _; congr 1; omega])
              (repeat' split) <;> first | rfl | omega
          · refine lv_aload_n hx hb dX11_best_36 rfl (lv_at hl 0 rfl) ?_
            refine lv_iload_n hx hb dX11_best_37 rfl (lv_at hl 1 rfl) ?_
            refine lv_iload hx hb dX11_best_38 (lv_at hl 4 rfl) ?_
            refine lv_iconst (v := nI 1) hx hb dX11_best_40 (by decide) ?_
            refine vp_callSi (ro_runV (c_X11_holdsBy l D ka h a N C f g R j (i + 1) 1 (by omega) (by omega) (by omega) (by omega) hN) X wd_870 wd_867 wd_869 ws_14 wd_8 on_X11_holdsBy ⟨Nat.le_of_ble_eq_true rfl, Nat.le_of_ble_eq_true rfl⟩ (va_recv hK hP (ci := 11) (q0 := 0) rfl rfl) hP hl.1 rfl (Nat.le_of_ble_eq_true rfl) ⟨(Nat.zero_le _), (Nat.zero_le _)⟩ dX11_best_41) (fun r_10 hr_10 => ?_)
            subst hr_10
            have hd_9 := hld_le N j (i + 1) 1
            refine lv_aload_n hx hb dX11_best_44 rfl (lv_at hl 0 rfl) ?_
            refine lv_iload_n hx hb dX11_best_45 rfl (lv_at hl 1 rfl) ?_
            refine lv_iload_n hx hb dX11_best_46 rfl (lv_at hl 3 rfl) ?_
            refine lv_iconst (v := nI 1) hx hb dX11_best_47 (by decide) ?_
            refine vp_callSi (ro_runV (c_X11_holdsBy l D ka h a N C f g R j bs 1 (by omega) (by omega) (by omega) (by omega) hN) X wd_870 wd_867 wd_869 ws_14 wd_8 on_X11_holdsBy ⟨Nat.le_of_ble_eq_true rfl, Nat.le_of_ble_eq_true rfl⟩ (va_recv hK hP (ci := 11) (q0 := 0) rfl rfl) hP hl.1 rfl (Nat.le_of_ble_eq_true rfl) ⟨(Nat.zero_le _), (Nat.zero_le _)⟩ dX11_best_48) (fun r_12 hr_12 => ?_)
            subst hr_12
            have hd_11 := hld_le N j bs 1
            refine i_icmp_le (tgt := 59) hx hb (nT (by omega)) (nT (by omega)) dX11_best_51 (by decide) (fun c_13 => ?_) (fun c_13 => ?_)
            · refine lv_iload_n hx hb dX11_best_59 rfl (lv_at hl 3 rfl) ?_
              refine lv_istore_n (lv' := [(3, .int (nI bs)), (0, .ref h), (1, .int (nI j)), (2, .int q), (4, .int (nI (i + 1)))]) hx hb dX11_best_60 rfl hl (by decide) rfl (fun ls hl => ?_)
              refine n_iinc (lv' := [(4, .int (nI (i + 1 + 1))), (3, .int (nI bs)), (0, .ref h), (1, .int (nI j)), (2, .int q)]) (k := 4) (d := 1) hx hb dX11_best_61 hl rfl rfl (by decide) rfl (fun ls hl => ?_)
              refine lv_goto (tgt := 27) hx hb dX11_best_64 (by decide) ?_
              exact ih27 (i + 1) bs (by omega) (by omega) (by rw [bstA, ← hi2]; first | rw [if_pos (by omega)] | rw [if_neg (by omega)]) ls (lv_sub hl [2, 3, 4, 1, 0] rfl)
            · refine lv_iload hx hb dX11_best_54 (lv_at hl 4 rfl) ?_
              refine lv_goto (tgt := 60) hx hb dX11_best_56 (by decide) ?_
              refine lv_istore_n (lv' := [(3, .int (nI (i + 1))), (0, .ref h), (1, .int (nI j)), (2, .int q), (4, .int (nI (i + 1)))]) hx hb dX11_best_60 rfl hl (by decide) rfl (fun ls hl => ?_)
              refine n_iinc (lv' := [(4, .int (nI (i + 1 + 1))), (3, .int (nI (i + 1))), (0, .ref h), (1, .int (nI j)), (2, .int q)]) (k := 4) (d := 1) hx hb dX11_best_61 hl rfl rfl (by decide) rfl (fun ls hl => ?_)
              refine lv_goto (tgt := 27) hx hb dX11_best_64 (by decide) ?_
              exact ih27 (i + 1) (i + 1) (by omega) (by omega) (by rw [bstA, ← hi2]; first | rw [if_pos (by omega)] | rw [if_neg (by omega)]) ls (lv_sub hl [2, 3, 4, 1, 0] rfl)
      exact loop27 _ 0 0 (Nat.lt_succ_self _) (by omega) rfl ls (lv_sub hl [2, 3, 4, 1, 0] rfl)
    · refine lv_bipush (v := (-2)) hx hb dX11_best_19 (by decide) ?_
      refine hret _ _ _ dX11_best_21 ?_
      (try rw [show bst N (↑j : Int).toNat = bs by rw [hi2]; show bstA _ (N 0 0 - 1) = _; congr 1; omega])
      (repeat' split) <;> first | rfl | omega
  · refine lv_iconst (v := (-1)) hx hb dX11_best_8 (by decide) ?_
    refine hret _ _ _ dX11_best_9 ?_
    (try rw [show bst N (↑j : Int).toNat = bs by rw [hi2]; show bstA _ (N 0 0 - 1) = _; congr 1; omega])
    (repeat' split) <;> first | rfl | omega
set_option maxRecDepth 100000 in
set_option maxHeartbeats 4000000 in
theorem c_X11_together (l : Launch) (D : va_G) (ka : Nat → ClassId) (h : Nat) (a : Nat → Nat) (N : Nat → Nat → Nat) (C : Nat → Nat → Int32) (f : Nat → Int32) (g : Nat → Nat → Int32) (R : va_W) (k q m1 : Int32) (K q2 m2 : Int) (hk : k.toInt = K) (hq : q.toInt = q2) (hm1 : m1.toInt = m2) (hN : WF N) : RO l D ka yX11_together cX11_together 4 (some .int) 3 [.ref h, .int k, .int q, .int m1] (fun H => va_P D vwCl (mw ka h a N C f g ++ R) H) (vp_Si (fun r => r = (if (0 ≤ K ∧ K < (N 0 1 : Int)) ∧ (0 ≤ q2 ∧ q2 < (N 0 1 : Int)) ∧ K ≠ q2 then (if 0 ≤ m2 ∧ m2 ≤ 59 then nI (bth N K.toNat q2.toNat m2.toNat) else -2) else -1))) := by
  refine RO.ofI (by decide) (Nat.le_of_ble_eq_true rfl) ?_
  intro p e s m args below meth c Q X hP hret ls hl
  obtain ⟨hx, hb, hml, hown, hts, hE⟩ := id X
  have hK := hE.1
  have hl : lv_has ls 4 [(0, .ref h), (1, .int k), (2, .int q), (3, .int m1)] := hl
  have hN1 := hN.1
  refine lv_aload_n hx hb dX11_together_0 rfl (lv_at hl 0 rfl) ?_
  refine lv_iload_n hx hb dX11_together_1 rfl (lv_at hl 1 rfl) ?_
  refine vp_callSi (ro_runV (c_X11_isTaker l D ka h a N C f g R k _ hk hN) X wd_827 wd_824 wd_826 ws_11 wd_8 on_X11_isTaker ⟨Nat.le_of_ble_eq_true rfl, Nat.le_of_ble_eq_true rfl⟩ (va_recv hK hP (ci := 11) (q0 := 0) rfl rfl) hP hl.1 rfl (Nat.le_of_ble_eq_true rfl) ⟨(Nat.zero_le _), (Nat.zero_le _)⟩ dX11_together_2) (fun r_1 hr_1 => ?_)
  subst hr_1
  refine b_if_eq (tgt := 21) hx hb dX11_together_5 (by decide) (fun c_2 => ?_) (fun c_2 => ?_)
  · refine lv_iconst (v := (-1)) hx hb dX11_together_21 (by decide) ?_
    refine hret _ _ _ dX11_together_22 ?_
    (repeat' split) <;> first | rfl | omega
  · refine lv_aload_n hx hb dX11_together_8 rfl (lv_at hl 0 rfl) ?_
    refine lv_iload_n hx hb dX11_together_9 rfl (lv_at hl 2 rfl) ?_
    refine vp_callSi (ro_runV (c_X11_isTaker l D ka h a N C f g R q _ hq hN) X wd_827 wd_824 wd_826 ws_11 wd_8 on_X11_isTaker ⟨Nat.le_of_ble_eq_true rfl, Nat.le_of_ble_eq_true rfl⟩ (va_recv hK hP (ci := 11) (q0 := 0) rfl rfl) hP hl.1 rfl (Nat.le_of_ble_eq_true rfl) ⟨(Nat.zero_le _), (Nat.zero_le _)⟩ dX11_together_10) (fun r_3 hr_3 => ?_)
    subst hr_3
    refine b_if_eq (tgt := 21) hx hb dX11_together_13 (by decide) (fun c_4 => ?_) (fun c_4 => ?_)
    · refine lv_iconst (v := (-1)) hx hb dX11_together_21 (by decide) ?_
      refine hret _ _ _ dX11_together_22 ?_
      (repeat' split) <;> first | rfl | omega
    · refine lv_iload_n hx hb dX11_together_16 rfl (lv_at hl 1 rfl) ?_
      refine lv_iload_n hx hb dX11_together_17 rfl (lv_at hl 2 rfl) ?_
      refine i_icmp_ne (tgt := 23) hx hb hk hq dX11_together_18 (by decide) (fun c_5 => ?_) (fun c_5 => ?_)
      · refine lv_iload_n hx hb dX11_together_23 rfl (lv_at hl 3 rfl) ?_
        refine vp_callSi (ro_runS (c_X11_isMinute l D ka m1 _ hm1) X wd_866 wd_864 wd_865 wd_8 on_X11_isMinute ⟨Nat.le_of_ble_eq_true rfl, Nat.le_of_ble_eq_true rfl⟩ trivial hl.1 rfl (Nat.le_of_ble_eq_true rfl) ⟨(Nat.zero_le _), (Nat.zero_le _)⟩ dX11_together_24) (fun r_6 hr_6 => ?_)
        subst hr_6
        refine b_if_eq (tgt := 40) hx hb dX11_together_27 (by decide) (fun c_7 => ?_) (fun c_7 => ?_)
        · refine lv_bipush (v := (-2)) hx hb dX11_together_40 (by decide) ?_
          refine hret _ _ _ dX11_together_42 ?_
          (repeat' split) <;> first | rfl | omega
        · obtain ⟨j, hlt_j, rfl, rfl⟩ := nat_ofK (n := N 0 1) hk (by omega) (by omega)
          obtain ⟨i, hlt_i, rfl, rfl⟩ := nat_ofK (n := N 0 1) hq (by omega) (by omega)
          obtain ⟨t, hlt_t, rfl, rfl⟩ := nat_ofK (n := 60) hm1 (by omega) (by omega)
          refine lv_aload_n hx hb dX11_together_30 rfl (lv_at hl 0 rfl) ?_
          refine lv_iload_n hx hb dX11_together_31 rfl (lv_at hl 1 rfl) ?_
          refine lv_iload_n hx hb dX11_together_32 rfl (lv_at hl 2 rfl) ?_
          refine lv_iload_n hx hb dX11_together_33 rfl (lv_at hl 3 rfl) ?_
          refine vp_callSi (ro_runV (c_X11_bothHold l D ka h a N C f g R j i t (by omega) (by omega) (by omega) (by omega) hN) X wd_882 wd_879 wd_881 ws_15 wd_8 on_X11_bothHold ⟨Nat.le_of_ble_eq_true rfl, Nat.le_of_ble_eq_true rfl⟩ (va_recv hK hP (ci := 11) (q0 := 0) rfl rfl) hP hl.1 rfl (Nat.le_of_ble_eq_true rfl) ⟨(Nat.zero_le _), (Nat.zero_le _)⟩ dX11_together_34) (fun r_9 hr_9 => ?_)
          subst hr_9
          have hd_8 := bth_le N j i t
          refine lv_goto (tgt := 42) hx hb dX11_together_37 (by decide) ?_
          refine hret _ _ _ dX11_together_42 ?_
          (repeat' split) <;> first | rfl | omega
      · refine lv_iconst (v := (-1)) hx hb dX11_together_21 (by decide) ?_
        refine hret _ _ _ dX11_together_22 ?_
        (repeat' split) <;> first | rfl | omega
set_option maxRecDepth 100000 in
set_option maxHeartbeats 4000000 in
theorem c_X11_friend (l : Launch) (D : va_G) (ka : Nat → ClassId) (h : Nat) (a : Nat → Nat) (N : Nat → Nat → Nat) (C : Nat → Nat → Int32) (f : Nat → Int32) (g : Nat → Nat → Int32) (R : va_W) (k q : Int32) (K q2 : Int) (hk : k.toInt = K) (hq : q.toInt = q2) (hN : WF N) : RO l D ka yX11_friend cX11_friend 5 (some .int) 3 [.ref h, .int k, .int q] (fun H => va_P D vwCl (mw ka h a N C f g ++ R) H) (vp_Si (fun r => r = (if 0 ≤ K ∧ K < (N 0 1 : Int) then (if 0 ≤ q2 ∧ q2 ≤ 59 then fno (frd (fun b => bth N K.toNat b q2.toNat) K.toNat (N 0 1)) else -2) else -1))) := by
  refine RO.ofI (by decide) (Nat.le_of_ble_eq_true rfl) ?_
  intro p e s m args below meth c Q X hP hret ls hl
  obtain ⟨hx, hb, hml, hown, hts, hE⟩ := id X
  have hK := hE.1
  have hl : lv_has ls 5 [(0, .ref h), (1, .int k), (2, .int q)] := hl
  have hN1 := hN.1
  refine lv_aload_n hx hb dX11_friend_0 rfl (lv_at hl 0 rfl) ?_
  refine lv_iload_n hx hb dX11_friend_1 rfl (lv_at hl 1 rfl) ?_
  refine vp_callSi (ro_runV (c_X11_isTaker l D ka h a N C f g R k _ hk hN) X wd_827 wd_824 wd_826 ws_11 wd_8 on_X11_isTaker ⟨Nat.le_of_ble_eq_true rfl, Nat.le_of_ble_eq_true rfl⟩ (va_recv hK hP (ci := 11) (q0 := 0) rfl rfl) hP hl.1 rfl (Nat.le_of_ble_eq_true rfl) ⟨(Nat.zero_le _), (Nat.zero_le _)⟩ dX11_friend_2) (fun r_1 hr_1 => ?_)
  subst hr_1
  refine b_if_ne (tgt := 10) hx hb dX11_friend_5 (by decide) (fun c_2 => ?_) (fun c_2 => ?_)
  · refine lv_iload_n hx hb dX11_friend_10 rfl (lv_at hl 2 rfl) ?_
    refine vp_callSi (ro_runS (c_X11_isMinute l D ka q _ hq) X wd_866 wd_864 wd_865 wd_8 on_X11_isMinute ⟨Nat.le_of_ble_eq_true rfl, Nat.le_of_ble_eq_true rfl⟩ trivial hl.1 rfl (Nat.le_of_ble_eq_true rfl) ⟨(Nat.zero_le _), (Nat.zero_le _)⟩ dX11_friend_11) (fun r_3 hr_3 => ?_)
    subst hr_3
    refine b_if_ne (tgt := 20) hx hb dX11_friend_14 (by decide) (fun c_4 => ?_) (fun c_4 => ?_)
    · obtain ⟨j, hlt_j, rfl, rfl⟩ := nat_ofK (n := N 0 1) hk (by omega) (by omega)
      obtain ⟨i, hlt_i, rfl, rfl⟩ := nat_ofK (n := 60) hq (by omega) (by omega)
      refine lv_bipush (v := (-9)) hx hb dX11_friend_20 (by decide) ?_
      refine lv_istore_n (lv' := [(3, .int (-9)), (0, .ref h), (1, .int (nI j)), (2, .int (nI i))]) hx hb dX11_friend_22 rfl hl (by decide) rfl (fun ls hl => ?_)
      refine lv_iconst (v := nI 0) hx hb dX11_friend_23 (by decide) ?_
      refine lv_istore (lv' := [(4, .int (nI 0)), (3, .int (-9)), (0, .ref h), (1, .int (nI j)), (2, .int (nI i))]) hx hb dX11_friend_24 hl (by decide) rfl (fun ls hl => ?_)
      have loop26 : ∀ (fuel26 : Nat) (b : Nat) (o : Int32), N 0 1 - b < fuel26 → (b ≤ N 0 1) → (o = fno (frd (fun b => bth N j b i) j b)) → ∀ ls : Array Slot, lv_has ls 5 [(0, .ref h), (1, .int (nI j)), (2, .int (nI i)), (3, .int o), (4, .int (nI b))] → W p l e (rmz 3 0 0) s m args below meth c s.heap [] 0 0 Q (F0 m 26 ls []) := by
        intro fuel26
        induction fuel26 with
        | zero => intro b o hfu; exact absurd hfu (Nat.not_lt_zero _)
        | succ fuel26 ih26 =>
          intro b o hfu hi1 ho ls hl
          refine lv_iload hx hb dX11_friend_26 (lv_at hl 4 rfl) ?_
          refine lv_aload_n hx hb dX11_friend_28 rfl (lv_at hl 0 rfl) ?_
          refine va_get (D := D) (ci := 11) (v := .int (nI (N 0 1))) (C := RX11) (T := TX11) (N := 35) hx hb hts inX11 hown hK hP 0 rfl rfl 6 (by decide) (hts _ wd_671) (fun _ h9 => h9) rfl dX11_friend_29 ?_
          refine i_icmp_ge (tgt := 74) hx hb (nT (by omega)) (nT (by omega)) dX11_friend_32 (by decide) (fun c_5 => ?_) (fun c_5 => ?_)
          · refine lv_iload_n hx hb dX11_friend_74 rfl (lv_at hl 3 rfl) ?_
            refine hret _ _ _ dX11_friend_75 ?_
            rw [if_pos (by omega), if_pos (by omega), ho, show N 0 1 = b by omega]; rfl
          · refine lv_iload hx hb dX11_friend_35 (lv_at hl 4 rfl) ?_
            refine lv_iload_n hx hb dX11_friend_37 rfl (lv_at hl 1 rfl) ?_
            refine i_icmp_eq (tgt := 68) hx hb (nT (by omega)) (nT (by omega)) dX11_friend_38 (by decide) (fun c_6 => ?_) (fun c_6 => ?_)
            · refine n_iinc (lv' := [(4, .int (nI (b + 1))), (0, .ref h), (1, .int (nI j)), (2, .int (nI i)), (3, .int o)]) (k := 4) (d := 1) hx hb dX11_friend_68 hl rfl rfl (by decide) rfl (fun ls hl => ?_)
              refine lv_goto (tgt := 26) hx hb dX11_friend_71 (by decide) ?_
              exact ih26 (b + 1) o (by omega) (by omega) (by first | (exfalso; omega) | (rw [frd]; first | (rw [if_pos (by omega)]; assumption) | (rw [if_neg (by omega), hf]; first | rfl | (simp only []; first | (rw [if_pos (by omega)]; rfl) | (rw [if_neg (by omega)]; rfl))))) ls (lv_sub hl [1, 2, 3, 4, 0] rfl)
            · cases hf : frd (fun b => bth N j b i) j b with
              | none =>
                rw [hf] at ho; subst ho
                have hl : lv_has ls 5 [(0, .ref h), (1, .int (nI j)), (2, .int (nI i)), (3, .int (-9)), (4, .int (nI b))] := hl
                refine lv_iload_n hx hb dX11_friend_41 rfl (lv_at hl 3 rfl) ?_
                refine lv_bipush (v := (-9)) hx hb dX11_friend_42 (by decide) ?_
                refine i_icmp_eq (tgt := 65) hx hb ng9 ng9 dX11_friend_44 (by decide) (fun c_7 => ?_) (fun c_7 => absurd rfl c_7)
                refine lv_iload hx hb dX11_friend_65 (lv_at hl 4 rfl) ?_
                refine lv_istore_n (lv' := [(3, .int (nI b)), (0, .ref h), (1, .int (nI j)), (2, .int (nI i)), (4, .int (nI b))]) hx hb dX11_friend_67 rfl hl (by decide) rfl (fun ls hl => ?_)
                refine n_iinc (lv' := [(4, .int (nI (b + 1))), (3, .int (nI b)), (0, .ref h), (1, .int (nI j)), (2, .int (nI i))]) (k := 4) (d := 1) hx hb dX11_friend_68 hl rfl rfl (by decide) rfl (fun ls hl => ?_)
                refine lv_goto (tgt := 26) hx hb dX11_friend_71 (by decide) ?_
                exact ih26 (b + 1) (nI b) (by omega) (by omega) (by first | (exfalso; omega) | (rw [frd]; first | (rw [if_pos (by omega)]; assumption) | (rw [if_neg (by omega), hf]; first | rfl | (simp only []; first | (rw [if_pos (by omega)]; rfl) | (rw [if_neg (by omega)]; rfl))))) ls (lv_sub hl [2, 3, 4, 1, 0] rfl)
              | some q =>
                rw [hf] at ho; subst ho
                have hl : lv_has ls 5 [(0, .ref h), (1, .int (nI j)), (2, .int (nI i)), (3, .int (nI q)), (4, .int (nI b))] := hl
                have hqb := frd_lt hf
                refine lv_iload_n hx hb dX11_friend_41 rfl (lv_at hl 3 rfl) ?_
                refine lv_bipush (v := (-9)) hx hb dX11_friend_42 (by decide) ?_
                refine i_icmp_eq (tgt := 65) hx hb (nT (by omega)) ng9 dX11_friend_44 (by decide) (fun c_8 => ?_) (fun c_8 => ?_)
                · refine lv_iload hx hb dX11_friend_65 (lv_at hl 4 rfl) ?_
                  refine lv_istore_n (lv' := [(3, .int (nI b)), (0, .ref h), (1, .int (nI j)), (2, .int (nI i)), (4, .int (nI b))]) hx hb dX11_friend_67 rfl hl (by decide) rfl (fun ls hl => ?_)
                  refine n_iinc (lv' := [(4, .int (nI (b + 1))), (3, .int (nI b)), (0, .ref h), (1, .int (nI j)), (2, .int (nI i))]) (k := 4) (d := 1) hx hb dX11_friend_68 hl rfl rfl (by decide) rfl (fun ls hl => ?_)
                  refine lv_goto (tgt := 26) hx hb dX11_friend_71 (by decide) ?_
                  exact ih26 (b + 1) (nI b) (by omega) (by omega) (by first | (exfalso; omega) | (rw [frd]; first | (rw [if_pos (by omega)]; assumption) | (rw [if_neg (by omega), hf]; first | rfl | (simp only []; first | (rw [if_pos (by omega)]; rfl) | (rw [if_neg (by omega)]; rfl))))) ls (lv_sub hl [2, 3, 4, 1, 0] rfl)
                · refine lv_aload_n hx hb dX11_friend_47 rfl (lv_at hl 0 rfl) ?_
                  refine lv_iload_n hx hb dX11_friend_48 rfl (lv_at hl 1 rfl) ?_
                  refine lv_iload hx hb dX11_friend_49 (lv_at hl 4 rfl) ?_
                  refine lv_iload_n hx hb dX11_friend_51 rfl (lv_at hl 2 rfl) ?_
                  refine vp_callSi (ro_runV (c_X11_bothHold l D ka h a N C f g R j b i (by omega) (by omega) (by omega) (by omega) hN) X wd_882 wd_879 wd_881 ws_15 wd_8 on_X11_bothHold ⟨Nat.le_of_ble_eq_true rfl, Nat.le_of_ble_eq_true rfl⟩ (va_recv hK hP (ci := 11) (q0 := 0) rfl rfl) hP hl.1 rfl (Nat.le_of_ble_eq_true rfl) ⟨(Nat.zero_le _), (Nat.zero_le _)⟩ dX11_friend_52) (fun r_10 hr_10 => ?_)
                  subst hr_10
                  have hd_9 := bth_le N j b i
                  refine lv_aload_n hx hb dX11_friend_55 rfl (lv_at hl 0 rfl) ?_
                  refine lv_iload_n hx hb dX11_friend_56 rfl (lv_at hl 1 rfl) ?_
                  refine lv_iload_n hx hb dX11_friend_57 rfl (lv_at hl 3 rfl) ?_
                  refine lv_iload_n hx hb dX11_friend_58 rfl (lv_at hl 2 rfl) ?_
                  refine vp_callSi (ro_runV (c_X11_bothHold l D ka h a N C f g R j q i (by omega) (by omega) (by omega) (by omega) hN) X wd_882 wd_879 wd_881 ws_15 wd_8 on_X11_bothHold ⟨Nat.le_of_ble_eq_true rfl, Nat.le_of_ble_eq_true rfl⟩ (va_recv hK hP (ci := 11) (q0 := 0) rfl rfl) hP hl.1 rfl (Nat.le_of_ble_eq_true rfl) ⟨(Nat.zero_le _), (Nat.zero_le _)⟩ dX11_friend_59) (fun r_12 hr_12 => ?_)
                  subst hr_12
                  have hd_11 := bth_le N j q i
                  refine i_icmp_le (tgt := 68) hx hb (nT (by omega)) (nT (by omega)) dX11_friend_62 (by decide) (fun c_13 => ?_) (fun c_13 => ?_)
                  · refine n_iinc (lv' := [(4, .int (nI (b + 1))), (0, .ref h), (1, .int (nI j)), (2, .int (nI i)), (3, .int (nI q))]) (k := 4) (d := 1) hx hb dX11_friend_68 hl rfl rfl (by decide) rfl (fun ls hl => ?_)
                    refine lv_goto (tgt := 26) hx hb dX11_friend_71 (by decide) ?_
                    exact ih26 (b + 1) (nI q) (by omega) (by omega) (by first | (exfalso; omega) | (rw [frd]; first | (rw [if_pos (by omega)]; assumption) | (rw [if_neg (by omega), hf]; first | rfl | (simp only []; first | (rw [if_pos (by omega)]; rfl) | (rw [if_neg (by omega)]; rfl))))) ls (lv_sub hl [1, 2, 3, 4, 0] rfl)
                  · refine lv_iload hx hb dX11_friend_65 (lv_at hl 4 rfl) ?_
                    refine lv_istore_n (lv' := [(3, .int (nI b)), (0, .ref h), (1, .int (nI j)), (2, .int (nI i)), (4, .int (nI b))]) hx hb dX11_friend_67 rfl hl (by decide) rfl (fun ls hl => ?_)
                    refine n_iinc (lv' := [(4, .int (nI (b + 1))), (3, .int (nI b)), (0, .ref h), (1, .int (nI j)), (2, .int (nI i))]) (k := 4) (d := 1) hx hb dX11_friend_68 hl rfl rfl (by decide) rfl (fun ls hl => ?_)
                    refine lv_goto (tgt := 26) hx hb dX11_friend_71 (by decide) ?_
                    exact ih26 (b + 1) (nI b) (by omega) (by omega) (by first | (exfalso; omega) | (rw [frd]; first | (rw [if_pos (by omega)]; assumption) | (rw [if_neg (by omega), hf]; first | rfl | (simp only []; first | (rw [if_pos (by omega)]; rfl) | (rw [if_neg (by omega)]; rfl))))) ls (lv_sub hl [2, 3, 4, 1, 0] rfl)
      exact loop26 _ 0 (-9) (Nat.lt_succ_self _) (by omega) rfl ls (lv_sub hl [2, 3, 4, 1, 0] rfl)
    · refine lv_bipush (v := (-2)) hx hb dX11_friend_17 (by decide) ?_
      refine hret _ _ _ dX11_friend_19 ?_
      (repeat' split) <;> first | rfl | omega
  · refine lv_iconst (v := (-1)) hx hb dX11_friend_8 (by decide) ?_
    refine hret _ _ _ dX11_friend_9 ?_
    (repeat' split) <;> first | rfl | omega
set_option maxRecDepth 100000 in
set_option maxHeartbeats 4000000 in
theorem c_X11_getsOf (l : Launch) (D : va_G) (ka : Nat → ClassId) (h : Nat) (a : Nat → Nat) (N : Nat → Nat → Nat) (C : Nat → Nat → Int32) (f : Nat → Int32) (g : Nat → Nat → Int32) (R : va_W) (j m0 : Nat) (hj : j < 5) (hm : m0 < 60) (hp : 0 < N 0 0) (hN : WF N) : RO l D ka yX11_getsOf cX11_getsOf 6 (some .int) 2 [.ref h, .int (nI j), .int (nI m0)] (fun H => va_P D vwCl (mw ka h a N C f g ++ R) H) (vp_Si (fun r => r = nI (gts N j m0))) := by
  refine RO.ofI (by decide) (Nat.le_of_ble_eq_true rfl) ?_
  intro p e s m args below meth c Q X hP hret ls hl
  obtain ⟨hx, hb, hml, hown, hts, hE⟩ := id X
  have hK := hE.1
  have hl : lv_has ls 6 [(0, .ref h), (1, .int (nI j)), (2, .int (nI m0))] := hl
  have hN1 := hN.1
  refine lv_aload_n hx hb dX11_getsOf_0 rfl (lv_at hl 0 rfl) ?_
  refine lv_iload_n hx hb dX11_getsOf_1 rfl (lv_at hl 1 rfl) ?_
  refine lv_iload_n hx hb dX11_getsOf_2 rfl (lv_at hl 2 rfl) ?_
  refine lv_iconst (v := nI 1) hx hb dX11_getsOf_3 (by decide) ?_
  refine vp_callSi (ro_runV (c_X11_holdsBy l D ka h a N C f g R j m0 1 (by omega) (by omega) (by omega) (by omega) hN) X wd_870 wd_867 wd_869 ws_14 wd_8 on_X11_holdsBy ⟨Nat.le_of_ble_eq_true rfl, Nat.le_of_ble_eq_true rfl⟩ (va_recv hK hP (ci := 11) (q0 := 0) rfl rfl) hP hl.1 rfl (Nat.le_of_ble_eq_true rfl) ⟨(Nat.zero_le _), (Nat.zero_le _)⟩ dX11_getsOf_4) (fun r_2 hr_2 => ?_)
  subst hr_2
  have hd_1 := hld_le N j m0 1
  refine lv_istore_n (lv' := [(3, .int (nI (hld N j m0 1))), (0, .ref h), (1, .int (nI j)), (2, .int (nI m0))]) hx hb dX11_getsOf_7 rfl hl (by decide) rfl (fun ls hl => ?_)
  refine lv_iconst (v := nI 0) hx hb dX11_getsOf_8 (by decide) ?_
  refine lv_istore (lv' := [(4, .int (nI 0)), (3, .int (nI (hld N j m0 1))), (0, .ref h), (1, .int (nI j)), (2, .int (nI m0))]) hx hb dX11_getsOf_9 hl (by decide) rfl (fun ls hl => ?_)
  refine lv_iconst (v := nI 0) hx hb dX11_getsOf_11 (by decide) ?_
  refine lv_istore (lv' := [(5, .int (nI 0)), (4, .int (nI 0)), (3, .int (nI (hld N j m0 1))), (0, .ref h), (1, .int (nI j)), (2, .int (nI m0))]) hx hb dX11_getsOf_12 hl (by decide) rfl (fun ls hl => ?_)
  have loop14 : ∀ (fuel14 : Nat) (b : Nat) (se : Nat), N 0 2 - b < fuel14 → (b ≤ N 0 2) → (se = bset (fun g => decide (2 * N 5 g ≤ hld N j m0 1)) b) → ∀ ls : Array Slot, lv_has ls 6 [(0, .ref h), (1, .int (nI j)), (2, .int (nI m0)), (3, .int (nI (hld N j m0 1))), (4, .int (nI se)), (5, .int (nI b))] → W p l e (rmz 2 0 0) s m args below meth c s.heap [] 0 0 Q (F0 m 14 ls []) := by
    intro fuel14
    induction fuel14 with
    | zero => intro b se hfu; exact absurd hfu (Nat.not_lt_zero _)
    | succ fuel14 ih14 =>
      intro b se hfu hi1 hse ls hl
      refine lv_iload hx hb dX11_getsOf_14 (lv_at hl 5 rfl) ?_
      refine lv_aload_n hx hb dX11_getsOf_16 rfl (lv_at hl 0 rfl) ?_
      refine va_get (D := D) (ci := 11) (v := .int (nI (N 0 2))) (C := RX11) (T := TX11) (N := 35) hx hb hts inX11 hown hK hP 0 rfl rfl 7 (by decide) (hts _ wd_672) (fun _ h9 => h9) rfl dX11_getsOf_17 ?_
      refine i_icmp_ge (tgt := 55) hx hb (nT (by omega)) (nT (by omega)) dX11_getsOf_20 (by decide) (fun c_3 => ?_) (fun c_3 => ?_)
      · refine lv_iload hx hb dX11_getsOf_55 (lv_at hl 4 rfl) ?_
        refine hret _ _ _ dX11_getsOf_57 ?_
        rw [hse, show b = N 0 2 by omega]; rfl
      · refine lv_iload hx hb dX11_getsOf_23 (lv_at hl 4 rfl) ?_
        refine lv_iload_n hx hb dX11_getsOf_25 rfl (lv_at hl 3 rfl) ?_
        refine lv_iconst (v := nI 2) hx hb dX11_getsOf_26 (by decide) ?_
        refine lv_aload_n hx hb dX11_getsOf_27 rfl (lv_at hl 0 rfl) ?_
        refine va_get (D := D) (ci := 11) (v := .ref (a 12)) (C := RX11) (T := TX11) (N := 35) hx hb hts inX11 hown hK hP 0 rfl rfl 12 (by decide) (hts _ wd_677) (fun _ h9 => h9) rfl dX11_getsOf_28 ?_
        refine lv_iload hx hb dX11_getsOf_31 (lv_at hl 5 rfl) ?_
        refine n_iald hx hb hK hP 8 0 rfl rfl (k := b) (by omega) (by decide) dX11_getsOf_33 ?_
        have hv_4 : N 5 b ≤ 9 := hN.2.2.2.2.2.1 b
        refine n_imul hx hb dX11_getsOf_34 ?_
        refine i_icmp_lt (tgt := 45) hx hb (nT (by omega)) (nT (by omega)) dX11_getsOf_35 (by decide) (fun c_5 => ?_) (fun c_5 => ?_)
        · refine lv_iconst (v := nI 0) hx hb dX11_getsOf_45 (by decide) ?_
          refine lv_ior hx hb dX11_getsOf_46 ?_
          rw [n_or se 0]
          refine lv_istore (lv' := [(4, .int (nI (se ||| 0))), (0, .ref h), (1, .int (nI j)), (2, .int (nI m0)), (3, .int (nI (hld N j m0 1))), (5, .int (nI b))]) hx hb dX11_getsOf_47 hl (by decide) rfl (fun ls hl => ?_)
          refine n_iinc (lv' := [(5, .int (nI (b + 1))), (4, .int (nI (se ||| 0))), (0, .ref h), (1, .int (nI j)), (2, .int (nI m0)), (3, .int (nI (hld N j m0 1)))]) (k := 5) (d := 1) hx hb dX11_getsOf_49 hl rfl rfl (by decide) rfl (fun ls hl => ?_)
          refine lv_goto (tgt := 14) hx hb dX11_getsOf_52 (by decide) ?_
          exact ih14 (b + 1) (se ||| 0) (by omega) (by omega) (by rw [hse]; first | exact bset_t (by simp; omega) | (rw [Nat.or_zero]; exact bset_f (by simp; omega))) ls (lv_sub hl [2, 3, 4, 5, 1, 0] rfl)
        · refine lv_iconst (v := nI 1) hx hb dX11_getsOf_38 (by decide) ?_
          refine lv_iload hx hb dX11_getsOf_39 (lv_at hl 5 rfl) ?_
          refine lv_ishl hx hb dX11_getsOf_41 ?_
          rw [n_shl (a := 1) (k := b) (by omega) (Nat.lt_of_le_of_lt (by rw [Nat.one_mul]; exact Nat.pow_le_pow_right (by decide) (show b ≤ 31 by omega)) (by decide))]
          refine lv_goto (tgt := 46) hx hb dX11_getsOf_42 (by decide) ?_
          refine lv_ior hx hb dX11_getsOf_46 ?_
          rw [n_or se (1 * 2 ^ b)]
          refine lv_istore (lv' := [(4, .int (nI (se ||| (1 * 2 ^ b)))), (0, .ref h), (1, .int (nI j)), (2, .int (nI m0)), (3, .int (nI (hld N j m0 1))), (5, .int (nI b))]) hx hb dX11_getsOf_47 hl (by decide) rfl (fun ls hl => ?_)
          refine n_iinc (lv' := [(5, .int (nI (b + 1))), (4, .int (nI (se ||| (1 * 2 ^ b)))), (0, .ref h), (1, .int (nI j)), (2, .int (nI m0)), (3, .int (nI (hld N j m0 1)))]) (k := 5) (d := 1) hx hb dX11_getsOf_49 hl rfl rfl (by decide) rfl (fun ls hl => ?_)
          refine lv_goto (tgt := 14) hx hb dX11_getsOf_52 (by decide) ?_
          exact ih14 (b + 1) (se ||| (1 * 2 ^ b)) (by omega) (by omega) (by rw [hse]; first | exact bset_t (by simp; omega) | (rw [Nat.or_zero]; exact bset_f (by simp; omega))) ls (lv_sub hl [2, 3, 4, 5, 1, 0] rfl)
  exact loop14 _ 0 0 (Nat.lt_succ_self _) (by omega) rfl ls (lv_sub hl [3, 4, 5, 2, 1, 0] rfl)
set_option maxRecDepth 100000 in
set_option maxHeartbeats 4000000 in
theorem c_X11_gets (l : Launch) (D : va_G) (ka : Nat → ClassId) (h : Nat) (a : Nat → Nat) (N : Nat → Nat → Nat) (C : Nat → Nat → Int32) (f : Nat → Int32) (g : Nat → Nat → Int32) (R : va_W) (k q : Int32) (K q2 : Int) (hk : k.toInt = K) (hq : q.toInt = q2) (hN : WF N) : RO l D ka yX11_gets cX11_gets 3 (some .int) 3 [.ref h, .int k, .int q] (fun H => va_P D vwCl (mw ka h a N C f g ++ R) H) (vp_Si (fun r => r = (if 0 ≤ K ∧ K < (N 0 1 : Int) then (if 0 ≤ q2 ∧ q2 ≤ 59 then nI (gts N K.toNat q2.toNat) else -2) else -1))) := by
  refine RO.ofI (by decide) (Nat.le_of_ble_eq_true rfl) ?_
  intro p e s m args below meth c Q X hP hret ls hl
  obtain ⟨hx, hb, hml, hown, hts, hE⟩ := id X
  have hK := hE.1
  have hl : lv_has ls 3 [(0, .ref h), (1, .int k), (2, .int q)] := hl
  have hN1 := hN.1
  refine lv_aload_n hx hb dX11_gets_0 rfl (lv_at hl 0 rfl) ?_
  refine lv_iload_n hx hb dX11_gets_1 rfl (lv_at hl 1 rfl) ?_
  refine vp_callSi (ro_runV (c_X11_isTaker l D ka h a N C f g R k _ hk hN) X wd_827 wd_824 wd_826 ws_11 wd_8 on_X11_isTaker ⟨Nat.le_of_ble_eq_true rfl, Nat.le_of_ble_eq_true rfl⟩ (va_recv hK hP (ci := 11) (q0 := 0) rfl rfl) hP hl.1 rfl (Nat.le_of_ble_eq_true rfl) ⟨(Nat.zero_le _), (Nat.zero_le _)⟩ dX11_gets_2) (fun r_1 hr_1 => ?_)
  subst hr_1
  refine b_if_ne (tgt := 10) hx hb dX11_gets_5 (by decide) (fun c_2 => ?_) (fun c_2 => ?_)
  · obtain ⟨j, hlt_j, rfl, rfl⟩ := nat_ofK (n := N 0 1) hk (by omega) (by omega)
    refine lv_iload_n hx hb dX11_gets_10 rfl (lv_at hl 2 rfl) ?_
    refine vp_callSi (ro_runS (c_X11_isMinute l D ka q _ hq) X wd_866 wd_864 wd_865 wd_8 on_X11_isMinute ⟨Nat.le_of_ble_eq_true rfl, Nat.le_of_ble_eq_true rfl⟩ trivial hl.1 rfl (Nat.le_of_ble_eq_true rfl) ⟨(Nat.zero_le _), (Nat.zero_le _)⟩ dX11_gets_11) (fun r_3 hr_3 => ?_)
    subst hr_3
    refine b_if_eq (tgt := 26) hx hb dX11_gets_14 (by decide) (fun c_4 => ?_) (fun c_4 => ?_)
    · refine lv_bipush (v := (-2)) hx hb dX11_gets_26 (by decide) ?_
      refine hret _ _ _ dX11_gets_28 ?_
      (repeat' split) <;> first | rfl | omega
    · obtain ⟨i, hlt_i, rfl, rfl⟩ := nat_ofK (n := 60) hq (by omega) (by omega)
      refine lv_aload_n hx hb dX11_gets_17 rfl (lv_at hl 0 rfl) ?_
      refine lv_iload_n hx hb dX11_gets_18 rfl (lv_at hl 1 rfl) ?_
      refine lv_iload_n hx hb dX11_gets_19 rfl (lv_at hl 2 rfl) ?_
      refine vp_callSi (ro_runV (c_X11_getsOf l D ka h a N C f g R j i (by omega) (by omega) (by omega) hN) X wd_906 wd_903 wd_905 ws_18 wd_8 on_X11_getsOf ⟨Nat.le_of_ble_eq_true rfl, Nat.le_of_ble_eq_true rfl⟩ (va_recv hK hP (ci := 11) (q0 := 0) rfl rfl) hP hl.1 rfl (Nat.le_of_ble_eq_true rfl) ⟨(Nat.zero_le _), (Nat.zero_le _)⟩ dX11_gets_20) (fun r_5 hr_5 => ?_)
      subst hr_5
      refine lv_goto (tgt := 28) hx hb dX11_gets_23 (by decide) ?_
      refine hret _ _ _ dX11_gets_28 ?_
      (repeat' split) <;> first | rfl | omega
  · refine lv_iconst (v := (-1)) hx hb dX11_gets_8 (by decide) ?_
    refine hret _ _ _ dX11_gets_9 ?_
    (repeat' split) <;> first | rfl | omega
end
section
/-! ===== the calls: answer, numbers and cells behind it ===== -/
abbrev NN : Type := Nat → Nat → Nat
abbrev CC : Type := Nat → Nat → Int32
def inT (N : NN) (K : Int) : Prop := 0 ≤ K ∧ K < (N 0 1 : Int)
def inP (N : NN) (K : Int) : Prop := 0 ≤ K ∧ K < (N 0 0 : Int)
def sp_hush (N : NN) (C : CC) (K V : Int) : Int32 × NN × CC := if 0 ≤ K ∧ K < (N 0 0 : Int) then (if 0 ≤ V ∧ V ≤ 9 then (nI (N 1 K.toNat), up N 1 K.toNat V.toNat, C) else (-2, N, C)) else (-1, N, C)
def sp_think (N : NN) (C : CC) (K V : Int) : Int32 × NN × CC := if 0 ≤ K ∧ K < (N 0 1 : Int) then (if 0 ≤ V ∧ V ≤ 9 then (nI (N 4 K.toNat), up N 4 K.toNat V.toNat, C) else (-2, N, C)) else (-1, N, C)
def sp_brace (N : NN) (C : CC) (K V : Int) : Int32 × NN × CC := if 0 ≤ K ∧ K < (N 0 1 : Int) then (if 0 ≤ V ∧ V ≤ 99 then (nI (N 3 K.toNat), up N 3 K.toNat V.toNat, C) else (-2, N, C)) else (-1, N, C)
def sp_reading (N : NN) (C : CC) (K M Q : Int) : Int32 × NN × CC := if 0 ≤ K ∧ K < (N 0 1 : Int) then (if (0 ≤ M ∧ M ≤ 59) ∧ 0 ≤ Q ∧ Q ≤ 40 then (if N 0 3 = 8 then (-4, N, C) else (nI (N 0 3), up (up (up (up N 6 (N 0 3) K.toNat) 7 (N 0 3) M.toNat) 8 (N 0 3) Q.toNat) 0 3 (N 0 3 + 1), C)) else (-2, N, C)) else (-1, N, C)
def sp_back (N : NN) (C : CC) (K : Int) : Int32 × NN × CC := if 0 ≤ K ∧ K ≤ (N 0 3 : Int) then (nI (N 0 3 - K.toNat), up N 0 3 (N 0 3 - K.toNat), C) else (-2, N, C)
def sp_minds (N : NN) (C : CC) (K : Int) : Int32 × NN × CC := if 0 ≤ K ∧ K < (N 0 1 : Int) then (nI (bset (fun v => soA (up N 4 K.toNat v) (N 0 3)) 10), N, C) else (-1, N, C)
def sp_kinds (N : NN) (C : CC) (K : Int) : Int32 × NN × CC := if 0 ≤ K ∧ K < (N 0 1 : Int) then (nI (bset (fun v => soA (up N 2 K.toNat v) (N 0 3)) 3), N, C) else (-1, N, C)
def sp_glooms (N : NN) (C : CC) (K : Int) : Int32 × NN × CC := if 0 ≤ K ∧ K < (N 0 0 : Int) then (nI (bset (fun v => soA (up N 1 K.toNat v) (N 0 3)) 10), N, C) else (-1, N, C)
def bg (x : Int32) (k : Nat) : Int32 := nI 31 * x + nI k
def tC (C : CC) (k : Nat) : CC := upC C 4 60 (bg (C 4 60) k)
theorem tC_at (C : CC) (k : Nat) : tC C k 4 60 = bg (C 4 60) k := by simp [tC, upC, upd]
theorem tr_upd (C : CC) (x : Int32) : (fun j => C (j / 60) (j % 60)) = fun j => upC C 4 60 x (j / 60) (j % 60) := by
  funext j
  unfold upC upd
  by_cases h : j / 60 = 4
  · rw [if_pos h, if_neg (by omega), h]
  · rw [if_neg h]
def sp_tell (N : NN) (C : CC) (K : Int) : Int32 × NN × CC := if 0 ≤ K ∧ K < (N 0 1 : Int) then (if N 2 K.toNat = 1 then (nI (N 3 K.toNat + 100), N, tC (tC C 2) 1) else if N 2 K.toNat = 2 then (nI (2 * N 3 K.toNat + 100), N, tC (tC (tC (tC C 3) 2) 1) 1) else (nI (N 3 K.toNat), N, tC C 1)) else (-1, N, C)
def sp_ring (N : NN) (C : CC) (K : Int) : Int32 × NN × CC := if 0 ≤ K ∧ K < (N 0 1 : Int) then (if N 2 K.toNat = 2 then (nI 40, N, tC C 5) else (nI K.toNat, N, tC C 4)) else (-1, N, C)
abbrev f0 (N : NN) : NN := up N 0 4 0
abbrev ff (N : NN) (k : Nat) : NN := up (up N 0 4 0) 0 4 k
def sp_as (N : NN) (C : CC) (K Q : Int) : Int32 × NN × CC := if 0 ≤ K ∧ K < (N 0 1 : Int) then (if 0 ≤ Q ∧ Q ≤ 2 then (if Q ≤ (N 2 K.toNat : Int) then (nI 1, f0 N, C) else (-10 - nI 2, ff N 2, C)) else (-2, f0 N, C)) else (-1, f0 N, C)
def zC (C : CC) (k n : Nat) : CC := fun i j => if i = k ∧ j < n then 0 else C i j
def sp_sheet (N : NN) (C : CC) (K Q n : Int) : Int32 × NN × CC := if 0 ≤ K ∧ K ≤ 3 then (if (0 ≤ Q ∧ Q ≤ 2) ∧ n ≤ 60 then (if n < 0 then (-10 - nI 4, ff N 4, C) else (nI 1, up (up (f0 N) 9 K.toNat Q.toNat) 10 K.toNat n.toNat, zC C K.toNat 60)) else (-2, f0 N, C)) else (-1, f0 N, C)
def sp_lose (N : NN) (C : CC) (K : Int) : Int32 × NN × CC := if 0 ≤ K ∧ K ≤ 3 then ((if N 9 K.toNat = 3 then nI 0 else nI 1), up N 9 K.toNat 3, C) else (-1, N, C)
def cutv (q : Nat) (v : Int32) : Int32 := if q = 0 then v.toInt8.toInt32 else if q = 1 then v.toInt16.toInt32 else v
def sp_put (N : NN) (C : CC) (K i : Int) (v : Int32) : Int32 × NN × CC := if 0 ≤ K ∧ K ≤ 3 then (if N 9 K.toNat = 3 then (-10 - nI 1, ff N 1, C) else if 0 ≤ i ∧ i < (N 10 K.toNat : Int) then (nI 1, f0 N, upC C K.toNat i.toNat (cutv (N 9 K.toNat) v)) else (-10 - nI 3, ff N 3, C)) else (-1, f0 N, C)
abbrev LOSTV : Int64 := -9223372036854775808
def sp_cell (N : NN) (C : CC) (K i Q : Int) : Int64 × NN × CC := if (0 ≤ K ∧ K ≤ 3) ∧ (0 ≤ Q ∧ Q ≤ 2) then (if N 9 K.toNat ≠ 3 ∧ (N 9 K.toNat : Int) ≠ Q then (LOSTV, ff N 2, C) else if N 9 K.toNat = 3 then (LOSTV, ff N 1, C) else if 0 ≤ i ∧ i < (N 10 K.toNat : Int) then ((C K.toNat i.toNat).toInt64, f0 N, C) else (LOSTV, ff N 3, C)) else (LOSTV, f0 N, C)
def cpC (C : CC) (k i o j n : Nat) : CC := fun x y => if x = o ∧ j ≤ y ∧ y < j + n then C k (i + (y - j)) else C x y
def sp_copy (N : NN) (C : CC) (K i O j n : Int) : Int32 × NN × CC := if (0 ≤ K ∧ K ≤ 3) ∧ (0 ≤ O ∧ O ≤ 3) then (if N 9 K.toNat = 3 ∨ N 9 O.toNat = 3 then (-10 - nI 1, ff N 1, C) else if N 9 K.toNat ≠ N 9 O.toNat then (-10 - nI 2, ff N 2, C) else if (0 ≤ i ∧ 0 ≤ j ∧ 0 ≤ n ∧ i ≤ (N 10 K.toNat : Int) ∧ j ≤ (N 10 O.toNat : Int)) ∧ n ≤ (N 10 K.toNat : Int) - i ∧ n ≤ (N 10 O.toNat : Int) - j then (nI n.toNat, f0 N, cpC C K.toNat i.toNat O.toNat j.toNat n.toNat) else (-10 - nI 3, ff N 3, C)) else (-1, f0 N, C)
end
section
set_option maxRecDepth 100000 in
set_option maxHeartbeats 4000000 in
theorem c_X11_areSo (l : Launch) (D : va_G) (ka : Nat → ClassId) (h : Nat) (a : Nat → Nat) (N : Nat → Nat → Nat) (C : Nat → Nat → Int32) (f : Nat → Int32) (g : Nat → Nat → Int32) (R : va_W) (hN : WF N) : RO l D ka yX11_areSo cX11_areSo 2 (some .boolean) 2 [.ref h] (fun H => va_P D vwCl (mw ka h a N C f g ++ R) H) (vp_Si (fun r => r = bI (soA N (N 0 3) = true))) := by
  refine RO.ofZ (by decide) (Nat.le_of_ble_eq_true rfl) ?_
  intro p e s m args below meth c Q X hP hret ls hl
  obtain ⟨hx, hb, hml, hown, hts, hE⟩ := id X
  have hK := hE.1
  have hl : lv_has ls 2 [(0, .ref h)] := hl
  have hN1 := hN.1
  refine lv_iconst (v := nI 0) hx hb dX11_areSo_0 (by decide) ?_
  refine lv_istore_n (lv' := [(1, .int (nI 0)), (0, .ref h)]) hx hb dX11_areSo_1 rfl hl (by decide) rfl (fun ls hl => ?_)
  have loop2 : ∀ (fuel2 : Nat) (b : Nat), N 0 3 - b < fuel2 → (b ≤ N 0 3) → (soA N b = true) → ∀ ls : Array Slot, lv_has ls 2 [(0, .ref h), (1, .int (nI b))] → W p l e (rmz 2 0 0) s m args below meth c s.heap [] 0 0 Q (F0 m 2 ls []) := by
    intro fuel2
    induction fuel2 with
    | zero => intro b hfu; exact absurd hfu (Nat.not_lt_zero _)
    | succ fuel2 ih2 =>
      intro b hfu hi1 hs ls hl
      have hb6 : b < N 0 3 → N 6 b < N 0 1 := hN.2.2.2.2.2.2.1 b
      refine lv_iload_n hx hb dX11_areSo_2 rfl (lv_at hl 1 rfl) ?_
      refine lv_aload_n hx hb dX11_areSo_3 rfl (lv_at hl 0 rfl) ?_
      refine va_get (D := D) (ci := 11) (v := .int (nI (N 0 3))) (C := RX11) (T := TX11) (N := 35) hx hb hts inX11 hown hK hP 0 rfl rfl 31 (by decide) (hts _ wd_696) (fun _ h9 => h9) rfl dX11_areSo_4 ?_
      refine i_icmp_ge (tgt := 44) hx hb (nT (by omega)) (nT (by omega)) dX11_areSo_7 (by decide) (fun c_1 => ?_) (fun c_1 => ?_)
      · refine lv_iconst (v := nI 1) hx hb dX11_areSo_44 (by decide) ?_
        refine hret _ _ _ dX11_areSo_45 (by decide) ?_
        exact (bI_t (by rw [show N 0 3 = b by omega]; exact hs)).symm
      · refine lv_aload_n hx hb dX11_areSo_10 rfl (lv_at hl 0 rfl) ?_
        refine lv_aload_n hx hb dX11_areSo_11 rfl (lv_at hl 0 rfl) ?_
        refine va_get (D := D) (ci := 11) (v := .ref (a 32)) (C := RX11) (T := TX11) (N := 35) hx hb hts inX11 hown hK hP 0 rfl rfl 32 (by decide) (hts _ wd_697) (fun _ h9 => h9) rfl dX11_areSo_12 ?_
        refine lv_iload_n hx hb dX11_areSo_15 rfl (lv_at hl 1 rfl) ?_
        refine n_iald hx hb hK hP 20 0 rfl rfl (k := b) (by omega) (by decide) dX11_areSo_16 ?_
        refine lv_aload_n hx hb dX11_areSo_17 rfl (lv_at hl 0 rfl) ?_
        refine va_get (D := D) (ci := 11) (v := .ref (a 33)) (C := RX11) (T := TX11) (N := 35) hx hb hts inX11 hown hK hP 0 rfl rfl 33 (by decide) (hts _ wd_698) (fun _ h9 => h9) rfl dX11_areSo_18 ?_
        refine lv_iload_n hx hb dX11_areSo_21 rfl (lv_at hl 1 rfl) ?_
        refine n_iald hx hb hK hP 21 0 rfl rfl (k := b) (by omega) (by decide) dX11_areSo_22 ?_
        have hv_2 : N 7 b ≤ 59 := hN.2.2.2.2.2.2.2.1 b
        refine lv_iconst (v := nI 1) hx hb dX11_areSo_23 (by decide) ?_
        refine vp_callSi (ro_runV (c_X11_holdsBy l D ka h a N C f g R (N 6 b) (N 7 b) 1 (by omega) (by omega) (by omega) (by omega) hN) X wd_870 wd_867 wd_869 ws_14 wd_8 on_X11_holdsBy ⟨Nat.le_of_ble_eq_true rfl, Nat.le_of_ble_eq_true rfl⟩ (va_recv hK hP (ci := 11) (q0 := 0) rfl rfl) hP hl.1 rfl (Nat.le_of_ble_eq_true rfl) ⟨(Nat.zero_le _), (Nat.zero_le _)⟩ dX11_areSo_24) (fun r_4 hr_4 => ?_)
        subst hr_4
        have hd_3 := hld_le N (N 6 b) (N 7 b) 1
        refine lv_aload_n hx hb dX11_areSo_27 rfl (lv_at hl 0 rfl) ?_
        refine va_get (D := D) (ci := 11) (v := .ref (a 34)) (C := RX11) (T := TX11) (N := 35) hx hb hts inX11 hown hK hP 0 rfl rfl 34 (by decide) (hts _ wd_699) (fun _ h9 => h9) rfl dX11_areSo_28 ?_
        refine lv_iload_n hx hb dX11_areSo_31 rfl (lv_at hl 1 rfl) ?_
        refine n_iald hx hb hK hP 22 0 rfl rfl (k := b) (by omega) (by decide) dX11_areSo_32 ?_
        have hv_5 : N 8 b ≤ 40 := hN.2.2.2.2.2.2.2.2.1 b
        refine i_icmp_eq (tgt := 38) hx hb (nT (by omega)) (nT (by omega)) dX11_areSo_33 (by decide) (fun c_6 => ?_) (fun c_6 => ?_)
        · refine n_iinc (lv' := [(1, .int (nI (b + 1))), (0, .ref h)]) (k := 1) (d := 1) hx hb dX11_areSo_38 hl rfl rfl (by decide) rfl (fun ls hl => ?_)
          refine lv_goto (tgt := 2) hx hb dX11_areSo_41 (by decide) ?_
          exact ih2 (b + 1) (by omega) (by omega) (by rw [soA, hs]; simp; omega) ls (lv_sub hl [1, 0] rfl)
        · refine lv_iconst (v := nI 0) hx hb dX11_areSo_36 (by decide) ?_
          refine hret _ _ _ dX11_areSo_37 (by decide) ?_
          exact (bI_f (by rw [soA_f (q := b) (by omega) (by omega)]; decide)).symm
  exact loop2 _ 0 (Nat.lt_succ_self _) (by omega) rfl ls (lv_sub hl [1, 0] rfl)
set_option maxRecDepth 100000 in
set_option maxHeartbeats 4000000 in
theorem c_X11_fails (l : Launch) (D : va_G) (ka : Nat → ClassId) (z : Nat) (h : Nat) (a : Nat → Nat) (N : Nat → Nat → Nat) (C : Nat → Nat → Int32) (f : Nat → Int32) (g : Nat → Nat → Int32) (R : va_W) (k : Nat) (hk : k < 5) (hN : WF N) : MU l D ka z yX11_fails cX11_fails 2 (some .int) 0 0 0 [.ref h, .int (nI k)] (mw ka h a N C f g ++ R) (Qi D z (fun r w => r = -10 - nI k ∧ w = mw ka h a (up N 0 4 k) C f g ++ R)) := by
  refine MU.ofI (by decide) (Nat.le_of_ble_eq_true rfl) ?_
  intro p e s m args below meth c Q X hw hS hret ls hl
  obtain ⟨hx, hb, hml, hown, hts, hE⟩ := id X
  have hK := hE.1
  have hz0 := hw.1
  have hl : lv_has ls 2 [(0, .ref h), (1, .int (nI k))] := hl
  have hN1 := hN.1
  refine lv_aload_n hx hb dX11_fails_0 rfl (lv_at hl 0 rfl) ?_
  refine lv_iload_n hx hb dX11_fails_1 rfl (lv_at hl 1 rfl) ?_
  refine va_put (D := D) (ci := 11) (ty := .int) (C := RX11) (T := TX11) (N := 35) hx hb hts inX11 tyX11 tyX11_ok nmX11 hown hK hw.2.1 hw.2.2 hS 0 rfl rfl 0 (by decide) (hts _ wd_665) (fun _ h9 => h9) rfl (by decide +kernel) rfl rfl (Nat.le_of_ble_eq_true rfl) dX11_fails_2 (fun H locs hP hD hS => ?_)
  have hw : wdH D z (mw ka h a (up N 0 4 k) C f g ++ R) H := ⟨Nat.le_trans hz0 hS.1, hP, hD⟩
  refine lv_bipush (v := (-10)) hx hb dX11_fails_5 (by decide) ?_
  refine lv_iload_n hx hb dX11_fails_7 rfl (lv_at hl 1 rfl) ?_
  refine lv_isub hx hb dX11_fails_8 ?_
  exact hret _ _ _ _ _ _ _ _ dX11_fails_9 hS hw (Nat.zero_le _) (Nat.zero_le _) ⟨rfl, rfl⟩
set_option maxRecDepth 100000 in
set_option maxHeartbeats 4000000 in
theorem c_X11_lost (l : Launch) (D : va_G) (ka : Nat → ClassId) (z : Nat) (h : Nat) (a : Nat → Nat) (N : Nat → Nat → Nat) (C : Nat → Nat → Int32) (f : Nat → Int32) (g : Nat → Nat → Int32) (R : va_W) (k : Nat) (hk : k < 5) (hN : WF N) : MU l D ka z yX11_lost cX11_lost 2 (some .long) 0 0 0 [.ref h, .int (nI k)] (mw ka h a N C f g ++ R) (Ql D z (fun r w => r = LOSTV ∧ w = mw ka h a (up N 0 4 k) C f g ++ R)) := by
  refine MU.ofL (by decide) (Nat.le_of_ble_eq_true rfl) ?_
  intro p e s m args below meth c Q X hw hS hret ls hl
  obtain ⟨hx, hb, hml, hown, hts, hE⟩ := id X
  have hK := hE.1
  have hz0 := hw.1
  have hl : lv_has ls 2 [(0, .ref h), (1, .int (nI k))] := hl
  have hN1 := hN.1
  refine lv_aload_n hx hb dX11_lost_0 rfl (lv_at hl 0 rfl) ?_
  refine lv_iload_n hx hb dX11_lost_1 rfl (lv_at hl 1 rfl) ?_
  refine va_put (D := D) (ci := 11) (ty := .int) (C := RX11) (T := TX11) (N := 35) hx hb hts inX11 tyX11 tyX11_ok nmX11 hown hK hw.2.1 hw.2.2 hS 0 rfl rfl 0 (by decide) (hts _ wd_665) (fun _ h9 => h9) rfl (by decide +kernel) rfl rfl (Nat.le_of_ble_eq_true rfl) dX11_lost_2 (fun H locs hP hD hS => ?_)
  have hw : wdH D z (mw ka h a (up N 0 4 k) C f g ++ R) H := ⟨Nat.le_trans hz0 hS.1, hP, hD⟩
  refine lv_ldc2 (v := (-9223372036854775808 : Int64)) hx hb hown (hts _ wd_947) dX11_lost_5 ?_
  exact hret _ _ _ _ _ _ _ _ dX11_lost_8 hS hw (Nat.zero_le _) (Nat.zero_le _) ⟨rfl, rfl⟩
set_option maxRecDepth 100000 in
set_option maxHeartbeats 4000000 in
theorem c_X11_begins (l : Launch) (D : va_G) (ka : Nat → ClassId) (z : Nat) (h : Nat) (a : Nat → Nat) (N : Nat → Nat → Nat) (C : Nat → Nat → Int32) (f : Nat → Int32) (g : Nat → Nat → Int32) (R : va_W) (k : Nat) : MU l D ka z yX11_begins cX11_begins 2 none 0 0 0 [.ref h, .int (nI k)] (mw ka h a N C f g ++ R) (Qv D z (fun w => w = mw ka h a N (tC C k) f g ++ R)) := by
  refine MU.ofV (by decide) (Nat.le_of_ble_eq_true rfl) ?_
  intro p e s m args below meth c Q X hin hw hS hret ls hl
  obtain ⟨hx, hb, hml, hown, hts, hE⟩ := id X
  have hK := hE.1
  have hz0 := hw.1
  have hl : lv_has ls 2 [(0, .ref h), (1, .int (nI k))] := hl
  refine lv_aload_n hx hb dX11_begins_0 rfl (lv_at hl 0 rfl) ?_
  refine lv_bipush (v := nI 31) hx hb dX11_begins_1 (by decide) ?_
  refine lv_aload_n hx hb dX11_begins_3 rfl (lv_at hl 0 rfl) ?_
  refine va_get (D := D) (ci := 11) (v := .int (C 4 60)) (C := RX11) (T := TX11) (N := 35) hx hb hts inX11 hown hK hw.2.1 0 rfl rfl 1 (by decide) (hts _ wd_666) (fun _ h9 => h9) rfl dX11_begins_4 ?_
  refine lv_imul hx hb dX11_begins_7 ?_
  refine lv_iload_n hx hb dX11_begins_8 rfl (lv_at hl 1 rfl) ?_
  refine lv_iadd hx hb dX11_begins_9 ?_
  refine va_put (D := D) (ci := 11) (ty := .int) (C := RX11) (T := TX11) (N := 35) hx hb hts inX11 tyX11 tyX11_ok nmX11 hown hK hw.2.1 hw.2.2 hS 0 rfl rfl 1 (by decide) (hts _ wd_666) (fun _ h9 => h9) rfl (by decide +kernel) rfl rfl (Nat.le_of_ble_eq_true rfl) dX11_begins_10 (fun H locs hP hD hS => ?_)
  unfold mw at hP hD
  rw [tr_upd C (((nI 31) * (C 4 60)) + (nI k))] at hP hD
  have hw : wdH D z (mw ka h a N (upC C 4 60 (((nI 31) * (C 4 60)) + (nI k))) f g ++ R) H := ⟨Nat.le_trans hz0 hS.1, hP, hD⟩
  exact hret _ _ _ _ _ _ _ dX11_begins_13 hS hw (Nat.zero_le _) (Nat.zero_le _) rfl
set_option maxRecDepth 100000 in
set_option maxHeartbeats 4000000 in
theorem c_X11_hush (l : Launch) (D : va_G) (ka : Nat → ClassId) (z : Nat) (h : Nat) (a : Nat → Nat) (N : Nat → Nat → Nat) (C : Nat → Nat → Int32) (f : Nat → Int32) (g : Nat → Nat → Int32) (R : va_W) (k q : Int32) (K q2 : Int) (hk : k.toInt = K) (hq : q.toInt = q2) (hN : WF N) : MU l D ka z yX11_hush cX11_hush 4 (some .int) 1 0 0 [.ref h, .int k, .int q] (mw ka h a N C f g ++ R) (Qi D z (fun r w => ∃ f' g' N' C', w = mw ka h a N' C' f' g' ++ R ∧ (r, N', C') = sp_hush N C K q2)) := by
  refine MU.ofI (by decide) (Nat.le_of_ble_eq_true rfl) ?_
  intro p e s m args below meth c Q X hw hS hret ls hl
  obtain ⟨hx, hb, hml, hown, hts, hE⟩ := id X
  have hK := hE.1
  have hz0 := hw.1
  have hl : lv_has ls 4 [(0, .ref h), (1, .int k), (2, .int q)] := hl
  have hN1 := hN.1
  refine lv_aload_n hx hb dX11_hush_0 rfl (lv_at hl 0 rfl) ?_
  refine lv_iload_n hx hb dX11_hush_1 rfl (lv_at hl 1 rfl) ?_
  refine vp_callSi (ro_runV (c_X11_isPlace l D ka h a N C f g R k _ hk hN) X wd_839 wd_836 wd_838 ws_12 wd_8 on_X11_isPlace ⟨Nat.le_of_ble_eq_true rfl, Nat.le_of_ble_eq_true rfl⟩ (va_recv hK hw.2.1 (ci := 11) (q0 := 0) rfl rfl) hw.2.1 hl.1 rfl (Nat.le_of_ble_eq_true rfl) ⟨(Nat.zero_le _), (Nat.zero_le _)⟩ dX11_hush_2) (fun r_1 hr_1 => ?_)
  subst hr_1
  refine b_if_ne (tgt := 10) hx hb dX11_hush_5 (by decide) (fun c_2 => ?_) (fun c_2 => ?_)
  · refine lv_iload_n hx hb dX11_hush_10 rfl (lv_at hl 2 rfl) ?_
    refine lv_iconst (v := nI 0) hx hb dX11_hush_11 (by decide) ?_
    refine lv_bipush (v := nI 9) hx hb dX11_hush_12 (by decide) ?_
    refine vp_callSi (ro_runS (c_X11_within l D ka q (nI 0) (nI 9) _ _ _ hq (nT (by decide)) (nT (by decide))) X wd_780 wd_778 wd_779 wd_8 on_X11_within ⟨Nat.le_of_ble_eq_true rfl, Nat.le_of_ble_eq_true rfl⟩ trivial hl.1 rfl (Nat.le_of_ble_eq_true rfl) ⟨(Nat.zero_le _), (Nat.zero_le _)⟩ dX11_hush_14) (fun r_3 hr_3 => ?_)
    subst hr_3
    refine b_if_ne (tgt := 23) hx hb dX11_hush_17 (by decide) (fun c_4 => ?_) (fun c_4 => ?_)
    · obtain ⟨j, hlt_j, rfl, rfl⟩ := nat_ofK (n := N 0 0) hk (by omega) (by omega)
      obtain ⟨i, hlt_i, rfl, rfl⟩ := nat_ofK (n := 10) hq (by omega) (by omega)
      refine lv_aload_n hx hb dX11_hush_23 rfl (lv_at hl 0 rfl) ?_
      refine va_get (D := D) (ci := 11) (v := .ref (a 8)) (C := RX11) (T := TX11) (N := 35) hx hb hts inX11 hown hK hw.2.1 0 rfl rfl 8 (by decide) (hts _ wd_673) (fun _ h9 => h9) rfl dX11_hush_24 ?_
      refine lv_iload_n hx hb dX11_hush_27 rfl (lv_at hl 1 rfl) ?_
      refine n_iald hx hb hK hw.2.1 4 0 rfl rfl (k := j) (by omega) (by decide) dX11_hush_28 ?_
      have hv_5 : N 1 j ≤ 9 := hN.2.1 j
      refine lv_istore_n (lv' := [(3, .int (nI (N 1 j))), (0, .ref h), (1, .int (nI j)), (2, .int (nI i))]) hx hb dX11_hush_29 rfl hl (by decide) rfl (fun ls hl => ?_)
      refine lv_aload_n hx hb dX11_hush_30 rfl (lv_at hl 1 rfl) ?_
      refine va_get (D := D) (ci := 11) (v := .ref (a 8)) (C := RX11) (T := TX11) (N := 35) hx hb hts inX11 hown hK hw.2.1 0 rfl rfl 8 (by decide) (hts _ wd_673) (fun _ h9 => h9) rfl dX11_hush_31 ?_
      refine lv_iload_n hx hb dX11_hush_34 rfl (lv_at hl 2 rfl) ?_
      refine lv_iload_n hx hb dX11_hush_35 rfl (lv_at hl 3 rfl) ?_
      refine n_iast hx hb hK hw.2.1 hw.2.2 hS 4 0 (φ := nI) (u := N 1) (v := i) rfl rfl (k := j) (by omega) (by decide) dX11_hush_36 (fun H locs hP hD hS => ?_)
      have hw : wdH D z (mw ka h a (up N 1 j i) C f g ++ R) H := ⟨Nat.le_trans hz0 hS.1, hP, hD⟩
      refine lv_iload_n hx hb dX11_hush_37 rfl (lv_at hl 0 rfl) ?_
      refine hret _ _ _ _ _ _ _ _ dX11_hush_38 hS hw (Nat.zero_le _) (Nat.zero_le _) ?_
      refine ⟨f, g, (up N 1 j i), C, rfl, ?_⟩
      unfold sp_hush
      (repeat' split) <;> first | rfl | omega
    · refine lv_bipush (v := (-2)) hx hb dX11_hush_20 (by decide) ?_
      refine hret _ _ _ _ _ _ _ _ dX11_hush_22 hS hw (Nat.zero_le _) (Nat.zero_le _) ?_
      refine ⟨f, g, N, C, rfl, ?_⟩
      unfold sp_hush
      (repeat' split) <;> first | rfl | omega
  · refine lv_iconst (v := (-1)) hx hb dX11_hush_8 (by decide) ?_
    refine hret _ _ _ _ _ _ _ _ dX11_hush_9 hS hw (Nat.zero_le _) (Nat.zero_le _) ?_
    refine ⟨f, g, N, C, rfl, ?_⟩
    unfold sp_hush
    (repeat' split) <;> first | rfl | omega
set_option maxRecDepth 100000 in
set_option maxHeartbeats 4000000 in
theorem c_X11_think (l : Launch) (D : va_G) (ka : Nat → ClassId) (z : Nat) (h : Nat) (a : Nat → Nat) (N : Nat → Nat → Nat) (C : Nat → Nat → Int32) (f : Nat → Int32) (g : Nat → Nat → Int32) (R : va_W) (k q : Int32) (K q2 : Int) (hk : k.toInt = K) (hq : q.toInt = q2) (hN : WF N) : MU l D ka z yX11_think cX11_think 4 (some .int) 1 0 0 [.ref h, .int k, .int q] (mw ka h a N C f g ++ R) (Qi D z (fun r w => ∃ f' g' N' C', w = mw ka h a N' C' f' g' ++ R ∧ (r, N', C') = sp_think N C K q2)) := by
  refine MU.ofI (by decide) (Nat.le_of_ble_eq_true rfl) ?_
  intro p e s m args below meth c Q X hw hS hret ls hl
  obtain ⟨hx, hb, hml, hown, hts, hE⟩ := id X
  have hK := hE.1
  have hz0 := hw.1
  have hl : lv_has ls 4 [(0, .ref h), (1, .int k), (2, .int q)] := hl
  have hN1 := hN.1
  refine lv_aload_n hx hb dX11_think_0 rfl (lv_at hl 0 rfl) ?_
  refine lv_iload_n hx hb dX11_think_1 rfl (lv_at hl 1 rfl) ?_
  refine vp_callSi (ro_runV (c_X11_isTaker l D ka h a N C f g R k _ hk hN) X wd_827 wd_824 wd_826 ws_11 wd_8 on_X11_isTaker ⟨Nat.le_of_ble_eq_true rfl, Nat.le_of_ble_eq_true rfl⟩ (va_recv hK hw.2.1 (ci := 11) (q0 := 0) rfl rfl) hw.2.1 hl.1 rfl (Nat.le_of_ble_eq_true rfl) ⟨(Nat.zero_le _), (Nat.zero_le _)⟩ dX11_think_2) (fun r_1 hr_1 => ?_)
  subst hr_1
  refine b_if_ne (tgt := 10) hx hb dX11_think_5 (by decide) (fun c_2 => ?_) (fun c_2 => ?_)
  · refine lv_iload_n hx hb dX11_think_10 rfl (lv_at hl 2 rfl) ?_
    refine lv_iconst (v := nI 0) hx hb dX11_think_11 (by decide) ?_
    refine lv_bipush (v := nI 9) hx hb dX11_think_12 (by decide) ?_
    refine vp_callSi (ro_runS (c_X11_within l D ka q (nI 0) (nI 9) _ _ _ hq (nT (by decide)) (nT (by decide))) X wd_780 wd_778 wd_779 wd_8 on_X11_within ⟨Nat.le_of_ble_eq_true rfl, Nat.le_of_ble_eq_true rfl⟩ trivial hl.1 rfl (Nat.le_of_ble_eq_true rfl) ⟨(Nat.zero_le _), (Nat.zero_le _)⟩ dX11_think_14) (fun r_3 hr_3 => ?_)
    subst hr_3
    refine b_if_ne (tgt := 23) hx hb dX11_think_17 (by decide) (fun c_4 => ?_) (fun c_4 => ?_)
    · obtain ⟨j, hlt_j, rfl, rfl⟩ := nat_ofK (n := N 0 1) hk (by omega) (by omega)
      obtain ⟨i, hlt_i, rfl, rfl⟩ := nat_ofK (n := 10) hq (by omega) (by omega)
      refine lv_aload_n hx hb dX11_think_23 rfl (lv_at hl 0 rfl) ?_
      refine va_get (D := D) (ci := 11) (v := .ref (a 11)) (C := RX11) (T := TX11) (N := 35) hx hb hts inX11 hown hK hw.2.1 0 rfl rfl 11 (by decide) (hts _ wd_676) (fun _ h9 => h9) rfl dX11_think_24 ?_
      refine lv_iload_n hx hb dX11_think_27 rfl (lv_at hl 1 rfl) ?_
      refine n_iald hx hb hK hw.2.1 7 0 rfl rfl (k := j) (by omega) (by decide) dX11_think_28 ?_
      have hv_5 : N 4 j ≤ 9 := hN.2.2.2.2.1 j
      refine lv_istore_n (lv' := [(3, .int (nI (N 4 j))), (0, .ref h), (1, .int (nI j)), (2, .int (nI i))]) hx hb dX11_think_29 rfl hl (by decide) rfl (fun ls hl => ?_)
      refine lv_aload_n hx hb dX11_think_30 rfl (lv_at hl 1 rfl) ?_
      refine va_get (D := D) (ci := 11) (v := .ref (a 11)) (C := RX11) (T := TX11) (N := 35) hx hb hts inX11 hown hK hw.2.1 0 rfl rfl 11 (by decide) (hts _ wd_676) (fun _ h9 => h9) rfl dX11_think_31 ?_
      refine lv_iload_n hx hb dX11_think_34 rfl (lv_at hl 2 rfl) ?_
      refine lv_iload_n hx hb dX11_think_35 rfl (lv_at hl 3 rfl) ?_
      refine n_iast hx hb hK hw.2.1 hw.2.2 hS 7 0 (φ := nI) (u := N 4) (v := i) rfl rfl (k := j) (by omega) (by decide) dX11_think_36 (fun H locs hP hD hS => ?_)
      have hw : wdH D z (mw ka h a (up N 4 j i) C f g ++ R) H := ⟨Nat.le_trans hz0 hS.1, hP, hD⟩
      refine lv_iload_n hx hb dX11_think_37 rfl (lv_at hl 0 rfl) ?_
      refine hret _ _ _ _ _ _ _ _ dX11_think_38 hS hw (Nat.zero_le _) (Nat.zero_le _) ?_
      refine ⟨f, g, (up N 4 j i), C, rfl, ?_⟩
      unfold sp_think
      (repeat' split) <;> first | rfl | omega
    · refine lv_bipush (v := (-2)) hx hb dX11_think_20 (by decide) ?_
      refine hret _ _ _ _ _ _ _ _ dX11_think_22 hS hw (Nat.zero_le _) (Nat.zero_le _) ?_
      refine ⟨f, g, N, C, rfl, ?_⟩
      unfold sp_think
      (repeat' split) <;> first | rfl | omega
  · refine lv_iconst (v := (-1)) hx hb dX11_think_8 (by decide) ?_
    refine hret _ _ _ _ _ _ _ _ dX11_think_9 hS hw (Nat.zero_le _) (Nat.zero_le _) ?_
    refine ⟨f, g, N, C, rfl, ?_⟩
    unfold sp_think
    (repeat' split) <;> first | rfl | omega
set_option maxRecDepth 100000 in
set_option maxHeartbeats 4000000 in
theorem c_X11_brace (l : Launch) (D : va_G) (ka : Nat → ClassId) (z : Nat) (h : Nat) (a : Nat → Nat) (N : Nat → Nat → Nat) (C : Nat → Nat → Int32) (f : Nat → Int32) (g : Nat → Nat → Int32) (R : va_W) (k q : Int32) (K q2 : Int) (hk : k.toInt = K) (hq : q.toInt = q2) (hN : WF N) : MU l D ka z yX11_brace cX11_brace 4 (some .int) 1 0 0 [.ref h, .int k, .int q] (mw ka h a N C f g ++ R) (Qi D z (fun r w => ∃ f' g' N' C', w = mw ka h a N' C' f' g' ++ R ∧ (r, N', C') = sp_brace N C K q2)) := by
  refine MU.ofI (by decide) (Nat.le_of_ble_eq_true rfl) ?_
  intro p e s m args below meth c Q X hw hS hret ls hl
  obtain ⟨hx, hb, hml, hown, hts, hE⟩ := id X
  have hK := hE.1
  have hz0 := hw.1
  have hl : lv_has ls 4 [(0, .ref h), (1, .int k), (2, .int q)] := hl
  have hN1 := hN.1
  refine lv_aload_n hx hb dX11_brace_0 rfl (lv_at hl 0 rfl) ?_
  refine lv_iload_n hx hb dX11_brace_1 rfl (lv_at hl 1 rfl) ?_
  refine vp_callSi (ro_runV (c_X11_isTaker l D ka h a N C f g R k _ hk hN) X wd_827 wd_824 wd_826 ws_11 wd_8 on_X11_isTaker ⟨Nat.le_of_ble_eq_true rfl, Nat.le_of_ble_eq_true rfl⟩ (va_recv hK hw.2.1 (ci := 11) (q0 := 0) rfl rfl) hw.2.1 hl.1 rfl (Nat.le_of_ble_eq_true rfl) ⟨(Nat.zero_le _), (Nat.zero_le _)⟩ dX11_brace_2) (fun r_1 hr_1 => ?_)
  subst hr_1
  refine b_if_ne (tgt := 10) hx hb dX11_brace_5 (by decide) (fun c_2 => ?_) (fun c_2 => ?_)
  · refine lv_iload_n hx hb dX11_brace_10 rfl (lv_at hl 2 rfl) ?_
    refine lv_iconst (v := nI 0) hx hb dX11_brace_11 (by decide) ?_
    refine lv_bipush (v := nI 99) hx hb dX11_brace_12 (by decide) ?_
    refine vp_callSi (ro_runS (c_X11_within l D ka q (nI 0) (nI 99) _ _ _ hq (nT (by decide)) (nT (by decide))) X wd_780 wd_778 wd_779 wd_8 on_X11_within ⟨Nat.le_of_ble_eq_true rfl, Nat.le_of_ble_eq_true rfl⟩ trivial hl.1 rfl (Nat.le_of_ble_eq_true rfl) ⟨(Nat.zero_le _), (Nat.zero_le _)⟩ dX11_brace_14) (fun r_3 hr_3 => ?_)
    subst hr_3
    refine b_if_ne (tgt := 23) hx hb dX11_brace_17 (by decide) (fun c_4 => ?_) (fun c_4 => ?_)
    · obtain ⟨j, hlt_j, rfl, rfl⟩ := nat_ofK (n := N 0 1) hk (by omega) (by omega)
      obtain ⟨i, hlt_i, rfl, rfl⟩ := nat_ofK (n := 100) hq (by omega) (by omega)
      refine lv_aload_n hx hb dX11_brace_23 rfl (lv_at hl 0 rfl) ?_
      refine va_get (D := D) (ci := 11) (v := .ref (a 10)) (C := RX11) (T := TX11) (N := 35) hx hb hts inX11 hown hK hw.2.1 0 rfl rfl 10 (by decide) (hts _ wd_675) (fun _ h9 => h9) rfl dX11_brace_24 ?_
      refine lv_iload_n hx hb dX11_brace_27 rfl (lv_at hl 1 rfl) ?_
      refine n_iald hx hb hK hw.2.1 6 0 rfl rfl (k := j) (by omega) (by decide) dX11_brace_28 ?_
      have hv_5 : N 3 j ≤ 99 := hN.2.2.2.1 j
      refine lv_istore_n (lv' := [(3, .int (nI (N 3 j))), (0, .ref h), (1, .int (nI j)), (2, .int (nI i))]) hx hb dX11_brace_29 rfl hl (by decide) rfl (fun ls hl => ?_)
      refine lv_aload_n hx hb dX11_brace_30 rfl (lv_at hl 1 rfl) ?_
      refine va_get (D := D) (ci := 11) (v := .ref (a 10)) (C := RX11) (T := TX11) (N := 35) hx hb hts inX11 hown hK hw.2.1 0 rfl rfl 10 (by decide) (hts _ wd_675) (fun _ h9 => h9) rfl dX11_brace_31 ?_
      refine lv_iload_n hx hb dX11_brace_34 rfl (lv_at hl 2 rfl) ?_
      refine lv_iload_n hx hb dX11_brace_35 rfl (lv_at hl 3 rfl) ?_
      refine n_iast hx hb hK hw.2.1 hw.2.2 hS 6 0 (φ := nI) (u := N 3) (v := i) rfl rfl (k := j) (by omega) (by decide) dX11_brace_36 (fun H locs hP hD hS => ?_)
      have hw : wdH D z (mw ka h a (up N 3 j i) C f g ++ R) H := ⟨Nat.le_trans hz0 hS.1, hP, hD⟩
      refine lv_iload_n hx hb dX11_brace_37 rfl (lv_at hl 0 rfl) ?_
      refine hret _ _ _ _ _ _ _ _ dX11_brace_38 hS hw (Nat.zero_le _) (Nat.zero_le _) ?_
      refine ⟨f, g, (up N 3 j i), C, rfl, ?_⟩
      unfold sp_brace
      (repeat' split) <;> first | rfl | omega
    · refine lv_bipush (v := (-2)) hx hb dX11_brace_20 (by decide) ?_
      refine hret _ _ _ _ _ _ _ _ dX11_brace_22 hS hw (Nat.zero_le _) (Nat.zero_le _) ?_
      refine ⟨f, g, N, C, rfl, ?_⟩
      unfold sp_brace
      (repeat' split) <;> first | rfl | omega
  · refine lv_iconst (v := (-1)) hx hb dX11_brace_8 (by decide) ?_
    refine hret _ _ _ _ _ _ _ _ dX11_brace_9 hS hw (Nat.zero_le _) (Nat.zero_le _) ?_
    refine ⟨f, g, N, C, rfl, ?_⟩
    unfold sp_brace
    (repeat' split) <;> first | rfl | omega
set_option maxRecDepth 100000 in
set_option maxHeartbeats 4000000 in
theorem c_X11_reading (l : Launch) (D : va_G) (ka : Nat → ClassId) (z : Nat) (h : Nat) (a : Nat → Nat) (N : Nat → Nat → Nat) (C : Nat → Nat → Int32) (f : Nat → Int32) (g : Nat → Nat → Int32) (R : va_W) (k q m1 : Int32) (K q2 m2 : Int) (hk : k.toInt = K) (hq : q.toInt = q2) (hm1 : m1.toInt = m2) (hN : WF N) : MU l D ka z yX11_reading cX11_reading 4 (some .int) 2 0 0 [.ref h, .int k, .int q, .int m1] (mw ka h a N C f g ++ R) (Qi D z (fun r w => ∃ f' g' N' C', w = mw ka h a N' C' f' g' ++ R ∧ (r, N', C') = sp_reading N C K q2 m2)) := by
  refine MU.ofI (by decide) (Nat.le_of_ble_eq_true rfl) ?_
  intro p e s m args below meth c Q X hw hS hret ls hl
  obtain ⟨hx, hb, hml, hown, hts, hE⟩ := id X
  have hK := hE.1
  have hz0 := hw.1
  have hl : lv_has ls 4 [(0, .ref h), (1, .int k), (2, .int q), (3, .int m1)] := hl
  have hN1 := hN.1
  refine lv_aload_n hx hb dX11_reading_0 rfl (lv_at hl 0 rfl) ?_
  refine lv_iload_n hx hb dX11_reading_1 rfl (lv_at hl 1 rfl) ?_
  refine vp_callSi (ro_runV (c_X11_isTaker l D ka h a N C f g R k _ hk hN) X wd_827 wd_824 wd_826 ws_11 wd_8 on_X11_isTaker ⟨Nat.le_of_ble_eq_true rfl, Nat.le_of_ble_eq_true rfl⟩ (va_recv hK hw.2.1 (ci := 11) (q0 := 0) rfl rfl) hw.2.1 hl.1 rfl (Nat.le_of_ble_eq_true rfl) ⟨(Nat.zero_le _), (Nat.zero_le _)⟩ dX11_reading_2) (fun r_1 hr_1 => ?_)
  subst hr_1
  refine b_if_ne (tgt := 10) hx hb dX11_reading_5 (by decide) (fun c_2 => ?_) (fun c_2 => ?_)
  · refine lv_iload_n hx hb dX11_reading_10 rfl (lv_at hl 2 rfl) ?_
    refine vp_callSi (ro_runS (c_X11_isMinute l D ka q _ hq) X wd_866 wd_864 wd_865 wd_8 on_X11_isMinute ⟨Nat.le_of_ble_eq_true rfl, Nat.le_of_ble_eq_true rfl⟩ trivial hl.1 rfl (Nat.le_of_ble_eq_true rfl) ⟨(Nat.zero_le _), (Nat.zero_le _)⟩ dX11_reading_11) (fun r_3 hr_3 => ?_)
    subst hr_3
    refine b_if_eq (tgt := 27) hx hb dX11_reading_14 (by decide) (fun c_4 => ?_) (fun c_4 => ?_)
    · refine lv_bipush (v := (-2)) hx hb dX11_reading_27 (by decide) ?_
      refine hret _ _ _ _ _ _ _ _ dX11_reading_29 hS hw (Nat.zero_le _) (Nat.zero_le _) ?_
      refine ⟨f, g, N, C, rfl, ?_⟩
      unfold sp_reading
      (repeat' split) <;> first | rfl | omega
    · refine lv_iload_n hx hb dX11_reading_17 rfl (lv_at hl 3 rfl) ?_
      refine lv_iconst (v := nI 0) hx hb dX11_reading_18 (by decide) ?_
      refine lv_bipush (v := nI 40) hx hb dX11_reading_19 (by decide) ?_
      refine vp_callSi (ro_runS (c_X11_within l D ka m1 (nI 0) (nI 40) _ _ _ hm1 (nT (by decide)) (nT (by decide))) X wd_780 wd_778 wd_779 wd_8 on_X11_within ⟨Nat.le_of_ble_eq_true rfl, Nat.le_of_ble_eq_true rfl⟩ trivial hl.1 rfl (Nat.le_of_ble_eq_true rfl) ⟨(Nat.zero_le _), (Nat.zero_le _)⟩ dX11_reading_21) (fun r_5 hr_5 => ?_)
      subst hr_5
      refine b_if_ne (tgt := 30) hx hb dX11_reading_24 (by decide) (fun c_6 => ?_) (fun c_6 => ?_)
      · refine lv_aload_n hx hb dX11_reading_30 rfl (lv_at hl 0 rfl) ?_
        refine va_get (D := D) (ci := 11) (v := .int (nI (N 0 3))) (C := RX11) (T := TX11) (N := 35) hx hb hts inX11 hown hK hw.2.1 0 rfl rfl 31 (by decide) (hts _ wd_696) (fun _ h9 => h9) rfl dX11_reading_31 ?_
        refine lv_bipush (v := nI 8) hx hb dX11_reading_34 (by decide) ?_
        refine i_icmp_ne (tgt := 42) hx hb (nT (by omega)) (nT (by decide)) dX11_reading_36 (by decide) (fun c_7 => ?_) (fun c_7 => ?_)
        · obtain ⟨j, hlt_j, rfl, rfl⟩ := nat_ofK (n := N 0 1) hk (by omega) (by omega)
          obtain ⟨i, hlt_i, rfl, rfl⟩ := nat_ofK (n := 60) hq (by omega) (by omega)
          obtain ⟨t, hlt_t, rfl, rfl⟩ := nat_ofK (n := 41) hm1 (by omega) (by omega)
          refine lv_aload_n hx hb dX11_reading_42 rfl (lv_at hl 0 rfl) ?_
          refine va_get (D := D) (ci := 11) (v := .ref (a 32)) (C := RX11) (T := TX11) (N := 35) hx hb hts inX11 hown hK hw.2.1 0 rfl rfl 32 (by decide) (hts _ wd_697) (fun _ h9 => h9) rfl dX11_reading_43 ?_
          refine lv_aload_n hx hb dX11_reading_46 rfl (lv_at hl 0 rfl) ?_
          refine va_get (D := D) (ci := 11) (v := .int (nI (N 0 3))) (C := RX11) (T := TX11) (N := 35) hx hb hts inX11 hown hK hw.2.1 0 rfl rfl 31 (by decide) (hts _ wd_696) (fun _ h9 => h9) rfl dX11_reading_47 ?_
          refine lv_iload_n hx hb dX11_reading_50 rfl (lv_at hl 1 rfl) ?_
          refine n_iast hx hb hK hw.2.1 hw.2.2 hS 20 0 (φ := nI) (u := N 6) (v := j) rfl rfl (k := N 0 3) (by omega) (by decide) dX11_reading_51 (fun H locs hP hD hS => ?_)
          have hw : wdH D z (mw ka h a (up N 6 (N 0 3) j) C f g ++ R) H := ⟨Nat.le_trans hz0 hS.1, hP, hD⟩
          refine lv_aload_n hx hb dX11_reading_52 rfl (lv_at hl 0 rfl) ?_
          refine va_get (D := D) (ci := 11) (v := .ref (a 33)) (C := RX11) (T := TX11) (N := 35) hx hb hts inX11 hown hK hw.2.1 0 rfl rfl 33 (by decide) (hts _ wd_698) (fun _ h9 => h9) rfl dX11_reading_53 ?_
          refine lv_aload_n hx hb dX11_reading_56 rfl (lv_at hl 0 rfl) ?_
          refine va_get (D := D) (ci := 11) (v := .int (nI (N 0 3))) (C := RX11) (T := TX11) (N := 35) hx hb hts inX11 hown hK hw.2.1 0 rfl rfl 31 (by decide) (hts _ wd_696) (fun _ h9 => h9) rfl dX11_reading_57 ?_
          refine lv_iload_n hx hb dX11_reading_60 rfl (lv_at hl 2 rfl) ?_
          refine n_iast hx hb hK hw.2.1 hw.2.2 hS 21 0 (φ := nI) (u := (up N 6 (N 0 3) j) 7) (v := i) rfl rfl (k := N 0 3) (by omega) (by decide) dX11_reading_61 (fun H locs hP hD hS => ?_)
          have hw : wdH D z (mw ka h a (up (up N 6 (N 0 3) j) 7 (N 0 3) i) C f g ++ R) H := ⟨Nat.le_trans hz0 hS.1, hP, hD⟩
          refine lv_aload_n hx hb dX11_reading_62 rfl (lv_at hl 0 rfl) ?_
          refine va_get (D := D) (ci := 11) (v := .ref (a 34)) (C := RX11) (T := TX11) (N := 35) hx hb hts inX11 hown hK hw.2.1 0 rfl rfl 34 (by decide) (hts _ wd_699) (fun _ h9 => h9) rfl dX11_reading_63 ?_
          refine lv_aload_n hx hb dX11_reading_66 rfl (lv_at hl 0 rfl) ?_
          refine va_get (D := D) (ci := 11) (v := .int (nI (N 0 3))) (C := RX11) (T := TX11) (N := 35) hx hb hts inX11 hown hK hw.2.1 0 rfl rfl 31 (by decide) (hts _ wd_696) (fun _ h9 => h9) rfl dX11_reading_67 ?_
          refine lv_iload_n hx hb dX11_reading_70 rfl (lv_at hl 3 rfl) ?_
          refine n_iast hx hb hK hw.2.1 hw.2.2 hS 22 0 (φ := nI) (u := (up (up N 6 (N 0 3) j) 7 (N 0 3) i) 8) (v := t) rfl rfl (k := N 0 3) (by omega) (by decide) dX11_reading_71 (fun H locs hP hD hS => ?_)
          have hw : wdH D z (mw ka h a (up (up (up N 6 (N 0 3) j) 7 (N 0 3) i) 8 (N 0 3) t) C f g ++ R) H := ⟨Nat.le_trans hz0 hS.1, hP, hD⟩
          refine lv_aload_n hx hb dX11_reading_72 rfl (lv_at hl 0 rfl) ?_
          refine lv_dup hx hb dX11_reading_73 rfl ?_
          refine va_get (D := D) (ci := 11) (v := .int (nI (N 0 3))) (C := RX11) (T := TX11) (N := 35) hx hb hts inX11 hown hK hw.2.1 0 rfl rfl 31 (by decide) (hts _ wd_696) (fun _ h9 => h9) rfl dX11_reading_74 ?_
          refine lv_iconst (v := nI 1) hx hb dX11_reading_77 (by decide) ?_
          refine n_iadd hx hb dX11_reading_78 ?_
          refine va_put (D := D) (ci := 11) (ty := .int) (C := RX11) (T := TX11) (N := 35) hx hb hts inX11 tyX11 tyX11_ok nmX11 hown hK hw.2.1 hw.2.2 hS 0 rfl rfl 31 (by decide) (hts _ wd_696) (fun _ h9 => h9) rfl (by decide +kernel) rfl rfl (Nat.le_of_ble_eq_true rfl) dX11_reading_79 (fun H locs hP hD hS => ?_)
          have hw : wdH D z (mw ka h a (up (up (up (up N 6 (N 0 3) j) 7 (N 0 3) i) 8 (N 0 3) t) 0 3 ((N 0 3) + 1)) C f g ++ R) H := ⟨Nat.le_trans hz0 hS.1, hP, hD⟩
          refine lv_aload_n hx hb dX11_reading_82 rfl (lv_at hl 0 rfl) ?_
          refine va_get (D := D) (ci := 11) (v := .int (nI ((N 0 3) + 1))) (C := RX11) (T := TX11) (N := 35) hx hb hts inX11 hown hK hw.2.1 0 rfl rfl 31 (by decide) (hts _ wd_696) (fun _ h9 => h9) rfl dX11_reading_83 ?_
          refine lv_iconst (v := nI 1) hx hb dX11_reading_86 (by decide) ?_
          refine n_isub hx hb (by omega) dX11_reading_87 ?_
          refine hret _ _ _ _ _ _ _ _ dX11_reading_88 hS hw (Nat.zero_le _) (Nat.zero_le _) ?_
          refine ⟨f, g, (up (up (up (up N 6 (N 0 3) j) 7 (N 0 3) i) 8 (N 0 3) t) 0 3 ((N 0 3) + 1)), C, rfl, ?_⟩
          unfold sp_reading
          (repeat' split) <;> first | rfl | omega
        · refine lv_bipush (v := (-4)) hx hb dX11_reading_39 (by decide) ?_
          refine hret _ _ _ _ _ _ _ _ dX11_reading_41 hS hw (Nat.zero_le _) (Nat.zero_le _) ?_
          refine ⟨f, g, N, C, rfl, ?_⟩
          unfold sp_reading
          (repeat' split) <;> first | rfl | omega
      · refine lv_bipush (v := (-2)) hx hb dX11_reading_27 (by decide) ?_
        refine hret _ _ _ _ _ _ _ _ dX11_reading_29 hS hw (Nat.zero_le _) (Nat.zero_le _) ?_
        refine ⟨f, g, N, C, rfl, ?_⟩
        unfold sp_reading
        (repeat' split) <;> first | rfl | omega
  · refine lv_iconst (v := (-1)) hx hb dX11_reading_8 (by decide) ?_
    refine hret _ _ _ _ _ _ _ _ dX11_reading_9 hS hw (Nat.zero_le _) (Nat.zero_le _) ?_
    refine ⟨f, g, N, C, rfl, ?_⟩
    unfold sp_reading
    (repeat' split) <;> first | rfl | omega
set_option maxRecDepth 100000 in
set_option maxHeartbeats 4000000 in
theorem c_X11_back (l : Launch) (D : va_G) (ka : Nat → ClassId) (z : Nat) (h : Nat) (a : Nat → Nat) (N : Nat → Nat → Nat) (C : Nat → Nat → Int32) (f : Nat → Int32) (g : Nat → Nat → Int32) (R : va_W) (k : Int32) (K : Int) (hk : k.toInt = K) (hN : WF N) : MU l D ka z yX11_back cX11_back 2 (some .int) 1 0 0 [.ref h, .int k] (mw ka h a N C f g ++ R) (Qi D z (fun r w => ∃ f' g' N' C', w = mw ka h a N' C' f' g' ++ R ∧ (r, N', C') = sp_back N C K)) := by
  refine MU.ofI (by decide) (Nat.le_of_ble_eq_true rfl) ?_
  intro p e s m args below meth c Q X hw hS hret ls hl
  obtain ⟨hx, hb, hml, hown, hts, hE⟩ := id X
  have hK := hE.1
  have hz0 := hw.1
  have hl : lv_has ls 2 [(0, .ref h), (1, .int k)] := hl
  have hN1 := hN.1
  refine lv_iload_n hx hb dX11_back_0 rfl (lv_at hl 1 rfl) ?_
  refine lv_iconst (v := nI 0) hx hb dX11_back_1 (by decide) ?_
  refine lv_aload_n hx hb dX11_back_2 rfl (lv_at hl 0 rfl) ?_
  refine va_get (D := D) (ci := 11) (v := .int (nI (N 0 3))) (C := RX11) (T := TX11) (N := 35) hx hb hts inX11 hown hK hw.2.1 0 rfl rfl 31 (by decide) (hts _ wd_696) (fun _ h9 => h9) rfl dX11_back_3 ?_
  refine vp_callSi (ro_runS (c_X11_within l D ka k (nI 0) (nI (N 0 3)) _ _ _ hk (nT (by decide)) (nT (by omega))) X wd_780 wd_778 wd_779 wd_8 on_X11_within ⟨Nat.le_of_ble_eq_true rfl, Nat.le_of_ble_eq_true rfl⟩ trivial hl.1 rfl (Nat.le_of_ble_eq_true rfl) ⟨(Nat.zero_le _), (Nat.zero_le _)⟩ dX11_back_6) (fun r_1 hr_1 => ?_)
  subst hr_1
  refine b_if_ne (tgt := 15) hx hb dX11_back_9 (by decide) (fun c_2 => ?_) (fun c_2 => ?_)
  · obtain ⟨j, hlt_j, rfl, rfl⟩ := nat_ofK (n := N 0 3 + 1) hk (by omega) (by omega)
    refine lv_aload_n hx hb dX11_back_15 rfl (lv_at hl 0 rfl) ?_
    refine lv_dup hx hb dX11_back_16 rfl ?_
    refine va_get (D := D) (ci := 11) (v := .int (nI (N 0 3))) (C := RX11) (T := TX11) (N := 35) hx hb hts inX11 hown hK hw.2.1 0 rfl rfl 31 (by decide) (hts _ wd_696) (fun _ h9 => h9) rfl dX11_back_17 ?_
    refine lv_iload_n hx hb dX11_back_20 rfl (lv_at hl 1 rfl) ?_
    refine n_isub hx hb (by omega) dX11_back_21 ?_
    refine va_put (D := D) (ci := 11) (ty := .int) (C := RX11) (T := TX11) (N := 35) hx hb hts inX11 tyX11 tyX11_ok nmX11 hown hK hw.2.1 hw.2.2 hS 0 rfl rfl 31 (by decide) (hts _ wd_696) (fun _ h9 => h9) rfl (by decide +kernel) rfl rfl (Nat.le_of_ble_eq_true rfl) dX11_back_22 (fun H locs hP hD hS => ?_)
    have hw : wdH D z (mw ka h a (up N 0 3 ((N 0 3) - j)) C f g ++ R) H := ⟨Nat.le_trans hz0 hS.1, hP, hD⟩
    refine lv_aload_n hx hb dX11_back_25 rfl (lv_at hl 0 rfl) ?_
    refine va_get (D := D) (ci := 11) (v := .int (nI ((N 0 3) - j))) (C := RX11) (T := TX11) (N := 35) hx hb hts inX11 hown hK hw.2.1 0 rfl rfl 31 (by decide) (hts _ wd_696) (fun _ h9 => h9) rfl dX11_back_26 ?_
    refine hret _ _ _ _ _ _ _ _ dX11_back_29 hS hw (Nat.zero_le _) (Nat.zero_le _) ?_
    refine ⟨f, g, (up N 0 3 ((N 0 3) - j)), C, rfl, ?_⟩
    unfold sp_back
    (repeat' split) <;> first | rfl | omega
  · refine lv_bipush (v := (-2)) hx hb dX11_back_12 (by decide) ?_
    refine hret _ _ _ _ _ _ _ _ dX11_back_14 hS hw (Nat.zero_le _) (Nat.zero_le _) ?_
    refine ⟨f, g, N, C, rfl, ?_⟩
    unfold sp_back
    (repeat' split) <;> first | rfl | omega
set_option maxRecDepth 100000 in
set_option maxHeartbeats 4000000 in
theorem c_X11_minds (l : Launch) (D : va_G) (ka : Nat → ClassId) (z : Nat) (h : Nat) (a : Nat → Nat) (N : Nat → Nat → Nat) (C : Nat → Nat → Int32) (f : Nat → Int32) (g : Nat → Nat → Int32) (R : va_W) (k : Int32) (K : Int) (hk : k.toInt = K) (hN : WF N) : MU l D ka z yX11_minds cX11_minds 5 (some .int) 3 0 0 [.ref h, .int k] (mw ka h a N C f g ++ R) (Qi D z (fun r w => ∃ f' g' N' C', w = mw ka h a N' C' f' g' ++ R ∧ (r, N', C') = sp_minds N C K)) := by
  refine MU.ofI (by decide) (Nat.le_of_ble_eq_true rfl) ?_
  intro p e s m args below meth c Q X hw hS hret ls hl
  obtain ⟨hx, hb, hml, hown, hts, hE⟩ := id X
  have hK := hE.1
  have hz0 := hw.1
  have hl : lv_has ls 5 [(0, .ref h), (1, .int k)] := hl
  have hN1 := hN.1
  refine lv_aload_n hx hb dX11_minds_0 rfl (lv_at hl 0 rfl) ?_
  refine lv_iload_n hx hb dX11_minds_1 rfl (lv_at hl 1 rfl) ?_
  refine vp_callSi (ro_runV (c_X11_isTaker l D ka h a N C f g R k _ hk hN) X wd_827 wd_824 wd_826 ws_11 wd_8 on_X11_isTaker ⟨Nat.le_of_ble_eq_true rfl, Nat.le_of_ble_eq_true rfl⟩ (va_recv hK hw.2.1 (ci := 11) (q0 := 0) rfl rfl) hw.2.1 hl.1 rfl (Nat.le_of_ble_eq_true rfl) ⟨(Nat.zero_le _), (Nat.zero_le _)⟩ dX11_minds_2) (fun r_1 hr_1 => ?_)
  subst hr_1
  refine b_if_ne (tgt := 10) hx hb dX11_minds_5 (by decide) (fun c_2 => ?_) (fun c_2 => ?_)
  · obtain ⟨j, hlt_j, rfl, rfl⟩ := nat_ofK (n := N 0 1) hk (by omega) (by omega)
    refine lv_aload_n hx hb dX11_minds_10 rfl (lv_at hl 0 rfl) ?_
    refine va_get (D := D) (ci := 11) (v := .ref (a 11)) (C := RX11) (T := TX11) (N := 35) hx hb hts inX11 hown hK hw.2.1 0 rfl rfl 11 (by decide) (hts _ wd_676) (fun _ h9 => h9) rfl dX11_minds_11 ?_
    refine lv_iload_n hx hb dX11_minds_14 rfl (lv_at hl 1 rfl) ?_
    refine n_iald hx hb hK hw.2.1 7 0 rfl rfl (k := j) (by omega) (by decide) dX11_minds_15 ?_
    have hv_3 : N 4 j ≤ 9 := hN.2.2.2.2.1 j
    refine lv_istore_n (lv' := [(2, .int (nI (N 4 j))), (0, .ref h), (1, .int (nI j))]) hx hb dX11_minds_16 rfl hl (by decide) rfl (fun ls hl => ?_)
    refine lv_iconst (v := nI 0) hx hb dX11_minds_17 (by decide) ?_
    refine lv_istore_n (lv' := [(3, .int (nI 0)), (2, .int (nI (N 4 j))), (0, .ref h), (1, .int (nI j))]) hx hb dX11_minds_18 rfl hl (by decide) rfl (fun ls hl => ?_)
    refine lv_iconst (v := nI 0) hx hb dX11_minds_19 (by decide) ?_
    refine lv_istore (lv' := [(4, .int (nI 0)), (3, .int (nI 0)), (2, .int (nI (N 4 j))), (0, .ref h), (1, .int (nI j))]) hx hb dX11_minds_20 hl (by decide) rfl (fun ls hl => ?_)
    have hw : wdH D z (mw ka h a (up N 4 j (N 4 j)) C f g ++ R) s.heap := by rw [up_self]; exact hw
    have loop22 : ∀ (fuel22 : Nat) (b : Nat) (se : Nat) (x : Nat), 10 - b < fuel22 → (b ≤ 10) → (x ≤ 9) → (se = bset (fun v => soA (up N 4 j v) (N 0 3)) b) → ∀ (H : Heap) (locs : List Loc), wdH D z (mw ka h a (up N 4 j x) C f g ++ R) H → va_S (fun q => z ≤ q) s.heap H locs → ∀ ls : Array Slot, lv_has ls 5 [(0, .ref h), (1, .int (nI j)), (2, .int (nI (N 4 j))), (3, .int (nI se)), (4, .int (nI b))] → W p l e (rmz 3 0 0) s m args below meth c H locs 0 0 Q (F0 m 22 ls []) := by
      intro fuel22
      induction fuel22 with
      | zero => intro b se x hfu; exact absurd hfu (Nat.not_lt_zero _)
      | succ fuel22 ih22 =>
        intro b se x hfu hi1 hx1 hse H locs hw hS ls hl
        have hNx : WF (up N 4 j x) := WF.up4 hN (by omega)
        refine lv_iload hx hb dX11_minds_22 (lv_at hl 4 rfl) ?_
        refine lv_bipush (v := nI 9) hx hb dX11_minds_24 (by decide) ?_
        refine i_icmp_gt (tgt := 61) hx hb (nT (by omega)) (nT (by decide)) dX11_minds_26 (by decide) (fun c_4 => ?_) (fun c_4 => ?_)
        · refine lv_aload_n hx hb dX11_minds_61 rfl (lv_at hl 0 rfl) ?_
          refine va_get (D := D) (ci := 11) (v := .ref (a 11)) (C := RX11) (T := TX11) (N := 35) hx hb hts inX11 hown hK hw.2.1 0 rfl rfl 11 (by decide) (hts _ wd_676) (fun _ h9 => h9) rfl dX11_minds_62 ?_
          refine lv_iload_n hx hb dX11_minds_65 rfl (lv_at hl 1 rfl) ?_
          refine lv_iload_n hx hb dX11_minds_66 rfl (lv_at hl 2 rfl) ?_
          refine n_iast hx hb hK hw.2.1 hw.2.2 hS 7 0 (φ := nI) (u := (up N 4 j x) 4) (v := N 4 j) rfl rfl (k := j) (by omega) (by decide) dX11_minds_67 (fun H locs hP hD hS => ?_)
          have hw : wdH D z (mw ka h a (up (up N 4 j x) 4 j (N 4 j)) C f g ++ R) H := ⟨Nat.le_trans hz0 hS.1, hP, hD⟩
          refine lv_iload_n hx hb dX11_minds_68 rfl (lv_at hl 3 rfl) ?_
          rw [up_back] at hw
          refine hret _ _ _ _ _ _ _ _ dX11_minds_69 hS hw (Nat.zero_le _) (Nat.zero_le _) ?_
          refine ⟨f, g, N, C, rfl, ?_⟩
          rw [hse, show b = 10 by omega]
          unfold sp_minds
          rw [if_pos (by omega)]; rfl
        · refine lv_aload_n hx hb dX11_minds_29 rfl (lv_at hl 0 rfl) ?_
          refine va_get (D := D) (ci := 11) (v := .ref (a 11)) (C := RX11) (T := TX11) (N := 35) hx hb hts inX11 hown hK hw.2.1 0 rfl rfl 11 (by decide) (hts _ wd_676) (fun _ h9 => h9) rfl dX11_minds_30 ?_
          refine lv_iload_n hx hb dX11_minds_33 rfl (lv_at hl 1 rfl) ?_
          refine lv_iload hx hb dX11_minds_34 (lv_at hl 4 rfl) ?_
          refine n_iast hx hb hK hw.2.1 hw.2.2 hS 7 0 (φ := nI) (u := (up N 4 j x) 4) (v := b) rfl rfl (k := j) (by omega) (by decide) dX11_minds_36 (fun H locs hP hD hS => ?_)
          have hw : wdH D z (mw ka h a (up (up N 4 j x) 4 j b) C f g ++ R) H := ⟨Nat.le_trans hz0 hS.1, hP, hD⟩
          rw [up_up] at hw
          refine lv_iload_n hx hb dX11_minds_37 rfl (lv_at hl 3 rfl) ?_
          refine lv_aload_n hx hb dX11_minds_38 rfl (lv_at hl 0 rfl) ?_
          refine vp_callSi (ro_runV (c_X11_areSo l D ka h a (up N 4 j b) C f g R (WF.up4 hN (show b ≤ 9 by omega))) X wd_934 wd_931 wd_933 ws_21 wd_8 on_X11_areSo ⟨Nat.le_of_ble_eq_true rfl, Nat.le_of_ble_eq_true rfl⟩ (va_recv hK hw.2.1 (ci := 11) (q0 := 0) rfl rfl) hw.2.1 hl.1 rfl (Nat.le_of_ble_eq_true rfl) ⟨(Nat.zero_le _), (Nat.zero_le _)⟩ dX11_minds_39) (fun r_5 hr_5 => ?_)
          subst hr_5
          refine W.eq (g2 := F0 m 42 ls [.int (bI (soA (up N 4 j b) (N 0 3) = true)), .int (nI se)]) rfl ?_
          refine b_if_eq (tgt := 52) hx hb dX11_minds_42 (by decide) (fun c_6 => ?_) (fun c_6 => ?_)
          · refine lv_iconst (v := nI 0) hx hb dX11_minds_52 (by decide) ?_
            refine lv_ior hx hb dX11_minds_53 ?_
            rw [n_or se 0]
            refine lv_istore_n (lv' := [(3, .int (nI (se ||| 0))), (0, .ref h), (1, .int (nI j)), (2, .int (nI (N 4 j))), (4, .int (nI b))]) hx hb dX11_minds_54 rfl hl (by decide) rfl (fun ls hl => ?_)
            refine n_iinc (lv' := [(4, .int (nI (b + 1))), (3, .int (nI (se ||| 0))), (0, .ref h), (1, .int (nI j)), (2, .int (nI (N 4 j)))]) (k := 4) (d := 1) hx hb dX11_minds_55 hl rfl rfl (by decide) rfl (fun ls hl => ?_)
            refine lv_goto (tgt := 22) hx hb dX11_minds_58 (by decide) ?_
            exact ih22 (b + 1) (se ||| 0) b (by omega) (by omega) (by omega) (by rw [hse]; first | exact bset_t (by assumption) | (rw [Nat.or_zero]; exact bset_f (by assumption))) _ _ hw hS ls (lv_sub hl [2, 3, 4, 1, 0] rfl)
          · refine lv_iconst (v := nI 1) hx hb dX11_minds_45 (by decide) ?_
            refine lv_iload hx hb dX11_minds_46 (lv_at hl 4 rfl) ?_
            refine lv_ishl hx hb dX11_minds_48 ?_
            rw [n_shl (a := 1) (k := b) (by omega) (Nat.lt_of_le_of_lt (by rw [Nat.one_mul]; exact Nat.pow_le_pow_right (by decide) (show b ≤ 31 by omega)) (by decide))]
            refine lv_goto (tgt := 53) hx hb dX11_minds_49 (by decide) ?_
            refine lv_ior hx hb dX11_minds_53 ?_
            rw [n_or se (1 * 2 ^ b)]
            refine lv_istore_n (lv' := [(3, .int (nI (se ||| (1 * 2 ^ b)))), (0, .ref h), (1, .int (nI j)), (2, .int (nI (N 4 j))), (4, .int (nI b))]) hx hb dX11_minds_54 rfl hl (by decide) rfl (fun ls hl => ?_)
            refine n_iinc (lv' := [(4, .int (nI (b + 1))), (3, .int (nI (se ||| (1 * 2 ^ b)))), (0, .ref h), (1, .int (nI j)), (2, .int (nI (N 4 j)))]) (k := 4) (d := 1) hx hb dX11_minds_55 hl rfl rfl (by decide) rfl (fun ls hl => ?_)
            refine lv_goto (tgt := 22) hx hb dX11_minds_58 (by decide) ?_
            exact ih22 (b + 1) (se ||| (1 * 2 ^ b)) b (by omega) (by omega) (by omega) (by rw [hse]; first | exact bset_t (by assumption) | (rw [Nat.or_zero]; exact bset_f (by assumption))) _ _ hw hS ls (lv_sub hl [2, 3, 4, 1, 0] rfl)
    exact loop22 _ 0 0 (N 4 j) (Nat.lt_succ_self _) (by omega) (by omega) rfl _ _ hw hS ls (lv_sub hl [3, 4, 2, 1, 0] rfl)
  · refine lv_iconst (v := (-1)) hx hb dX11_minds_8 (by decide) ?_
    refine hret _ _ _ _ _ _ _ _ dX11_minds_9 hS hw (Nat.zero_le _) (Nat.zero_le _) ?_
    refine ⟨f, g, N, C, rfl, ?_⟩
    unfold sp_minds
    (repeat' split) <;> first | rfl | omega
set_option maxRecDepth 100000 in
set_option maxHeartbeats 4000000 in
theorem c_X11_kinds (l : Launch) (D : va_G) (ka : Nat → ClassId) (z : Nat) (h : Nat) (a : Nat → Nat) (N : Nat → Nat → Nat) (C : Nat → Nat → Int32) (f : Nat → Int32) (g : Nat → Nat → Int32) (R : va_W) (k : Int32) (K : Int) (hk : k.toInt = K) (hN : WF N) : MU l D ka z yX11_kinds cX11_kinds 5 (some .int) 3 0 0 [.ref h, .int k] (mw ka h a N C f g ++ R) (Qi D z (fun r w => ∃ f' g' N' C', w = mw ka h a N' C' f' g' ++ R ∧ (r, N', C') = sp_kinds N C K)) := by
  refine MU.ofI (by decide) (Nat.le_of_ble_eq_true rfl) ?_
  intro p e s m args below meth c Q X hw hS hret ls hl
  obtain ⟨hx, hb, hml, hown, hts, hE⟩ := id X
  have hK := hE.1
  have hz0 := hw.1
  have hl : lv_has ls 5 [(0, .ref h), (1, .int k)] := hl
  have hN1 := hN.1
  refine lv_aload_n hx hb dX11_kinds_0 rfl (lv_at hl 0 rfl) ?_
  refine lv_iload_n hx hb dX11_kinds_1 rfl (lv_at hl 1 rfl) ?_
  refine vp_callSi (ro_runV (c_X11_isTaker l D ka h a N C f g R k _ hk hN) X wd_827 wd_824 wd_826 ws_11 wd_8 on_X11_isTaker ⟨Nat.le_of_ble_eq_true rfl, Nat.le_of_ble_eq_true rfl⟩ (va_recv hK hw.2.1 (ci := 11) (q0 := 0) rfl rfl) hw.2.1 hl.1 rfl (Nat.le_of_ble_eq_true rfl) ⟨(Nat.zero_le _), (Nat.zero_le _)⟩ dX11_kinds_2) (fun r_1 hr_1 => ?_)
  subst hr_1
  refine b_if_ne (tgt := 10) hx hb dX11_kinds_5 (by decide) (fun c_2 => ?_) (fun c_2 => ?_)
  · obtain ⟨j, hlt_j, rfl, rfl⟩ := nat_ofK (n := N 0 1) hk (by omega) (by omega)
    refine lv_aload_n hx hb dX11_kinds_10 rfl (lv_at hl 0 rfl) ?_
    refine va_get (D := D) (ci := 11) (v := .ref (a 9)) (C := RX11) (T := TX11) (N := 35) hx hb hts inX11 hown hK hw.2.1 0 rfl rfl 9 (by decide) (hts _ wd_674) (fun _ h9 => h9) rfl dX11_kinds_11 ?_
    refine lv_iload_n hx hb dX11_kinds_14 rfl (lv_at hl 1 rfl) ?_
    refine n_iald hx hb hK hw.2.1 5 0 rfl rfl (k := j) (by omega) (by decide) dX11_kinds_15 ?_
    have hv_3 : N 2 j ≤ 2 := hN.2.2.1 j
    refine lv_istore_n (lv' := [(2, .int (nI (N 2 j))), (0, .ref h), (1, .int (nI j))]) hx hb dX11_kinds_16 rfl hl (by decide) rfl (fun ls hl => ?_)
    refine lv_iconst (v := nI 0) hx hb dX11_kinds_17 (by decide) ?_
    refine lv_istore_n (lv' := [(3, .int (nI 0)), (2, .int (nI (N 2 j))), (0, .ref h), (1, .int (nI j))]) hx hb dX11_kinds_18 rfl hl (by decide) rfl (fun ls hl => ?_)
    refine lv_iconst (v := nI 0) hx hb dX11_kinds_19 (by decide) ?_
    refine lv_istore (lv' := [(4, .int (nI 0)), (3, .int (nI 0)), (2, .int (nI (N 2 j))), (0, .ref h), (1, .int (nI j))]) hx hb dX11_kinds_20 hl (by decide) rfl (fun ls hl => ?_)
    have hw : wdH D z (mw ka h a (up N 2 j (N 2 j)) C f g ++ R) s.heap := by rw [up_self]; exact hw
    have loop22 : ∀ (fuel22 : Nat) (b : Nat) (se : Nat) (x : Nat), 3 - b < fuel22 → (b ≤ 3) → (x ≤ 2) → (se = bset (fun v => soA (up N 2 j v) (N 0 3)) b) → ∀ (H : Heap) (locs : List Loc), wdH D z (mw ka h a (up N 2 j x) C f g ++ R) H → va_S (fun q => z ≤ q) s.heap H locs → ∀ ls : Array Slot, lv_has ls 5 [(0, .ref h), (1, .int (nI j)), (2, .int (nI (N 2 j))), (3, .int (nI se)), (4, .int (nI b))] → W p l e (rmz 3 0 0) s m args below meth c H locs 0 0 Q (F0 m 22 ls []) := by
      intro fuel22
      induction fuel22 with
      | zero => intro b se x hfu; exact absurd hfu (Nat.not_lt_zero _)
      | succ fuel22 ih22 =>
        intro b se x hfu hi1 hx1 hse H locs hw hS ls hl
        have hNx : WF (up N 2 j x) := WF.up2 hN (by omega)
        refine lv_iload hx hb dX11_kinds_22 (lv_at hl 4 rfl) ?_
        refine lv_iconst (v := nI 3) hx hb dX11_kinds_24 (by decide) ?_
        refine i_icmp_ge (tgt := 60) hx hb (nT (by omega)) (nT (by decide)) dX11_kinds_25 (by decide) (fun c_4 => ?_) (fun c_4 => ?_)
        · refine lv_aload_n hx hb dX11_kinds_60 rfl (lv_at hl 0 rfl) ?_
          refine va_get (D := D) (ci := 11) (v := .ref (a 9)) (C := RX11) (T := TX11) (N := 35) hx hb hts inX11 hown hK hw.2.1 0 rfl rfl 9 (by decide) (hts _ wd_674) (fun _ h9 => h9) rfl dX11_kinds_61 ?_
          refine lv_iload_n hx hb dX11_kinds_64 rfl (lv_at hl 1 rfl) ?_
          refine lv_iload_n hx hb dX11_kinds_65 rfl (lv_at hl 2 rfl) ?_
          refine n_iast hx hb hK hw.2.1 hw.2.2 hS 5 0 (φ := nI) (u := (up N 2 j x) 2) (v := N 2 j) rfl rfl (k := j) (by omega) (by decide) dX11_kinds_66 (fun H locs hP hD hS => ?_)
          have hw : wdH D z (mw ka h a (up (up N 2 j x) 2 j (N 2 j)) C f g ++ R) H := ⟨Nat.le_trans hz0 hS.1, hP, hD⟩
          refine lv_iload_n hx hb dX11_kinds_67 rfl (lv_at hl 3 rfl) ?_
          rw [up_back] at hw
          refine hret _ _ _ _ _ _ _ _ dX11_kinds_68 hS hw (Nat.zero_le _) (Nat.zero_le _) ?_
          refine ⟨f, g, N, C, rfl, ?_⟩
          rw [hse, show b = 3 by omega]
          unfold sp_kinds
          rw [if_pos (by omega)]; rfl
        · refine lv_aload_n hx hb dX11_kinds_28 rfl (lv_at hl 0 rfl) ?_
          refine va_get (D := D) (ci := 11) (v := .ref (a 9)) (C := RX11) (T := TX11) (N := 35) hx hb hts inX11 hown hK hw.2.1 0 rfl rfl 9 (by decide) (hts _ wd_674) (fun _ h9 => h9) rfl dX11_kinds_29 ?_
          refine lv_iload_n hx hb dX11_kinds_32 rfl (lv_at hl 1 rfl) ?_
          refine lv_iload hx hb dX11_kinds_33 (lv_at hl 4 rfl) ?_
          refine n_iast hx hb hK hw.2.1 hw.2.2 hS 5 0 (φ := nI) (u := (up N 2 j x) 2) (v := b) rfl rfl (k := j) (by omega) (by decide) dX11_kinds_35 (fun H locs hP hD hS => ?_)
          have hw : wdH D z (mw ka h a (up (up N 2 j x) 2 j b) C f g ++ R) H := ⟨Nat.le_trans hz0 hS.1, hP, hD⟩
          rw [up_up] at hw
          refine lv_iload_n hx hb dX11_kinds_36 rfl (lv_at hl 3 rfl) ?_
          refine lv_aload_n hx hb dX11_kinds_37 rfl (lv_at hl 0 rfl) ?_
          refine vp_callSi (ro_runV (c_X11_areSo l D ka h a (up N 2 j b) C f g R (WF.up2 hN (show b ≤ 2 by omega))) X wd_934 wd_931 wd_933 ws_21 wd_8 on_X11_areSo ⟨Nat.le_of_ble_eq_true rfl, Nat.le_of_ble_eq_true rfl⟩ (va_recv hK hw.2.1 (ci := 11) (q0 := 0) rfl rfl) hw.2.1 hl.1 rfl (Nat.le_of_ble_eq_true rfl) ⟨(Nat.zero_le _), (Nat.zero_le _)⟩ dX11_kinds_38) (fun r_5 hr_5 => ?_)
          subst hr_5
          refine W.eq (g2 := F0 m 41 ls [.int (bI (soA (up N 2 j b) (N 0 3) = true)), .int (nI se)]) rfl ?_
          refine b_if_eq (tgt := 51) hx hb dX11_kinds_41 (by decide) (fun c_6 => ?_) (fun c_6 => ?_)
          · refine lv_iconst (v := nI 0) hx hb dX11_kinds_51 (by decide) ?_
            refine lv_ior hx hb dX11_kinds_52 ?_
            rw [n_or se 0]
            refine lv_istore_n (lv' := [(3, .int (nI (se ||| 0))), (0, .ref h), (1, .int (nI j)), (2, .int (nI (N 2 j))), (4, .int (nI b))]) hx hb dX11_kinds_53 rfl hl (by decide) rfl (fun ls hl => ?_)
            refine n_iinc (lv' := [(4, .int (nI (b + 1))), (3, .int (nI (se ||| 0))), (0, .ref h), (1, .int (nI j)), (2, .int (nI (N 2 j)))]) (k := 4) (d := 1) hx hb dX11_kinds_54 hl rfl rfl (by decide) rfl (fun ls hl => ?_)
            refine lv_goto (tgt := 22) hx hb dX11_kinds_57 (by decide) ?_
            exact ih22 (b + 1) (se ||| 0) b (by omega) (by omega) (by omega) (by rw [hse]; first | exact bset_t (by assumption) | (rw [Nat.or_zero]; exact bset_f (by assumption))) _ _ hw hS ls (lv_sub hl [2, 3, 4, 1, 0] rfl)
          · refine lv_iconst (v := nI 1) hx hb dX11_kinds_44 (by decide) ?_
            refine lv_iload hx hb dX11_kinds_45 (lv_at hl 4 rfl) ?_
            refine lv_ishl hx hb dX11_kinds_47 ?_
            rw [n_shl (a := 1) (k := b) (by omega) (Nat.lt_of_le_of_lt (by rw [Nat.one_mul]; exact Nat.pow_le_pow_right (by decide) (show b ≤ 31 by omega)) (by decide))]
            refine lv_goto (tgt := 52) hx hb dX11_kinds_48 (by decide) ?_
            refine lv_ior hx hb dX11_kinds_52 ?_
            rw [n_or se (1 * 2 ^ b)]
            refine lv_istore_n (lv' := [(3, .int (nI (se ||| (1 * 2 ^ b)))), (0, .ref h), (1, .int (nI j)), (2, .int (nI (N 2 j))), (4, .int (nI b))]) hx hb dX11_kinds_53 rfl hl (by decide) rfl (fun ls hl => ?_)
            refine n_iinc (lv' := [(4, .int (nI (b + 1))), (3, .int (nI (se ||| (1 * 2 ^ b)))), (0, .ref h), (1, .int (nI j)), (2, .int (nI (N 2 j)))]) (k := 4) (d := 1) hx hb dX11_kinds_54 hl rfl rfl (by decide) rfl (fun ls hl => ?_)
            refine lv_goto (tgt := 22) hx hb dX11_kinds_57 (by decide) ?_
            exact ih22 (b + 1) (se ||| (1 * 2 ^ b)) b (by omega) (by omega) (by omega) (by rw [hse]; first | exact bset_t (by assumption) | (rw [Nat.or_zero]; exact bset_f (by assumption))) _ _ hw hS ls (lv_sub hl [2, 3, 4, 1, 0] rfl)
    exact loop22 _ 0 0 (N 2 j) (Nat.lt_succ_self _) (by omega) (by omega) rfl _ _ hw hS ls (lv_sub hl [3, 4, 2, 1, 0] rfl)
  · refine lv_iconst (v := (-1)) hx hb dX11_kinds_8 (by decide) ?_
    refine hret _ _ _ _ _ _ _ _ dX11_kinds_9 hS hw (Nat.zero_le _) (Nat.zero_le _) ?_
    refine ⟨f, g, N, C, rfl, ?_⟩
    unfold sp_kinds
    (repeat' split) <;> first | rfl | omega
set_option maxRecDepth 100000 in
set_option maxHeartbeats 4000000 in
theorem c_X11_glooms (l : Launch) (D : va_G) (ka : Nat → ClassId) (z : Nat) (h : Nat) (a : Nat → Nat) (N : Nat → Nat → Nat) (C : Nat → Nat → Int32) (f : Nat → Int32) (g : Nat → Nat → Int32) (R : va_W) (k : Int32) (K : Int) (hk : k.toInt = K) (hN : WF N) : MU l D ka z yX11_glooms cX11_glooms 5 (some .int) 3 0 0 [.ref h, .int k] (mw ka h a N C f g ++ R) (Qi D z (fun r w => ∃ f' g' N' C', w = mw ka h a N' C' f' g' ++ R ∧ (r, N', C') = sp_glooms N C K)) := by
  refine MU.ofI (by decide) (Nat.le_of_ble_eq_true rfl) ?_
  intro p e s m args below meth c Q X hw hS hret ls hl
  obtain ⟨hx, hb, hml, hown, hts, hE⟩ := id X
  have hK := hE.1
  have hz0 := hw.1
  have hl : lv_has ls 5 [(0, .ref h), (1, .int k)] := hl
  have hN1 := hN.1
  refine lv_aload_n hx hb dX11_glooms_0 rfl (lv_at hl 0 rfl) ?_
  refine lv_iload_n hx hb dX11_glooms_1 rfl (lv_at hl 1 rfl) ?_
  refine vp_callSi (ro_runV (c_X11_isPlace l D ka h a N C f g R k _ hk hN) X wd_839 wd_836 wd_838 ws_12 wd_8 on_X11_isPlace ⟨Nat.le_of_ble_eq_true rfl, Nat.le_of_ble_eq_true rfl⟩ (va_recv hK hw.2.1 (ci := 11) (q0 := 0) rfl rfl) hw.2.1 hl.1 rfl (Nat.le_of_ble_eq_true rfl) ⟨(Nat.zero_le _), (Nat.zero_le _)⟩ dX11_glooms_2) (fun r_1 hr_1 => ?_)
  subst hr_1
  refine b_if_ne (tgt := 10) hx hb dX11_glooms_5 (by decide) (fun c_2 => ?_) (fun c_2 => ?_)
  · obtain ⟨j, hlt_j, rfl, rfl⟩ := nat_ofK (n := N 0 0) hk (by omega) (by omega)
    refine lv_aload_n hx hb dX11_glooms_10 rfl (lv_at hl 0 rfl) ?_
    refine va_get (D := D) (ci := 11) (v := .ref (a 8)) (C := RX11) (T := TX11) (N := 35) hx hb hts inX11 hown hK hw.2.1 0 rfl rfl 8 (by decide) (hts _ wd_673) (fun _ h9 => h9) rfl dX11_glooms_11 ?_
    refine lv_iload_n hx hb dX11_glooms_14 rfl (lv_at hl 1 rfl) ?_
    refine n_iald hx hb hK hw.2.1 4 0 rfl rfl (k := j) (by omega) (by decide) dX11_glooms_15 ?_
    have hv_3 : N 1 j ≤ 9 := hN.2.1 j
    refine lv_istore_n (lv' := [(2, .int (nI (N 1 j))), (0, .ref h), (1, .int (nI j))]) hx hb dX11_glooms_16 rfl hl (by decide) rfl (fun ls hl => ?_)
    refine lv_iconst (v := nI 0) hx hb dX11_glooms_17 (by decide) ?_
    refine lv_istore_n (lv' := [(3, .int (nI 0)), (2, .int (nI (N 1 j))), (0, .ref h), (1, .int (nI j))]) hx hb dX11_glooms_18 rfl hl (by decide) rfl (fun ls hl => ?_)
    refine lv_iconst (v := nI 0) hx hb dX11_glooms_19 (by decide) ?_
    refine lv_istore (lv' := [(4, .int (nI 0)), (3, .int (nI 0)), (2, .int (nI (N 1 j))), (0, .ref h), (1, .int (nI j))]) hx hb dX11_glooms_20 hl (by decide) rfl (fun ls hl => ?_)
    have hw : wdH D z (mw ka h a (up N 1 j (N 1 j)) C f g ++ R) s.heap := by rw [up_self]; exact hw
    have loop22 : ∀ (fuel22 : Nat) (b : Nat) (se : Nat) (x : Nat), 10 - b < fuel22 → (b ≤ 10) → (x ≤ 9) → (se = bset (fun v => soA (up N 1 j v) (N 0 3)) b) → ∀ (H : Heap) (locs : List Loc), wdH D z (mw ka h a (up N 1 j x) C f g ++ R) H → va_S (fun q => z ≤ q) s.heap H locs → ∀ ls : Array Slot, lv_has ls 5 [(0, .ref h), (1, .int (nI j)), (2, .int (nI (N 1 j))), (3, .int (nI se)), (4, .int (nI b))] → W p l e (rmz 3 0 0) s m args below meth c H locs 0 0 Q (F0 m 22 ls []) := by
      intro fuel22
      induction fuel22 with
      | zero => intro b se x hfu; exact absurd hfu (Nat.not_lt_zero _)
      | succ fuel22 ih22 =>
        intro b se x hfu hi1 hx1 hse H locs hw hS ls hl
        have hNx : WF (up N 1 j x) := WF.up1 hN (by omega)
        refine lv_iload hx hb dX11_glooms_22 (lv_at hl 4 rfl) ?_
        refine lv_bipush (v := nI 9) hx hb dX11_glooms_24 (by decide) ?_
        refine i_icmp_gt (tgt := 61) hx hb (nT (by omega)) (nT (by decide)) dX11_glooms_26 (by decide) (fun c_4 => ?_) (fun c_4 => ?_)
        · refine lv_aload_n hx hb dX11_glooms_61 rfl (lv_at hl 0 rfl) ?_
          refine va_get (D := D) (ci := 11) (v := .ref (a 8)) (C := RX11) (T := TX11) (N := 35) hx hb hts inX11 hown hK hw.2.1 0 rfl rfl 8 (by decide) (hts _ wd_673) (fun _ h9 => h9) rfl dX11_glooms_62 ?_
          refine lv_iload_n hx hb dX11_glooms_65 rfl (lv_at hl 1 rfl) ?_
          refine lv_iload_n hx hb dX11_glooms_66 rfl (lv_at hl 2 rfl) ?_
          refine n_iast hx hb hK hw.2.1 hw.2.2 hS 4 0 (φ := nI) (u := (up N 1 j x) 1) (v := N 1 j) rfl rfl (k := j) (by omega) (by decide) dX11_glooms_67 (fun H locs hP hD hS => ?_)
          have hw : wdH D z (mw ka h a (up (up N 1 j x) 1 j (N 1 j)) C f g ++ R) H := ⟨Nat.le_trans hz0 hS.1, hP, hD⟩
          refine lv_iload_n hx hb dX11_glooms_68 rfl (lv_at hl 3 rfl) ?_
          rw [up_back] at hw
          refine hret _ _ _ _ _ _ _ _ dX11_glooms_69 hS hw (Nat.zero_le _) (Nat.zero_le _) ?_
          refine ⟨f, g, N, C, rfl, ?_⟩
          rw [hse, show b = 10 by omega]
          unfold sp_glooms
          rw [if_pos (by omega)]; rfl
        · refine lv_aload_n hx hb dX11_glooms_29 rfl (lv_at hl 0 rfl) ?_
          refine va_get (D := D) (ci := 11) (v := .ref (a 8)) (C := RX11) (T := TX11) (N := 35) hx hb hts inX11 hown hK hw.2.1 0 rfl rfl 8 (by decide) (hts _ wd_673) (fun _ h9 => h9) rfl dX11_glooms_30 ?_
          refine lv_iload_n hx hb dX11_glooms_33 rfl (lv_at hl 1 rfl) ?_
          refine lv_iload hx hb dX11_glooms_34 (lv_at hl 4 rfl) ?_
          refine n_iast hx hb hK hw.2.1 hw.2.2 hS 4 0 (φ := nI) (u := (up N 1 j x) 1) (v := b) rfl rfl (k := j) (by omega) (by decide) dX11_glooms_36 (fun H locs hP hD hS => ?_)
          have hw : wdH D z (mw ka h a (up (up N 1 j x) 1 j b) C f g ++ R) H := ⟨Nat.le_trans hz0 hS.1, hP, hD⟩
          rw [up_up] at hw
          refine lv_iload_n hx hb dX11_glooms_37 rfl (lv_at hl 3 rfl) ?_
          refine lv_aload_n hx hb dX11_glooms_38 rfl (lv_at hl 0 rfl) ?_
          refine vp_callSi (ro_runV (c_X11_areSo l D ka h a (up N 1 j b) C f g R (WF.up1 hN (show b ≤ 9 by omega))) X wd_934 wd_931 wd_933 ws_21 wd_8 on_X11_areSo ⟨Nat.le_of_ble_eq_true rfl, Nat.le_of_ble_eq_true rfl⟩ (va_recv hK hw.2.1 (ci := 11) (q0 := 0) rfl rfl) hw.2.1 hl.1 rfl (Nat.le_of_ble_eq_true rfl) ⟨(Nat.zero_le _), (Nat.zero_le _)⟩ dX11_glooms_39) (fun r_5 hr_5 => ?_)
          subst hr_5
          refine W.eq (g2 := F0 m 42 ls [.int (bI (soA (up N 1 j b) (N 0 3) = true)), .int (nI se)]) rfl ?_
          refine b_if_eq (tgt := 52) hx hb dX11_glooms_42 (by decide) (fun c_6 => ?_) (fun c_6 => ?_)
          · refine lv_iconst (v := nI 0) hx hb dX11_glooms_52 (by decide) ?_
            refine lv_ior hx hb dX11_glooms_53 ?_
            rw [n_or se 0]
            refine lv_istore_n (lv' := [(3, .int (nI (se ||| 0))), (0, .ref h), (1, .int (nI j)), (2, .int (nI (N 1 j))), (4, .int (nI b))]) hx hb dX11_glooms_54 rfl hl (by decide) rfl (fun ls hl => ?_)
            refine n_iinc (lv' := [(4, .int (nI (b + 1))), (3, .int (nI (se ||| 0))), (0, .ref h), (1, .int (nI j)), (2, .int (nI (N 1 j)))]) (k := 4) (d := 1) hx hb dX11_glooms_55 hl rfl rfl (by decide) rfl (fun ls hl => ?_)
            refine lv_goto (tgt := 22) hx hb dX11_glooms_58 (by decide) ?_
            exact ih22 (b + 1) (se ||| 0) b (by omega) (by omega) (by omega) (by rw [hse]; first | exact bset_t (by assumption) | (rw [Nat.or_zero]; exact bset_f (by assumption))) _ _ hw hS ls (lv_sub hl [2, 3, 4, 1, 0] rfl)
          · refine lv_iconst (v := nI 1) hx hb dX11_glooms_45 (by decide) ?_
            refine lv_iload hx hb dX11_glooms_46 (lv_at hl 4 rfl) ?_
            refine lv_ishl hx hb dX11_glooms_48 ?_
            rw [n_shl (a := 1) (k := b) (by omega) (Nat.lt_of_le_of_lt (by rw [Nat.one_mul]; exact Nat.pow_le_pow_right (by decide) (show b ≤ 31 by omega)) (by decide))]
            refine lv_goto (tgt := 53) hx hb dX11_glooms_49 (by decide) ?_
            refine lv_ior hx hb dX11_glooms_53 ?_
            rw [n_or se (1 * 2 ^ b)]
            refine lv_istore_n (lv' := [(3, .int (nI (se ||| (1 * 2 ^ b)))), (0, .ref h), (1, .int (nI j)), (2, .int (nI (N 1 j))), (4, .int (nI b))]) hx hb dX11_glooms_54 rfl hl (by decide) rfl (fun ls hl => ?_)
            refine n_iinc (lv' := [(4, .int (nI (b + 1))), (3, .int (nI (se ||| (1 * 2 ^ b)))), (0, .ref h), (1, .int (nI j)), (2, .int (nI (N 1 j)))]) (k := 4) (d := 1) hx hb dX11_glooms_55 hl rfl rfl (by decide) rfl (fun ls hl => ?_)
            refine lv_goto (tgt := 22) hx hb dX11_glooms_58 (by decide) ?_
            exact ih22 (b + 1) (se ||| (1 * 2 ^ b)) b (by omega) (by omega) (by omega) (by rw [hse]; first | exact bset_t (by assumption) | (rw [Nat.or_zero]; exact bset_f (by assumption))) _ _ hw hS ls (lv_sub hl [2, 3, 4, 1, 0] rfl)
    exact loop22 _ 0 0 (N 1 j) (Nat.lt_succ_self _) (by omega) (by omega) rfl _ _ hw hS ls (lv_sub hl [3, 4, 2, 1, 0] rfl)
  · refine lv_iconst (v := (-1)) hx hb dX11_glooms_8 (by decide) ?_
    refine hret _ _ _ _ _ _ _ _ dX11_glooms_9 hS hw (Nat.zero_le _) (Nat.zero_le _) ?_
    refine ⟨f, g, N, C, rfl, ?_⟩
    unfold sp_glooms
    (repeat' split) <;> first | rfl | omega
end
