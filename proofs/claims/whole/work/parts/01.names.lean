-- ===== PART A: goes FIRST, ahead of the names: the tables' words, and 'selects' of the private methods out of them =====
/-- a private method of a class that the tables say can be made, by its rows of tables_1 -/
def lw_okq (q : MethodName × Nat) : Prop := (q.1.cls ≠ "java/lang/invoke/MethodHandle" ∧ q.1.cls ≠ "java/lang/invoke/VarHandle") ∧ Cond.instantiable q.1.cls q.2 ∈ tables_1 ∧ Cond.privateMethod q.1 ∈ tables_1 ∧ Cond.instanceMethod q.1 ∈ tables_1
theorem lw_p0 : lw_okq (⟨"FourVault", "faulted", "(I)I"⟩, 8) := ⟨⟨by decide +kernel, by decide +kernel⟩, List.mem_of_getElem? (i := 16) (by decide +kernel), List.mem_of_getElem? (i := 199) (by decide +kernel), List.mem_of_getElem? (i := 200) (by decide +kernel)⟩
theorem lw_p1 : lw_okq (⟨"FourVault", "lost", "(I)J"⟩, 8) := ⟨⟨by decide +kernel, by decide +kernel⟩, List.mem_of_getElem? (i := 16) (by decide +kernel), List.mem_of_getElem? (i := 596) (by decide +kernel), List.mem_of_getElem? (i := 597) (by decide +kernel)⟩
theorem lw_p2 : lw_okq (⟨"FourVaultModel", "against", "(IIII)I"⟩, 35) := ⟨⟨by decide +kernel, by decide +kernel⟩, List.mem_of_getElem? (i := 669) (by decide +kernel), List.mem_of_getElem? (i := 794) (by decide +kernel), List.mem_of_getElem? (i := 795) (by decide +kernel)⟩
theorem lw_p3 : lw_okq (⟨"FourVaultModel", "fails", "(I)I"⟩, 35) := ⟨⟨by decide +kernel, by decide +kernel⟩, List.mem_of_getElem? (i := 669) (by decide +kernel), List.mem_of_getElem? (i := 798) (by decide +kernel), List.mem_of_getElem? (i := 799) (by decide +kernel)⟩
theorem lw_p4 : lw_okq (⟨"FourVaultModel", "readVault", "(I)Z"⟩, 35) := ⟨⟨by decide +kernel, by decide +kernel⟩, List.mem_of_getElem? (i := 669) (by decide +kernel), List.mem_of_getElem? (i := 802) (by decide +kernel), List.mem_of_getElem? (i := 803) (by decide +kernel)⟩
theorem lw_p5 : lw_okq (⟨"FourVaultModel", "isSign", "(II)Z"⟩, 35) := ⟨⟨by decide +kernel, by decide +kernel⟩, List.mem_of_getElem? (i := 669) (by decide +kernel), List.mem_of_getElem? (i := 806) (by decide +kernel), List.mem_of_getElem? (i := 807) (by decide +kernel)⟩
theorem lw_p6 : lw_okq (⟨"FourVaultModel", "readTheGloom", "(I)Z"⟩, 35) := ⟨⟨by decide +kernel, by decide +kernel⟩, List.mem_of_getElem? (i := 669) (by decide +kernel), List.mem_of_getElem? (i := 810) (by decide +kernel), List.mem_of_getElem? (i := 811) (by decide +kernel)⟩
theorem lw_p7 : lw_okq (⟨"FourVaultModel", "digit", "(II)I"⟩, 35) := ⟨⟨by decide +kernel, by decide +kernel⟩, List.mem_of_getElem? (i := 669) (by decide +kernel), List.mem_of_getElem? (i := 814) (by decide +kernel), List.mem_of_getElem? (i := 815) (by decide +kernel)⟩
theorem lw_p8 : lw_okq (⟨"FourVaultModel", "readTaker", "(I)Z"⟩, 35) := ⟨⟨by decide +kernel, by decide +kernel⟩, List.mem_of_getElem? (i := 669) (by decide +kernel), List.mem_of_getElem? (i := 818) (by decide +kernel), List.mem_of_getElem? (i := 819) (by decide +kernel)⟩
theorem lw_p9 : lw_okq (⟨"FourVaultModel", "readTheGoods", "(I)Z"⟩, 35) := ⟨⟨by decide +kernel, by decide +kernel⟩, List.mem_of_getElem? (i := 669) (by decide +kernel), List.mem_of_getElem? (i := 822) (by decide +kernel), List.mem_of_getElem? (i := 823) (by decide +kernel)⟩
theorem lw_p10 : lw_okq (⟨"FourVaultModel", "takeVault", "()V"⟩, 35) := ⟨⟨by decide +kernel, by decide +kernel⟩, List.mem_of_getElem? (i := 669) (by decide +kernel), List.mem_of_getElem? (i := 826) (by decide +kernel), List.mem_of_getElem? (i := 827) (by decide +kernel)⟩
theorem lw_p11 : lw_okq (⟨"FourVaultModel", "isTaker", "(I)Z"⟩, 35) := ⟨⟨by decide +kernel, by decide +kernel⟩, List.mem_of_getElem? (i := 669) (by decide +kernel), List.mem_of_getElem? (i := 834) (by decide +kernel), List.mem_of_getElem? (i := 835) (by decide +kernel)⟩
theorem lw_p12 : lw_okq (⟨"FourVaultModel", "isPlace", "(I)Z"⟩, 35) := ⟨⟨by decide +kernel, by decide +kernel⟩, List.mem_of_getElem? (i := 669) (by decide +kernel), List.mem_of_getElem? (i := 846) (by decide +kernel), List.mem_of_getElem? (i := 847) (by decide +kernel)⟩
theorem lw_p13 : lw_okq (⟨"FourVaultModel", "drainOf", "(II)I"⟩, 35) := ⟨⟨by decide +kernel, by decide +kernel⟩, List.mem_of_getElem? (i := 669) (by decide +kernel), List.mem_of_getElem? (i := 866) (by decide +kernel), List.mem_of_getElem? (i := 867) (by decide +kernel)⟩
theorem lw_p14 : lw_okq (⟨"FourVaultModel", "holdsBy", "(III)I"⟩, 35) := ⟨⟨by decide +kernel, by decide +kernel⟩, List.mem_of_getElem? (i := 669) (by decide +kernel), List.mem_of_getElem? (i := 877) (by decide +kernel), List.mem_of_getElem? (i := 878) (by decide +kernel)⟩
theorem lw_p15 : lw_okq (⟨"FourVaultModel", "bothHold", "(III)I"⟩, 35) := ⟨⟨by decide +kernel, by decide +kernel⟩, List.mem_of_getElem? (i := 669) (by decide +kernel), List.mem_of_getElem? (i := 889) (by decide +kernel), List.mem_of_getElem? (i := 890) (by decide +kernel)⟩
def lw_privs_1 : List (MethodName × Nat) := [(⟨"FourVault", "faulted", "(I)I"⟩, 8), (⟨"FourVault", "lost", "(I)J"⟩, 8), (⟨"FourVaultModel", "against", "(IIII)I"⟩, 35), (⟨"FourVaultModel", "fails", "(I)I"⟩, 35), (⟨"FourVaultModel", "readVault", "(I)Z"⟩, 35), (⟨"FourVaultModel", "isSign", "(II)Z"⟩, 35), (⟨"FourVaultModel", "readTheGloom", "(I)Z"⟩, 35), (⟨"FourVaultModel", "digit", "(II)I"⟩, 35), (⟨"FourVaultModel", "readTaker", "(I)Z"⟩, 35), (⟨"FourVaultModel", "readTheGoods", "(I)Z"⟩, 35), (⟨"FourVaultModel", "takeVault", "()V"⟩, 35), (⟨"FourVaultModel", "isTaker", "(I)Z"⟩, 35), (⟨"FourVaultModel", "isPlace", "(I)Z"⟩, 35), (⟨"FourVaultModel", "drainOf", "(II)I"⟩, 35), (⟨"FourVaultModel", "holdsBy", "(III)I"⟩, 35), (⟨"FourVaultModel", "bothHold", "(III)I"⟩, 35)]
theorem lw_r1 : ∀ q ∈ lw_privs_1, lw_okq q := List.forall_mem_cons.mpr ⟨lw_p0, List.forall_mem_cons.mpr ⟨lw_p1, List.forall_mem_cons.mpr ⟨lw_p2, List.forall_mem_cons.mpr ⟨lw_p3, List.forall_mem_cons.mpr ⟨lw_p4, List.forall_mem_cons.mpr ⟨lw_p5, List.forall_mem_cons.mpr ⟨lw_p6, List.forall_mem_cons.mpr ⟨lw_p7, List.forall_mem_cons.mpr ⟨lw_p8, List.forall_mem_cons.mpr ⟨lw_p9, List.forall_mem_cons.mpr ⟨lw_p10, List.forall_mem_cons.mpr ⟨lw_p11, List.forall_mem_cons.mpr ⟨lw_p12, List.forall_mem_cons.mpr ⟨lw_p13, List.forall_mem_cons.mpr ⟨lw_p14, List.forall_mem_cons.mpr ⟨lw_p15, fun _ h => absurd h List.not_mem_nil⟩⟩⟩⟩⟩⟩⟩⟩⟩⟩⟩⟩⟩⟩⟩⟩
theorem lw_p16 : lw_okq (⟨"FourVaultModel", "goNight", "(II)I"⟩, 35) := ⟨⟨by decide +kernel, by decide +kernel⟩, List.mem_of_getElem? (i := 669) (by decide +kernel), List.mem_of_getElem? (i := 901) (by decide +kernel), List.mem_of_getElem? (i := 902) (by decide +kernel)⟩
theorem lw_p17 : lw_okq (⟨"FourVaultModel", "tellNight", "(I)I"⟩, 35) := ⟨⟨by decide +kernel, by decide +kernel⟩, List.mem_of_getElem? (i := 669) (by decide +kernel), List.mem_of_getElem? (i := 905) (by decide +kernel), List.mem_of_getElem? (i := 906) (by decide +kernel)⟩
theorem lw_p18 : lw_okq (⟨"FourVaultModel", "getsOf", "(II)I"⟩, 35) := ⟨⟨by decide +kernel, by decide +kernel⟩, List.mem_of_getElem? (i := 669) (by decide +kernel), List.mem_of_getElem? (i := 913) (by decide +kernel), List.mem_of_getElem? (i := 914) (by decide +kernel)⟩
theorem lw_p19 : lw_okq (⟨"FourVaultModel", "findSend", "(I)I"⟩, 35) := ⟨⟨by decide +kernel, by decide +kernel⟩, List.mem_of_getElem? (i := 669) (by decide +kernel), List.mem_of_getElem? (i := 921) (by decide +kernel), List.mem_of_getElem? (i := 922) (by decide +kernel)⟩
theorem lw_p20 : lw_okq (⟨"FourVaultModel", "worthOfRow", "()I"⟩, 35) := ⟨⟨by decide +kernel, by decide +kernel⟩, List.mem_of_getElem? (i := 669) (by decide +kernel), List.mem_of_getElem? (i := 925) (by decide +kernel), List.mem_of_getElem? (i := 926) (by decide +kernel)⟩
theorem lw_p21 : lw_okq (⟨"FourVaultModel", "areSo", "()Z"⟩, 35) := ⟨⟨by decide +kernel, by decide +kernel⟩, List.mem_of_getElem? (i := 669) (by decide +kernel), List.mem_of_getElem? (i := 941) (by decide +kernel), List.mem_of_getElem? (i := 942) (by decide +kernel)⟩
theorem lw_p22 : lw_okq (⟨"FourVaultModel", "lost", "(I)J"⟩, 35) := ⟨⟨by decide +kernel, by decide +kernel⟩, List.mem_of_getElem? (i := 669) (by decide +kernel), List.mem_of_getElem? (i := 977) (by decide +kernel), List.mem_of_getElem? (i := 978) (by decide +kernel)⟩
theorem lw_p23 : lw_okq (⟨"FourVaultModel", "begins", "(I)V"⟩, 35) := ⟨⟨by decide +kernel, by decide +kernel⟩, List.mem_of_getElem? (i := 669) (by decide +kernel), List.mem_of_getElem? (i := 989) (by decide +kernel), List.mem_of_getElem? (i := 990) (by decide +kernel)⟩
def lw_privs_2 : List (MethodName × Nat) := [(⟨"FourVaultModel", "goNight", "(II)I"⟩, 35), (⟨"FourVaultModel", "tellNight", "(I)I"⟩, 35), (⟨"FourVaultModel", "getsOf", "(II)I"⟩, 35), (⟨"FourVaultModel", "findSend", "(I)I"⟩, 35), (⟨"FourVaultModel", "worthOfRow", "()I"⟩, 35), (⟨"FourVaultModel", "areSo", "()Z"⟩, 35), (⟨"FourVaultModel", "lost", "(I)J"⟩, 35), (⟨"FourVaultModel", "begins", "(I)V"⟩, 35)]
theorem lw_r2 : ∀ q ∈ lw_privs_2, lw_okq q := List.forall_mem_cons.mpr ⟨lw_p16, List.forall_mem_cons.mpr ⟨lw_p17, List.forall_mem_cons.mpr ⟨lw_p18, List.forall_mem_cons.mpr ⟨lw_p19, List.forall_mem_cons.mpr ⟨lw_p20, List.forall_mem_cons.mpr ⟨lw_p21, List.forall_mem_cons.mpr ⟨lw_p22, List.forall_mem_cons.mpr ⟨lw_p23, fun _ h => absurd h List.not_mem_nil⟩⟩⟩⟩⟩⟩⟩⟩
def lw_privs : List (MethodName × Nat) := lw_privs_1 ++ (lw_privs_2)
def lw_tbl : List Cond := k2_sels lw_privs ++ tables_1
theorem lw_privs_ok : ∀ q ∈ lw_privs, lw_okq q := by
  show ∀ q ∈ lw_privs_1 ++ (lw_privs_2), lw_okq q
  exact List.forall_mem_append.mpr ⟨lw_r1, lw_r2⟩
abbrev RX0 : String := "FourVault$Night"
def TX0 : u_T := fun k => match k with
  | 0 => ("FourVault$Night", "takers", "[I", true)
  | 1 => ("FourVault$Night", "begins", "[I", true)
  | 2 => ("FourVault$Night", "ends", "[I", true)
  | _ => ("FourVault$Night", "count", "I", false)
def tyX0 : Nat → FieldType := fun k => match k with
  | 0 => .array .int
  | 1 => .array .int
  | 2 => .array .int
  | _ => .int
theorem nmX0 : ∀ a, a < 4 → ∀ b, b < 4 → a ≠ b → (TX0 a).2.1 ≠ (TX0 b).2.1 := by decide +kernel
theorem tyX0_ok : ∀ k, k < 4 → parseFieldDescriptor (TX0 k).2.2.1 = some (tyX0 k) := by decide +kernel
abbrev cX0_init : ByteArray := prog_2_method_1_code
abbrev yX0_init : MethodName := ⟨RX0, "<init>", "()V"⟩
abbrev cX0_tells : ByteArray := prog_2_method_2_code
abbrev yX0_tells : MethodName := ⟨RX0, "tells", "(I)Z"⟩
abbrev cX0_readPairs : ByteArray := prog_2_method_3_code
abbrev yX0_readPairs : MethodName := ⟨RX0, "readPairs", "(LFourVault$Vault;LFourVault$Row;II)I"⟩
abbrev cX0_answer : ByteArray := prog_2_method_4_code
abbrev yX0_answer : MethodName := ⟨RX0, "answer", "(LFourVault$Vault;I)I"⟩
abbrev cX0_firstWrong : ByteArray := prog_2_method_5_code
abbrev yX0_firstWrong : MethodName := ⟨RX0, "firstWrong", "()I"⟩
abbrev cX0_isStillIn : ByteArray := prog_2_method_6_code
abbrev yX0_isStillIn : MethodName := ⟨RX0, "isStillIn", "(I)Z"⟩
abbrev cX0_minutesOfAll : ByteArray := prog_2_method_7_code
abbrev yX0_minutesOfAll : MethodName := ⟨RX0, "minutesOfAll", "()I"⟩
abbrev cX0_minutesOf : ByteArray := prog_2_method_8_code
abbrev yX0_minutesOf : MethodName := ⟨RX0, "minutesOf", "(I)I"⟩
abbrev cX0_latestEnd : ByteArray := prog_2_method_9_code
abbrev yX0_latestEnd : MethodName := ⟨RX0, "latestEnd", "()I"⟩
abbrev cX0_mostAtOnce : ByteArray := prog_2_method_10_code
abbrev yX0_mostAtOnce : MethodName := ⟨RX0, "mostAtOnce", "()I"⟩
abbrev cX0_inAt : ByteArray := prog_2_method_11_code
abbrev yX0_inAt : MethodName := ⟨RX0, "inAt", "(I)I"⟩
abbrev RX1 : String := "FourVault$Reader"
def TX1 : u_T := fun k => match k with
  | 0 => ("FourVault$Reader", "draft", "LFourVault$Vault;", false)
  | 1 => ("FourVault$Reader", "kindsRead", "[I", true)
  | 2 => ("FourVault$Reader", "nervesRead", "[I", true)
  | 3 => ("FourVault$Reader", "mindsRead", "[I", true)
  | 4 => ("FourVault$Reader", "due", "I", false)
  | 5 => ("FourVault$Reader", "kind", "I", false)
  | _ => ("FourVault$Reader", "nerve", "I", false)
def tyX1 : Nat → FieldType := fun k => match k with
  | 0 => .object "FourVault$Vault"
  | 1 => .array .int
  | 2 => .array .int
  | 3 => .array .int
  | 4 => .int
  | 5 => .int
  | _ => .int
theorem nmX1 : ∀ a, a < 7 → ∀ b, b < 7 → a ≠ b → (TX1 a).2.1 ≠ (TX1 b).2.1 := by decide +kernel
theorem tyX1_ok : ∀ k, k < 7 → parseFieldDescriptor (TX1 k).2.2.1 = some (tyX1 k) := by decide +kernel
abbrev cX1_init : ByteArray := prog_3_method_1_code
abbrev yX1_init : MethodName := ⟨RX1, "<init>", "()V"⟩
abbrev cX1_readAll : ByteArray := prog_3_method_2_code
abbrev yX1_readAll : MethodName := ⟨RX1, "readAll", "(LFourVault$Row;II)I"⟩
abbrev cX1_handOver : ByteArray := prog_3_method_3_code
abbrev yX1_handOver : MethodName := ⟨RX1, "handOver", "(LFourVault$Vault;)LFourVault$Vault;"⟩
abbrev cX1_takes : ByteArray := prog_3_method_4_code
abbrev yX1_takes : MethodName := ⟨RX1, "takes", "(I)Z"⟩
abbrev cX1_goesOn : ByteArray := prog_3_method_5_code
abbrev yX1_goesOn : MethodName := ⟨RX1, "goesOn", "(ZI)Z"⟩
abbrev cX1_takesGloom : ByteArray := prog_3_method_6_code
abbrev yX1_takesGloom : MethodName := ⟨RX1, "takesGloom", "(I)Z"⟩
abbrev cX1_takesKind : ByteArray := prog_3_method_7_code
abbrev yX1_takesKind : MethodName := ⟨RX1, "takesKind", "(I)Z"⟩
abbrev cX1_takesTens : ByteArray := prog_3_method_8_code
abbrev yX1_takesTens : MethodName := ⟨RX1, "takesTens", "(I)Z"⟩
abbrev cX1_takesOnes : ByteArray := prog_3_method_9_code
abbrev yX1_takesOnes : MethodName := ⟨RX1, "takesOnes", "(I)Z"⟩
abbrev cX1_takesMind : ByteArray := prog_3_method_10_code
abbrev yX1_takesMind : MethodName := ⟨RX1, "takesMind", "(I)Z"⟩
abbrev cX1_takesBehindTaker : ByteArray := prog_3_method_11_code
abbrev yX1_takesBehindTaker : MethodName := ⟨RX1, "takesBehindTaker", "(I)Z"⟩
abbrev cX1_takesGood : ByteArray := prog_3_method_12_code
abbrev yX1_takesGood : MethodName := ⟨RX1, "takesGood", "(I)Z"⟩
abbrev cX1_isDigit : ByteArray := prog_3_method_13_code
abbrev yX1_isDigit : MethodName := ⟨RX1, "isDigit", "(I)Z"⟩
abbrev RX2 : String := "FourVault$Readings"
def TX2 : u_T := fun k => match k with
  | 0 => ("FourVault$Readings", "takers", "[I", true)
  | 1 => ("FourVault$Readings", "begins", "[I", true)
  | 2 => ("FourVault$Readings", "helds", "[I", true)
  | _ => ("FourVault$Readings", "count", "I", false)
def tyX2 : Nat → FieldType := fun k => match k with
  | 0 => .array .int
  | 1 => .array .int
  | 2 => .array .int
  | _ => .int
theorem nmX2 : ∀ a, a < 4 → ∀ b, b < 4 → a ≠ b → (TX2 a).2.1 ≠ (TX2 b).2.1 := by decide +kernel
theorem tyX2_ok : ∀ k, k < 4 → parseFieldDescriptor (TX2 k).2.2.1 = some (tyX2 k) := by decide +kernel
abbrev cX2_init : ByteArray := prog_4_method_1_code
abbrev yX2_init : MethodName := ⟨RX2, "<init>", "()V"⟩
abbrev cX2_add : ByteArray := prog_4_method_2_code
abbrev yX2_add : MethodName := ⟨RX2, "add", "(III)I"⟩
abbrev cX2_allAreSo : ByteArray := prog_4_method_3_code
abbrev yX2_allAreSo : MethodName := ⟨RX2, "allAreSo", "(LFourVault$Vault;)Z"⟩
abbrev RX3 : String := "FourVault$Row"
def TX3 : u_T := fun k => match k with
  | 0 => ("FourVault$Row", "lane", "I", true)
  | _ => ("FourVault$Row", "cells", "[I", true)
def tyX3 : Nat → FieldType := fun k => match k with
  | 0 => .int
  | _ => .array .int
theorem nmX3 : ∀ a, a < 2 → ∀ b, b < 2 → a ≠ b → (TX3 a).2.1 ≠ (TX3 b).2.1 := by decide +kernel
theorem tyX3_ok : ∀ k, k < 2 → parseFieldDescriptor (TX3 k).2.2.1 = some (tyX3 k) := by decide +kernel
abbrev cX3_init : ByteArray := prog_5_method_1_code
abbrev yX3_init : MethodName := ⟨RX3, "<init>", "(II)V"⟩
abbrev cX3_hasCells : ByteArray := prog_5_method_2_code
abbrev yX3_hasCells : MethodName := ⟨RX3, "hasCells", "(II)Z"⟩
abbrev cX3_cut : ByteArray := prog_5_method_3_code
abbrev yX3_cut : MethodName := ⟨RX3, "cut", "(I)I"⟩
abbrev RX4 : String := "FourVault$Sending"
def TX4 : u_T := fun k => match k with
  | 0 => ("FourVault$Sending", "mostFrom", "[[I", true)
  | _ => ("FourVault$Sending", "got", "[I", true)
def tyX4 : Nat → FieldType := fun k => match k with
  | 0 => .array (.array .int)
  | _ => .array .int
theorem nmX4 : ∀ a, a < 2 → ∀ b, b < 2 → a ≠ b → (TX4 a).2.1 ≠ (TX4 b).2.1 := by decide +kernel
theorem tyX4_ok : ∀ k, k < 2 → parseFieldDescriptor (TX4 k).2.2.1 = some (tyX4 k) := by decide +kernel
abbrev cX4_init : ByteArray := prog_6_method_1_code
abbrev yX4_init : MethodName := ⟨RX4, "<init>", "()V"⟩
abbrev cX4_weigh : ByteArray := prog_6_method_2_code
abbrev yX4_weigh : MethodName := ⟨RX4, "weigh", "(LFourVault$Vault;I)V"⟩
abbrev cX4_mostWith : ByteArray := prog_6_method_3_code
abbrev yX4_mostWith : MethodName := ⟨RX4, "mostWith", "(LFourVault$Vault;II)I"⟩
abbrev cX4_isFree : ByteArray := prog_6_method_4_code
abbrev yX4_isFree : MethodName := ⟨RX4, "isFree", "(III)Z"⟩
abbrev cX4_withGood : ByteArray := prog_6_method_5_code
abbrev yX4_withGood : MethodName := ⟨RX4, "withGood", "(LFourVault$Vault;III)I"⟩
abbrev cX4_most : ByteArray := prog_6_method_6_code
abbrev yX4_most : MethodName := ⟨RX4, "most", "()I"⟩
abbrev cX4_goodOf : ByteArray := prog_6_method_7_code
abbrev yX4_goodOf : MethodName := ⟨RX4, "goodOf", "(LFourVault$Vault;I)I"⟩
abbrev cX4_firstGood : ByteArray := prog_6_method_8_code
abbrev yX4_firstGood : MethodName := ⟨RX4, "firstGood", "(LFourVault$Vault;II)I"⟩
abbrev RX5 : String := "FourVault$Singer"
def TX5 : u_T := fun k => match k with
  | 0 => ("FourVault$Taker", "number", "I", true)
  | 1 => ("FourVault$Taker", "nerve", "I", false)
  | _ => ("FourVault$Taker", "mind", "I", false)
def tyX5 : Nat → FieldType := fun k => match k with
  | 0 => .int
  | 1 => .int
  | _ => .int
theorem nmX5 : ∀ a, a < 3 → ∀ b, b < 3 → a ≠ b → (TX5 a).2.1 ≠ (TX5 b).2.1 := by decide +kernel
theorem tyX5_ok : ∀ k, k < 3 → parseFieldDescriptor (TX5 k).2.2.1 = some (tyX5 k) := by decide +kernel
abbrev cX5_init : ByteArray := prog_7_method_1_code
abbrev yX5_init : MethodName := ⟨RX5, "<init>", "(III)V"⟩
abbrev cX5_kindNumber : ByteArray := prog_7_method_2_code
abbrev yX5_kindNumber : MethodName := ⟨RX5, "kindNumber", "()I"⟩
abbrev cX5_drainBy : ByteArray := prog_7_method_3_code
abbrev yX5_drainBy : MethodName := ⟨RX5, "drainBy", "(I)I"⟩
abbrev cX5_telling : ByteArray := prog_7_method_4_code
abbrev yX5_telling : MethodName := ⟨RX5, "telling", "(LFourVault$Trace;)I"⟩
abbrev RX6 : String := "FourVault$Taker"
def TX6 : u_T := fun k => match k with
  | 0 => ("FourVault$Taker", "number", "I", true)
  | 1 => ("FourVault$Taker", "nerve", "I", false)
  | _ => ("FourVault$Taker", "mind", "I", false)
def tyX6 : Nat → FieldType := fun k => match k with
  | 0 => .int
  | 1 => .int
  | _ => .int
theorem nmX6 : ∀ a, a < 3 → ∀ b, b < 3 → a ≠ b → (TX6 a).2.1 ≠ (TX6 b).2.1 := by decide +kernel
theorem tyX6_ok : ∀ k, k < 3 → parseFieldDescriptor (TX6 k).2.2.1 = some (tyX6 k) := by decide +kernel
abbrev cX6_init : ByteArray := prog_8_method_1_code
abbrev yX6_init : MethodName := ⟨RX6, "<init>", "(III)V"⟩
abbrev cX6_kindNumber : ByteArray := prog_8_method_2_code
abbrev yX6_kindNumber : MethodName := ⟨RX6, "kindNumber", "()I"⟩
abbrev cX6_drainBy : ByteArray := prog_8_method_3_code
abbrev yX6_drainBy : MethodName := ⟨RX6, "drainBy", "(I)I"⟩
abbrev cX6_telling : ByteArray := prog_8_method_4_code
abbrev yX6_telling : MethodName := ⟨RX6, "telling", "(LFourVault$Trace;)I"⟩
abbrev cX6_takersTelling : ByteArray := prog_8_method_5_code
abbrev yX6_takersTelling : MethodName := ⟨RX6, "takersTelling", "(LFourVault$Trace;)I"⟩
abbrev cX6_rung : ByteArray := prog_8_method_6_code
abbrev yX6_rung : MethodName := ⟨RX6, "rung", "(LFourVault$Trace;)I"⟩
abbrev RX7 : String := "FourVault$Trace"
def TX7 : u_T := fun k => match k with
  | _ => ("FourVault$Trace", "left", "I", false)
def tyX7 : Nat → FieldType := fun k => match k with
  | _ => .int
theorem nmX7 : ∀ a, a < 1 → ∀ b, b < 1 → a ≠ b → (TX7 a).2.1 ≠ (TX7 b).2.1 := by decide +kernel
theorem tyX7_ok : ∀ k, k < 1 → parseFieldDescriptor (TX7 k).2.2.1 = some (tyX7 k) := by decide +kernel
abbrev cX7_init : ByteArray := prog_9_method_1_code
abbrev yX7_init : MethodName := ⟨RX7, "<init>", "()V"⟩
abbrev cX7_leave : ByteArray := prog_9_method_2_code
abbrev yX7_leave : MethodName := ⟨RX7, "leave", "(I)V"⟩
abbrev RX8 : String := "FourVault$Vault"
def TX8 : u_T := fun k => match k with
  | 0 => ("FourVault$Vault", "weights", "[I", true)
  | 1 => ("FourVault$Vault", "takers", "[LFourVault$Taker;", true)
  | 2 => ("FourVault$Vault", "depths", "[I", true)
  | 3 => ("FourVault$Vault", "places", "I", false)
  | 4 => ("FourVault$Vault", "takerCount", "I", false)
  | _ => ("FourVault$Vault", "goods", "I", false)
def tyX8 : Nat → FieldType := fun k => match k with
  | 0 => .array .int
  | 1 => .array (.object "FourVault$Taker")
  | 2 => .array .int
  | 3 => .int
  | 4 => .int
  | _ => .int
theorem nmX8 : ∀ a, a < 6 → ∀ b, b < 6 → a ≠ b → (TX8 a).2.1 ≠ (TX8 b).2.1 := by decide +kernel
theorem tyX8_ok : ∀ k, k < 6 → parseFieldDescriptor (TX8 k).2.2.1 = some (tyX8 k) := by decide +kernel
abbrev cX8_init : ByteArray := prog_10_method_1_code
abbrev yX8_init : MethodName := ⟨RX8, "<init>", "()V"⟩
abbrev cX8_clear : ByteArray := prog_10_method_2_code
abbrev yX8_clear : MethodName := ⟨RX8, "clear", "()V"⟩
abbrev cX8_stands : ByteArray := prog_10_method_3_code
abbrev yX8_stands : MethodName := ⟨RX8, "stands", "()Z"⟩
abbrev cX8_isPlace : ByteArray := prog_10_method_4_code
abbrev yX8_isPlace : MethodName := ⟨RX8, "isPlace", "(I)Z"⟩
abbrev cX8_isGood : ByteArray := prog_10_method_5_code
abbrev yX8_isGood : MethodName := ⟨RX8, "isGood", "(I)Z"⟩
abbrev cX8_takerAt : ByteArray := prog_10_method_6_code
abbrev yX8_takerAt : MethodName := ⟨RX8, "takerAt", "(I)LFourVault$Taker;"⟩
abbrev cX8_weightIn : ByteArray := prog_10_method_7_code
abbrev yX8_weightIn : MethodName := ⟨RX8, "weightIn", "(I)I"⟩
abbrev cX8_heldAlone : ByteArray := prog_10_method_8_code
abbrev yX8_heldAlone : MethodName := ⟨RX8, "heldAlone", "(LFourVault$Taker;I)I"⟩
abbrev cX8_heldInPair : ByteArray := prog_10_method_9_code
abbrev yX8_heldInPair : MethodName := ⟨RX8, "heldInPair", "(LFourVault$Taker;I)I"⟩
abbrev cX8_heldByTwo : ByteArray := prog_10_method_10_code
abbrev yX8_heldByTwo : MethodName := ⟨RX8, "heldByTwo", "(LFourVault$Taker;LFourVault$Taker;I)I"⟩
abbrev cX8_bestPlace : ByteArray := prog_10_method_11_code
abbrev yX8_bestPlace : MethodName := ⟨RX8, "bestPlace", "(LFourVault$Taker;)I"⟩
abbrev cX8_bestFriend : ByteArray := prog_10_method_12_code
abbrev yX8_bestFriend : MethodName := ⟨RX8, "bestFriend", "(LFourVault$Taker;I)I"⟩
abbrev cX8_goodsGot : ByteArray := prog_10_method_13_code
abbrev yX8_goodsGot : MethodName := ⟨RX8, "goodsGot", "(LFourVault$Taker;I)I"⟩
abbrev cX8_setsHeld : ByteArray := prog_10_method_14_code
abbrev yX8_setsHeld : MethodName := ⟨RX8, "setsHeld", "(LFourVault$Taker;I)I"⟩
abbrev cX8_drainIfOnly : ByteArray := prog_10_method_15_code
abbrev yX8_drainIfOnly : MethodName := ⟨RX8, "drainIfOnly", "(ILFourVault$Taker;I)I"⟩
abbrev RX9 : String := "FourVault$Widow"
def TX9 : u_T := fun k => match k with
  | 0 => ("FourVault$Taker", "number", "I", true)
  | 1 => ("FourVault$Taker", "nerve", "I", false)
  | _ => ("FourVault$Taker", "mind", "I", false)
def tyX9 : Nat → FieldType := fun k => match k with
  | 0 => .int
  | 1 => .int
  | _ => .int
theorem nmX9 : ∀ a, a < 3 → ∀ b, b < 3 → a ≠ b → (TX9 a).2.1 ≠ (TX9 b).2.1 := by decide +kernel
theorem tyX9_ok : ∀ k, k < 3 → parseFieldDescriptor (TX9 k).2.2.1 = some (tyX9 k) := by decide +kernel
abbrev cX9_init : ByteArray := prog_11_method_1_code
abbrev yX9_init : MethodName := ⟨RX9, "<init>", "(III)V"⟩
abbrev cX9_kindNumber : ByteArray := prog_11_method_2_code
abbrev yX9_kindNumber : MethodName := ⟨RX9, "kindNumber", "()I"⟩
abbrev cX9_drainBy : ByteArray := prog_11_method_3_code
abbrev yX9_drainBy : MethodName := ⟨RX9, "drainBy", "(I)I"⟩
abbrev cX9_telling : ByteArray := prog_11_method_4_code
abbrev yX9_telling : MethodName := ⟨RX9, "telling", "(LFourVault$Trace;)I"⟩
abbrev cX9_rung : ByteArray := prog_11_method_5_code
abbrev yX9_rung : MethodName := ⟨RX9, "rung", "(LFourVault$Trace;)I"⟩
abbrev RX10 : String := "FourVault"
def TX10 : u_T := fun k => match k with
  | 0 => ("FourVault", "sheets", "[LFourVault$Row;", true)
  | 1 => ("FourVault", "reader", "LFourVault$Reader;", true)
  | 2 => ("FourVault", "readings", "LFourVault$Readings;", true)
  | 3 => ("FourVault", "told", "LFourVault$Night;", true)
  | 4 => ("FourVault", "sending", "LFourVault$Sending;", true)
  | 5 => ("FourVault", "trace", "LFourVault$Trace;", true)
  | 6 => ("FourVault", "kept", "LFourVault$Vault;", false)
  | _ => ("FourVault", "fault", "I", false)
def tyX10 : Nat → FieldType := fun k => match k with
  | 0 => .array (.object "FourVault$Row")
  | 1 => .object "FourVault$Reader"
  | 2 => .object "FourVault$Readings"
  | 3 => .object "FourVault$Night"
  | 4 => .object "FourVault$Sending"
  | 5 => .object "FourVault$Trace"
  | 6 => .object "FourVault$Vault"
  | _ => .int
theorem nmX10 : ∀ a, a < 8 → ∀ b, b < 8 → a ≠ b → (TX10 a).2.1 ≠ (TX10 b).2.1 := by decide +kernel
theorem tyX10_ok : ∀ k, k < 8 → parseFieldDescriptor (TX10 k).2.2.1 = some (tyX10 k) := by decide +kernel
abbrev cX10_init : ByteArray := prog_1_method_1_code
abbrev yX10_init : MethodName := ⟨RX10, "<init>", "()V"⟩
abbrev cX10_vault : ByteArray := prog_1_method_2_code
abbrev yX10_vault : MethodName := ⟨RX10, "vault", "(IIII)I"⟩
abbrev cX10_ofTaker : ByteArray := prog_1_method_3_code
abbrev yX10_ofTaker : MethodName := ⟨RX10, "ofTaker", "(II)I"⟩
abbrev cX10_depth : ByteArray := prog_1_method_4_code
abbrev yX10_depth : MethodName := ⟨RX10, "depth", "(I)I"⟩
abbrev cX10_gloom : ByteArray := prog_1_method_5_code
abbrev yX10_gloom : MethodName := ⟨RX10, "gloom", "(I)I"⟩
abbrev cX10_hush : ByteArray := prog_1_method_6_code
abbrev yX10_hush : MethodName := ⟨RX10, "hush", "(II)I"⟩
abbrev cX10_think : ByteArray := prog_1_method_7_code
abbrev yX10_think : MethodName := ⟨RX10, "think", "(II)I"⟩
abbrev cX10_brace : ByteArray := prog_1_method_8_code
abbrev yX10_brace : MethodName := ⟨RX10, "brace", "(II)I"⟩
abbrev cX10_drain : ByteArray := prog_1_method_9_code
abbrev yX10_drain : MethodName := ⟨RX10, "drain", "(II)I"⟩
abbrev cX10_holds : ByteArray := prog_1_method_10_code
abbrev yX10_holds : MethodName := ⟨RX10, "holds", "(II)I"⟩
abbrev cX10_best : ByteArray := prog_1_method_11_code
abbrev yX10_best : MethodName := ⟨RX10, "best", "(II)I"⟩
abbrev cX10_together : ByteArray := prog_1_method_12_code
abbrev yX10_together : MethodName := ⟨RX10, "together", "(III)I"⟩
abbrev cX10_friend : ByteArray := prog_1_method_13_code
abbrev yX10_friend : MethodName := ⟨RX10, "friend", "(II)I"⟩
abbrev cX10_night : ByteArray := prog_1_method_14_code
abbrev yX10_night : MethodName := ⟨RX10, "night", "(IIIII)I"⟩
abbrev cX10_gets : ByteArray := prog_1_method_15_code
abbrev yX10_gets : MethodName := ⟨RX10, "gets", "(II)I"⟩
abbrev cX10_send : ByteArray := prog_1_method_16_code
abbrev yX10_send : MethodName := ⟨RX10, "send", "(II)I"⟩
abbrev cX10_reading : ByteArray := prog_1_method_17_code
abbrev yX10_reading : MethodName := ⟨RX10, "reading", "(III)I"⟩
abbrev cX10_back : ByteArray := prog_1_method_18_code
abbrev yX10_back : MethodName := ⟨RX10, "back", "(I)I"⟩
abbrev cX10_minds : ByteArray := prog_1_method_19_code
abbrev yX10_minds : MethodName := ⟨RX10, "minds", "(I)I"⟩
abbrev cX10_kinds : ByteArray := prog_1_method_20_code
abbrev yX10_kinds : MethodName := ⟨RX10, "kinds", "(I)I"⟩
abbrev cX10_glooms : ByteArray := prog_1_method_21_code
abbrev yX10_glooms : MethodName := ⟨RX10, "glooms", "(I)I"⟩
abbrev cX10_odds : ByteArray := prog_1_method_22_code
abbrev yX10_odds : MethodName := ⟨RX10, "odds", "(III)J"⟩
abbrev cX10_sheet : ByteArray := prog_1_method_23_code
abbrev yX10_sheet : MethodName := ⟨RX10, "sheet", "(III)I"⟩
abbrev cX10_lose : ByteArray := prog_1_method_24_code
abbrev yX10_lose : MethodName := ⟨RX10, "lose", "(I)I"⟩
abbrev cX10_put : ByteArray := prog_1_method_25_code
abbrev yX10_put : MethodName := ⟨RX10, "put", "(III)I"⟩
abbrev cX10_cell : ByteArray := prog_1_method_26_code
abbrev yX10_cell : MethodName := ⟨RX10, "cell", "(III)J"⟩
abbrev cX10_copy : ByteArray := prog_1_method_27_code
abbrev yX10_copy : MethodName := ⟨RX10, "copy", "(IIIII)I"⟩
abbrev cX10_tell : ByteArray := prog_1_method_28_code
abbrev yX10_tell : MethodName := ⟨RX10, "tell", "(I)I"⟩
abbrev cX10_ring : ByteArray := prog_1_method_29_code
abbrev yX10_ring : MethodName := ⟨RX10, "ring", "(I)I"⟩
abbrev cX10_as : ByteArray := prog_1_method_30_code
abbrev yX10_as : MethodName := ⟨RX10, "as", "(II)I"⟩
abbrev cX10_trace : ByteArray := prog_1_method_31_code
abbrev yX10_trace : MethodName := ⟨RX10, "trace", "()I"⟩
abbrev cX10_fault : ByteArray := prog_1_method_32_code
abbrev yX10_fault : MethodName := ⟨RX10, "fault", "()I"⟩
abbrev cX10_many : ByteArray := prog_1_method_33_code
abbrev yX10_many : MethodName := ⟨RX10, "many", "(I)I"⟩
abbrev cX10_faulted : ByteArray := prog_1_method_34_code
abbrev yX10_faulted : MethodName := ⟨RX10, "faulted", "(I)I"⟩
abbrev cX10_lost : ByteArray := prog_1_method_35_code
abbrev yX10_lost : MethodName := ⟨RX10, "lost", "(I)J"⟩
abbrev cX10_isSheet : ByteArray := prog_1_method_36_code
abbrev yX10_isSheet : MethodName := ⟨RX10, "isSheet", "(I)Z"⟩
abbrev cX10_isLane : ByteArray := prog_1_method_37_code
abbrev yX10_isLane : MethodName := ⟨RX10, "isLane", "(I)Z"⟩
abbrev cX10_isMinute : ByteArray := prog_1_method_38_code
abbrev yX10_isMinute : MethodName := ⟨RX10, "isMinute", "(I)Z"⟩
abbrev cX10_newTaker : ByteArray := prog_1_method_39_code
abbrev yX10_newTaker : MethodName := ⟨RX10, "newTaker", "(IIII)LFourVault$Taker;"⟩
abbrev RX11 : String := "FourVaultModel"
def TX11 : u_T := fun k => match k with
  | 0 => ("FourVaultModel", "fault", "I", false)
  | 1 => ("FourVaultModel", "trace", "I", false)
  | 2 => ("FourVaultModel", "sorts", "[I", true)
  | 3 => ("FourVaultModel", "sheetLong", "[I", true)
  | 4 => ("FourVaultModel", "cells", "[I", true)
  | 5 => ("FourVaultModel", "places", "I", false)
  | 6 => ("FourVaultModel", "takers", "I", false)
  | 7 => ("FourVaultModel", "goods", "I", false)
  | 8 => ("FourVaultModel", "gloomOf", "[I", true)
  | 9 => ("FourVaultModel", "kind", "[I", true)
  | 10 => ("FourVaultModel", "nerve", "[I", true)
  | 11 => ("FourVaultModel", "mind", "[I", true)
  | 12 => ("FourVaultModel", "depthOf", "[I", true)
  | 13 => ("FourVaultModel", "at", "I", false)
  | 14 => ("FourVaultModel", "readPlaces", "I", false)
  | 15 => ("FourVaultModel", "readTakers", "I", false)
  | 16 => ("FourVaultModel", "readGoods", "I", false)
  | 17 => ("FourVaultModel", "readGloom", "[I", true)
  | 18 => ("FourVaultModel", "readKind", "[I", true)
  | 19 => ("FourVaultModel", "readNerve", "[I", true)
  | 20 => ("FourVaultModel", "readMind", "[I", true)
  | 21 => ("FourVaultModel", "readDepth", "[I", true)
  | 22 => ("FourVaultModel", "light", "I", false)
  | 23 => ("FourVaultModel", "all", "I", false)
  | 24 => ("FourVaultModel", "latest", "I", false)
  | 25 => ("FourVaultModel", "comesOut", "[I", true)
  | 26 => ("FourVaultModel", "held", "[I", true)
  | 27 => ("FourVaultModel", "inside", "[I", true)
  | 28 => ("FourVaultModel", "canGet", "[I", true)
  | 29 => ("FourVaultModel", "row", "[I", true)
  | 30 => ("FourVaultModel", "found", "[I", true)
  | 31 => ("FourVaultModel", "readings", "I", false)
  | 32 => ("FourVaultModel", "readWho", "[I", true)
  | 33 => ("FourVaultModel", "readWhen", "[I", true)
  | _ => ("FourVaultModel", "readHeld", "[I", true)
def tyX11 : Nat → FieldType := fun k => match k with
  | 0 => .int
  | 1 => .int
  | 2 => .array .int
  | 3 => .array .int
  | 4 => .array .int
  | 5 => .int
  | 6 => .int
  | 7 => .int
  | 8 => .array .int
  | 9 => .array .int
  | 10 => .array .int
  | 11 => .array .int
  | 12 => .array .int
  | 13 => .int
  | 14 => .int
  | 15 => .int
  | 16 => .int
  | 17 => .array .int
  | 18 => .array .int
  | 19 => .array .int
  | 20 => .array .int
  | 21 => .array .int
  | 22 => .int
  | 23 => .int
  | 24 => .int
  | 25 => .array .int
  | 26 => .array .int
  | 27 => .array .int
  | 28 => .array .int
  | 29 => .array .int
  | 30 => .array .int
  | 31 => .int
  | 32 => .array .int
  | 33 => .array .int
  | _ => .array .int
theorem nmX11 : ∀ a, a < 35 → ∀ b, b < 35 → a ≠ b → (TX11 a).2.1 ≠ (TX11 b).2.1 := by decide +kernel
theorem tyX11_ok : ∀ k, k < 35 → parseFieldDescriptor (TX11 k).2.2.1 = some (tyX11 k) := by decide +kernel
abbrev cX11_init : ByteArray := prog_13_method_1_code
abbrev yX11_init : MethodName := ⟨RX11, "<init>", "()V"⟩
abbrev cX11_fails : ByteArray := prog_13_method_3_code
abbrev yX11_fails : MethodName := ⟨RX11, "fails", "(I)I"⟩
abbrev cX11_lost : ByteArray := prog_13_method_4_code
abbrev yX11_lost : MethodName := ⟨RX11, "lost", "(I)J"⟩
abbrev cX11_within : ByteArray := prog_13_method_5_code
abbrev yX11_within : MethodName := ⟨RX11, "within", "(III)Z"⟩
abbrev cX11_isSheet : ByteArray := prog_13_method_6_code
abbrev yX11_isSheet : MethodName := ⟨RX11, "isSheet", "(I)Z"⟩
abbrev cX11_isSort : ByteArray := prog_13_method_7_code
abbrev yX11_isSort : MethodName := ⟨RX11, "isSort", "(I)Z"⟩
abbrev cX11_against : ByteArray := prog_13_method_8_code
abbrev yX11_against : MethodName := ⟨RX11, "against", "(IIII)I"⟩
abbrev cX11_isTaker : ByteArray := prog_13_method_9_code
abbrev yX11_isTaker : MethodName := ⟨RX11, "isTaker", "(I)Z"⟩
abbrev cX11_isPlace : ByteArray := prog_13_method_10_code
abbrev yX11_isPlace : MethodName := ⟨RX11, "isPlace", "(I)Z"⟩
abbrev cX11_digit : ByteArray := prog_13_method_11_code
abbrev yX11_digit : MethodName := ⟨RX11, "digit", "(II)I"⟩
abbrev cX11_isSign : ByteArray := prog_13_method_12_code
abbrev yX11_isSign : MethodName := ⟨RX11, "isSign", "(II)Z"⟩
abbrev cX11_vault : ByteArray := prog_13_method_13_code
abbrev yX11_vault : MethodName := ⟨RX11, "vault", "(IIII)I"⟩
abbrev cX11_takeVault : ByteArray := prog_13_method_14_code
abbrev yX11_takeVault : MethodName := ⟨RX11, "takeVault", "()V"⟩
abbrev cX11_readVault : ByteArray := prog_13_method_15_code
abbrev yX11_readVault : MethodName := ⟨RX11, "readVault", "(I)Z"⟩
abbrev cX11_readTheGloom : ByteArray := prog_13_method_16_code
abbrev yX11_readTheGloom : MethodName := ⟨RX11, "readTheGloom", "(I)Z"⟩
abbrev cX11_readTaker : ByteArray := prog_13_method_17_code
abbrev yX11_readTaker : MethodName := ⟨RX11, "readTaker", "(I)Z"⟩
abbrev cX11_readTheGoods : ByteArray := prog_13_method_18_code
abbrev yX11_readTheGoods : MethodName := ⟨RX11, "readTheGoods", "(I)Z"⟩
abbrev cX11_ofTaker : ByteArray := prog_13_method_19_code
abbrev yX11_ofTaker : MethodName := ⟨RX11, "ofTaker", "(II)I"⟩
abbrev cX11_depth : ByteArray := prog_13_method_20_code
abbrev yX11_depth : MethodName := ⟨RX11, "depth", "(I)I"⟩
abbrev cX11_gloom : ByteArray := prog_13_method_21_code
abbrev yX11_gloom : MethodName := ⟨RX11, "gloom", "(I)I"⟩
abbrev cX11_hush : ByteArray := prog_13_method_22_code
abbrev yX11_hush : MethodName := ⟨RX11, "hush", "(II)I"⟩
abbrev cX11_think : ByteArray := prog_13_method_23_code
abbrev yX11_think : MethodName := ⟨RX11, "think", "(II)I"⟩
abbrev cX11_brace : ByteArray := prog_13_method_24_code
abbrev yX11_brace : MethodName := ⟨RX11, "brace", "(II)I"⟩
abbrev cX11_drainOf : ByteArray := prog_13_method_25_code
abbrev yX11_drainOf : MethodName := ⟨RX11, "drainOf", "(II)I"⟩
abbrev cX11_drain : ByteArray := prog_13_method_26_code
abbrev yX11_drain : MethodName := ⟨RX11, "drain", "(II)I"⟩
abbrev cX11_holdsBy : ByteArray := prog_13_method_27_code
abbrev yX11_holdsBy : MethodName := ⟨RX11, "holdsBy", "(III)I"⟩
abbrev cX11_isMinute : ByteArray := prog_13_method_28_code
abbrev yX11_isMinute : MethodName := ⟨RX11, "isMinute", "(I)Z"⟩
abbrev cX11_holds : ByteArray := prog_13_method_29_code
abbrev yX11_holds : MethodName := ⟨RX11, "holds", "(II)I"⟩
abbrev cX11_best : ByteArray := prog_13_method_30_code
abbrev yX11_best : MethodName := ⟨RX11, "best", "(II)I"⟩
abbrev cX11_bothHold : ByteArray := prog_13_method_31_code
abbrev yX11_bothHold : MethodName := ⟨RX11, "bothHold", "(III)I"⟩
abbrev cX11_together : ByteArray := prog_13_method_32_code
abbrev yX11_together : MethodName := ⟨RX11, "together", "(III)I"⟩
abbrev cX11_friend : ByteArray := prog_13_method_33_code
abbrev yX11_friend : MethodName := ⟨RX11, "friend", "(II)I"⟩
abbrev cX11_goNight : ByteArray := prog_13_method_34_code
abbrev yX11_goNight : MethodName := ⟨RX11, "goNight", "(II)I"⟩
abbrev cX11_night : ByteArray := prog_13_method_35_code
abbrev yX11_night : MethodName := ⟨RX11, "night", "(IIIII)I"⟩
abbrev cX11_tellNight : ByteArray := prog_13_method_36_code
abbrev yX11_tellNight : MethodName := ⟨RX11, "tellNight", "(I)I"⟩
abbrev cX11_getsOf : ByteArray := prog_13_method_37_code
abbrev yX11_getsOf : MethodName := ⟨RX11, "getsOf", "(II)I"⟩
abbrev cX11_gets : ByteArray := prog_13_method_38_code
abbrev yX11_gets : MethodName := ⟨RX11, "gets", "(II)I"⟩
abbrev cX11_worthOfRow : ByteArray := prog_13_method_39_code
abbrev yX11_worthOfRow : MethodName := ⟨RX11, "worthOfRow", "()I"⟩
abbrev cX11_findSend : ByteArray := prog_13_method_40_code
abbrev yX11_findSend : MethodName := ⟨RX11, "findSend", "(I)I"⟩
abbrev cX11_send : ByteArray := prog_13_method_41_code
abbrev yX11_send : MethodName := ⟨RX11, "send", "(II)I"⟩
abbrev cX11_reading : ByteArray := prog_13_method_42_code
abbrev yX11_reading : MethodName := ⟨RX11, "reading", "(III)I"⟩
abbrev cX11_back : ByteArray := prog_13_method_43_code
abbrev yX11_back : MethodName := ⟨RX11, "back", "(I)I"⟩
abbrev cX11_areSo : ByteArray := prog_13_method_44_code
abbrev yX11_areSo : MethodName := ⟨RX11, "areSo", "()Z"⟩
abbrev cX11_minds : ByteArray := prog_13_method_45_code
abbrev yX11_minds : MethodName := ⟨RX11, "minds", "(I)I"⟩
abbrev cX11_kinds : ByteArray := prog_13_method_46_code
abbrev yX11_kinds : MethodName := ⟨RX11, "kinds", "(I)I"⟩
abbrev cX11_glooms : ByteArray := prog_13_method_47_code
abbrev yX11_glooms : MethodName := ⟨RX11, "glooms", "(I)I"⟩
abbrev cX11_inLeastTerms : ByteArray := prog_13_method_48_code
abbrev yX11_inLeastTerms : MethodName := ⟨RX11, "inLeastTerms", "(JJI)J"⟩
abbrev cX11_odds : ByteArray := prog_13_method_49_code
abbrev yX11_odds : MethodName := ⟨RX11, "odds", "(III)J"⟩
abbrev cX11_sheet : ByteArray := prog_13_method_50_code
abbrev yX11_sheet : MethodName := ⟨RX11, "sheet", "(III)I"⟩
abbrev cX11_lose : ByteArray := prog_13_method_51_code
abbrev yX11_lose : MethodName := ⟨RX11, "lose", "(I)I"⟩
abbrev cX11_put : ByteArray := prog_13_method_52_code
abbrev yX11_put : MethodName := ⟨RX11, "put", "(III)I"⟩
abbrev cX11_cell : ByteArray := prog_13_method_53_code
abbrev yX11_cell : MethodName := ⟨RX11, "cell", "(III)J"⟩
abbrev cX11_copy : ByteArray := prog_13_method_54_code
abbrev yX11_copy : MethodName := ⟨RX11, "copy", "(IIIII)I"⟩
abbrev cX11_begins : ByteArray := prog_13_method_55_code
abbrev yX11_begins : MethodName := ⟨RX11, "begins", "(I)V"⟩
abbrev cX11_tell : ByteArray := prog_13_method_56_code
abbrev yX11_tell : MethodName := ⟨RX11, "tell", "(I)I"⟩
abbrev cX11_ring : ByteArray := prog_13_method_57_code
abbrev yX11_ring : MethodName := ⟨RX11, "ring", "(I)I"⟩
abbrev cX11_as : ByteArray := prog_13_method_58_code
abbrev yX11_as : MethodName := ⟨RX11, "as", "(II)I"⟩
abbrev cX11_trace : ByteArray := prog_13_method_59_code
abbrev yX11_trace : MethodName := ⟨RX11, "trace", "()I"⟩
abbrev cX11_fault : ByteArray := prog_13_method_60_code
abbrev yX11_fault : MethodName := ⟨RX11, "fault", "()I"⟩
abbrev cX11_many : ByteArray := prog_13_method_61_code
abbrev yX11_many : MethodName := ⟨RX11, "many", "(I)I"⟩
abbrev RJ9 : String := "java/lang/Math"
def TJ9 : u_T := fun k => match k with
  | _ => ("", "", "", false)
def tyJ9 : Nat → FieldType := fun k => match k with
  | _ => .int
theorem nmJ9 : ∀ a, a < 0 → ∀ b, b < 0 → a ≠ b → (TJ9 a).2.1 ≠ (TJ9 b).2.1 := by decide +kernel
theorem tyJ9_ok : ∀ k, k < 0 → parseFieldDescriptor (TJ9 k).2.2.1 = some (tyJ9 k) := by decide +kernel
abbrev cJ9_max_7cf53 : ByteArray := prog_14_method_65_code
abbrev yJ9_max_7cf53 : MethodName := ⟨RJ9, "max", "(II)I"⟩
abbrev cJ9_min_7cf53 : ByteArray := prog_14_method_69_code
abbrev yJ9_min_7cf53 : MethodName := ⟨RJ9, "min", "(II)I"⟩
abbrev RJ10 : String := "java/lang/System"
def TJ10 : u_T := fun k => match k with
  | _ => ("", "", "", false)
def tyJ10 : Nat → FieldType := fun k => match k with
  | _ => .int
theorem nmJ10 : ∀ a, a < 0 → ∀ b, b < 0 → a ≠ b → (TJ10 a).2.1 ≠ (TJ10 b).2.1 := by decide +kernel
theorem tyJ10_ok : ∀ k, k < 0 → parseFieldDescriptor (TJ10 k).2.2.1 = some (tyJ10 k) := by decide +kernel
abbrev RL : String := "FourVaultLaw"
abbrev cL_law : ByteArray := code
abbrev yL_law : MethodName := ⟨RL, "law", "([I)Z"⟩
abbrev vwCl : List vw_C := [(RX0, TX0, 4), (RX1, TX1, 7), (RX2, TX2, 4), (RX3, TX3, 2), (RX4, TX4, 2), (RX5, TX5, 3), (RX6, TX6, 3), (RX7, TX7, 1), (RX8, TX8, 6), (RX9, TX9, 3), (RX10, TX10, 8), (RX11, TX11, 35)]
