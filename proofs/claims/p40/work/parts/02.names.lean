def RX0 : String := "RootDuel$Contest"
def TX0 : u_T := fun k => match k with
  | 0 => ("RootDuel$Contest", "settings", "[I", true)
  | 1 => ("RootDuel$Contest", "polynomial", "[I", true)
  | 2 => ("RootDuel$Contest", "laid", "[I", true)
  | 3 => ("RootDuel$Contest", "laidOn", "[I", true)
  | 4 => ("RootDuel$Contest", "claims", "[I", true)
  | 5 => ("RootDuel$Contest", "claimCount", "[I", true)
  | 6 => ("RootDuel$Contest", "turns", "I", false)
  | 7 => ("RootDuel$Contest", "over", "Z", false)
  | _ => ("RootDuel$Contest", "bonusPlayer", "I", false)
def tyX0 : Nat → FieldType := fun k => match k with
  | 0 => .array .int
  | 1 => .array .int
  | 2 => .array .int
  | 3 => .array .int
  | 4 => .array .int
  | 5 => .array .int
  | 6 => .int
  | 7 => .boolean
  | _ => .int
abbrev wsX00 : List Cond := u_ws RX0 TX0 9
theorem nmX0 : ∀ a, a < 9 → ∀ b, b < 9 → a ≠ b → (TX0 a).2.1 ≠ (TX0 b).2.1 := by decide +kernel
theorem tyX0_ok : ∀ k, k < 9 → parseFieldDescriptor (TX0 k).2.2.1 = some (tyX0 k) := by decide +kernel
abbrev cX0_init : ByteArray := prog_2_method_1_code
def yX0_init : MethodName := ⟨RX0, "<init>", "()V"⟩
abbrev cX0_begin : ByteArray := prog_2_method_2_code
def yX0_begin : MethodName := ⟨RX0, "begin", "()V"⟩
abbrev cX0_copyFrom : ByteArray := prog_2_method_3_code
def yX0_copyFrom : MethodName := ⟨RX0, "copyFrom", "(LRootDuel$Contest;)V"⟩
abbrev cX0_mover : ByteArray := prog_2_method_4_code
def yX0_mover : MethodName := ⟨RX0, "mover", "()I"⟩
abbrev cX0_hasPower : ByteArray := prog_2_method_5_code
def yX0_hasPower : MethodName := ⟨RX0, "hasPower", "(I)Z"⟩
abbrev cX0_lastTurnOn : ByteArray := prog_2_method_6_code
def yX0_lastTurnOn : MethodName := ⟨RX0, "lastTurnOn", "(I)I"⟩
abbrev cX0_termsOn : ByteArray := prog_2_method_7_code
def yX0_termsOn : MethodName := ⟨RX0, "termsOn", "(I)I"⟩
abbrev cX0_termsOf : ByteArray := prog_2_method_8_code
def yX0_termsOf : MethodName := ⟨RX0, "termsOf", "(I)I"⟩
abbrev cX0_termsLaid : ByteArray := prog_2_method_9_code
def yX0_termsLaid : MethodName := ⟨RX0, "termsLaid", "()I"⟩
abbrev cX0_isBarred : ByteArray := prog_2_method_10_code
def yX0_isBarred : MethodName := ⟨RX0, "isBarred", "(I)Z"⟩
abbrev cX0_barredPowers : ByteArray := prog_2_method_11_code
def yX0_barredPowers : MethodName := ⟨RX0, "barredPowers", "()I"⟩
abbrev cX0_refusalOfTerm : ByteArray := prog_2_method_12_code
def yX0_refusalOfTerm : MethodName := ⟨RX0, "refusalOfTerm", "(II)I"⟩
abbrev cX0_coefficientOf : ByteArray := prog_2_method_13_code
def yX0_coefficientOf : MethodName := ⟨RX0, "coefficientOf", "(I)I"⟩
abbrev cX0_isZeroBut : ByteArray := prog_2_method_14_code
def yX0_isZeroBut : MethodName := ⟨RX0, "isZeroBut", "(I)Z"⟩
abbrev cX0_endTurn : ByteArray := prog_2_method_15_code
def yX0_endTurn : MethodName := ⟨RX0, "endTurn", "(IILRootDuel$SignRows;)V"⟩
abbrev cX0_isGoalReached : ByteArray := prog_2_method_16_code
def yX0_isGoalReached : MethodName := ⟨RX0, "isGoalReached", "(LRootDuel$SignRows;)Z"⟩
abbrev cX0_endsWithTwoPasses : ByteArray := prog_2_method_17_code
def yX0_endsWithTwoPasses : MethodName := ⟨RX0, "endsWithTwoPasses", "()Z"⟩
abbrev cX0_claimField : ByteArray := prog_2_method_19_code
def yX0_claimField : MethodName := ⟨RX0, "claimField", "(III)I"⟩
abbrev cX0_claimsOf : ByteArray := prog_2_method_20_code
def yX0_claimsOf : MethodName := ⟨RX0, "claimsOf", "(I)I"⟩
abbrev cX0_hasClaimNow : ByteArray := prog_2_method_21_code
def yX0_hasClaimNow : MethodName := ⟨RX0, "hasClaimNow", "()Z"⟩
abbrev cX0_stakes : ByteArray := prog_2_method_22_code
def yX0_stakes : MethodName := ⟨RX0, "stakes", "(I)I"⟩
abbrev cX0_refusalOfClaim : ByteArray := prog_2_method_23_code
def yX0_refusalOfClaim : MethodName := ⟨RX0, "refusalOfClaim", "(III)I"⟩
abbrev cX0_overlaps : ByteArray := prog_2_method_24_code
def yX0_overlaps : MethodName := ⟨RX0, "overlaps", "(III)Z"⟩
abbrev cX0_addClaim : ByteArray := prog_2_method_25_code
def yX0_addClaim : MethodName := ⟨RX0, "addClaim", "(IIIII)V"⟩
abbrev cX0_isRight : ByteArray := prog_2_method_26_code
def yX0_isRight : MethodName := ⟨RX0, "isRight", "(IILRootDuel$SignRows;)Z"⟩
abbrev cX0_rightClaims : ByteArray := prog_2_method_27_code
def yX0_rightClaims : MethodName := ⟨RX0, "rightClaims", "(ILRootDuel$SignRows;)I"⟩
abbrev cX0_claimPoints : ByteArray := prog_2_method_28_code
def yX0_claimPoints : MethodName := ⟨RX0, "claimPoints", "(ILRootDuel$SignRows;)I"⟩
abbrev cX0_signPoints : ByteArray := prog_2_method_29_code
def yX0_signPoints : MethodName := ⟨RX0, "signPoints", "(I)I"⟩
abbrev cX0_bonusPoints : ByteArray := prog_2_method_30_code
def yX0_bonusPoints : MethodName := ⟨RX0, "bonusPoints", "(I)I"⟩
abbrev cX0_score : ByteArray := prog_2_method_31_code
def yX0_score : MethodName := ⟨RX0, "score", "(ILRootDuel$SignRows;)I"⟩
abbrev cX0_valueAt : ByteArray := prog_2_method_32_code
def yX0_valueAt : MethodName := ⟨RX0, "valueAt", "(I)J"⟩
def RX1 : String := "RootDuel$Page"
def TX1 : u_T := fun k => match k with
  | 0 => ("RootDuel$Page", "bytes", "[B", true)
  | _ => ("RootDuel$Page", "length", "I", false)
def tyX1 : Nat → FieldType := fun k => match k with
  | 0 => .array .byte
  | _ => .int
abbrev wsX10 : List Cond := u_ws RX1 TX1 2
theorem nmX1 : ∀ a, a < 2 → ∀ b, b < 2 → a ≠ b → (TX1 a).2.1 ≠ (TX1 b).2.1 := by decide +kernel
theorem tyX1_ok : ∀ k, k < 2 → parseFieldDescriptor (TX1 k).2.2.1 = some (tyX1 k) := by decide +kernel
abbrev cX1_init : ByteArray := prog_3_method_1_code
def yX1_init : MethodName := ⟨RX1, "<init>", "()V"⟩
abbrev cX1_begin : ByteArray := prog_3_method_2_code
def yX1_begin : MethodName := ⟨RX1, "begin", "()V"⟩
abbrev cX1_putSign : ByteArray := prog_3_method_3_code
def yX1_putSign : MethodName := ⟨RX1, "putSign", "(C)V"⟩
abbrev cX1_putText : ByteArray := prog_3_method_4_code
def yX1_putText : MethodName := ⟨RX1, "putText", "(Ljava/lang/String;)V"⟩
abbrev cX1_putNumber : ByteArray := prog_3_method_5_code
def yX1_putNumber : MethodName := ⟨RX1, "putNumber", "(I)V"⟩
abbrev cX1_putSpaced : ByteArray := prog_3_method_6_code
def yX1_putSpaced : MethodName := ⟨RX1, "putSpaced", "(I)V"⟩
abbrev cX1_putTerm : ByteArray := prog_3_method_9_code
def yX1_putTerm : MethodName := ⟨RX1, "putTerm", "(II)V"⟩
abbrev cX1_putClaims : ByteArray := prog_3_method_10_code
def yX1_putClaims : MethodName := ⟨RX1, "putClaims", "(LRootDuel$Contest;I)V"⟩
abbrev cX1_putClaim : ByteArray := prog_3_method_11_code
def yX1_putClaim : MethodName := ⟨RX1, "putClaim", "(LRootDuel$Contest;II)V"⟩
def RX2 : String := "RootDuel$Reader"
def TX2 : u_T := fun k => match k with
  | 0 => ("RootDuel$Reader", "text", "[B", true)
  | 1 => ("RootDuel$Reader", "commands", "[I", true)
  | 2 => ("RootDuel$Reader", "length", "I", false)
  | 3 => ("RootDuel$Reader", "error", "I", false)
  | 4 => ("RootDuel$Reader", "errorAt", "I", false)
  | 5 => ("RootDuel$Reader", "parts", "I", false)
  | 6 => ("RootDuel$Reader", "kind", "I", false)
  | 7 => ("RootDuel$Reader", "start", "I", false)
  | 8 => ("RootDuel$Reader", "end", "I", false)
  | 9 => ("RootDuel$Reader", "number", "I", false)
  | 10 => ("RootDuel$Reader", "accepted", "I", false)
  | 11 => ("RootDuel$Reader", "toldSettings", "I", false)
  | _ => ("RootDuel$Reader", "toldStarts", "I", false)
def tyX2 : Nat → FieldType := fun k => match k with
  | 0 => .array .byte
  | 1 => .array .int
  | 2 => .int
  | 3 => .int
  | 4 => .int
  | 5 => .int
  | 6 => .int
  | 7 => .int
  | 8 => .int
  | 9 => .int
  | 10 => .int
  | 11 => .int
  | _ => .int
abbrev wsX20 : List Cond := u_ws RX2 TX2 13
theorem nmX2 : ∀ a, a < 13 → ∀ b, b < 13 → a ≠ b → (TX2 a).2.1 ≠ (TX2 b).2.1 := by decide +kernel
theorem tyX2_ok : ∀ k, k < 13 → parseFieldDescriptor (TX2 k).2.2.1 = some (tyX2 k) := by decide +kernel
abbrev cX2_init : ByteArray := prog_4_method_1_code
def yX2_init : MethodName := ⟨RX2, "<init>", "()V"⟩
abbrev cX2_hasRoom : ByteArray := prog_4_method_2_code
def yX2_hasRoom : MethodName := ⟨RX2, "hasRoom", "(I)Z"⟩
abbrev cX2_append : ByteArray := prog_4_method_3_code
def yX2_append : MethodName := ⟨RX2, "append", "(B)V"⟩
abbrev cX2_kindAt : ByteArray := prog_4_method_4_code
def yX2_kindAt : MethodName := ⟨RX2, "kindAt", "(I)I"⟩
abbrev cX2_nextToken : ByteArray := prog_4_method_5_code
def yX2_nextToken : MethodName := ⟨RX2, "nextToken", "()V"⟩
abbrev cX2_isWord : ByteArray := prog_4_method_6_code
def yX2_isWord : MethodName := ⟨RX2, "isWord", "(Ljava/lang/String;)Z"⟩
abbrev cX2_beginText : ByteArray := prog_4_method_7_code
def yX2_beginText : MethodName := ⟨RX2, "beginText", "()V"⟩
abbrev cX2_fail : ByteArray := prog_4_method_8_code
def yX2_fail : MethodName := ⟨RX2, "fail", "(I)Z"⟩
abbrev cX2_readSemicolon : ByteArray := prog_4_method_9_code
def yX2_readSemicolon : MethodName := ⟨RX2, "readSemicolon", "()Z"⟩
abbrev cX2_readNumber : ByteArray := prog_4_method_10_code
def yX2_readNumber : MethodName := ⟨RX2, "readNumber", "(II)Z"⟩
abbrev cX2_readInteger : ByteArray := prog_4_method_11_code
def yX2_readInteger : MethodName := ⟨RX2, "readInteger", "(II)Z"⟩
abbrev cX2_readSetup : ByteArray := prog_4_method_12_code
def yX2_readSetup : MethodName := ⟨RX2, "readSetup", "(LRootDuel$Contest;)Z"⟩
abbrev cX2_readStatement : ByteArray := prog_4_method_13_code
def yX2_readStatement : MethodName := ⟨RX2, "readStatement", "(LRootDuel$Contest;)Z"⟩
abbrev cX2_settingOfWord : ByteArray := prog_4_method_14_code
def yX2_settingOfWord : MethodName := ⟨RX2, "settingOfWord", "()I"⟩
abbrev cX2_readSetting : ByteArray := prog_4_method_15_code
def yX2_readSetting : MethodName := ⟨RX2, "readSetting", "(LRootDuel$Contest;I)Z"⟩
abbrev cX2_readStart : ByteArray := prog_4_method_16_code
def yX2_readStart : MethodName := ⟨RX2, "readStart", "(LRootDuel$Contest;)Z"⟩
abbrev cX2_argument : ByteArray := prog_4_method_17_code
def yX2_argument : MethodName := ⟨RX2, "argument", "(II)I"⟩
abbrev cX2_keep : ByteArray := prog_4_method_18_code
def yX2_keep : MethodName := ⟨RX2, "keep", "(II)Z"⟩
abbrev cX2_readScript : ByteArray := prog_4_method_19_code
def yX2_readScript : MethodName := ⟨RX2, "readScript", "(I)Z"⟩
abbrev cX2_readCommand : ByteArray := prog_4_method_20_code
def yX2_readCommand : MethodName := ⟨RX2, "readCommand", "(I)Z"⟩
abbrev cX2_actOfWord : ByteArray := prog_4_method_21_code
def yX2_actOfWord : MethodName := ⟨RX2, "actOfWord", "()I"⟩
abbrev cX2_readTerm : ByteArray := prog_4_method_22_code
def yX2_readTerm : MethodName := ⟨RX2, "readTerm", "(I)Z"⟩
abbrev cX2_readClaim : ByteArray := prog_4_method_23_code
def yX2_readClaim : MethodName := ⟨RX2, "readClaim", "()Z"⟩
def RX3 : String := "RootDuel$SignRows"
def TX3 : u_T := fun k => match k with
  | 0 => ("RootDuel$SignRows", "rows", "[[J", true)
  | 1 => ("RootDuel$SignRows", "degrees", "[I", true)
  | 2 => ("RootDuel$SignRows", "work", "[J", true)
  | _ => ("RootDuel$SignRows", "total", "I", false)
def tyX3 : Nat → FieldType := fun k => match k with
  | 0 => .array (.array .long)
  | 1 => .array .int
  | 2 => .array .long
  | _ => .int
abbrev wsX30 : List Cond := u_ws RX3 TX3 4
theorem nmX3 : ∀ a, a < 4 → ∀ b, b < 4 → a ≠ b → (TX3 a).2.1 ≠ (TX3 b).2.1 := by decide +kernel
theorem tyX3_ok : ∀ k, k < 4 → parseFieldDescriptor (TX3 k).2.2.1 = some (tyX3 k) := by decide +kernel
abbrev cX3_init : ByteArray := prog_5_method_1_code
def yX3_init : MethodName := ⟨RX3, "<init>", "()V"⟩
abbrev cX3_take : ByteArray := prog_5_method_2_code
def yX3_take : MethodName := ⟨RX3, "take", "([I)V"⟩
abbrev cX3_descend : ByteArray := prog_5_method_3_code
def yX3_descend : MethodName := ⟨RX3, "descend", "()V"⟩
abbrev cX3_build : ByteArray := prog_5_method_4_code
def yX3_build : MethodName := ⟨RX3, "build", "()V"⟩
abbrev cX3_addWork : ByteArray := prog_5_method_5_code
def yX3_addWork : MethodName := ⟨RX3, "addWork", "()Z"⟩
abbrev cX3_derive : ByteArray := prog_5_method_6_code
def yX3_derive : MethodName := ⟨RX3, "derive", "()V"⟩
abbrev cX3_divide : ByteArray := prog_5_method_7_code
def yX3_divide : MethodName := ⟨RX3, "divide", "()V"⟩
abbrev cX3_cancel : ByteArray := prog_5_method_8_code
def yX3_cancel : MethodName := ⟨RX3, "cancel", "(I[JI)V"⟩
abbrev cX3_signOfSum : ByteArray := prog_5_method_9_code
def yX3_signOfSum : MethodName := ⟨RX3, "signOfSum", "(JJJJ)I"⟩
abbrev cX3_reduce : ByteArray := prog_5_method_10_code
def yX3_reduce : MethodName := ⟨RX3, "reduce", "()V"⟩
abbrev cX3_signAt : ByteArray := prog_5_method_12_code
def yX3_signAt : MethodName := ⟨RX3, "signAt", "(II)I"⟩
abbrev cX3_changesAt : ByteArray := prog_5_method_13_code
def yX3_changesAt : MethodName := ⟨RX3, "changesAt", "(I)I"⟩
abbrev cX3_changesAbove : ByteArray := prog_5_method_14_code
def yX3_changesAbove : MethodName := ⟨RX3, "changesAbove", "(II)I"⟩
abbrev cX3_signAbove : ByteArray := prog_5_method_15_code
def yX3_signAbove : MethodName := ⟨RX3, "signAbove", "(III)I"⟩
abbrev cX3_distinctBetween : ByteArray := prog_5_method_16_code
def yX3_distinctBetween : MethodName := ⟨RX3, "distinctBetween", "(II)I"⟩
abbrev cX3_allDistinct : ByteArray := prog_5_method_17_code
def yX3_allDistinct : MethodName := ⟨RX3, "allDistinct", "()I"⟩
abbrev cX3_countedBetween : ByteArray := prog_5_method_18_code
def yX3_countedBetween : MethodName := ⟨RX3, "countedBetween", "(II)I"⟩
abbrev cX3_below : ByteArray := prog_5_method_19_code
def yX3_below : MethodName := ⟨RX3, "below", "(II)I"⟩
def RX4 : String := "RootDuel"
def TX4 : u_T := fun k => match k with
  | 0 => ("RootDuel", "contest", "LRootDuel$Contest;", true)
  | 1 => ("RootDuel", "trial", "LRootDuel$Contest;", true)
  | 2 => ("RootDuel", "saved", "[LRootDuel$Contest;", true)
  | 3 => ("RootDuel", "signRows", "LRootDuel$SignRows;", true)
  | 4 => ("RootDuel", "reader", "LRootDuel$Reader;", true)
  | 5 => ("RootDuel", "page", "LRootDuel$Page;", true)
  | 6 => ("RootDuel", "accounts", "[I", true)
  | 7 => ("RootDuel", "shifted", "[J", true)
  | _ => ("RootDuel", "undoable", "I", false)
def tyX4 : Nat → FieldType := fun k => match k with
  | 0 => .object "RootDuel$Contest"
  | 1 => .object "RootDuel$Contest"
  | 2 => .array (.object "RootDuel$Contest")
  | 3 => .object "RootDuel$SignRows"
  | 4 => .object "RootDuel$Reader"
  | 5 => .object "RootDuel$Page"
  | 6 => .array .int
  | 7 => .array .long
  | _ => .int
abbrev wsX40 : List Cond := u_ws RX4 TX4 9
theorem nmX4 : ∀ a, a < 9 → ∀ b, b < 9 → a ≠ b → (TX4 a).2.1 ≠ (TX4 b).2.1 := by decide +kernel
theorem tyX4_ok : ∀ k, k < 9 → parseFieldDescriptor (TX4 k).2.2.1 = some (tyX4 k) := by decide +kernel
abbrev cX4_init : ByteArray := prog_1_method_1_code
def yX4_init : MethodName := ⟨RX4, "<init>", "()V"⟩
abbrev cX4_appendText : ByteArray := prog_1_method_2_code
def yX4_appendText : MethodName := ⟨RX4, "appendText", "(I)I"⟩
abbrev cX4_truncateText : ByteArray := prog_1_method_3_code
def yX4_truncateText : MethodName := ⟨RX4, "truncateText", "(I)I"⟩
abbrev cX4_load : ByteArray := prog_1_method_4_code
def yX4_load : MethodName := ⟨RX4, "load", "()I"⟩
abbrev cX4_play : ByteArray := prog_1_method_5_code
def yX4_play : MethodName := ⟨RX4, "play", "()I"⟩
abbrev cX4_count : ByteArray := prog_1_method_8_code
def yX4_count : MethodName := ⟨RX4, "count", "(I)I"⟩
abbrev cX4_power : ByteArray := prog_1_method_9_code
def yX4_power : MethodName := ⟨RX4, "power", "(II)I"⟩
abbrev cX4_player : ByteArray := prog_1_method_11_code
def yX4_player : MethodName := ⟨RX4, "player", "(II)I"⟩
abbrev cX4_winner : ByteArray := prog_1_method_12_code
def yX4_winner : MethodName := ⟨RX4, "winner", "()I"⟩
abbrev cX4_claim : ByteArray := prog_1_method_14_code
def yX4_claim : MethodName := ⟨RX4, "claim", "(IIIZI)I"⟩
abbrev cX4_lay : ByteArray := prog_1_method_15_code
def yX4_lay : MethodName := ⟨RX4, "lay", "(II)I"⟩
abbrev cX4_pass : ByteArray := prog_1_method_16_code
def yX4_pass : MethodName := ⟨RX4, "pass", "()I"⟩
abbrev cX4_why : ByteArray := prog_1_method_17_code
def yX4_why : MethodName := ⟨RX4, "why", "(II)I"⟩
abbrev cX4_best : ByteArray := prog_1_method_18_code
def yX4_best : MethodName := ⟨RX4, "best", "()I"⟩
abbrev cX4_behind : ByteArray := prog_1_method_19_code
def yX4_behind : MethodName := ⟨RX4, "behind", "(III)I"⟩
abbrev cX4_degree : ByteArray := prog_1_method_20_code
def yX4_degree : MethodName := ⟨RX4, "degree", "()I"⟩
abbrev cX4_value : ByteArray := prog_1_method_21_code
def yX4_value : MethodName := ⟨RX4, "value", "(I)J"⟩
abbrev cX4_roots : ByteArray := prog_1_method_22_code
def yX4_roots : MethodName := ⟨RX4, "roots", "(II)I"⟩
abbrev cX4_allRoots : ByteArray := prog_1_method_23_code
def yX4_allRoots : MethodName := ⟨RX4, "allRoots", "()I"⟩
abbrev cX4_rootsOfSign : ByteArray := prog_1_method_24_code
def yX4_rootsOfSign : MethodName := ⟨RX4, "rootsOfSign", "(I)I"⟩
abbrev cX4_multiplicity : ByteArray := prog_1_method_25_code
def yX4_multiplicity : MethodName := ⟨RX4, "multiplicity", "(I)I"⟩
abbrev cX4_near : ByteArray := prog_1_method_26_code
def yX4_near : MethodName := ⟨RX4, "near", "(II)I"⟩
abbrev cX4_root : ByteArray := prog_1_method_27_code
def yX4_root : MethodName := ⟨RX4, "root", "(I)D"⟩
abbrev cX4_rows : ByteArray := prog_1_method_28_code
def yX4_rows : MethodName := ⟨RX4, "rows", "()I"⟩
abbrev cX4_changes : ByteArray := prog_1_method_31_code
def yX4_changes : MethodName := ⟨RX4, "changes", "(II)I"⟩
abbrev cX4_surplus : ByteArray := prog_1_method_32_code
def yX4_surplus : MethodName := ⟨RX4, "surplus", "(II)I"⟩
abbrev cX4_writeTurns : ByteArray := prog_1_method_34_code
def yX4_writeTurns : MethodName := ⟨RX4, "writeTurns", "()I"⟩
abbrev cX4_output : ByteArray := prog_1_method_35_code
def yX4_output : MethodName := ⟨RX4, "output", "(I)I"⟩
abbrev cX4_isPlayer : ByteArray := prog_1_method_39_code
def yX4_isPlayer : MethodName := ⟨RX4, "isPlayer", "(I)Z"⟩
abbrev cX4_isPlace : ByteArray := prog_1_method_40_code
def yX4_isPlace : MethodName := ⟨RX4, "isPlace", "(I)Z"⟩
abbrev cX4_isInterval : ByteArray := prog_1_method_41_code
def yX4_isInterval : MethodName := ⟨RX4, "isInterval", "(II)Z"⟩
abbrev cX4_isLayable : ByteArray := prog_1_method_42_code
def yX4_isLayable : MethodName := ⟨RX4, "isLayable", "(I)Z"⟩
abbrev cX4_buildRows : ByteArray := prog_1_method_43_code
def yX4_buildRows : MethodName := ⟨RX4, "buildRows", "([I)V"⟩
abbrev cX4_makeClaim : ByteArray := prog_1_method_44_code
def yX4_makeClaim : MethodName := ⟨RX4, "makeClaim", "(IIIII)I"⟩
abbrev cX4_layTerm : ByteArray := prog_1_method_45_code
def yX4_layTerm : MethodName := ⟨RX4, "layTerm", "(II)I"⟩
abbrev cX4_passTurn : ByteArray := prog_1_method_46_code
def yX4_passTurn : MethodName := ⟨RX4, "passTurn", "()I"⟩
abbrev cX4_settle : ByteArray := prog_1_method_47_code
def yX4_settle : MethodName := ⟨RX4, "settle", "(I)I"⟩
abbrev cX4_leadBehind : ByteArray := prog_1_method_48_code
def yX4_leadBehind : MethodName := ⟨RX4, "leadBehind", "(II)I"⟩
abbrev cX4_shiftTo : ByteArray := prog_1_method_49_code
def yX4_shiftTo : MethodName := ⟨RX4, "shiftTo", "(I)V"⟩
abbrev cX4_derivativeChanges : ByteArray := prog_1_method_50_code
def yX4_derivativeChanges : MethodName := ⟨RX4, "derivativeChanges", "(I)I"⟩
def RX5 : String := "RootDuelLaw$Claim"
def TX5 : u_T := fun k => match k with
  | 0 => ("RootDuelLaw$Claim", "a", "I", true)
  | 1 => ("RootDuelLaw$Claim", "b", "I", true)
  | 2 => ("RootDuelLaw$Claim", "roots", "I", true)
  | 3 => ("RootDuelLaw$Claim", "least", "Z", true)
  | _ => ("RootDuelLaw$Claim", "stake", "I", true)
def tyX5 : Nat → FieldType := fun k => match k with
  | 0 => .int
  | 1 => .int
  | 2 => .int
  | 3 => .boolean
  | _ => .int
abbrev wsX50 : List Cond := u_ws RX5 TX5 5
theorem nmX5 : ∀ a, a < 5 → ∀ b, b < 5 → a ≠ b → (TX5 a).2.1 ≠ (TX5 b).2.1 := by decide +kernel
theorem tyX5_ok : ∀ k, k < 5 → parseFieldDescriptor (TX5 k).2.2.1 = some (tyX5 k) := by decide +kernel
abbrev cX5_init : ByteArray := prog_7_method_1_code
def yX5_init : MethodName := ⟨RX5, "<init>", "(IIIZI)V"⟩
def RX6 : String := "RootDuelLaw$Contest"
def TX6 : u_T := fun k => match k with
  | 0 => ("RootDuelLaw$Contest", "co", "[I", true)
  | 1 => ("RootDuelLaw$Contest", "latest", "[I", true)
  | 2 => ("RootDuelLaw$Contest", "claims", "Ljava/util/ArrayList;", true)
  | 3 => ("RootDuelLaw$Contest", "bar", "I", true)
  | 4 => ("RootDuelLaw$Contest", "turns", "I", true)
  | 5 => ("RootDuelLaw$Contest", "reach", "I", true)
  | 6 => ("RootDuelLaw$Contest", "goal", "I", true)
  | 7 => ("RootDuelLaw$Contest", "bonus", "I", true)
  | 8 => ("RootDuelLaw$Contest", "purse", "I", true)
  | 9 => ("RootDuelLaw$Contest", "turn", "I", false)
  | 10 => ("RootDuelLaw$Contest", "hasPassed", "Z", false)
  | 11 => ("RootDuelLaw$Contest", "hasClaimed", "Z", false)
  | 12 => ("RootDuelLaw$Contest", "isOver", "Z", false)
  | _ => ("RootDuelLaw$Contest", "bonusTo", "I", false)
def tyX6 : Nat → FieldType := fun k => match k with
  | 0 => .array .int
  | 1 => .array .int
  | 2 => .object "java/util/ArrayList"
  | 3 => .int
  | 4 => .int
  | 5 => .int
  | 6 => .int
  | 7 => .int
  | 8 => .int
  | 9 => .int
  | 10 => .boolean
  | 11 => .boolean
  | 12 => .boolean
  | _ => .int
abbrev wsX60 : List Cond := u_ws RX6 TX6 14
theorem nmX6 : ∀ a, a < 14 → ∀ b, b < 14 → a ≠ b → (TX6 a).2.1 ≠ (TX6 b).2.1 := by decide +kernel
theorem tyX6_ok : ∀ k, k < 14 → parseFieldDescriptor (TX6 k).2.2.1 = some (tyX6 k) := by decide +kernel
abbrev cX6_init : ByteArray := prog_8_method_1_code
def yX6_init : MethodName := ⟨RX6, "<init>", "([I)V"⟩
abbrev cX6_whose : ByteArray := prog_8_method_2_code
def yX6_whose : MethodName := ⟨RX6, "whose", "()I"⟩
abbrev cX6_isBarred : ByteArray := prog_8_method_3_code
def yX6_isBarred : MethodName := ⟨RX6, "isBarred", "(I)Z"⟩
abbrev cX6_isZero : ByteArray := prog_8_method_4_code
def yX6_isZero : MethodName := ⟨RX6, "isZero", "(I)Z"⟩
abbrev cX6_whyLay : ByteArray := prog_8_method_5_code
def yX6_whyLay : MethodName := ⟨RX6, "whyLay", "(II)I"⟩
abbrev cX6_whyClaim : ByteArray := prog_8_method_6_code
def yX6_whyClaim : MethodName := ⟨RX6, "whyClaim", "(LRootDuelLaw$Claim;)I"⟩
abbrev cX6_ends : ByteArray := prog_8_method_7_code
def yX6_ends : MethodName := ⟨RX6, "ends", "(Z)V"⟩
abbrev cX6_value : ByteArray := prog_8_method_8_code
def yX6_value : MethodName := ⟨RX6, "value", "(I)J"⟩
abbrev cX6_score : ByteArray := prog_8_method_9_code
def yX6_score : MethodName := ⟨RX6, "score", "(LRootDuel;I)I"⟩
def RX7 : String := "RootDuelLaw$Told"
def TX7 : u_T := fun k => match k with
  | 0 => ("RootDuelLaw$Told", "s", "[I", true)
  | _ => ("RootDuelLaw$Told", "at", "I", false)
def tyX7 : Nat → FieldType := fun k => match k with
  | 0 => .array .int
  | _ => .int
abbrev wsX70 : List Cond := u_ws RX7 TX7 2
theorem nmX7 : ∀ a, a < 2 → ∀ b, b < 2 → a ≠ b → (TX7 a).2.1 ≠ (TX7 b).2.1 := by decide +kernel
theorem tyX7_ok : ∀ k, k < 2 → parseFieldDescriptor (TX7 k).2.2.1 = some (tyX7 k) := by decide +kernel
abbrev cX7_init : ByteArray := prog_9_method_1_code
def yX7_init : MethodName := ⟨RX7, "<init>", "([I)V"⟩
abbrev cX7_next : ByteArray := prog_9_method_2_code
def yX7_next : MethodName := ⟨RX7, "next", "(I)I"⟩
def RX8 : String := "RootDuelModel"
def TX8 : u_T := fun k => match k with
  | _ => ("", "", "", false)
def tyX8 : Nat → FieldType := fun k => match k with
  | _ => .int
abbrev wsX80 : List Cond := u_ws RX8 TX8 0
theorem nmX8 : ∀ a, a < 0 → ∀ b, b < 0 → a ≠ b → (TX8 a).2.1 ≠ (TX8 b).2.1 := by decide +kernel
theorem tyX8_ok : ∀ k, k < 0 → parseFieldDescriptor (TX8 k).2.2.1 = some (tyX8 k) := by decide +kernel
def RJx145de : String := "java/io/Serializable"
def TJx145de : u_T := fun k => match k with
  | _ => ("", "", "", false)
def tyJx145de : Nat → FieldType := fun k => match k with
  | _ => .int
abbrev wsJx145de0 : List Cond := u_ws RJx145de TJx145de 0
theorem nmJx145de : ∀ a, a < 0 → ∀ b, b < 0 → a ≠ b → (TJx145de a).2.1 ≠ (TJx145de b).2.1 := by decide +kernel
theorem tyJx145de_ok : ∀ k, k < 0 → parseFieldDescriptor (TJx145de k).2.2.1 = some (tyJx145de k) := by decide +kernel
def RJ5 : String := "java/lang/AbstractStringBuilder"
def TJ5 : u_T := fun k => match k with
  | _ => ("", "", "", false)
def tyJ5 : Nat → FieldType := fun k => match k with
  | _ => .int
abbrev wsJ50 : List Cond := u_ws RJ5 TJ5 0
theorem nmJ5 : ∀ a, a < 0 → ∀ b, b < 0 → a ≠ b → (TJ5 a).2.1 ≠ (TJ5 b).2.1 := by decide +kernel
theorem tyJ5_ok : ∀ k, k < 0 → parseFieldDescriptor (TJ5 k).2.2.1 = some (tyJ5 k) := by decide +kernel
abbrev cJ5_init_d00df : ByteArray := prog_12_method_2_code
def yJ5_init_d00df : MethodName := ⟨RJ5, "<init>", "(I)V"⟩
abbrev cJ5_init_a7421 : ByteArray := prog_12_method_3_code
def yJ5_init_a7421 : MethodName := ⟨RJ5, "<init>", "(Ljava/lang/String;)V"⟩
abbrev cJ5_length_8abf5 : ByteArray := prog_12_method_6_code
def yJ5_length_8abf5 : MethodName := ⟨RJ5, "length", "()I"⟩
abbrev cJ5_ensureCapacityInternal_d00df : ByteArray := prog_12_method_9_code
def yJ5_ensureCapacityInternal_d00df : MethodName := ⟨RJ5, "ensureCapacityInternal", "(I)V"⟩
abbrev cJ5_newCapacity_0f7a4 : ByteArray := prog_12_method_10_code
def yJ5_newCapacity_0f7a4 : MethodName := ⟨RJ5, "newCapacity", "(I)I"⟩
abbrev cJ5_inflate_da8c8 : ByteArray := prog_12_method_11_code
def yJ5_inflate_da8c8 : MethodName := ⟨RJ5, "inflate", "()V"⟩
abbrev cJ5_append_cf1ce : ByteArray := prog_12_method_22_code
def yJ5_append_cf1ce : MethodName := ⟨RJ5, "append", "(Ljava/lang/String;)Ljava/lang/AbstractStringBuilder;"⟩
abbrev cJ5_appendNull_278bc : ByteArray := prog_12_method_26_code
def yJ5_appendNull_278bc : MethodName := ⟨RJ5, "appendNull", "()Ljava/lang/AbstractStringBuilder;"⟩
abbrev cJ5_append_3fe6f : ByteArray := prog_12_method_31_code
def yJ5_append_3fe6f : MethodName := ⟨RJ5, "append", "(C)Ljava/lang/AbstractStringBuilder;"⟩
abbrev cJ5_append_c97b9 : ByteArray := prog_12_method_32_code
def yJ5_append_c97b9 : MethodName := ⟨RJ5, "append", "(I)Ljava/lang/AbstractStringBuilder;"⟩
abbrev cJ5_getValue_6d5f1 : ByteArray := prog_12_method_64_code
def yJ5_getValue_6d5f1 : MethodName := ⟨RJ5, "getValue", "()[B"⟩
abbrev cJ5_isLatin1_aae02 : ByteArray := prog_12_method_68_code
def yJ5_isLatin1_aae02 : MethodName := ⟨RJ5, "isLatin1", "()Z"⟩
abbrev cJ5_inflateIfNeededFor_a7421 : ByteArray := prog_12_method_71_code
def yJ5_inflateIfNeededFor_a7421 : MethodName := ⟨RJ5, "inflateIfNeededFor", "(Ljava/lang/String;)V"⟩
abbrev cJ5_putStringAt_47b60 : ByteArray := prog_12_method_73_code
def yJ5_putStringAt_47b60 : MethodName := ⟨RJ5, "putStringAt", "(ILjava/lang/String;)V"⟩
def RJx2cfe8 : String := "java/lang/Appendable"
def TJx2cfe8 : u_T := fun k => match k with
  | _ => ("", "", "", false)
def tyJx2cfe8 : Nat → FieldType := fun k => match k with
  | _ => .int
abbrev wsJx2cfe80 : List Cond := u_ws RJx2cfe8 TJx2cfe8 0
theorem nmJx2cfe8 : ∀ a, a < 0 → ∀ b, b < 0 → a ≠ b → (TJx2cfe8 a).2.1 ≠ (TJx2cfe8 b).2.1 := by decide +kernel
theorem tyJx2cfe8_ok : ∀ k, k < 0 → parseFieldDescriptor (TJx2cfe8 k).2.2.1 = some (tyJx2cfe8 k) := by decide +kernel
def RJx9f9b0 : String := "java/lang/CharSequence"
def TJx9f9b0 : u_T := fun k => match k with
  | _ => ("", "", "", false)
def tyJx9f9b0 : Nat → FieldType := fun k => match k with
  | _ => .int
abbrev wsJx9f9b00 : List Cond := u_ws RJx9f9b0 TJx9f9b0 0
theorem nmJx9f9b0 : ∀ a, a < 0 → ∀ b, b < 0 → a ≠ b → (TJx9f9b0 a).2.1 ≠ (TJx9f9b0 b).2.1 := by decide +kernel
theorem tyJx9f9b0_ok : ∀ k, k < 0 → parseFieldDescriptor (TJx9f9b0 k).2.2.1 = some (tyJx9f9b0 k) := by decide +kernel
def RJx8e188 : String := "java/lang/Cloneable"
def TJx8e188 : u_T := fun k => match k with
  | _ => ("", "", "", false)
def tyJx8e188 : Nat → FieldType := fun k => match k with
  | _ => .int
abbrev wsJx8e1880 : List Cond := u_ws RJx8e188 TJx8e188 0
theorem nmJx8e188 : ∀ a, a < 0 → ∀ b, b < 0 → a ≠ b → (TJx8e188 a).2.1 ≠ (TJx8e188 b).2.1 := by decide +kernel
theorem tyJx8e188_ok : ∀ k, k < 0 → parseFieldDescriptor (TJx8e188 k).2.2.1 = some (tyJx8e188 k) := by decide +kernel
def RJxb160c : String := "java/lang/Comparable"
def TJxb160c : u_T := fun k => match k with
  | _ => ("", "", "", false)
def tyJxb160c : Nat → FieldType := fun k => match k with
  | _ => .int
abbrev wsJxb160c0 : List Cond := u_ws RJxb160c TJxb160c 0
theorem nmJxb160c : ∀ a, a < 0 → ∀ b, b < 0 → a ≠ b → (TJxb160c a).2.1 ≠ (TJxb160c b).2.1 := by decide +kernel
theorem tyJxb160c_ok : ∀ k, k < 0 → parseFieldDescriptor (TJxb160c k).2.2.1 = some (tyJxb160c k) := by decide +kernel
def RJ6 : String := "java/lang/Integer"
def TJ6 : u_T := fun k => match k with
  | _ => ("", "", "", false)
def tyJ6 : Nat → FieldType := fun k => match k with
  | _ => .int
abbrev wsJ60 : List Cond := u_ws RJ6 TJ6 0
theorem nmJ6 : ∀ a, a < 0 → ∀ b, b < 0 → a ≠ b → (TJ6 a).2.1 ≠ (TJ6 b).2.1 := by decide +kernel
theorem tyJ6_ok : ∀ k, k < 0 → parseFieldDescriptor (TJ6 k).2.2.1 = some (tyJ6 k) := by decide +kernel
abbrev cJ6_getChars_ba4f3 : ByteArray := prog_21_method_12_code
def yJ6_getChars_ba4f3 : MethodName := ⟨RJ6, "getChars", "(II[B)I"⟩
abbrev cJ6_stringSize_0f7a4 : ByteArray := prog_21_method_13_code
def yJ6_stringSize_0f7a4 : MethodName := ⟨RJ6, "stringSize", "(I)I"⟩
def RJxab1ab : String := "java/lang/Iterable"
def TJxab1ab : u_T := fun k => match k with
  | _ => ("", "", "", false)
def tyJxab1ab : Nat → FieldType := fun k => match k with
  | _ => .int
abbrev wsJxab1ab0 : List Cond := u_ws RJxab1ab TJxab1ab 0
theorem nmJxab1ab : ∀ a, a < 0 → ∀ b, b < 0 → a ≠ b → (TJxab1ab a).2.1 ≠ (TJxab1ab b).2.1 := by decide +kernel
theorem tyJxab1ab_ok : ∀ k, k < 0 → parseFieldDescriptor (TJxab1ab k).2.2.1 = some (tyJxab1ab k) := by decide +kernel
def RJ13 : String := "java/lang/Long"
def TJ13 : u_T := fun k => match k with
  | _ => ("", "", "", false)
def tyJ13 : Nat → FieldType := fun k => match k with
  | _ => .int
abbrev wsJ130 : List Cond := u_ws RJ13 TJ13 0
theorem nmJ13 : ∀ a, a < 0 → ∀ b, b < 0 → a ≠ b → (TJ13 a).2.1 ≠ (TJ13 b).2.1 := by decide +kernel
theorem tyJ13_ok : ∀ k, k < 0 → parseFieldDescriptor (TJ13 k).2.2.1 = some (tyJ13 k) := by decide +kernel
abbrev cJ13_compare_74951 : ByteArray := prog_23_method_42_code
def yJ13_compare_74951 : MethodName := ⟨RJ13, "compare", "(JJ)I"⟩
def RJ9 : String := "java/lang/Math"
def TJ9 : u_T := fun k => match k with
  | _ => ("", "", "", false)
def tyJ9 : Nat → FieldType := fun k => match k with
  | _ => .int
abbrev wsJ90 : List Cond := u_ws RJ9 TJ9 0
theorem nmJ9 : ∀ a, a < 0 → ∀ b, b < 0 → a ≠ b → (TJ9 a).2.1 ≠ (TJ9 b).2.1 := by decide +kernel
theorem tyJ9_ok : ∀ k, k < 0 → parseFieldDescriptor (TJ9 k).2.2.1 = some (tyJ9 k) := by decide +kernel
abbrev cJ9_abs_0f7a4 : ByteArray := prog_24_method_59_code
def yJ9_abs_0f7a4 : MethodName := ⟨RJ9, "abs", "(I)I"⟩
abbrev cJ9_abs_067f4 : ByteArray := prog_24_method_61_code
def yJ9_abs_067f4 : MethodName := ⟨RJ9, "abs", "(J)J"⟩
abbrev cJ9_max_7cf53 : ByteArray := prog_24_method_65_code
def yJ9_max_7cf53 : MethodName := ⟨RJ9, "max", "(II)I"⟩
abbrev cJ9_min_7cf53 : ByteArray := prog_24_method_69_code
def yJ9_min_7cf53 : MethodName := ⟨RJ9, "min", "(II)I"⟩
def RJxd2413 : String := "java/lang/Number"
def TJxd2413 : u_T := fun k => match k with
  | _ => ("", "", "", false)
def tyJxd2413 : Nat → FieldType := fun k => match k with
  | _ => .int
abbrev wsJxd24130 : List Cond := u_ws RJxd2413 TJxd2413 0
theorem nmJxd2413 : ∀ a, a < 0 → ∀ b, b < 0 → a ≠ b → (TJxd2413 a).2.1 ≠ (TJxd2413 b).2.1 := by decide +kernel
theorem tyJxd2413_ok : ∀ k, k < 0 → parseFieldDescriptor (TJxd2413 k).2.2.1 = some (tyJxd2413 k) := by decide +kernel
def RJ0 : String := "java/lang/String"
def TJ0 : u_T := fun k => match k with
  | 0 => ("java/lang/String", "value", "[B", true)
  | 1 => ("java/lang/String", "coder", "B", true)
  | 2 => ("java/lang/String", "hash", "I", false)
  | _ => ("java/lang/String", "hashIsZero", "Z", false)
def tyJ0 : Nat → FieldType := fun k => match k with
  | 0 => .array .byte
  | 1 => .byte
  | 2 => .int
  | _ => .boolean
abbrev wsJ00 : List Cond := u_ws RJ0 TJ0 4
theorem nmJ0 : ∀ a, a < 4 → ∀ b, b < 4 → a ≠ b → (TJ0 a).2.1 ≠ (TJ0 b).2.1 := by decide +kernel
theorem tyJ0_ok : ∀ k, k < 4 → parseFieldDescriptor (TJ0 k).2.2.1 = some (tyJ0 k) := by decide +kernel
abbrev cJ0_init_81219 : ByteArray := prog_27_method_53_code
def yJ0_init_81219 : MethodName := ⟨RJ0, "<init>", "(Ljava/lang/StringBuilder;)V"⟩
abbrev cJ0_length_8abf5 : ByteArray := prog_27_method_54_code
def yJ0_length_8abf5 : MethodName := ⟨RJ0, "length", "()I"⟩
abbrev cJ0_charAt_5068e : ByteArray := prog_27_method_56_code
def yJ0_charAt_5068e : MethodName := ⟨RJ0, "charAt", "(I)C"⟩
abbrev cJ0_getBytes_840e7 : ByteArray := prog_27_method_147_code
def yJ0_getBytes_840e7 : MethodName := ⟨RJ0, "getBytes", "([BIB)V"⟩
abbrev cJ0_init_db425 : ByteArray := prog_27_method_150_code
def yJ0_init_db425 : MethodName := ⟨RJ0, "<init>", "(Ljava/lang/AbstractStringBuilder;Ljava/lang/Void;)V"⟩
abbrev cJ0_coder_7d493 : ByteArray := prog_27_method_152_code
def yJ0_coder_7d493 : MethodName := ⟨RJ0, "coder", "()B"⟩
abbrev cJ0_isLatin1_aae02 : ByteArray := prog_27_method_154_code
def yJ0_isLatin1_aae02 : MethodName := ⟨RJ0, "isLatin1", "()Z"⟩
abbrev cJ0_checkIndex_df160 : ByteArray := prog_27_method_155_code
def yJ0_checkIndex_df160 : MethodName := ⟨RJ0, "checkIndex", "(II)V"⟩
abbrev cJ0_checkBoundsOffCount_cabcc : ByteArray := prog_27_method_157_code
def yJ0_checkBoundsOffCount_cabcc : MethodName := ⟨RJ0, "checkBoundsOffCount", "(III)I"⟩
abbrev cJ0_checkBoundsBeginEnd_23922 : ByteArray := prog_27_method_158_code
def yJ0_checkBoundsBeginEnd_23922 : MethodName := ⟨RJ0, "checkBoundsBeginEnd", "(III)V"⟩
def RJ4 : String := "java/lang/StringBuilder"
def TJ4 : u_T := fun k => match k with
  | 0 => ("java/lang/AbstractStringBuilder", "value", "[B", false)
  | 1 => ("java/lang/AbstractStringBuilder", "coder", "B", false)
  | 2 => ("java/lang/AbstractStringBuilder", "maybeLatin1", "Z", false)
  | _ => ("java/lang/AbstractStringBuilder", "count", "I", false)
def tyJ4 : Nat → FieldType := fun k => match k with
  | 0 => .array .byte
  | 1 => .byte
  | 2 => .boolean
  | _ => .int
abbrev wsJ40 : List Cond := u_ws RJ4 TJ4 4
theorem nmJ4 : ∀ a, a < 4 → ∀ b, b < 4 → a ≠ b → (TJ4 a).2.1 ≠ (TJ4 b).2.1 := by decide +kernel
theorem tyJ4_ok : ∀ k, k < 4 → parseFieldDescriptor (TJ4 k).2.2.1 = some (tyJ4 k) := by decide +kernel
abbrev cJ4_init_da8c8 : ByteArray := prog_28_method_1_code
def yJ4_init_da8c8 : MethodName := ⟨RJ4, "<init>", "()V"⟩
abbrev cJ4_init_a7421 : ByteArray := prog_28_method_3_code
def yJ4_init_a7421 : MethodName := ⟨RJ4, "<init>", "(Ljava/lang/String;)V"⟩
abbrev cJ4_append_15ec4 : ByteArray := prog_28_method_7_code
def yJ4_append_15ec4 : MethodName := ⟨RJ4, "append", "(Ljava/lang/String;)Ljava/lang/StringBuilder;"⟩
abbrev cJ4_append_cf468 : ByteArray := prog_28_method_14_code
def yJ4_append_cf468 : MethodName := ⟨RJ4, "append", "(C)Ljava/lang/StringBuilder;"⟩
abbrev cJ4_append_bf812 : ByteArray := prog_28_method_15_code
def yJ4_append_bf812 : MethodName := ⟨RJ4, "append", "(I)Ljava/lang/StringBuilder;"⟩
abbrev cJ4_toString_0e30d : ByteArray := prog_28_method_42_code
def yJ4_toString_0e30d : MethodName := ⟨RJ4, "toString", "()Ljava/lang/String;"⟩
abbrev cJ4_append_cf1ce : ByteArray := prog_28_method_80_code
def yJ4_append_cf1ce : MethodName := ⟨RJ4, "append", "(Ljava/lang/String;)Ljava/lang/AbstractStringBuilder;"⟩
abbrev cJ4_length_8abf5 : ByteArray := prog_28_method_93_code
def yJ4_length_8abf5 : MethodName := ⟨RJ4, "length", "()I"⟩
def RJ1 : String := "java/lang/StringLatin1"
def TJ1 : u_T := fun k => match k with
  | _ => ("", "", "", false)
def tyJ1 : Nat → FieldType := fun k => match k with
  | _ => .int
abbrev wsJ10 : List Cond := u_ws RJ1 TJ1 0
theorem nmJ1 : ∀ a, a < 0 → ∀ b, b < 0 → a ≠ b → (TJ1 a).2.1 ≠ (TJ1 b).2.1 := by decide +kernel
theorem tyJ1_ok : ∀ k, k < 0 → parseFieldDescriptor (TJ1 k).2.2.1 = some (tyJ1 k) := by decide +kernel
abbrev cJ1_charAt_3b067 : ByteArray := prog_29_method_2_code
def yJ1_charAt_3b067 : MethodName := ⟨RJ1, "charAt", "([BI)C"⟩
abbrev cJ1_canEncode_fc78d : ByteArray := prog_29_method_3_code
def yJ1_canEncode_fc78d : MethodName := ⟨RJ1, "canEncode", "(C)Z"⟩
abbrev cJ1_inflate_0e8fd : ByteArray := prog_29_method_50_code
def yJ1_inflate_0e8fd : MethodName := ⟨RJ1, "inflate", "([BI[BII)V"⟩
def RJ2 : String := "java/lang/StringUTF16"
def TJ2 : u_T := fun k => match k with
  | _ => ("", "", "", false)
def tyJ2 : Nat → FieldType := fun k => match k with
  | _ => .int
abbrev wsJ20 : List Cond := u_ws RJ2 TJ2 0
theorem nmJ2 : ∀ a, a < 0 → ∀ b, b < 0 → a ≠ b → (TJ2 a).2.1 ≠ (TJ2 b).2.1 := by decide +kernel
theorem tyJ2_ok : ∀ k, k < 0 → parseFieldDescriptor (TJ2 k).2.2.1 = some (tyJ2 k) := by decide +kernel
abbrev cJ2_newBytesFor_77867 : ByteArray := prog_30_method_2_code
def yJ2_newBytesFor_77867 : MethodName := ⟨RJ2, "newBytesFor", "(I)[B"⟩
abbrev cJ2_newBytesLength_0f7a4 : ByteArray := prog_30_method_3_code
def yJ2_newBytesLength_0f7a4 : MethodName := ⟨RJ2, "newBytesLength", "(I)I"⟩
abbrev cJ2_putChar_b72d1 : ByteArray := prog_30_method_4_code
def yJ2_putChar_b72d1 : MethodName := ⟨RJ2, "putChar", "([BII)V"⟩
abbrev cJ2_getChar_3b067 : ByteArray := prog_30_method_5_code
def yJ2_getChar_3b067 : MethodName := ⟨RJ2, "getChar", "([BI)C"⟩
abbrev cJ2_length_9d52b : ByteArray := prog_30_method_6_code
def yJ2_length_9d52b : MethodName := ⟨RJ2, "length", "([B)I"⟩
abbrev cJ2_coderFromArrayLen_85cad : ByteArray := prog_30_method_15_code
def yJ2_coderFromArrayLen_85cad : MethodName := ⟨RJ2, "coderFromArrayLen", "([BI)B"⟩
abbrev cJ2_compress_39247 : ByteArray := prog_30_method_17_code
def yJ2_compress_39247 : MethodName := ⟨RJ2, "compress", "([BII)[B"⟩
abbrev cJ2_compress_5af95 : ByteArray := prog_30_method_22_code
def yJ2_compress_5af95 : MethodName := ⟨RJ2, "compress", "([BI[BII)I"⟩
abbrev cJ2_putCharSB_b72d1 : ByteArray := prog_30_method_71_code
def yJ2_putCharSB_b72d1 : MethodName := ⟨RJ2, "putCharSB", "([BII)V"⟩
abbrev cJ2_getChars_46870 : ByteArray := prog_30_method_77_code
def yJ2_getChars_46870 : MethodName := ⟨RJ2, "getChars", "(III[B)I"⟩
abbrev cJ2_putCharsAt_cd4e5 : ByteArray := prog_30_method_81_code
def yJ2_putCharsAt_cd4e5 : MethodName := ⟨RJ2, "putCharsAt", "([BICCCC)I"⟩
abbrev cJ2_charAt_3b067 : ByteArray := prog_30_method_83_code
def yJ2_charAt_3b067 : MethodName := ⟨RJ2, "charAt", "([BI)C"⟩
abbrev cJ2_inflate_0e8fd : ByteArray := prog_30_method_86_code
def yJ2_inflate_0e8fd : MethodName := ⟨RJ2, "inflate", "([BI[BII)V"⟩
abbrev cJ2_getChars_ba4f3 : ByteArray := prog_30_method_89_code
def yJ2_getChars_ba4f3 : MethodName := ⟨RJ2, "getChars", "(II[B)I"⟩
abbrev cJ2_checkIndex_2214a : ByteArray := prog_30_method_91_code
def yJ2_checkIndex_2214a : MethodName := ⟨RJ2, "checkIndex", "(I[B)V"⟩
abbrev cJ2_checkBoundsBeginEnd_d044e : ByteArray := prog_30_method_93_code
def yJ2_checkBoundsBeginEnd_d044e : MethodName := ⟨RJ2, "checkBoundsBeginEnd", "(II[B)V"⟩
abbrev cJ2_checkBoundsOffCount_d044e : ByteArray := prog_30_method_94_code
def yJ2_checkBoundsOffCount_d044e : MethodName := ⟨RJ2, "checkBoundsOffCount", "(II[B)V"⟩
def RJ10 : String := "java/lang/System"
def TJ10 : u_T := fun k => match k with
  | _ => ("", "", "", false)
def tyJ10 : Nat → FieldType := fun k => match k with
  | _ => .int
abbrev wsJ100 : List Cond := u_ws RJ10 TJ10 0
theorem nmJ10 : ∀ a, a < 0 → ∀ b, b < 0 → a ≠ b → (TJ10 a).2.1 ≠ (TJ10 b).2.1 := by decide +kernel
theorem tyJ10_ok : ∀ k, k < 0 → parseFieldDescriptor (TJ10 k).2.2.1 = some (tyJ10 k) := by decide +kernel
def RJxfd54e : String := "java/lang/constant/Constable"
def TJxfd54e : u_T := fun k => match k with
  | _ => ("", "", "", false)
def tyJxfd54e : Nat → FieldType := fun k => match k with
  | _ => .int
abbrev wsJxfd54e0 : List Cond := u_ws RJxfd54e TJxfd54e 0
theorem nmJxfd54e : ∀ a, a < 0 → ∀ b, b < 0 → a ≠ b → (TJxfd54e a).2.1 ≠ (TJxfd54e b).2.1 := by decide +kernel
theorem tyJxfd54e_ok : ∀ k, k < 0 → parseFieldDescriptor (TJxfd54e k).2.2.1 = some (tyJxfd54e k) := by decide +kernel
def RJx3cf43 : String := "java/lang/constant/ConstantDesc"
def TJx3cf43 : u_T := fun k => match k with
  | _ => ("", "", "", false)
def tyJx3cf43 : Nat → FieldType := fun k => match k with
  | _ => .int
abbrev wsJx3cf430 : List Cond := u_ws RJx3cf43 TJx3cf43 0
theorem nmJx3cf43 : ∀ a, a < 0 → ∀ b, b < 0 → a ≠ b → (TJx3cf43 a).2.1 ≠ (TJx3cf43 b).2.1 := by decide +kernel
theorem tyJx3cf43_ok : ∀ k, k < 0 → parseFieldDescriptor (TJx3cf43 k).2.2.1 = some (tyJx3cf43 k) := by decide +kernel
def RJxa1e45 : String := "java/util/AbstractCollection"
def TJxa1e45 : u_T := fun k => match k with
  | _ => ("", "", "", false)
def tyJxa1e45 : Nat → FieldType := fun k => match k with
  | _ => .int
abbrev wsJxa1e450 : List Cond := u_ws RJxa1e45 TJxa1e45 0
theorem nmJxa1e45 : ∀ a, a < 0 → ∀ b, b < 0 → a ≠ b → (TJxa1e45 a).2.1 ≠ (TJxa1e45 b).2.1 := by decide +kernel
theorem tyJxa1e45_ok : ∀ k, k < 0 → parseFieldDescriptor (TJxa1e45 k).2.2.1 = some (tyJxa1e45 k) := by decide +kernel
abbrev cJxa1e45_init_da8c8 : ByteArray := prog_35_method_1_code
def yJxa1e45_init_da8c8 : MethodName := ⟨RJxa1e45, "<init>", "()V"⟩
def RJxc12de : String := "java/util/AbstractList"
def TJxc12de : u_T := fun k => match k with
  | _ => ("", "", "", false)
def tyJxc12de : Nat → FieldType := fun k => match k with
  | _ => .int
abbrev wsJxc12de0 : List Cond := u_ws RJxc12de TJxc12de 0
theorem nmJxc12de : ∀ a, a < 0 → ∀ b, b < 0 → a ≠ b → (TJxc12de a).2.1 ≠ (TJxc12de b).2.1 := by decide +kernel
theorem tyJxc12de_ok : ∀ k, k < 0 → parseFieldDescriptor (TJxc12de k).2.2.1 = some (tyJxc12de k) := by decide +kernel
abbrev cJxc12de_init_da8c8 : ByteArray := prog_36_method_1_code
def yJxc12de_init_da8c8 : MethodName := ⟨RJxc12de, "<init>", "()V"⟩
def RJx35411 : String := "java/util/ArrayList$Itr"
def TJx35411 : u_T := fun k => match k with
  | 0 => ("java/util/ArrayList$Itr", "cursor", "I", false)
  | 1 => ("java/util/ArrayList$Itr", "lastRet", "I", false)
  | 2 => ("java/util/ArrayList$Itr", "expectedModCount", "I", false)
  | _ => ("java/util/ArrayList$Itr", "this$0", "Ljava/util/ArrayList;", true)
def tyJx35411 : Nat → FieldType := fun k => match k with
  | 0 => .int
  | 1 => .int
  | 2 => .int
  | _ => .object "java/util/ArrayList"
abbrev wsJx354110 : List Cond := u_ws RJx35411 TJx35411 4
theorem nmJx35411 : ∀ a, a < 4 → ∀ b, b < 4 → a ≠ b → (TJx35411 a).2.1 ≠ (TJx35411 b).2.1 := by decide +kernel
theorem tyJx35411_ok : ∀ k, k < 4 → parseFieldDescriptor (TJx35411 k).2.2.1 = some (tyJx35411 k) := by decide +kernel
abbrev cJx35411_init_45d68 : ByteArray := prog_38_method_1_code
def yJx35411_init_45d68 : MethodName := ⟨RJx35411, "<init>", "(Ljava/util/ArrayList;)V"⟩
abbrev cJx35411_hasNext_aae02 : ByteArray := prog_38_method_2_code
def yJx35411_hasNext_aae02 : MethodName := ⟨RJx35411, "hasNext", "()Z"⟩
abbrev cJx35411_next_0502b : ByteArray := prog_38_method_3_code
def yJx35411_next_0502b : MethodName := ⟨RJx35411, "next", "()Ljava/lang/Object;"⟩
abbrev cJx35411_checkForComodification_da8c8 : ByteArray := prog_38_method_6_code
def yJx35411_checkForComodification_da8c8 : MethodName := ⟨RJx35411, "checkForComodification", "()V"⟩
def RJx4a65c : String := "java/util/ArrayList"
def TJx4a65c : u_T := fun k => match k with
  | 0 => ("java/util/AbstractList", "modCount", "I", false)
  | 1 => ("java/util/ArrayList", "elementData", "[Ljava/lang/Object;", false)
  | _ => ("java/util/ArrayList", "size", "I", false)
def tyJx4a65c : Nat → FieldType := fun k => match k with
  | 0 => .int
  | 1 => .array (.object "java/lang/Object")
  | _ => .int
abbrev wsJx4a65c0 : List Cond := u_ws RJx4a65c TJx4a65c 3
theorem nmJx4a65c : ∀ a, a < 3 → ∀ b, b < 3 → a ≠ b → (TJx4a65c a).2.1 ≠ (TJx4a65c b).2.1 := by decide +kernel
theorem tyJx4a65c_ok : ∀ k, k < 3 → parseFieldDescriptor (TJx4a65c k).2.2.1 = some (tyJx4a65c k) := by decide +kernel
abbrev cJx4a65c_init_da8c8 : ByteArray := prog_37_method_2_code
def yJx4a65c_init_da8c8 : MethodName := ⟨RJx4a65c, "<init>", "()V"⟩
abbrev cJx4a65c_grow_92f84 : ByteArray := prog_37_method_6_code
def yJx4a65c_grow_92f84 : MethodName := ⟨RJx4a65c, "grow", "(I)[Ljava/lang/Object;"⟩
abbrev cJx4a65c_grow_d5877 : ByteArray := prog_37_method_7_code
def yJx4a65c_grow_d5877 : MethodName := ⟨RJx4a65c, "grow", "()[Ljava/lang/Object;"⟩
abbrev cJx4a65c_size_8abf5 : ByteArray := prog_37_method_8_code
def yJx4a65c_size_8abf5 : MethodName := ⟨RJx4a65c, "size", "()I"⟩
abbrev cJx4a65c_elementData_915e3 : ByteArray := prog_37_method_18_code
def yJx4a65c_elementData_915e3 : MethodName := ⟨RJx4a65c, "elementData", "(I)Ljava/lang/Object;"⟩
abbrev cJx4a65c_get_915e3 : ByteArray := prog_37_method_20_code
def yJx4a65c_get_915e3 : MethodName := ⟨RJx4a65c, "get", "(I)Ljava/lang/Object;"⟩
abbrev cJx4a65c_add_72be8 : ByteArray := prog_37_method_24_code
def yJx4a65c_add_72be8 : MethodName := ⟨RJx4a65c, "add", "(Ljava/lang/Object;[Ljava/lang/Object;I)V"⟩
abbrev cJx4a65c_add_9ea2d : ByteArray := prog_37_method_25_code
def yJx4a65c_add_9ea2d : MethodName := ⟨RJx4a65c, "add", "(Ljava/lang/Object;)Z"⟩
abbrev cJx4a65c_iterator_32c93 : ByteArray := prog_37_method_55_code
def yJx4a65c_iterator_32c93 : MethodName := ⟨RJx4a65c, "iterator", "()Ljava/util/Iterator;"⟩
def RJ7 : String := "java/util/Arrays"
def TJ7 : u_T := fun k => match k with
  | _ => ("", "", "", false)
def tyJ7 : Nat → FieldType := fun k => match k with
  | _ => .int
abbrev wsJ70 : List Cond := u_ws RJ7 TJ7 0
theorem nmJ7 : ∀ a, a < 0 → ∀ b, b < 0 → a ≠ b → (TJ7 a).2.1 ≠ (TJ7 b).2.1 := by decide +kernel
theorem tyJ7_ok : ∀ k, k < 0 → parseFieldDescriptor (TJ7 k).2.2.1 = some (tyJ7 k) := by decide +kernel
abbrev cJ7_copyOf_1904c : ByteArray := prog_39_method_119_code
def yJ7_copyOf_1904c : MethodName := ⟨RJ7, "copyOf", "([Ljava/lang/Object;I)[Ljava/lang/Object;"⟩
abbrev cJ7_copyOf_6403c : ByteArray := prog_39_method_120_code
def yJ7_copyOf_6403c : MethodName := ⟨RJ7, "copyOf", "([Ljava/lang/Object;ILjava/lang/Class;)[Ljava/lang/Object;"⟩
abbrev cJ7_copyOf_9075b : ByteArray := prog_39_method_121_code
def yJ7_copyOf_9075b : MethodName := ⟨RJ7, "copyOf", "([BI)[B"⟩
abbrev cJ7_checkLength_df160 : ByteArray := prog_39_method_131_code
def yJ7_checkLength_df160 : MethodName := ⟨RJ7, "checkLength", "(II)V"⟩
abbrev cJ7_copyOfRange_39247 : ByteArray := prog_39_method_132_code
def yJ7_copyOfRange_39247 : MethodName := ⟨RJ7, "copyOfRange", "([BII)[B"⟩
abbrev cJ7_copyOfRangeByte_39247 : ByteArray := prog_39_method_133_code
def yJ7_copyOfRangeByte_39247 : MethodName := ⟨RJ7, "copyOfRangeByte", "([BII)[B"⟩
def RJx5ef63 : String := "java/util/Collection"
def TJx5ef63 : u_T := fun k => match k with
  | _ => ("", "", "", false)
def tyJx5ef63 : Nat → FieldType := fun k => match k with
  | _ => .int
abbrev wsJx5ef630 : List Cond := u_ws RJx5ef63 TJx5ef63 0
theorem nmJx5ef63 : ∀ a, a < 0 → ∀ b, b < 0 → a ≠ b → (TJx5ef63 a).2.1 ≠ (TJx5ef63 b).2.1 := by decide +kernel
theorem tyJx5ef63_ok : ∀ k, k < 0 → parseFieldDescriptor (TJx5ef63 k).2.2.1 = some (tyJx5ef63 k) := by decide +kernel
def RJx4d0d8 : String := "java/util/Iterator"
def TJx4d0d8 : u_T := fun k => match k with
  | _ => ("", "", "", false)
def tyJx4d0d8 : Nat → FieldType := fun k => match k with
  | _ => .int
abbrev wsJx4d0d80 : List Cond := u_ws RJx4d0d8 TJx4d0d8 0
theorem nmJx4d0d8 : ∀ a, a < 0 → ∀ b, b < 0 → a ≠ b → (TJx4d0d8 a).2.1 ≠ (TJx4d0d8 b).2.1 := by decide +kernel
theorem tyJx4d0d8_ok : ∀ k, k < 0 → parseFieldDescriptor (TJx4d0d8 k).2.2.1 = some (tyJx4d0d8 k) := by decide +kernel
def RJxbd725 : String := "java/util/List"
def TJxbd725 : u_T := fun k => match k with
  | _ => ("", "", "", false)
def tyJxbd725 : Nat → FieldType := fun k => match k with
  | _ => .int
abbrev wsJxbd7250 : List Cond := u_ws RJxbd725 TJxbd725 0
theorem nmJxbd725 : ∀ a, a < 0 → ∀ b, b < 0 → a ≠ b → (TJxbd725 a).2.1 ≠ (TJxbd725 b).2.1 := by decide +kernel
theorem tyJxbd725_ok : ∀ k, k < 0 → parseFieldDescriptor (TJxbd725 k).2.2.1 = some (tyJxbd725 k) := by decide +kernel
def RJ15 : String := "java/util/Objects"
def TJ15 : u_T := fun k => match k with
  | _ => ("", "", "", false)
def tyJ15 : Nat → FieldType := fun k => match k with
  | _ => .int
abbrev wsJ150 : List Cond := u_ws RJ15 TJ15 0
theorem nmJ15 : ∀ a, a < 0 → ∀ b, b < 0 → a ≠ b → (TJ15 a).2.1 ≠ (TJ15 b).2.1 := by decide +kernel
theorem tyJ15_ok : ∀ k, k < 0 → parseFieldDescriptor (TJ15 k).2.2.1 = some (tyJ15 k) := by decide +kernel
abbrev cJ15_checkIndex_7cf53 : ByteArray := prog_43_method_17_code
def yJ15_checkIndex_7cf53 : MethodName := ⟨RJ15, "checkIndex", "(II)I"⟩
def RJxf0a74 : String := "java/util/RandomAccess"
def TJxf0a74 : u_T := fun k => match k with
  | _ => ("", "", "", false)
def tyJxf0a74 : Nat → FieldType := fun k => match k with
  | _ => .int
abbrev wsJxf0a740 : List Cond := u_ws RJxf0a74 TJxf0a74 0
theorem nmJxf0a74 : ∀ a, a < 0 → ∀ b, b < 0 → a ≠ b → (TJxf0a74 a).2.1 ≠ (TJxf0a74 b).2.1 := by decide +kernel
theorem tyJxf0a74_ok : ∀ k, k < 0 → parseFieldDescriptor (TJxf0a74 k).2.2.1 = some (tyJxf0a74 k) := by decide +kernel
def RJxa66e6 : String := "java/util/SequencedCollection"
def TJxa66e6 : u_T := fun k => match k with
  | _ => ("", "", "", false)
def tyJxa66e6 : Nat → FieldType := fun k => match k with
  | _ => .int
abbrev wsJxa66e60 : List Cond := u_ws RJxa66e6 TJxa66e6 0
theorem nmJxa66e6 : ∀ a, a < 0 → ∀ b, b < 0 → a ≠ b → (TJxa66e6 a).2.1 ≠ (TJxa66e6 b).2.1 := by decide +kernel
theorem tyJxa66e6_ok : ∀ k, k < 0 → parseFieldDescriptor (TJxa66e6 k).2.2.1 = some (tyJxa66e6 k) := by decide +kernel
def RJ8 : String := "jdk/internal/util/ArraysSupport"
def TJ8 : u_T := fun k => match k with
  | _ => ("", "", "", false)
def tyJ8 : Nat → FieldType := fun k => match k with
  | _ => .int
abbrev wsJ80 : List Cond := u_ws RJ8 TJ8 0
theorem nmJ8 : ∀ a, a < 0 → ∀ b, b < 0 → a ≠ b → (TJ8 a).2.1 ≠ (TJ8 b).2.1 := by decide +kernel
theorem tyJ8_ok : ∀ k, k < 0 → parseFieldDescriptor (TJ8 k).2.2.1 = some (tyJ8 k) := by decide +kernel
abbrev cJ8_newLength_cabcc : ByteArray := prog_46_method_27_code
def yJ8_newLength_cabcc : MethodName := ⟨RJ8, "newLength", "(III)I"⟩
abbrev cJ8_hugeLength_7cf53 : ByteArray := prog_46_method_28_code
def yJ8_hugeLength_7cf53 : MethodName := ⟨RJ8, "hugeLength", "(II)I"⟩
def RJ3 : String := "jdk/internal/util/Preconditions"
def TJ3 : u_T := fun k => match k with
  | _ => ("", "", "", false)
def tyJ3 : Nat → FieldType := fun k => match k with
  | _ => .int
abbrev wsJ30 : List Cond := u_ws RJ3 TJ3 0
theorem nmJ3 : ∀ a, a < 0 → ∀ b, b < 0 → a ≠ b → (TJ3 a).2.1 ≠ (TJ3 b).2.1 := by decide +kernel
theorem tyJ3_ok : ∀ k, k < 0 → parseFieldDescriptor (TJ3 k).2.2.1 = some (tyJ3 k) := by decide +kernel
abbrev cJ3_checkIndex_8e157 : ByteArray := prog_47_method_11_code
def yJ3_checkIndex_8e157 : MethodName := ⟨RJ3, "checkIndex", "(IILjava/util/function/BiFunction;)I"⟩
abbrev cJ3_checkFromToIndex_8c36e : ByteArray := prog_47_method_12_code
def yJ3_checkFromToIndex_8c36e : MethodName := ⟨RJ3, "checkFromToIndex", "(IIILjava/util/function/BiFunction;)I"⟩
abbrev cJ3_checkFromIndexSize_8c36e : ByteArray := prog_47_method_13_code
def yJ3_checkFromIndexSize_8c36e : MethodName := ⟨RJ3, "checkFromIndexSize", "(IIILjava/util/function/BiFunction;)I"⟩
def RL : String := "RootDuelLaw"
abbrev cL_pick : ByteArray := method_2_code
def yL_pick : MethodName := ⟨RL, "pick", "([II)I"⟩
abbrev cL_puts : ByteArray := method_3_code
def yL_puts : MethodName := ⟨RL, "puts", "(LRootDuel;Ljava/lang/String;)V"⟩
abbrev cL_sign : ByteArray := method_4_code
def yL_sign : MethodName := ⟨RL, "sign", "(J)I"⟩
abbrev cL_fine : ByteArray := method_5_code
def yL_fine : MethodName := ⟨RL, "fine", "(LRootDuelLaw$Contest;I)J"⟩
abbrev cL_areRoots : ByteArray := method_6_code
def yL_areRoots : MethodName := ⟨RL, "areRoots", "(LRootDuel;LRootDuelLaw$Contest;)Z"⟩
abbrev cL_isBest : ByteArray := method_7_code
def yL_isBest : MethodName := ⟨RL, "isBest", "(LRootDuel;LRootDuelLaw$Contest;)Z"⟩
abbrev cL_law : ByteArray := code
def yL_law : MethodName := ⟨RL, "law", "([I)Z"⟩
def lw_exm : List MethodName := [⟨"java/lang/AbstractStringBuilder", "ensureCapacityInternal", "(I)V"⟩, ⟨"java/lang/AbstractStringBuilder", "newCapacity", "(I)I"⟩, ⟨"java/lang/AbstractStringBuilder", "putStringAt", "(ILjava/lang/String;)V"⟩, ⟨"java/lang/AbstractStringBuilder", "inflateIfNeededFor", "(Ljava/lang/String;)V"⟩]
def lw_ex : List Cond := lw_exm.map (fun y => .selects "java/lang/StringBuilder" y y)
/-- the tables' words that hold in every state of the run, with those that private methods of StringBuilder's superclass are selected for it -/
def wsL_law : List Cond := (lw_tbl ++ lw_ex).filter goodWord
theorem wsL_law_in : ∀ w ∈ wsL_law, w ∈ lw_tbl ++ lw_ex := fun _ h => (List.mem_filter.mp h).1
theorem wsL_GoodIn : GoodIn wsL_law wsL_law := fun w hw => ⟨hw, good_of_word (List.mem_filter.mp hw).2⟩
theorem big_of {w : Cond} (i : Nat) (h : tables_1[i]? = some w) (g : goodWord w = true) : w ∈ wsL_law := List.mem_filter.mpr ⟨List.mem_append_left _ (List.mem_append_right _ (List.mem_of_getElem? h)), g⟩
theorem big_sel {w : Cond} (i : Nat) (h : (k2_sels lw_privs)[i]? = some w) (g : goodWord w = true) : w ∈ wsL_law := List.mem_filter.mpr ⟨List.mem_append_left _ (List.mem_append_left _ (List.mem_of_getElem? h)), g⟩
abbrev vwCl : List vw_C := [(RX0, TX0, 9), (RX1, TX1, 2), (RX2, TX2, 13), (RX3, TX3, 4), (RX4, TX4, 9), (RX5, TX5, 5), (RX6, TX6, 14), (RX7, TX7, 2), (RJ4, TJ4, 4), (RJ0, TJ0, 4), (RJx4a65c, TJx4a65c, 3), (RJx35411, TJx35411, 4)]
theorem inX0 : ∀ w ∈ wsX00, w ∈ wsL_law := by decide +kernel
theorem inX1 : ∀ w ∈ wsX10, w ∈ wsL_law := by decide +kernel
theorem inX2 : ∀ w ∈ wsX20, w ∈ wsL_law := by decide +kernel
theorem inX3 : ∀ w ∈ wsX30, w ∈ wsL_law := by decide +kernel
theorem inX4 : ∀ w ∈ wsX40, w ∈ wsL_law := by decide +kernel
theorem inX5 : ∀ w ∈ wsX50, w ∈ wsL_law := by decide +kernel
theorem inX6 : ∀ w ∈ wsX60, w ∈ wsL_law := by decide +kernel
theorem inX7 : ∀ w ∈ wsX70, w ∈ wsL_law := by decide +kernel
theorem inJ4 : ∀ w ∈ wsJ40, w ∈ wsL_law := by decide +kernel
theorem inJ0 : ∀ w ∈ wsJ00, w ∈ wsL_law := by decide +kernel
theorem inJx4a65c : ∀ w ∈ wsJx4a65c0, w ∈ wsL_law := by decide +kernel
theorem inJx35411 : ∀ w ∈ wsJx354110, w ∈ wsL_law := by decide +kernel
