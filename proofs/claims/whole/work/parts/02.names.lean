def RX0 : String := "EngineVersions$Cells"
def TX0 : u_T := fun k => match k with
  | _ => ("EngineVersions$Cells", "values", "[J", true)
def tyX0 : Nat → FieldType := fun k => match k with
  | _ => .array .long
theorem nmX0 : ∀ a, a < 1 → ∀ b, b < 1 → a ≠ b → (TX0 a).2.1 ≠ (TX0 b).2.1 := by decide +kernel
theorem tyX0_ok : ∀ k, k < 1 → parseFieldDescriptor (TX0 k).2.2.1 = some (tyX0 k) := by decide +kernel
abbrev cX0_init : ByteArray := prog_2_method_1_code
def yX0_init : MethodName := ⟨RX0, "<init>", "()V"⟩
abbrev cX0_valueOf : ByteArray := prog_2_method_2_code
def yX0_valueOf : MethodName := ⟨RX0, "valueOf", "(I)J"⟩
abbrev cX0_store : ByteArray := prog_2_method_3_code
def yX0_store : MethodName := ⟨RX0, "store", "(IJ)V"⟩
abbrev cX0_clear : ByteArray := prog_2_method_4_code
def yX0_clear : MethodName := ⟨RX0, "clear", "()V"⟩
abbrev cX0_becomeLike : ByteArray := prog_2_method_5_code
def yX0_becomeLike : MethodName := ⟨RX0, "becomeLike", "(LEngineVersions$Cells;)V"⟩
abbrev cX0_digestBehind : ByteArray := prog_2_method_6_code
def yX0_digestBehind : MethodName := ⟨RX0, "digestBehind", "(II)I"⟩
def RX1 : String := "EngineVersions$Contract"
def TX1 : u_T := fun k => match k with
  | 0 => ("EngineVersions$Contract", "acts", "[I", true)
  | 1 => ("EngineVersions$Contract", "numbers", "[I", true)
  | 2 => ("EngineVersions$Contract", "cells", "LEngineVersions$Cells;", true)
  | 3 => ("EngineVersions$Contract", "replayCells", "LEngineVersions$Cells;", true)
  | 4 => ("EngineVersions$Contract", "size", "I", false)
  | _ => ("EngineVersions$Contract", "kept", "LEngineVersions$Edition;", false)
def tyX1 : Nat → FieldType := fun k => match k with
  | 0 => .array .int
  | 1 => .array .int
  | 2 => .object "EngineVersions$Cells"
  | 3 => .object "EngineVersions$Cells"
  | 4 => .int
  | _ => .object "EngineVersions$Edition"
theorem nmX1 : ∀ a, a < 6 → ∀ b, b < 6 → a ≠ b → (TX1 a).2.1 ≠ (TX1 b).2.1 := by decide +kernel
theorem tyX1_ok : ∀ k, k < 6 → parseFieldDescriptor (TX1 k).2.2.1 = some (tyX1 k) := by decide +kernel
abbrev cX1_init : ByteArray := prog_3_method_1_code
def yX1_init : MethodName := ⟨RX1, "<init>", "()V"⟩
abbrev cX1_add : ByteArray := prog_3_method_2_code
def yX1_add : MethodName := ⟨RX1, "add", "(II)V"⟩
abbrev cX1_ruleBrokenUnder : ByteArray := prog_3_method_3_code
def yX1_ruleBrokenUnder : MethodName := ⟨RX1, "ruleBrokenUnder", "(LEngineVersions$Edition;)I"⟩
abbrev cX1_takenBy : ByteArray := prog_3_method_4_code
def yX1_takenBy : MethodName := ⟨RX1, "takenBy", "(I)I"⟩
abbrev cX1_laidBy : ByteArray := prog_3_method_5_code
def yX1_laidBy : MethodName := ⟨RX1, "laidBy", "(I)I"⟩
def RX2 : String := "EngineVersions$Edition"
def TX2 : u_T := fun k => match k with
  | 0 => ("EngineVersions$Edition", "number", "I", true)
  | 1 => ("EngineVersions$Edition", "prices", "[I", true)
  | 2 => ("EngineVersions$Edition", "meanings", "[I", true)
  | 3 => ("EngineVersions$Edition", "height", "I", false)
  | _ => ("EngineVersions$Edition", "state", "I", false)
def tyX2 : Nat → FieldType := fun k => match k with
  | 0 => .int
  | 1 => .array .int
  | 2 => .array .int
  | 3 => .int
  | _ => .int
theorem nmX2 : ∀ a, a < 5 → ∀ b, b < 5 → a ≠ b → (TX2 a).2.1 ≠ (TX2 b).2.1 := by decide +kernel
theorem tyX2_ok : ∀ k, k < 5 → parseFieldDescriptor (TX2 k).2.2.1 = some (tyX2 k) := by decide +kernel
abbrev cX2_init : ByteArray := prog_4_method_1_code
def yX2_init : MethodName := ⟨RX2, "<init>", "(I)V"⟩
abbrev cX2_becomeLike : ByteArray := prog_4_method_2_code
def yX2_becomeLike : MethodName := ⟨RX2, "becomeLike", "(LEngineVersions$Edition;)V"⟩
abbrev cX2_priceOf : ByteArray := prog_4_method_3_code
def yX2_priceOf : MethodName := ⟨RX2, "priceOf", "(I)I"⟩
abbrev cX2_meaningOf : ByteArray := prog_4_method_4_code
def yX2_meaningOf : MethodName := ⟨RX2, "meaningOf", "(I)I"⟩
abbrev cX2_traitOf : ByteArray := prog_4_method_5_code
def yX2_traitOf : MethodName := ⟨RX2, "traitOf", "(I)I"⟩
def RX3 : String := "EngineVersions$Entry"
def TX3 : u_T := fun k => match k with
  | 0 => ("EngineVersions$Entry", "contract", "I", true)
  | 1 => ("EngineVersions$Entry", "argument", "J", true)
  | 2 => ("EngineVersions$Entry", "limit", "I", true)
  | 3 => ("EngineVersions$Entry", "height", "I", true)
  | _ => ("EngineVersions$Entry", "answer", "I", false)
def tyX3 : Nat → FieldType := fun k => match k with
  | 0 => .int
  | 1 => .long
  | 2 => .int
  | 3 => .int
  | _ => .int
theorem nmX3 : ∀ a, a < 5 → ∀ b, b < 5 → a ≠ b → (TX3 a).2.1 ≠ (TX3 b).2.1 := by decide +kernel
theorem tyX3_ok : ∀ k, k < 5 → parseFieldDescriptor (TX3 k).2.2.1 = some (tyX3 k) := by decide +kernel
abbrev cX3_init : ByteArray := prog_5_method_1_code
def yX3_init : MethodName := ⟨RX3, "<init>", "(IJII)V"⟩
def RX4 : String := "EngineVersions$Machine"
def TX4 : u_T := fun k => match k with
  | 0 => ("EngineVersions$Machine", "stack", "[J", true)
  | 1 => ("EngineVersions$Machine", "draft", "LEngineVersions$Cells;", true)
  | _ => ("EngineVersions$Machine", "depth", "I", false)
def tyX4 : Nat → FieldType := fun k => match k with
  | 0 => .array .long
  | 1 => .object "EngineVersions$Cells"
  | _ => .int
theorem nmX4 : ∀ a, a < 3 → ∀ b, b < 3 → a ≠ b → (TX4 a).2.1 ≠ (TX4 b).2.1 := by decide +kernel
theorem tyX4_ok : ∀ k, k < 3 → parseFieldDescriptor (TX4 k).2.2.1 = some (tyX4 k) := by decide +kernel
abbrev cX4_init : ByteArray := prog_6_method_1_code
def yX4_init : MethodName := ⟨RX4, "<init>", "()V"⟩
abbrev cX4_execute : ByteArray := prog_6_method_2_code
def yX4_execute : MethodName := ⟨RX4, "execute", "(LEngineVersions$Contract;LEngineVersions$Cells;LEngineVersions$Edition;JI)I"⟩
abbrev cX4_perform : ByteArray := prog_6_method_3_code
def yX4_perform : MethodName := ⟨RX4, "perform", "(IILEngineVersions$Edition;J)V"⟩
abbrev cX4_joined : ByteArray := prog_6_method_4_code
def yX4_joined : MethodName := ⟨RX4, "joined", "(IJJ)J"⟩
abbrev cX4_meant : ByteArray := prog_6_method_5_code
def yX4_meant : MethodName := ⟨RX4, "meant", "(IJ)J"⟩
abbrev cX4_lay : ByteArray := prog_6_method_6_code
def yX4_lay : MethodName := ⟨RX4, "lay", "(J)V"⟩
abbrev cX4_top : ByteArray := prog_6_method_7_code
def yX4_top : MethodName := ⟨RX4, "top", "()J"⟩
abbrev cX4_take : ByteArray := prog_6_method_8_code
def yX4_take : MethodName := ⟨RX4, "take", "()J"⟩
def RX5 : String := "EngineVersions$Node"
def TX5 : u_T := fun k => match k with
  | 0 => ("EngineVersions$Node", "weight", "I", true)
  | 1 => ("EngineVersions$Node", "build", "I", false)
  | 2 => ("EngineVersions$Node", "votes", "I", false)
  | _ => ("EngineVersions$Node", "haltedAt", "I", false)
def tyX5 : Nat → FieldType := fun k => match k with
  | 0 => .int
  | 1 => .int
  | 2 => .int
  | _ => .int
theorem nmX5 : ∀ a, a < 4 → ∀ b, b < 4 → a ≠ b → (TX5 a).2.1 ≠ (TX5 b).2.1 := by decide +kernel
theorem tyX5_ok : ∀ k, k < 4 → parseFieldDescriptor (TX5 k).2.2.1 = some (tyX5 k) := by decide +kernel
abbrev cX5_init : ByteArray := prog_7_method_1_code
def yX5_init : MethodName := ⟨RX5, "<init>", "(II)V"⟩
abbrev cX5_isHalted : ByteArray := prog_7_method_2_code
def yX5_isHalted : MethodName := ⟨RX5, "isHalted", "()Z"⟩
abbrev cX5_hasEdition : ByteArray := prog_7_method_3_code
def yX5_hasEdition : MethodName := ⟨RX5, "hasEdition", "(I)Z"⟩
abbrev cX5_votedFor : ByteArray := prog_7_method_4_code
def yX5_votedFor : MethodName := ⟨RX5, "votedFor", "(I)Z"⟩
abbrev cX5_setVote : ByteArray := prog_7_method_5_code
def yX5_setVote : MethodName := ⟨RX5, "setVote", "(IZ)V"⟩
def RX6 : String := "EngineVersions"
def TX6 : u_T := fun k => match k with
  | 0 => ("EngineVersions", "editions", "[LEngineVersions$Edition;", true)
  | 1 => ("EngineVersions", "nodes", "[LEngineVersions$Node;", true)
  | 2 => ("EngineVersions", "contracts", "[LEngineVersions$Contract;", true)
  | 3 => ("EngineVersions", "log", "[LEngineVersions$Entry;", true)
  | 4 => ("EngineVersions", "origin", "LEngineVersions$Edition;", true)
  | 5 => ("EngineVersions", "machine", "LEngineVersions$Machine;", true)
  | 6 => ("EngineVersions", "editionCount", "I", false)
  | 7 => ("EngineVersions", "nodeCount", "I", false)
  | 8 => ("EngineVersions", "contractCount", "I", false)
  | 9 => ("EngineVersions", "runCount", "I", false)
  | 10 => ("EngineVersions", "height", "I", false)
  | _ => ("EngineVersions", "digestSoFar", "I", false)
def tyX6 : Nat → FieldType := fun k => match k with
  | 0 => .array (.object "EngineVersions$Edition")
  | 1 => .array (.object "EngineVersions$Node")
  | 2 => .array (.object "EngineVersions$Contract")
  | 3 => .array (.object "EngineVersions$Entry")
  | 4 => .object "EngineVersions$Edition"
  | 5 => .object "EngineVersions$Machine"
  | 6 => .int
  | 7 => .int
  | 8 => .int
  | 9 => .int
  | 10 => .int
  | _ => .int
theorem nmX6 : ∀ a, a < 12 → ∀ b, b < 12 → a ≠ b → (TX6 a).2.1 ≠ (TX6 b).2.1 := by decide +kernel
theorem tyX6_ok : ∀ k, k < 12 → parseFieldDescriptor (TX6 k).2.2.1 = some (tyX6 k) := by decide +kernel
abbrev cX6_init : ByteArray := prog_1_method_1_code
def yX6_init : MethodName := ⟨RX6, "<init>", "()V"⟩
abbrev cX6_edition : ByteArray := prog_1_method_2_code
def yX6_edition : MethodName := ⟨RX6, "edition", "(I)I"⟩
abbrev cX6_price : ByteArray := prog_1_method_3_code
def yX6_price : MethodName := ⟨RX6, "price", "(III)I"⟩
abbrev cX6_member : ByteArray := prog_1_method_4_code
def yX6_member : MethodName := ⟨RX6, "member", "(III)I"⟩
abbrev cX6_about : ByteArray := prog_1_method_5_code
def yX6_about : MethodName := ⟨RX6, "about", "(III)I"⟩
abbrev cX6_differs : ByteArray := prog_1_method_6_code
def yX6_differs : MethodName := ⟨RX6, "differs", "(III)I"⟩
abbrev cX6_node : ByteArray := prog_1_method_7_code
def yX6_node : MethodName := ⟨RX6, "node", "(II)I"⟩
abbrev cX6_build : ByteArray := prog_1_method_8_code
def yX6_build : MethodName := ⟨RX6, "build", "(II)I"⟩
abbrev cX6_propose : ByteArray := prog_1_method_9_code
def yX6_propose : MethodName := ⟨RX6, "propose", "(II)I"⟩
abbrev cX6_vote : ByteArray := prog_1_method_10_code
def yX6_vote : MethodName := ⟨RX6, "vote", "(IIZ)I"⟩
abbrev cX6_rise : ByteArray := prog_1_method_11_code
def yX6_rise : MethodName := ⟨RX6, "rise", "(I)I"⟩
abbrev cX6_force : ByteArray := prog_1_method_12_code
def yX6_force : MethodName := ⟨RX6, "force", "(I)I"⟩
abbrev cX6_halted : ByteArray := prog_1_method_13_code
def yX6_halted : MethodName := ⟨RX6, "halted", "(I)I"⟩
abbrev cX6_contract : ByteArray := prog_1_method_14_code
def yX6_contract : MethodName := ⟨RX6, "contract", "()I"⟩
abbrev cX6_act : ByteArray := prog_1_method_15_code
def yX6_act : MethodName := ⟨RX6, "act", "(III)I"⟩
abbrev cX6_deploy : ByteArray := prog_1_method_16_code
def yX6_deploy : MethodName := ⟨RX6, "deploy", "(I)I"⟩
abbrev cX6_run : ByteArray := prog_1_method_17_code
def yX6_run : MethodName := ⟨RX6, "run", "(IJI)I"⟩
abbrev cX6_cell : ByteArray := prog_1_method_18_code
def yX6_cell : MethodName := ⟨RX6, "cell", "(II)J"⟩
abbrev cX6_logged : ByteArray := prog_1_method_19_code
def yX6_logged : MethodName := ⟨RX6, "logged", "(II)I"⟩
abbrev cX6_digest : ByteArray := prog_1_method_20_code
def yX6_digest : MethodName := ⟨RX6, "digest", "()I"⟩
abbrev cX6_replay : ByteArray := prog_1_method_21_code
def yX6_replay : MethodName := ⟨RX6, "replay", "(I)I"⟩
abbrev cX6_count : ByteArray := prog_1_method_22_code
def yX6_count : MethodName := ⟨RX6, "count", "(I)I"⟩
abbrev cX6_isBelow : ByteArray := prog_1_method_23_code
def yX6_isBelow : MethodName := ⟨RX6, "isBelow", "(II)Z"⟩
abbrev cX6_isBuild : ByteArray := prog_1_method_24_code
def yX6_isBuild : MethodName := ⟨RX6, "isBuild", "(I)Z"⟩
abbrev cX6_isActWith : ByteArray := prog_1_method_25_code
def yX6_isActWith : MethodName := ⟨RX6, "isActWith", "(II)Z"⟩
abbrev cX6_answerOfRule : ByteArray := prog_1_method_26_code
def yX6_answerOfRule : MethodName := ⟨RX6, "answerOfRule", "(I)I"⟩
abbrev cX6_editionAt : ByteArray := prog_1_method_27_code
def yX6_editionAt : MethodName := ⟨RX6, "editionAt", "(I)LEngineVersions$Edition;"⟩
abbrev cX6_nodeAt : ByteArray := prog_1_method_28_code
def yX6_nodeAt : MethodName := ⟨RX6, "nodeAt", "(I)LEngineVersions$Node;"⟩
abbrev cX6_contractAt : ByteArray := prog_1_method_29_code
def yX6_contractAt : MethodName := ⟨RX6, "contractAt", "(I)LEngineVersions$Contract;"⟩
abbrev cX6_entryAt : ByteArray := prog_1_method_30_code
def yX6_entryAt : MethodName := ⟨RX6, "entryAt", "(I)LEngineVersions$Entry;"⟩
abbrev cX6_highestProposed : ByteArray := prog_1_method_31_code
def yX6_highestProposed : MethodName := ⟨RX6, "highestProposed", "()I"⟩
abbrev cX6_inForceAt : ByteArray := prog_1_method_32_code
def yX6_inForceAt : MethodName := ⟨RX6, "inForceAt", "(I)LEngineVersions$Edition;"⟩
abbrev cX6_decideProposals : ByteArray := prog_1_method_33_code
def yX6_decideProposals : MethodName := ⟨RX6, "decideProposals", "()V"⟩
abbrev cX6_isAgreed : ByteArray := prog_1_method_34_code
def yX6_isAgreed : MethodName := ⟨RX6, "isAgreed", "(I)Z"⟩
abbrev cX6_haltLackingNodes : ByteArray := prog_1_method_35_code
def yX6_haltLackingNodes : MethodName := ⟨RX6, "haltLackingNodes", "()V"⟩
abbrev cX6_clearReplayCells : ByteArray := prog_1_method_36_code
def yX6_clearReplayCells : MethodName := ⟨RX6, "clearReplayCells", "()V"⟩
abbrev cX6_digestBehindReplayOf : ByteArray := prog_1_method_37_code
def yX6_digestBehindReplayOf : MethodName := ⟨RX6, "digestBehindReplayOf", "(LEngineVersions$Entry;I)I"⟩
def RX7 : String := "EngineVersionsModel"
def TX7 : u_T := fun k => match k with
  | 0 => ("EngineVersionsModel", "editions", "I", false)
  | 1 => ("EngineVersionsModel", "prices", "[I", true)
  | 2 => ("EngineVersionsModel", "meanings", "[I", true)
  | 3 => ("EngineVersionsModel", "proposedFor", "[I", true)
  | 4 => ("EngineVersionsModel", "state", "[I", true)
  | 5 => ("EngineVersionsModel", "height", "I", false)
  | 6 => ("EngineVersionsModel", "inForce", "[I", true)
  | 7 => ("EngineVersionsModel", "nodes", "I", false)
  | 8 => ("EngineVersionsModel", "weight", "[I", true)
  | 9 => ("EngineVersionsModel", "builds", "[I", true)
  | 10 => ("EngineVersionsModel", "haltedAt", "[I", true)
  | 11 => ("EngineVersionsModel", "votes", "[Z", true)
  | 12 => ("EngineVersionsModel", "contracts", "I", false)
  | 13 => ("EngineVersionsModel", "kept", "[I", true)
  | 14 => ("EngineVersionsModel", "many", "[I", true)
  | 15 => ("EngineVersionsModel", "acts", "[I", true)
  | 16 => ("EngineVersionsModel", "numbers", "[I", true)
  | 17 => ("EngineVersionsModel", "cells", "[J", true)
  | 18 => ("EngineVersionsModel", "logs", "I", false)
  | 19 => ("EngineVersionsModel", "logContract", "[I", true)
  | 20 => ("EngineVersionsModel", "logHeight", "[I", true)
  | 21 => ("EngineVersionsModel", "logArgument", "[J", true)
  | 22 => ("EngineVersionsModel", "logLimit", "[I", true)
  | 23 => ("EngineVersionsModel", "logAnswer", "[I", true)
  | 24 => ("EngineVersionsModel", "digest", "I", false)
  | 25 => ("EngineVersionsModel", "pile", "[J", true)
  | 26 => ("EngineVersionsModel", "aside", "[J", true)
  | _ => ("EngineVersionsModel", "safe", "[J", true)
def tyX7 : Nat → FieldType := fun k => match k with
  | 0 => .int
  | 1 => .array .int
  | 2 => .array .int
  | 3 => .array .int
  | 4 => .array .int
  | 5 => .int
  | 6 => .array .int
  | 7 => .int
  | 8 => .array .int
  | 9 => .array .int
  | 10 => .array .int
  | 11 => .array .boolean
  | 12 => .int
  | 13 => .array .int
  | 14 => .array .int
  | 15 => .array .int
  | 16 => .array .int
  | 17 => .array .long
  | 18 => .int
  | 19 => .array .int
  | 20 => .array .int
  | 21 => .array .long
  | 22 => .array .int
  | 23 => .array .int
  | 24 => .int
  | 25 => .array .long
  | 26 => .array .long
  | _ => .array .long
theorem nmX7 : ∀ a, a < 28 → ∀ b, b < 28 → a ≠ b → (TX7 a).2.1 ≠ (TX7 b).2.1 := by decide +kernel
theorem tyX7_ok : ∀ k, k < 28 → parseFieldDescriptor (TX7 k).2.2.1 = some (tyX7 k) := by decide +kernel
abbrev cX7_init : ByteArray := prog_9_method_1_code
def yX7_init : MethodName := ⟨RX7, "<init>", "()V"⟩
abbrev cX7_in : ByteArray := prog_9_method_3_code
def yX7_in : MethodName := ⟨RX7, "in", "(III)Z"⟩
abbrev cX7_isEdition : ByteArray := prog_9_method_4_code
def yX7_isEdition : MethodName := ⟨RX7, "isEdition", "(I)Z"⟩
abbrev cX7_isNode : ByteArray := prog_9_method_5_code
def yX7_isNode : MethodName := ⟨RX7, "isNode", "(I)Z"⟩
abbrev cX7_isContract : ByteArray := prog_9_method_6_code
def yX7_isContract : MethodName := ⟨RX7, "isContract", "(I)Z"⟩
abbrev cX7_edition : ByteArray := prog_9_method_7_code
def yX7_edition : MethodName := ⟨RX7, "edition", "(I)I"⟩
abbrev cX7_price : ByteArray := prog_9_method_8_code
def yX7_price : MethodName := ⟨RX7, "price", "(III)I"⟩
abbrev cX7_member : ByteArray := prog_9_method_9_code
def yX7_member : MethodName := ⟨RX7, "member", "(III)I"⟩
abbrev cX7_about : ByteArray := prog_9_method_10_code
def yX7_about : MethodName := ⟨RX7, "about", "(III)I"⟩
abbrev cX7_differs : ByteArray := prog_9_method_11_code
def yX7_differs : MethodName := ⟨RX7, "differs", "(III)I"⟩
abbrev cX7_node : ByteArray := prog_9_method_12_code
def yX7_node : MethodName := ⟨RX7, "node", "(II)I"⟩
abbrev cX7_build : ByteArray := prog_9_method_13_code
def yX7_build : MethodName := ⟨RX7, "build", "(II)I"⟩
abbrev cX7_propose : ByteArray := prog_9_method_14_code
def yX7_propose : MethodName := ⟨RX7, "propose", "(II)I"⟩
abbrev cX7_vote : ByteArray := prog_9_method_15_code
def yX7_vote : MethodName := ⟨RX7, "vote", "(IIZ)I"⟩
abbrev cX7_agrees : ByteArray := prog_9_method_16_code
def yX7_agrees : MethodName := ⟨RX7, "agrees", "(I)V"⟩
abbrev cX7_comes : ByteArray := prog_9_method_17_code
def yX7_comes : MethodName := ⟨RX7, "comes", "()V"⟩
abbrev cX7_rise : ByteArray := prog_9_method_18_code
def yX7_rise : MethodName := ⟨RX7, "rise", "(I)I"⟩
abbrev cX7_force : ByteArray := prog_9_method_19_code
def yX7_force : MethodName := ⟨RX7, "force", "(I)I"⟩
abbrev cX7_halted : ByteArray := prog_9_method_20_code
def yX7_halted : MethodName := ⟨RX7, "halted", "(I)I"⟩
abbrev cX7_contract : ByteArray := prog_9_method_21_code
def yX7_contract : MethodName := ⟨RX7, "contract", "()I"⟩
abbrev cX7_act : ByteArray := prog_9_method_22_code
def yX7_act : MethodName := ⟨RX7, "act", "(III)I"⟩
abbrev cX7_deploy : ByteArray := prog_9_method_23_code
def yX7_deploy : MethodName := ⟨RX7, "deploy", "(I)I"⟩
abbrev cX7_meant : ByteArray := prog_9_method_24_code
def yX7_meant : MethodName := ⟨RX7, "meant", "(IJ)J"⟩
abbrev cX7_ones : ByteArray := prog_9_method_25_code
def yX7_ones : MethodName := ⟨RX7, "ones", "(J)J"⟩
abbrev cX7_worked : ByteArray := prog_9_method_26_code
def yX7_worked : MethodName := ⟨RX7, "worked", "(IJJ)J"⟩
abbrev cX7_runs : ByteArray := prog_9_method_27_code
def yX7_runs : MethodName := ⟨RX7, "runs", "(IJII)I"⟩
abbrev cX7_digested : ByteArray := prog_9_method_28_code
def yX7_digested : MethodName := ⟨RX7, "digested", "(III)I"⟩
abbrev cX7_run : ByteArray := prog_9_method_29_code
def yX7_run : MethodName := ⟨RX7, "run", "(IJI)I"⟩
abbrev cX7_cell : ByteArray := prog_9_method_30_code
def yX7_cell : MethodName := ⟨RX7, "cell", "(II)J"⟩
abbrev cX7_logged : ByteArray := prog_9_method_31_code
def yX7_logged : MethodName := ⟨RX7, "logged", "(II)I"⟩
abbrev cX7_digest : ByteArray := prog_9_method_32_code
def yX7_digest : MethodName := ⟨RX7, "digest", "()I"⟩
abbrev cX7_replay : ByteArray := prog_9_method_33_code
def yX7_replay : MethodName := ⟨RX7, "replay", "(I)I"⟩
abbrev cX7_count : ByteArray := prog_9_method_34_code
def yX7_count : MethodName := ⟨RX7, "count", "(I)I"⟩
def RJ13 : String := "java/lang/Long"
def TJ13 : u_T := fun k => match k with
  | _ => ("", "", "", false)
def tyJ13 : Nat → FieldType := fun k => match k with
  | _ => .int
theorem nmJ13 : ∀ a, a < 0 → ∀ b, b < 0 → a ≠ b → (TJ13 a).2.1 ≠ (TJ13 b).2.1 := by decide +kernel
theorem tyJ13_ok : ∀ k, k < 0 → parseFieldDescriptor (TJ13 k).2.2.1 = some (tyJ13 k) := by decide +kernel
abbrev cJ13_bitCount_95d88 : ByteArray := prog_10_method_50_code
def yJ13_bitCount_95d88 : MethodName := ⟨RJ13, "bitCount", "(J)I"⟩
def RJ9 : String := "java/lang/Math"
def TJ9 : u_T := fun k => match k with
  | _ => ("", "", "", false)
def tyJ9 : Nat → FieldType := fun k => match k with
  | _ => .int
theorem nmJ9 : ∀ a, a < 0 → ∀ b, b < 0 → a ≠ b → (TJ9 a).2.1 ≠ (TJ9 b).2.1 := by decide +kernel
theorem tyJ9_ok : ∀ k, k < 0 → parseFieldDescriptor (TJ9 k).2.2.1 = some (tyJ9 k) := by decide +kernel
abbrev cJ9_floorDiv_f86c9 : ByteArray := prog_11_method_49_code
def yJ9_floorDiv_f86c9 : MethodName := ⟨RJ9, "floorDiv", "(JJ)J"⟩
abbrev cJ9_abs_067f4 : ByteArray := prog_11_method_61_code
def yJ9_abs_067f4 : MethodName := ⟨RJ9, "abs", "(J)J"⟩
abbrev cJ9_max_7cf53 : ByteArray := prog_11_method_65_code
def yJ9_max_7cf53 : MethodName := ⟨RJ9, "max", "(II)I"⟩
def RL : String := "EngineVersionsLaw"
abbrev cL_law : ByteArray := code
def yL_law : MethodName := ⟨RL, "law", "([I)Z"⟩
abbrev vwCl : List vw_C := [(RX0, TX0, 1), (RX1, TX1, 6), (RX2, TX2, 5), (RX3, TX3, 5), (RX4, TX4, 3), (RX5, TX5, 4), (RX6, TX6, 12), (RX7, TX7, 28)]
/-- the words that any callee may be given -/
def mT : List Cond := lw_tbl.filter goodWord
theorem mT_of {w : Cond} (h1 : w ∈ lw_tbl) (h2 : goodWord w = true) : w ∈ mT := List.mem_filter.mpr ⟨h1, h2⟩
theorem mT_in {w : Cond} (h : w ∈ mT) : w ∈ lw_tbl := (List.mem_filter.mp h).1
theorem mT_ok (w : Cond) (h : w ∈ mT) : (w.onTables && w.keeps) = true ∨ ∃ ty, w = .arrayClass ty := good_of_word (List.mem_filter.mp h).2
theorem in_L : Cond.initialized RL ∈ mT := mT_of (List.mem_of_getElem? (i := 22) (by decide +kernel)) (by decide +kernel)
theorem in_X6 : Cond.initialized RX6 ∈ mT := mT_of (List.mem_of_getElem? (i := 23) (by decide +kernel)) (by decide +kernel)
theorem in_X2 : Cond.initialized RX2 ∈ mT := mT_of (List.mem_of_getElem? (i := 24) (by decide +kernel)) (by decide +kernel)
theorem in_X4 : Cond.initialized RX4 ∈ mT := mT_of (List.mem_of_getElem? (i := 25) (by decide +kernel)) (by decide +kernel)
theorem in_X0 : Cond.initialized RX0 ∈ mT := mT_of (List.mem_of_getElem? (i := 26) (by decide +kernel)) (by decide +kernel)
theorem in_X7 : Cond.initialized RX7 ∈ mT := mT_of (List.mem_of_getElem? (i := 27) (by decide +kernel)) (by decide +kernel)
theorem in_X5 : Cond.initialized RX5 ∈ mT := mT_of (List.mem_of_getElem? (i := 28) (by decide +kernel)) (by decide +kernel)
theorem in_J9 : Cond.initialized RJ9 ∈ mT := mT_of (List.mem_of_getElem? (i := 29) (by decide +kernel)) (by decide +kernel)
theorem in_X1 : Cond.initialized RX1 ∈ mT := mT_of (List.mem_of_getElem? (i := 30) (by decide +kernel)) (by decide +kernel)
theorem in_X3 : Cond.initialized RX3 ∈ mT := mT_of (List.mem_of_getElem? (i := 31) (by decide +kernel)) (by decide +kernel)
theorem in_J13 : Cond.initialized RJ13 ∈ mT := mT_of (List.mem_of_getElem? (i := 32) (by decide +kernel)) (by decide +kernel)
theorem cl_L_7 : Cond.classLink RL 7 RX6 ∈ mT := mT_of (List.mem_of_getElem? (i := 33) (by decide +kernel)) (by decide +kernel)
theorem is_X6 : Cond.instantiable RX6 12 ∈ mT := mT_of (List.mem_of_getElem? (i := 34) (by decide +kernel)) (by decide +kernel)
theorem ml_L_9 : Cond.methodLink RL 9 yX6_init ∈ mT := mT_of (List.mem_of_getElem? (i := 35) (by decide +kernel)) (by decide +kernel)
theorem im_yX6_init : Cond.instanceMethod yX6_init ∈ mT := mT_of (List.mem_of_getElem? (i := 36) (by decide +kernel)) (by decide +kernel)
set_option maxRecDepth 100000 in
theorem co_yX6_init : Cond.code yX6_init cX6_init 2 none ∈ mT := mT_of (List.mem_of_getElem? (i := 37) rfl) rfl
theorem ml_X6_3 : Cond.methodLink RX6 3 objectInit ∈ mT := mT_of (List.mem_of_getElem? (i := 38) (by decide +kernel)) (by decide +kernel)
theorem im_objectInit : Cond.instanceMethod objectInit ∈ mT := mT_of (List.mem_of_getElem? (i := 39) (by decide +kernel)) (by decide +kernel)
set_option maxRecDepth 100000 in
theorem co_objectInit : Cond.code objectInit ⟨#[0xb1]⟩ 1 none ∈ mT := mT_of (List.mem_of_getElem? (i := 40) rfl) rfl
theorem cl_X6_9 : Cond.classLink RX6 9 RX2 ∈ mT := mT_of (List.mem_of_getElem? (i := 41) (by decide +kernel)) (by decide +kernel)
theorem cl_X6_15 : Cond.classLink RX6 15 RX5 ∈ mT := mT_of (List.mem_of_getElem? (i := 43) (by decide +kernel)) (by decide +kernel)
theorem cl_X6_21 : Cond.classLink RX6 21 RX1 ∈ mT := mT_of (List.mem_of_getElem? (i := 45) (by decide +kernel)) (by decide +kernel)
theorem cl_X6_27 : Cond.classLink RX6 27 RX3 ∈ mT := mT_of (List.mem_of_getElem? (i := 47) (by decide +kernel)) (by decide +kernel)
theorem is_X2 : Cond.instantiable RX2 5 ∈ mT := mT_of (List.mem_of_getElem? (i := 49) (by decide +kernel)) (by decide +kernel)
theorem ml_X6_33 : Cond.methodLink RX6 33 yX2_init ∈ mT := mT_of (List.mem_of_getElem? (i := 50) (by decide +kernel)) (by decide +kernel)
theorem im_yX2_init : Cond.instanceMethod yX2_init ∈ mT := mT_of (List.mem_of_getElem? (i := 51) (by decide +kernel)) (by decide +kernel)
set_option maxRecDepth 100000 in
theorem co_yX2_init : Cond.code yX2_init cX2_init 2 none ∈ mT := mT_of (List.mem_of_getElem? (i := 52) rfl) rfl
theorem ml_X2_3 : Cond.methodLink RX2 3 objectInit ∈ mT := mT_of (List.mem_of_getElem? (i := 53) (by decide +kernel)) (by decide +kernel)
theorem fl_X2_25 : Cond.fieldLink RX2 25 "EngineVersions$Edition" "number" "I" ∈ mT := mT_of (List.mem_of_getElem? (i := 54) (by decide +kernel)) (by decide +kernel)
theorem fl_X6_85 : Cond.fieldLink RX6 85 "EngineVersions$Edition" "number" "I" ∈ mT := mT_of (List.mem_of_getElem? (i := 55) (by decide +kernel)) (by decide +kernel)
theorem fl_X2_9 : Cond.fieldLink RX2 9 "EngineVersions$Edition" "prices" "[I" ∈ mT := mT_of (List.mem_of_getElem? (i := 56) (by decide +kernel)) (by decide +kernel)
theorem fl_X6_66 : Cond.fieldLink RX6 66 "EngineVersions$Edition" "prices" "[I" ∈ mT := mT_of (List.mem_of_getElem? (i := 57) (by decide +kernel)) (by decide +kernel)
theorem fl_X2_15 : Cond.fieldLink RX2 15 "EngineVersions$Edition" "meanings" "[I" ∈ mT := mT_of (List.mem_of_getElem? (i := 58) (by decide +kernel)) (by decide +kernel)
theorem fl_X6_70 : Cond.fieldLink RX6 70 "EngineVersions$Edition" "meanings" "[I" ∈ mT := mT_of (List.mem_of_getElem? (i := 59) (by decide +kernel)) (by decide +kernel)
theorem fl_X2_18 : Cond.fieldLink RX2 18 "EngineVersions$Edition" "height" "I" ∈ mT := mT_of (List.mem_of_getElem? (i := 60) (by decide +kernel)) (by decide +kernel)
theorem fl_X6_73 : Cond.fieldLink RX6 73 "EngineVersions$Edition" "height" "I" ∈ mT := mT_of (List.mem_of_getElem? (i := 61) (by decide +kernel)) (by decide +kernel)
theorem fl_X2_22 : Cond.fieldLink RX2 22 "EngineVersions$Edition" "state" "I" ∈ mT := mT_of (List.mem_of_getElem? (i := 62) (by decide +kernel)) (by decide +kernel)
theorem fl_X6_74 : Cond.fieldLink RX6 74 "EngineVersions$Edition" "state" "I" ∈ mT := mT_of (List.mem_of_getElem? (i := 63) (by decide +kernel)) (by decide +kernel)
theorem ac_int : Cond.arrayClass .int ∈ mT := mT_of (List.mem_of_getElem? (i := 75) (by decide +kernel)) (by decide +kernel)
theorem cl_X6_40 : Cond.classLink RX6 40 RX4 ∈ mT := mT_of (List.mem_of_getElem? (i := 76) (by decide +kernel)) (by decide +kernel)
theorem is_X4 : Cond.instantiable RX4 3 ∈ mT := mT_of (List.mem_of_getElem? (i := 77) (by decide +kernel)) (by decide +kernel)
theorem mn_X6_42_l : Cond.methodLinkNest RX6 42 yX4_init RX6 ∈ lw_tbl := List.mem_of_getElem? (i := 78) (by decide +kernel)
theorem im_yX4_init : Cond.instanceMethod yX4_init ∈ mT := mT_of (List.mem_of_getElem? (i := 79) (by decide +kernel)) (by decide +kernel)
set_option maxRecDepth 100000 in
theorem co_yX4_init : Cond.code yX4_init cX4_init 1 none ∈ mT := mT_of (List.mem_of_getElem? (i := 80) rfl) rfl
theorem ml_X4_3 : Cond.methodLink RX4 3 objectInit ∈ mT := mT_of (List.mem_of_getElem? (i := 81) (by decide +kernel)) (by decide +kernel)
theorem cl_X4_15 : Cond.classLink RX4 15 RX0 ∈ mT := mT_of (List.mem_of_getElem? (i := 82) (by decide +kernel)) (by decide +kernel)
theorem is_X0 : Cond.instantiable RX0 1 ∈ mT := mT_of (List.mem_of_getElem? (i := 83) (by decide +kernel)) (by decide +kernel)
theorem mn_X4_17_l : Cond.methodLinkNest RX4 17 yX0_init RX6 ∈ lw_tbl := List.mem_of_getElem? (i := 84) (by decide +kernel)
theorem im_yX0_init : Cond.instanceMethod yX0_init ∈ mT := mT_of (List.mem_of_getElem? (i := 85) (by decide +kernel)) (by decide +kernel)
set_option maxRecDepth 100000 in
theorem co_yX0_init : Cond.code yX0_init cX0_init 1 none ∈ mT := mT_of (List.mem_of_getElem? (i := 86) rfl) rfl
theorem ml_X0_3 : Cond.methodLink RX0 3 objectInit ∈ mT := mT_of (List.mem_of_getElem? (i := 87) (by decide +kernel)) (by decide +kernel)
theorem fl_X0_9 : Cond.fieldLink RX0 9 "EngineVersions$Cells" "values" "[J" ∈ mT := mT_of (List.mem_of_getElem? (i := 88) (by decide +kernel)) (by decide +kernel)
theorem ac_long : Cond.arrayClass .long ∈ mT := mT_of (List.mem_of_getElem? (i := 92) (by decide +kernel)) (by decide +kernel)
theorem fl_X4_9 : Cond.fieldLink RX4 9 "EngineVersions$Machine" "stack" "[J" ∈ mT := mT_of (List.mem_of_getElem? (i := 93) (by decide +kernel)) (by decide +kernel)
theorem fl_X4_18 : Cond.fieldLink RX4 18 "EngineVersions$Machine" "draft" "LEngineVersions$Cells;" ∈ mT := mT_of (List.mem_of_getElem? (i := 94) (by decide +kernel)) (by decide +kernel)
theorem fl_X4_22 : Cond.fieldLink RX4 22 "EngineVersions$Machine" "depth" "I" ∈ mT := mT_of (List.mem_of_getElem? (i := 95) (by decide +kernel)) (by decide +kernel)
theorem fl_X6_11 : Cond.fieldLink RX6 11 "EngineVersions" "editions" "[LEngineVersions$Edition;" ∈ mT := mT_of (List.mem_of_getElem? (i := 103) (by decide +kernel)) (by decide +kernel)
theorem fl_X6_17 : Cond.fieldLink RX6 17 "EngineVersions" "nodes" "[LEngineVersions$Node;" ∈ mT := mT_of (List.mem_of_getElem? (i := 104) (by decide +kernel)) (by decide +kernel)
theorem fl_X6_23 : Cond.fieldLink RX6 23 "EngineVersions" "contracts" "[LEngineVersions$Contract;" ∈ mT := mT_of (List.mem_of_getElem? (i := 105) (by decide +kernel)) (by decide +kernel)
theorem fl_X6_29 : Cond.fieldLink RX6 29 "EngineVersions" "log" "[LEngineVersions$Entry;" ∈ mT := mT_of (List.mem_of_getElem? (i := 106) (by decide +kernel)) (by decide +kernel)
theorem fl_X6_36 : Cond.fieldLink RX6 36 "EngineVersions" "origin" "LEngineVersions$Edition;" ∈ mT := mT_of (List.mem_of_getElem? (i := 107) (by decide +kernel)) (by decide +kernel)
theorem fl_X6_43 : Cond.fieldLink RX6 43 "EngineVersions" "machine" "LEngineVersions$Machine;" ∈ mT := mT_of (List.mem_of_getElem? (i := 108) (by decide +kernel)) (by decide +kernel)
theorem fl_X6_47 : Cond.fieldLink RX6 47 "EngineVersions" "editionCount" "I" ∈ mT := mT_of (List.mem_of_getElem? (i := 109) (by decide +kernel)) (by decide +kernel)
theorem fl_X6_51 : Cond.fieldLink RX6 51 "EngineVersions" "nodeCount" "I" ∈ mT := mT_of (List.mem_of_getElem? (i := 110) (by decide +kernel)) (by decide +kernel)
theorem fl_X6_54 : Cond.fieldLink RX6 54 "EngineVersions" "contractCount" "I" ∈ mT := mT_of (List.mem_of_getElem? (i := 111) (by decide +kernel)) (by decide +kernel)
theorem fl_X6_57 : Cond.fieldLink RX6 57 "EngineVersions" "runCount" "I" ∈ mT := mT_of (List.mem_of_getElem? (i := 112) (by decide +kernel)) (by decide +kernel)
theorem fl_X6_60 : Cond.fieldLink RX6 60 "EngineVersions" "height" "I" ∈ mT := mT_of (List.mem_of_getElem? (i := 113) (by decide +kernel)) (by decide +kernel)
theorem fl_X6_63 : Cond.fieldLink RX6 63 "EngineVersions" "digestSoFar" "I" ∈ mT := mT_of (List.mem_of_getElem? (i := 114) (by decide +kernel)) (by decide +kernel)
theorem ml_L_13 : Cond.methodLink RL 13 yX6_edition ∈ mT := mT_of (List.mem_of_getElem? (i := 140) (by decide +kernel)) (by decide +kernel)
theorem im_yX6_edition : Cond.instanceMethod yX6_edition ∈ mT := mT_of (List.mem_of_getElem? (i := 141) (by decide +kernel)) (by decide +kernel)
theorem se_yX6_edition : Cond.selects RX6 yX6_edition yX6_edition ∈ mT := mT_of (List.mem_of_getElem? (i := 142) (by decide +kernel)) (by decide +kernel)
set_option maxRecDepth 100000 in
theorem co_yX6_edition : Cond.code yX6_edition cX6_edition 4 (some FieldType.int) ∈ mT := mT_of (List.mem_of_getElem? (i := 143) rfl) rfl
theorem ml_X6_77 : Cond.methodLink RX6 77 yX6_editionAt ∈ mT := mT_of (List.mem_of_getElem? (i := 144) (by decide +kernel)) (by decide +kernel)
theorem im_yX6_editionAt : Cond.instanceMethod yX6_editionAt ∈ mT := mT_of (List.mem_of_getElem? (i := 146) (by decide +kernel)) (by decide +kernel)
set_option maxRecDepth 100000 in
theorem co_yX6_editionAt : Cond.code yX6_editionAt cX6_editionAt 2 (some (FieldType.object "EngineVersions$Edition")) ∈ mT := mT_of (List.mem_of_getElem? (i := 147) rfl) rfl
theorem ml_X6_88 : Cond.methodLink RX6 88 yX6_isBelow ∈ mT := mT_of (List.mem_of_getElem? (i := 148) (by decide +kernel)) (by decide +kernel)
theorem st_yX6_isBelow : Cond.static yX6_isBelow ∈ mT := mT_of (List.mem_of_getElem? (i := 149) (by decide +kernel)) (by decide +kernel)
set_option maxRecDepth 100000 in
theorem co_yX6_isBelow : Cond.code yX6_isBelow cX6_isBelow 2 (some FieldType.boolean) ∈ mT := mT_of (List.mem_of_getElem? (i := 150) rfl) rfl
theorem ml_X6_81 : Cond.methodLink RX6 81 yX2_becomeLike ∈ mT := mT_of (List.mem_of_getElem? (i := 151) (by decide +kernel)) (by decide +kernel)
theorem im_yX2_becomeLike : Cond.instanceMethod yX2_becomeLike ∈ mT := mT_of (List.mem_of_getElem? (i := 152) (by decide +kernel)) (by decide +kernel)
theorem se_yX2_becomeLike : Cond.selects RX2 yX2_becomeLike yX2_becomeLike ∈ mT := mT_of (List.mem_of_getElem? (i := 153) (by decide +kernel)) (by decide +kernel)
set_option maxRecDepth 100000 in
theorem co_yX2_becomeLike : Cond.code yX2_becomeLike cX2_becomeLike 3 none ∈ mT := mT_of (List.mem_of_getElem? (i := 154) rfl) rfl
theorem ml_L_18 : Cond.methodLink RL 18 yX6_price ∈ mT := mT_of (List.mem_of_getElem? (i := 155) (by decide +kernel)) (by decide +kernel)
theorem im_yX6_price : Cond.instanceMethod yX6_price ∈ mT := mT_of (List.mem_of_getElem? (i := 156) (by decide +kernel)) (by decide +kernel)
theorem se_yX6_price : Cond.selects RX6 yX6_price yX6_price ∈ mT := mT_of (List.mem_of_getElem? (i := 157) (by decide +kernel)) (by decide +kernel)
set_option maxRecDepth 100000 in
theorem co_yX6_price : Cond.code yX6_price cX6_price 6 (some FieldType.int) ∈ mT := mT_of (List.mem_of_getElem? (i := 158) rfl) rfl
theorem ml_L_23 : Cond.methodLink RL 23 yX6_member ∈ mT := mT_of (List.mem_of_getElem? (i := 159) (by decide +kernel)) (by decide +kernel)
theorem im_yX6_member : Cond.instanceMethod yX6_member ∈ mT := mT_of (List.mem_of_getElem? (i := 160) (by decide +kernel)) (by decide +kernel)
theorem se_yX6_member : Cond.selects RX6 yX6_member yX6_member ∈ mT := mT_of (List.mem_of_getElem? (i := 161) (by decide +kernel)) (by decide +kernel)
set_option maxRecDepth 100000 in
theorem co_yX6_member : Cond.code yX6_member cX6_member 6 (some FieldType.int) ∈ mT := mT_of (List.mem_of_getElem? (i := 162) rfl) rfl
theorem ml_L_27 : Cond.methodLink RL 27 yX6_about ∈ mT := mT_of (List.mem_of_getElem? (i := 163) (by decide +kernel)) (by decide +kernel)
theorem im_yX6_about : Cond.instanceMethod yX6_about ∈ mT := mT_of (List.mem_of_getElem? (i := 164) (by decide +kernel)) (by decide +kernel)
theorem se_yX6_about : Cond.selects RX6 yX6_about yX6_about ∈ mT := mT_of (List.mem_of_getElem? (i := 165) (by decide +kernel)) (by decide +kernel)
set_option maxRecDepth 100000 in
theorem co_yX6_about : Cond.code yX6_about cX6_about 5 (some FieldType.int) ∈ mT := mT_of (List.mem_of_getElem? (i := 166) rfl) rfl
theorem ml_X6_92 : Cond.methodLink RX6 92 yX2_priceOf ∈ mT := mT_of (List.mem_of_getElem? (i := 167) (by decide +kernel)) (by decide +kernel)
theorem im_yX2_priceOf : Cond.instanceMethod yX2_priceOf ∈ mT := mT_of (List.mem_of_getElem? (i := 168) (by decide +kernel)) (by decide +kernel)
theorem se_yX2_priceOf : Cond.selects RX2 yX2_priceOf yX2_priceOf ∈ mT := mT_of (List.mem_of_getElem? (i := 169) (by decide +kernel)) (by decide +kernel)
set_option maxRecDepth 100000 in
theorem co_yX2_priceOf : Cond.code yX2_priceOf cX2_priceOf 2 (some FieldType.int) ∈ mT := mT_of (List.mem_of_getElem? (i := 170) rfl) rfl
theorem mn_X2_28_l : Cond.methodLinkNest RX2 28 yX6_isBelow RX6 ∈ lw_tbl := List.mem_of_getElem? (i := 171) (by decide +kernel)
theorem ml_X6_96 : Cond.methodLink RX6 96 yX2_meaningOf ∈ mT := mT_of (List.mem_of_getElem? (i := 172) (by decide +kernel)) (by decide +kernel)
theorem im_yX2_meaningOf : Cond.instanceMethod yX2_meaningOf ∈ mT := mT_of (List.mem_of_getElem? (i := 173) (by decide +kernel)) (by decide +kernel)
theorem se_yX2_meaningOf : Cond.selects RX2 yX2_meaningOf yX2_meaningOf ∈ mT := mT_of (List.mem_of_getElem? (i := 174) (by decide +kernel)) (by decide +kernel)
set_option maxRecDepth 100000 in
theorem co_yX2_meaningOf : Cond.code yX2_meaningOf cX2_meaningOf 2 (some FieldType.int) ∈ mT := mT_of (List.mem_of_getElem? (i := 175) rfl) rfl
theorem ml_L_31 : Cond.methodLink RL 31 yX6_differs ∈ mT := mT_of (List.mem_of_getElem? (i := 176) (by decide +kernel)) (by decide +kernel)
theorem im_yX6_differs : Cond.instanceMethod yX6_differs ∈ mT := mT_of (List.mem_of_getElem? (i := 177) (by decide +kernel)) (by decide +kernel)
theorem se_yX6_differs : Cond.selects RX6 yX6_differs yX6_differs ∈ mT := mT_of (List.mem_of_getElem? (i := 178) (by decide +kernel)) (by decide +kernel)
set_option maxRecDepth 100000 in
theorem co_yX6_differs : Cond.code yX6_differs cX6_differs 8 (some FieldType.int) ∈ mT := mT_of (List.mem_of_getElem? (i := 179) rfl) rfl
theorem ml_X6_99 : Cond.methodLink RX6 99 yX2_traitOf ∈ mT := mT_of (List.mem_of_getElem? (i := 180) (by decide +kernel)) (by decide +kernel)
theorem im_yX2_traitOf : Cond.instanceMethod yX2_traitOf ∈ mT := mT_of (List.mem_of_getElem? (i := 181) (by decide +kernel)) (by decide +kernel)
theorem se_yX2_traitOf : Cond.selects RX2 yX2_traitOf yX2_traitOf ∈ mT := mT_of (List.mem_of_getElem? (i := 182) (by decide +kernel)) (by decide +kernel)
set_option maxRecDepth 100000 in
theorem co_yX2_traitOf : Cond.code yX2_traitOf cX2_traitOf 2 (some FieldType.int) ∈ mT := mT_of (List.mem_of_getElem? (i := 183) rfl) rfl
theorem ml_X2_32 : Cond.methodLink RX2 32 yX2_priceOf ∈ mT := mT_of (List.mem_of_getElem? (i := 184) (by decide +kernel)) (by decide +kernel)
theorem ml_X2_36 : Cond.methodLink RX2 36 yX2_meaningOf ∈ mT := mT_of (List.mem_of_getElem? (i := 185) (by decide +kernel)) (by decide +kernel)
theorem ml_L_35 : Cond.methodLink RL 35 yX6_node ∈ mT := mT_of (List.mem_of_getElem? (i := 186) (by decide +kernel)) (by decide +kernel)
theorem im_yX6_node : Cond.instanceMethod yX6_node ∈ mT := mT_of (List.mem_of_getElem? (i := 187) (by decide +kernel)) (by decide +kernel)
theorem se_yX6_node : Cond.selects RX6 yX6_node yX6_node ∈ mT := mT_of (List.mem_of_getElem? (i := 188) (by decide +kernel)) (by decide +kernel)
set_option maxRecDepth 100000 in
theorem co_yX6_node : Cond.code yX6_node cX6_node 3 (some FieldType.int) ∈ mT := mT_of (List.mem_of_getElem? (i := 189) rfl) rfl
theorem ml_X6_102 : Cond.methodLink RX6 102 yX6_isBuild ∈ mT := mT_of (List.mem_of_getElem? (i := 190) (by decide +kernel)) (by decide +kernel)
theorem st_yX6_isBuild : Cond.static yX6_isBuild ∈ mT := mT_of (List.mem_of_getElem? (i := 191) (by decide +kernel)) (by decide +kernel)
set_option maxRecDepth 100000 in
theorem co_yX6_isBuild : Cond.code yX6_isBuild cX6_isBuild 1 (some FieldType.boolean) ∈ mT := mT_of (List.mem_of_getElem? (i := 192) rfl) rfl
theorem is_X5 : Cond.instantiable RX5 4 ∈ mT := mT_of (List.mem_of_getElem? (i := 193) (by decide +kernel)) (by decide +kernel)
theorem ml_X6_106 : Cond.methodLink RX6 106 yX5_init ∈ mT := mT_of (List.mem_of_getElem? (i := 194) (by decide +kernel)) (by decide +kernel)
theorem im_yX5_init : Cond.instanceMethod yX5_init ∈ mT := mT_of (List.mem_of_getElem? (i := 195) (by decide +kernel)) (by decide +kernel)
set_option maxRecDepth 100000 in
theorem co_yX5_init : Cond.code yX5_init cX5_init 3 none ∈ mT := mT_of (List.mem_of_getElem? (i := 196) rfl) rfl
theorem ml_X5_3 : Cond.methodLink RX5 3 objectInit ∈ mT := mT_of (List.mem_of_getElem? (i := 197) (by decide +kernel)) (by decide +kernel)
theorem fl_X5_18 : Cond.fieldLink RX5 18 "EngineVersions$Node" "weight" "I" ∈ mT := mT_of (List.mem_of_getElem? (i := 198) (by decide +kernel)) (by decide +kernel)
theorem fl_X6_211 : Cond.fieldLink RX6 211 "EngineVersions$Node" "weight" "I" ∈ mT := mT_of (List.mem_of_getElem? (i := 199) (by decide +kernel)) (by decide +kernel)
theorem fl_X5_21 : Cond.fieldLink RX5 21 "EngineVersions$Node" "build" "I" ∈ mT := mT_of (List.mem_of_getElem? (i := 200) (by decide +kernel)) (by decide +kernel)
theorem fl_X6_117 : Cond.fieldLink RX6 117 "EngineVersions$Node" "build" "I" ∈ mT := mT_of (List.mem_of_getElem? (i := 201) (by decide +kernel)) (by decide +kernel)
theorem fl_X5_9 : Cond.fieldLink RX5 9 "EngineVersions$Node" "votes" "I" ∈ mT := mT_of (List.mem_of_getElem? (i := 202) (by decide +kernel)) (by decide +kernel)
theorem fl_X5_15 : Cond.fieldLink RX5 15 "EngineVersions$Node" "haltedAt" "I" ∈ mT := mT_of (List.mem_of_getElem? (i := 203) (by decide +kernel)) (by decide +kernel)
theorem fl_X6_137 : Cond.fieldLink RX6 137 "EngineVersions$Node" "haltedAt" "I" ∈ mT := mT_of (List.mem_of_getElem? (i := 204) (by decide +kernel)) (by decide +kernel)
theorem ml_L_40 : Cond.methodLink RL 40 yX6_build ∈ mT := mT_of (List.mem_of_getElem? (i := 214) (by decide +kernel)) (by decide +kernel)
theorem im_yX6_build : Cond.instanceMethod yX6_build ∈ mT := mT_of (List.mem_of_getElem? (i := 215) (by decide +kernel)) (by decide +kernel)
theorem se_yX6_build : Cond.selects RX6 yX6_build yX6_build ∈ mT := mT_of (List.mem_of_getElem? (i := 216) (by decide +kernel)) (by decide +kernel)
set_option maxRecDepth 100000 in
theorem co_yX6_build : Cond.code yX6_build cX6_build 4 (some FieldType.int) ∈ mT := mT_of (List.mem_of_getElem? (i := 217) rfl) rfl
theorem ml_X6_109 : Cond.methodLink RX6 109 yX6_nodeAt ∈ mT := mT_of (List.mem_of_getElem? (i := 218) (by decide +kernel)) (by decide +kernel)
theorem im_yX6_nodeAt : Cond.instanceMethod yX6_nodeAt ∈ mT := mT_of (List.mem_of_getElem? (i := 220) (by decide +kernel)) (by decide +kernel)
set_option maxRecDepth 100000 in
theorem co_yX6_nodeAt : Cond.code yX6_nodeAt cX6_nodeAt 2 (some (FieldType.object "EngineVersions$Node")) ∈ mT := mT_of (List.mem_of_getElem? (i := 221) rfl) rfl
theorem ml_X6_113 : Cond.methodLink RX6 113 yX5_isHalted ∈ mT := mT_of (List.mem_of_getElem? (i := 222) (by decide +kernel)) (by decide +kernel)
theorem im_yX5_isHalted : Cond.instanceMethod yX5_isHalted ∈ mT := mT_of (List.mem_of_getElem? (i := 223) (by decide +kernel)) (by decide +kernel)
theorem se_yX5_isHalted : Cond.selects RX5 yX5_isHalted yX5_isHalted ∈ mT := mT_of (List.mem_of_getElem? (i := 224) (by decide +kernel)) (by decide +kernel)
set_option maxRecDepth 100000 in
theorem co_yX5_isHalted : Cond.code yX5_isHalted cX5_isHalted 1 (some FieldType.boolean) ∈ mT := mT_of (List.mem_of_getElem? (i := 225) rfl) rfl
theorem ml_L_44 : Cond.methodLink RL 44 yX6_propose ∈ mT := mT_of (List.mem_of_getElem? (i := 226) (by decide +kernel)) (by decide +kernel)
theorem im_yX6_propose : Cond.instanceMethod yX6_propose ∈ mT := mT_of (List.mem_of_getElem? (i := 227) (by decide +kernel)) (by decide +kernel)
theorem se_yX6_propose : Cond.selects RX6 yX6_propose yX6_propose ∈ mT := mT_of (List.mem_of_getElem? (i := 228) (by decide +kernel)) (by decide +kernel)
set_option maxRecDepth 100000 in
theorem co_yX6_propose : Cond.code yX6_propose cX6_propose 4 (some FieldType.int) ∈ mT := mT_of (List.mem_of_getElem? (i := 229) rfl) rfl
theorem ml_X6_120 : Cond.methodLink RX6 120 yX6_highestProposed ∈ mT := mT_of (List.mem_of_getElem? (i := 230) (by decide +kernel)) (by decide +kernel)
theorem im_yX6_highestProposed : Cond.instanceMethod yX6_highestProposed ∈ mT := mT_of (List.mem_of_getElem? (i := 232) (by decide +kernel)) (by decide +kernel)
set_option maxRecDepth 100000 in
theorem co_yX6_highestProposed : Cond.code yX6_highestProposed cX6_highestProposed 6 (some FieldType.int) ∈ mT := mT_of (List.mem_of_getElem? (i := 233) rfl) rfl
theorem ml_X6_203 : Cond.methodLink RX6 203 yJ9_max_7cf53 ∈ mT := mT_of (List.mem_of_getElem? (i := 234) (by decide +kernel)) (by decide +kernel)
theorem st_yJ9_max_7cf53 : Cond.static yJ9_max_7cf53 ∈ mT := mT_of (List.mem_of_getElem? (i := 235) (by decide +kernel)) (by decide +kernel)
set_option maxRecDepth 100000 in
theorem co_yJ9_max_7cf53 : Cond.code yJ9_max_7cf53 cJ9_max_7cf53 2 (some FieldType.int) ∈ mT := mT_of (List.mem_of_getElem? (i := 236) rfl) rfl
theorem ml_L_48 : Cond.methodLink RL 48 yX6_vote ∈ mT := mT_of (List.mem_of_getElem? (i := 237) (by decide +kernel)) (by decide +kernel)
theorem im_yX6_vote : Cond.instanceMethod yX6_vote ∈ mT := mT_of (List.mem_of_getElem? (i := 238) (by decide +kernel)) (by decide +kernel)
theorem se_yX6_vote : Cond.selects RX6 yX6_vote yX6_vote ∈ mT := mT_of (List.mem_of_getElem? (i := 239) (by decide +kernel)) (by decide +kernel)
set_option maxRecDepth 100000 in
theorem co_yX6_vote : Cond.code yX6_vote cX6_vote 6 (some FieldType.int) ∈ mT := mT_of (List.mem_of_getElem? (i := 240) rfl) rfl
theorem ml_X6_124 : Cond.methodLink RX6 124 yX5_setVote ∈ mT := mT_of (List.mem_of_getElem? (i := 241) (by decide +kernel)) (by decide +kernel)
theorem im_yX5_setVote : Cond.instanceMethod yX5_setVote ∈ mT := mT_of (List.mem_of_getElem? (i := 242) (by decide +kernel)) (by decide +kernel)
theorem se_yX5_setVote : Cond.selects RX5 yX5_setVote yX5_setVote ∈ mT := mT_of (List.mem_of_getElem? (i := 243) (by decide +kernel)) (by decide +kernel)
set_option maxRecDepth 100000 in
theorem co_yX5_setVote : Cond.code yX5_setVote cX5_setVote 4 none ∈ mT := mT_of (List.mem_of_getElem? (i := 244) rfl) rfl
theorem ml_L_53 : Cond.methodLink RL 53 yX6_rise ∈ mT := mT_of (List.mem_of_getElem? (i := 245) (by decide +kernel)) (by decide +kernel)
theorem im_yX6_rise : Cond.instanceMethod yX6_rise ∈ mT := mT_of (List.mem_of_getElem? (i := 246) (by decide +kernel)) (by decide +kernel)
theorem se_yX6_rise : Cond.selects RX6 yX6_rise yX6_rise ∈ mT := mT_of (List.mem_of_getElem? (i := 247) (by decide +kernel)) (by decide +kernel)
set_option maxRecDepth 100000 in
theorem co_yX6_rise : Cond.code yX6_rise cX6_rise 3 (some FieldType.int) ∈ mT := mT_of (List.mem_of_getElem? (i := 248) rfl) rfl
theorem ml_X6_128 : Cond.methodLink RX6 128 yX6_decideProposals ∈ mT := mT_of (List.mem_of_getElem? (i := 249) (by decide +kernel)) (by decide +kernel)
theorem im_yX6_decideProposals : Cond.instanceMethod yX6_decideProposals ∈ mT := mT_of (List.mem_of_getElem? (i := 251) (by decide +kernel)) (by decide +kernel)
set_option maxRecDepth 100000 in
theorem co_yX6_decideProposals : Cond.code yX6_decideProposals cX6_decideProposals 5 none ∈ mT := mT_of (List.mem_of_getElem? (i := 252) rfl) rfl
theorem ml_X6_208 : Cond.methodLink RX6 208 yX6_isAgreed ∈ mT := mT_of (List.mem_of_getElem? (i := 253) (by decide +kernel)) (by decide +kernel)
theorem im_yX6_isAgreed : Cond.instanceMethod yX6_isAgreed ∈ mT := mT_of (List.mem_of_getElem? (i := 255) (by decide +kernel)) (by decide +kernel)
set_option maxRecDepth 100000 in
theorem co_yX6_isAgreed : Cond.code yX6_isAgreed cX6_isAgreed 8 (some FieldType.boolean) ∈ mT := mT_of (List.mem_of_getElem? (i := 256) rfl) rfl
theorem ml_X6_214 : Cond.methodLink RX6 214 yX5_votedFor ∈ mT := mT_of (List.mem_of_getElem? (i := 257) (by decide +kernel)) (by decide +kernel)
theorem im_yX5_votedFor : Cond.instanceMethod yX5_votedFor ∈ mT := mT_of (List.mem_of_getElem? (i := 258) (by decide +kernel)) (by decide +kernel)
theorem se_yX5_votedFor : Cond.selects RX5 yX5_votedFor yX5_votedFor ∈ mT := mT_of (List.mem_of_getElem? (i := 259) (by decide +kernel)) (by decide +kernel)
set_option maxRecDepth 100000 in
theorem co_yX5_votedFor : Cond.code yX5_votedFor cX5_votedFor 2 (some FieldType.boolean) ∈ mT := mT_of (List.mem_of_getElem? (i := 260) rfl) rfl
theorem ml_X6_131 : Cond.methodLink RX6 131 yX6_haltLackingNodes ∈ mT := mT_of (List.mem_of_getElem? (i := 261) (by decide +kernel)) (by decide +kernel)
theorem im_yX6_haltLackingNodes : Cond.instanceMethod yX6_haltLackingNodes ∈ mT := mT_of (List.mem_of_getElem? (i := 263) (by decide +kernel)) (by decide +kernel)
set_option maxRecDepth 100000 in
theorem co_yX6_haltLackingNodes : Cond.code yX6_haltLackingNodes cX6_haltLackingNodes 6 none ∈ mT := mT_of (List.mem_of_getElem? (i := 264) rfl) rfl
theorem ml_X6_134 : Cond.methodLink RX6 134 yX6_inForceAt ∈ mT := mT_of (List.mem_of_getElem? (i := 265) (by decide +kernel)) (by decide +kernel)
theorem im_yX6_inForceAt : Cond.instanceMethod yX6_inForceAt ∈ mT := mT_of (List.mem_of_getElem? (i := 267) (by decide +kernel)) (by decide +kernel)
set_option maxRecDepth 100000 in
theorem co_yX6_inForceAt : Cond.code yX6_inForceAt cX6_inForceAt 7 (some (FieldType.object "EngineVersions$Edition")) ∈ mT := mT_of (List.mem_of_getElem? (i := 268) rfl) rfl
theorem ml_X6_217 : Cond.methodLink RX6 217 yX5_hasEdition ∈ mT := mT_of (List.mem_of_getElem? (i := 269) (by decide +kernel)) (by decide +kernel)
theorem im_yX5_hasEdition : Cond.instanceMethod yX5_hasEdition ∈ mT := mT_of (List.mem_of_getElem? (i := 270) (by decide +kernel)) (by decide +kernel)
theorem se_yX5_hasEdition : Cond.selects RX5 yX5_hasEdition yX5_hasEdition ∈ mT := mT_of (List.mem_of_getElem? (i := 271) (by decide +kernel)) (by decide +kernel)
set_option maxRecDepth 100000 in
theorem co_yX5_hasEdition : Cond.code yX5_hasEdition cX5_hasEdition 2 (some FieldType.boolean) ∈ mT := mT_of (List.mem_of_getElem? (i := 272) rfl) rfl
theorem ml_L_57 : Cond.methodLink RL 57 yX6_force ∈ mT := mT_of (List.mem_of_getElem? (i := 273) (by decide +kernel)) (by decide +kernel)
theorem im_yX6_force : Cond.instanceMethod yX6_force ∈ mT := mT_of (List.mem_of_getElem? (i := 274) (by decide +kernel)) (by decide +kernel)
theorem se_yX6_force : Cond.selects RX6 yX6_force yX6_force ∈ mT := mT_of (List.mem_of_getElem? (i := 275) (by decide +kernel)) (by decide +kernel)
set_option maxRecDepth 100000 in
theorem co_yX6_force : Cond.code yX6_force cX6_force 2 (some FieldType.int) ∈ mT := mT_of (List.mem_of_getElem? (i := 276) rfl) rfl
theorem ml_L_61 : Cond.methodLink RL 61 yX6_halted ∈ mT := mT_of (List.mem_of_getElem? (i := 277) (by decide +kernel)) (by decide +kernel)
theorem im_yX6_halted : Cond.instanceMethod yX6_halted ∈ mT := mT_of (List.mem_of_getElem? (i := 278) (by decide +kernel)) (by decide +kernel)
theorem se_yX6_halted : Cond.selects RX6 yX6_halted yX6_halted ∈ mT := mT_of (List.mem_of_getElem? (i := 279) (by decide +kernel)) (by decide +kernel)
set_option maxRecDepth 100000 in
theorem co_yX6_halted : Cond.code yX6_halted cX6_halted 3 (some FieldType.int) ∈ mT := mT_of (List.mem_of_getElem? (i := 280) rfl) rfl
theorem ml_L_65 : Cond.methodLink RL 65 yX6_contract ∈ mT := mT_of (List.mem_of_getElem? (i := 281) (by decide +kernel)) (by decide +kernel)
theorem im_yX6_contract : Cond.instanceMethod yX6_contract ∈ mT := mT_of (List.mem_of_getElem? (i := 282) (by decide +kernel)) (by decide +kernel)
theorem se_yX6_contract : Cond.selects RX6 yX6_contract yX6_contract ∈ mT := mT_of (List.mem_of_getElem? (i := 283) (by decide +kernel)) (by decide +kernel)
set_option maxRecDepth 100000 in
theorem co_yX6_contract : Cond.code yX6_contract cX6_contract 1 (some FieldType.int) ∈ mT := mT_of (List.mem_of_getElem? (i := 284) rfl) rfl
theorem is_X1 : Cond.instantiable RX1 6 ∈ mT := mT_of (List.mem_of_getElem? (i := 285) (by decide +kernel)) (by decide +kernel)
theorem mn_X6_140_l : Cond.methodLinkNest RX6 140 yX1_init RX6 ∈ lw_tbl := List.mem_of_getElem? (i := 286) (by decide +kernel)
theorem im_yX1_init : Cond.instanceMethod yX1_init ∈ mT := mT_of (List.mem_of_getElem? (i := 287) (by decide +kernel)) (by decide +kernel)
set_option maxRecDepth 100000 in
theorem co_yX1_init : Cond.code yX1_init cX1_init 1 none ∈ mT := mT_of (List.mem_of_getElem? (i := 288) rfl) rfl
theorem ml_X1_3 : Cond.methodLink RX1 3 objectInit ∈ mT := mT_of (List.mem_of_getElem? (i := 289) (by decide +kernel)) (by decide +kernel)
theorem cl_X1_18 : Cond.classLink RX1 18 RX0 ∈ mT := mT_of (List.mem_of_getElem? (i := 290) (by decide +kernel)) (by decide +kernel)
theorem mn_X1_20_l : Cond.methodLinkNest RX1 20 yX0_init RX6 ∈ lw_tbl := List.mem_of_getElem? (i := 291) (by decide +kernel)
theorem fl_X1_9 : Cond.fieldLink RX1 9 "EngineVersions$Contract" "acts" "[I" ∈ mT := mT_of (List.mem_of_getElem? (i := 292) (by decide +kernel)) (by decide +kernel)
theorem fl_X4_35 : Cond.fieldLink RX4 35 "EngineVersions$Contract" "acts" "[I" ∈ mT := mT_of (List.mem_of_getElem? (i := 293) (by decide +kernel)) (by decide +kernel)
theorem fl_X1_15 : Cond.fieldLink RX1 15 "EngineVersions$Contract" "numbers" "[I" ∈ mT := mT_of (List.mem_of_getElem? (i := 294) (by decide +kernel)) (by decide +kernel)
theorem fl_X4_52 : Cond.fieldLink RX4 52 "EngineVersions$Contract" "numbers" "[I" ∈ mT := mT_of (List.mem_of_getElem? (i := 295) (by decide +kernel)) (by decide +kernel)
theorem fl_X1_21 : Cond.fieldLink RX1 21 "EngineVersions$Contract" "cells" "LEngineVersions$Cells;" ∈ mT := mT_of (List.mem_of_getElem? (i := 296) (by decide +kernel)) (by decide +kernel)
theorem fl_X6_167 : Cond.fieldLink RX6 167 "EngineVersions$Contract" "cells" "LEngineVersions$Cells;" ∈ mT := mT_of (List.mem_of_getElem? (i := 297) (by decide +kernel)) (by decide +kernel)
theorem fl_X1_25 : Cond.fieldLink RX1 25 "EngineVersions$Contract" "replayCells" "LEngineVersions$Cells;" ∈ mT := mT_of (List.mem_of_getElem? (i := 298) (by decide +kernel)) (by decide +kernel)
theorem fl_X6_220 : Cond.fieldLink RX6 220 "EngineVersions$Contract" "replayCells" "LEngineVersions$Cells;" ∈ mT := mT_of (List.mem_of_getElem? (i := 299) (by decide +kernel)) (by decide +kernel)
theorem fl_X1_28 : Cond.fieldLink RX1 28 "EngineVersions$Contract" "size" "I" ∈ mT := mT_of (List.mem_of_getElem? (i := 300) (by decide +kernel)) (by decide +kernel)
theorem fl_X4_30 : Cond.fieldLink RX4 30 "EngineVersions$Contract" "size" "I" ∈ mT := mT_of (List.mem_of_getElem? (i := 301) (by decide +kernel)) (by decide +kernel)
theorem fl_X6_151 : Cond.fieldLink RX6 151 "EngineVersions$Contract" "size" "I" ∈ mT := mT_of (List.mem_of_getElem? (i := 302) (by decide +kernel)) (by decide +kernel)
theorem fl_X1_32 : Cond.fieldLink RX1 32 "EngineVersions$Contract" "kept" "LEngineVersions$Edition;" ∈ mT := mT_of (List.mem_of_getElem? (i := 303) (by decide +kernel)) (by decide +kernel)
theorem fl_X4_55 : Cond.fieldLink RX4 55 "EngineVersions$Contract" "kept" "LEngineVersions$Edition;" ∈ mT := mT_of (List.mem_of_getElem? (i := 304) (by decide +kernel)) (by decide +kernel)
theorem fl_X6_148 : Cond.fieldLink RX6 148 "EngineVersions$Contract" "kept" "LEngineVersions$Edition;" ∈ mT := mT_of (List.mem_of_getElem? (i := 305) (by decide +kernel)) (by decide +kernel)
theorem ml_L_70 : Cond.methodLink RL 70 yX6_act ∈ mT := mT_of (List.mem_of_getElem? (i := 319) (by decide +kernel)) (by decide +kernel)
theorem im_yX6_act : Cond.instanceMethod yX6_act ∈ mT := mT_of (List.mem_of_getElem? (i := 320) (by decide +kernel)) (by decide +kernel)
theorem se_yX6_act : Cond.selects RX6 yX6_act yX6_act ∈ mT := mT_of (List.mem_of_getElem? (i := 321) (by decide +kernel)) (by decide +kernel)
set_option maxRecDepth 100000 in
theorem co_yX6_act : Cond.code yX6_act cX6_act 5 (some FieldType.int) ∈ mT := mT_of (List.mem_of_getElem? (i := 322) rfl) rfl
theorem ml_X6_141 : Cond.methodLink RX6 141 yX6_contractAt ∈ mT := mT_of (List.mem_of_getElem? (i := 323) (by decide +kernel)) (by decide +kernel)
theorem im_yX6_contractAt : Cond.instanceMethod yX6_contractAt ∈ mT := mT_of (List.mem_of_getElem? (i := 325) (by decide +kernel)) (by decide +kernel)
set_option maxRecDepth 100000 in
theorem co_yX6_contractAt : Cond.code yX6_contractAt cX6_contractAt 2 (some (FieldType.object "EngineVersions$Contract")) ∈ mT := mT_of (List.mem_of_getElem? (i := 326) rfl) rfl
theorem ml_X6_145 : Cond.methodLink RX6 145 yX6_isActWith ∈ mT := mT_of (List.mem_of_getElem? (i := 327) (by decide +kernel)) (by decide +kernel)
theorem st_yX6_isActWith : Cond.static yX6_isActWith ∈ mT := mT_of (List.mem_of_getElem? (i := 328) (by decide +kernel)) (by decide +kernel)
set_option maxRecDepth 100000 in
theorem co_yX6_isActWith : Cond.code yX6_isActWith cX6_isActWith 2 (some FieldType.boolean) ∈ mT := mT_of (List.mem_of_getElem? (i := 329) rfl) rfl
theorem ml_X6_154 : Cond.methodLink RX6 154 yX1_add ∈ mT := mT_of (List.mem_of_getElem? (i := 330) (by decide +kernel)) (by decide +kernel)
theorem im_yX1_add : Cond.instanceMethod yX1_add ∈ mT := mT_of (List.mem_of_getElem? (i := 331) (by decide +kernel)) (by decide +kernel)
theorem se_yX1_add : Cond.selects RX1 yX1_add yX1_add ∈ mT := mT_of (List.mem_of_getElem? (i := 332) (by decide +kernel)) (by decide +kernel)
set_option maxRecDepth 100000 in
theorem co_yX1_add : Cond.code yX1_add cX1_add 3 none ∈ mT := mT_of (List.mem_of_getElem? (i := 333) rfl) rfl
theorem mn_X1_36_l : Cond.methodLinkNest RX1 36 yX6_isBelow RX6 ∈ lw_tbl := List.mem_of_getElem? (i := 334) (by decide +kernel)
theorem ml_L_74 : Cond.methodLink RL 74 yX6_deploy ∈ mT := mT_of (List.mem_of_getElem? (i := 335) (by decide +kernel)) (by decide +kernel)
theorem im_yX6_deploy : Cond.instanceMethod yX6_deploy ∈ mT := mT_of (List.mem_of_getElem? (i := 336) (by decide +kernel)) (by decide +kernel)
theorem se_yX6_deploy : Cond.selects RX6 yX6_deploy yX6_deploy ∈ mT := mT_of (List.mem_of_getElem? (i := 337) (by decide +kernel)) (by decide +kernel)
set_option maxRecDepth 100000 in
theorem co_yX6_deploy : Cond.code yX6_deploy cX6_deploy 5 (some FieldType.int) ∈ mT := mT_of (List.mem_of_getElem? (i := 338) rfl) rfl
theorem ml_X6_157 : Cond.methodLink RX6 157 yX1_ruleBrokenUnder ∈ mT := mT_of (List.mem_of_getElem? (i := 339) (by decide +kernel)) (by decide +kernel)
theorem im_yX1_ruleBrokenUnder : Cond.instanceMethod yX1_ruleBrokenUnder ∈ mT := mT_of (List.mem_of_getElem? (i := 340) (by decide +kernel)) (by decide +kernel)
theorem se_yX1_ruleBrokenUnder : Cond.selects RX1 yX1_ruleBrokenUnder yX1_ruleBrokenUnder ∈ mT := mT_of (List.mem_of_getElem? (i := 341) (by decide +kernel)) (by decide +kernel)
set_option maxRecDepth 100000 in
theorem co_yX1_ruleBrokenUnder : Cond.code yX1_ruleBrokenUnder cX1_ruleBrokenUnder 5 (some FieldType.int) ∈ mT := mT_of (List.mem_of_getElem? (i := 342) rfl) rfl
theorem ml_X1_40 : Cond.methodLink RX1 40 yX2_meaningOf ∈ mT := mT_of (List.mem_of_getElem? (i := 343) (by decide +kernel)) (by decide +kernel)
theorem ml_X1_46 : Cond.methodLink RX1 46 yX1_takenBy ∈ mT := mT_of (List.mem_of_getElem? (i := 344) (by decide +kernel)) (by decide +kernel)
theorem st_yX1_takenBy : Cond.static yX1_takenBy ∈ mT := mT_of (List.mem_of_getElem? (i := 345) (by decide +kernel)) (by decide +kernel)
set_option maxRecDepth 100000 in
theorem co_yX1_takenBy : Cond.code yX1_takenBy cX1_takenBy 1 (some FieldType.int) ∈ mT := mT_of (List.mem_of_getElem? (i := 346) rfl) rfl
theorem ml_X1_49 : Cond.methodLink RX1 49 yX1_laidBy ∈ mT := mT_of (List.mem_of_getElem? (i := 347) (by decide +kernel)) (by decide +kernel)
theorem st_yX1_laidBy : Cond.static yX1_laidBy ∈ mT := mT_of (List.mem_of_getElem? (i := 348) (by decide +kernel)) (by decide +kernel)
set_option maxRecDepth 100000 in
theorem co_yX1_laidBy : Cond.code yX1_laidBy cX1_laidBy 1 (some FieldType.int) ∈ mT := mT_of (List.mem_of_getElem? (i := 349) rfl) rfl
theorem ml_X6_161 : Cond.methodLink RX6 161 yX6_answerOfRule ∈ mT := mT_of (List.mem_of_getElem? (i := 350) (by decide +kernel)) (by decide +kernel)
theorem st_yX6_answerOfRule : Cond.static yX6_answerOfRule ∈ mT := mT_of (List.mem_of_getElem? (i := 351) (by decide +kernel)) (by decide +kernel)
set_option maxRecDepth 100000 in
theorem co_yX6_answerOfRule : Cond.code yX6_answerOfRule cX6_answerOfRule 1 (some FieldType.int) ∈ mT := mT_of (List.mem_of_getElem? (i := 352) rfl) rfl
theorem ml_L_80 : Cond.methodLink RL 80 yX6_run ∈ mT := mT_of (List.mem_of_getElem? (i := 353) (by decide +kernel)) (by decide +kernel)
theorem im_yX6_run : Cond.instanceMethod yX6_run ∈ mT := mT_of (List.mem_of_getElem? (i := 354) (by decide +kernel)) (by decide +kernel)
theorem se_yX6_run : Cond.selects RX6 yX6_run yX6_run ∈ mT := mT_of (List.mem_of_getElem? (i := 355) (by decide +kernel)) (by decide +kernel)
set_option maxRecDepth 100000 in
theorem co_yX6_run : Cond.code yX6_run cX6_run 7 (some FieldType.int) ∈ mT := mT_of (List.mem_of_getElem? (i := 356) rfl) rfl
theorem is_X3 : Cond.instantiable RX3 5 ∈ mT := mT_of (List.mem_of_getElem? (i := 357) (by decide +kernel)) (by decide +kernel)
theorem ml_X6_164 : Cond.methodLink RX6 164 yX3_init ∈ mT := mT_of (List.mem_of_getElem? (i := 358) (by decide +kernel)) (by decide +kernel)
theorem im_yX3_init : Cond.instanceMethod yX3_init ∈ mT := mT_of (List.mem_of_getElem? (i := 359) (by decide +kernel)) (by decide +kernel)
set_option maxRecDepth 100000 in
theorem co_yX3_init : Cond.code yX3_init cX3_init 6 none ∈ mT := mT_of (List.mem_of_getElem? (i := 360) rfl) rfl
theorem ml_X3_1 : Cond.methodLink RX3 1 objectInit ∈ mT := mT_of (List.mem_of_getElem? (i := 361) (by decide +kernel)) (by decide +kernel)
theorem fl_X3_13 : Cond.fieldLink RX3 13 "EngineVersions$Entry" "contract" "I" ∈ mT := mT_of (List.mem_of_getElem? (i := 362) (by decide +kernel)) (by decide +kernel)
theorem fl_X6_192 : Cond.fieldLink RX6 192 "EngineVersions$Entry" "contract" "I" ∈ mT := mT_of (List.mem_of_getElem? (i := 363) (by decide +kernel)) (by decide +kernel)
theorem fl_X3_16 : Cond.fieldLink RX3 16 "EngineVersions$Entry" "argument" "J" ∈ mT := mT_of (List.mem_of_getElem? (i := 364) (by decide +kernel)) (by decide +kernel)
theorem fl_X6_226 : Cond.fieldLink RX6 226 "EngineVersions$Entry" "argument" "J" ∈ mT := mT_of (List.mem_of_getElem? (i := 365) (by decide +kernel)) (by decide +kernel)
theorem fl_X3_20 : Cond.fieldLink RX3 20 "EngineVersions$Entry" "limit" "I" ∈ mT := mT_of (List.mem_of_getElem? (i := 366) (by decide +kernel)) (by decide +kernel)
theorem fl_X6_230 : Cond.fieldLink RX6 230 "EngineVersions$Entry" "limit" "I" ∈ mT := mT_of (List.mem_of_getElem? (i := 367) (by decide +kernel)) (by decide +kernel)
theorem fl_X3_23 : Cond.fieldLink RX3 23 "EngineVersions$Entry" "height" "I" ∈ mT := mT_of (List.mem_of_getElem? (i := 368) (by decide +kernel)) (by decide +kernel)
theorem fl_X6_195 : Cond.fieldLink RX6 195 "EngineVersions$Entry" "height" "I" ∈ mT := mT_of (List.mem_of_getElem? (i := 369) (by decide +kernel)) (by decide +kernel)
theorem fl_X3_7 : Cond.fieldLink RX3 7 "EngineVersions$Entry" "answer" "I" ∈ mT := mT_of (List.mem_of_getElem? (i := 370) (by decide +kernel)) (by decide +kernel)
theorem fl_X6_175 : Cond.fieldLink RX6 175 "EngineVersions$Entry" "answer" "I" ∈ mT := mT_of (List.mem_of_getElem? (i := 371) (by decide +kernel)) (by decide +kernel)
theorem ml_X6_171 : Cond.methodLink RX6 171 yX4_execute ∈ mT := mT_of (List.mem_of_getElem? (i := 383) (by decide +kernel)) (by decide +kernel)
theorem im_yX4_execute : Cond.instanceMethod yX4_execute ∈ mT := mT_of (List.mem_of_getElem? (i := 384) (by decide +kernel)) (by decide +kernel)
theorem se_yX4_execute : Cond.selects RX4 yX4_execute yX4_execute ∈ mT := mT_of (List.mem_of_getElem? (i := 385) (by decide +kernel)) (by decide +kernel)
set_option maxRecDepth 100000 in
theorem co_yX4_execute : Cond.code yX4_execute cX4_execute 10 (some FieldType.int) ∈ mT := mT_of (List.mem_of_getElem? (i := 386) rfl) rfl
theorem ml_X4_26 : Cond.methodLink RX4 26 yX0_becomeLike ∈ mT := mT_of (List.mem_of_getElem? (i := 387) (by decide +kernel)) (by decide +kernel)
theorem im_yX0_becomeLike : Cond.instanceMethod yX0_becomeLike ∈ mT := mT_of (List.mem_of_getElem? (i := 388) (by decide +kernel)) (by decide +kernel)
theorem se_yX0_becomeLike : Cond.selects RX0 yX0_becomeLike yX0_becomeLike ∈ mT := mT_of (List.mem_of_getElem? (i := 389) (by decide +kernel)) (by decide +kernel)
set_option maxRecDepth 100000 in
theorem co_yX0_becomeLike : Cond.code yX0_becomeLike cX0_becomeLike 3 none ∈ mT := mT_of (List.mem_of_getElem? (i := 390) rfl) rfl
theorem ml_X4_39 : Cond.methodLink RX4 39 yX2_priceOf ∈ mT := mT_of (List.mem_of_getElem? (i := 391) (by decide +kernel)) (by decide +kernel)
theorem mn_X4_45_l : Cond.methodLinkNest RX4 45 yX6_answerOfRule RX6 ∈ lw_tbl := List.mem_of_getElem? (i := 392) (by decide +kernel)
theorem ml_X4_48 : Cond.methodLink RX4 48 yX4_top ∈ mT := mT_of (List.mem_of_getElem? (i := 393) (by decide +kernel)) (by decide +kernel)
theorem im_yX4_top : Cond.instanceMethod yX4_top ∈ mT := mT_of (List.mem_of_getElem? (i := 395) (by decide +kernel)) (by decide +kernel)
set_option maxRecDepth 100000 in
theorem co_yX4_top : Cond.code yX4_top cX4_top 1 (some FieldType.long) ∈ mT := mT_of (List.mem_of_getElem? (i := 396) rfl) rfl
theorem mn_X4_107_l : Cond.methodLinkNest RX4 107 yX6_isBelow RX6 ∈ lw_tbl := List.mem_of_getElem? (i := 397) (by decide +kernel)
theorem ml_X4_59 : Cond.methodLink RX4 59 yX4_perform ∈ mT := mT_of (List.mem_of_getElem? (i := 398) (by decide +kernel)) (by decide +kernel)
theorem im_yX4_perform : Cond.instanceMethod yX4_perform ∈ mT := mT_of (List.mem_of_getElem? (i := 400) (by decide +kernel)) (by decide +kernel)
set_option maxRecDepth 100000 in
theorem co_yX4_perform : Cond.code yX4_perform cX4_perform 10 none ∈ mT := mT_of (List.mem_of_getElem? (i := 401) rfl) rfl
theorem ml_X4_63 : Cond.methodLink RX4 63 yX4_lay ∈ mT := mT_of (List.mem_of_getElem? (i := 402) (by decide +kernel)) (by decide +kernel)
theorem im_yX4_lay : Cond.instanceMethod yX4_lay ∈ mT := mT_of (List.mem_of_getElem? (i := 404) (by decide +kernel)) (by decide +kernel)
set_option maxRecDepth 100000 in
theorem co_yX4_lay : Cond.code yX4_lay cX4_lay 3 none ∈ mT := mT_of (List.mem_of_getElem? (i := 405) rfl) rfl
theorem ml_X4_67 : Cond.methodLink RX4 67 yX2_meaningOf ∈ mT := mT_of (List.mem_of_getElem? (i := 406) (by decide +kernel)) (by decide +kernel)
theorem ml_X4_70 : Cond.methodLink RX4 70 yX4_take ∈ mT := mT_of (List.mem_of_getElem? (i := 407) (by decide +kernel)) (by decide +kernel)
theorem im_yX4_take : Cond.instanceMethod yX4_take ∈ mT := mT_of (List.mem_of_getElem? (i := 409) (by decide +kernel)) (by decide +kernel)
set_option maxRecDepth 100000 in
theorem co_yX4_take : Cond.code yX4_take cX4_take 3 (some FieldType.long) ∈ mT := mT_of (List.mem_of_getElem? (i := 410) rfl) rfl
theorem ml_X4_73 : Cond.methodLink RX4 73 yX4_meant ∈ mT := mT_of (List.mem_of_getElem? (i := 411) (by decide +kernel)) (by decide +kernel)
theorem st_yX4_meant : Cond.static yX4_meant ∈ mT := mT_of (List.mem_of_getElem? (i := 412) (by decide +kernel)) (by decide +kernel)
set_option maxRecDepth 100000 in
theorem co_yX4_meant : Cond.code yX4_meant cX4_meant 3 (some FieldType.long) ∈ mT := mT_of (List.mem_of_getElem? (i := 413) rfl) rfl
theorem ml_X4_89 : Cond.methodLink RX4 89 yJ9_abs_067f4 ∈ mT := mT_of (List.mem_of_getElem? (i := 414) (by decide +kernel)) (by decide +kernel)
theorem st_yJ9_abs_067f4 : Cond.static yJ9_abs_067f4 ∈ mT := mT_of (List.mem_of_getElem? (i := 415) (by decide +kernel)) (by decide +kernel)
set_option maxRecDepth 100000 in
theorem co_yJ9_abs_067f4 : Cond.code yJ9_abs_067f4 cJ9_abs_067f4 2 (some FieldType.long) ∈ mT := mT_of (List.mem_of_getElem? (i := 416) rfl) rfl
theorem cn_X4_95 : Cond.constantLong RX4 95 2 ∈ mT := mT_of (List.mem_of_getElem? (i := 417) (by decide +kernel)) (by decide +kernel)
theorem ml_X4_97 : Cond.methodLink RX4 97 yJ9_floorDiv_f86c9 ∈ mT := mT_of (List.mem_of_getElem? (i := 418) (by decide +kernel)) (by decide +kernel)
theorem st_yJ9_floorDiv_f86c9 : Cond.static yJ9_floorDiv_f86c9 ∈ mT := mT_of (List.mem_of_getElem? (i := 419) (by decide +kernel)) (by decide +kernel)
set_option maxRecDepth 100000 in
theorem co_yJ9_floorDiv_f86c9 : Cond.code yJ9_floorDiv_f86c9 cJ9_floorDiv_f86c9 6 (some FieldType.long) ∈ mT := mT_of (List.mem_of_getElem? (i := 420) rfl) rfl
theorem ml_X4_101 : Cond.methodLink RX4 101 yJ13_bitCount_95d88 ∈ mT := mT_of (List.mem_of_getElem? (i := 421) (by decide +kernel)) (by decide +kernel)
theorem st_yJ13_bitCount_95d88 : Cond.static yJ13_bitCount_95d88 ∈ mT := mT_of (List.mem_of_getElem? (i := 422) (by decide +kernel)) (by decide +kernel)
set_option maxRecDepth 100000 in
theorem co_yJ13_bitCount_95d88 : Cond.code yJ13_bitCount_95d88 cJ13_bitCount_95d88 2 (some FieldType.int) ∈ mT := mT_of (List.mem_of_getElem? (i := 423) rfl) rfl
theorem cn_J13_314 : Cond.constantLong RJ13 314 6148914691236517205 ∈ mT := mT_of (List.mem_of_getElem? (i := 424) (by decide +kernel)) (by decide +kernel)
theorem cn_J13_316 : Cond.constantLong RJ13 316 3689348814741910323 ∈ mT := mT_of (List.mem_of_getElem? (i := 425) (by decide +kernel)) (by decide +kernel)
theorem cn_J13_318 : Cond.constantLong RJ13 318 1085102592571150095 ∈ mT := mT_of (List.mem_of_getElem? (i := 426) (by decide +kernel)) (by decide +kernel)
theorem ml_X4_77 : Cond.methodLink RX4 77 yX0_store ∈ mT := mT_of (List.mem_of_getElem? (i := 427) (by decide +kernel)) (by decide +kernel)
theorem im_yX0_store : Cond.instanceMethod yX0_store ∈ mT := mT_of (List.mem_of_getElem? (i := 428) (by decide +kernel)) (by decide +kernel)
theorem se_yX0_store : Cond.selects RX0 yX0_store yX0_store ∈ mT := mT_of (List.mem_of_getElem? (i := 429) (by decide +kernel)) (by decide +kernel)
set_option maxRecDepth 100000 in
theorem co_yX0_store : Cond.code yX0_store cX0_store 4 none ∈ mT := mT_of (List.mem_of_getElem? (i := 430) rfl) rfl
theorem mn_X0_15_l : Cond.methodLinkNest RX0 15 yX6_isBelow RX6 ∈ lw_tbl := List.mem_of_getElem? (i := 431) (by decide +kernel)
theorem ml_X4_81 : Cond.methodLink RX4 81 yX0_valueOf ∈ mT := mT_of (List.mem_of_getElem? (i := 432) (by decide +kernel)) (by decide +kernel)
theorem im_yX0_valueOf : Cond.instanceMethod yX0_valueOf ∈ mT := mT_of (List.mem_of_getElem? (i := 433) (by decide +kernel)) (by decide +kernel)
theorem se_yX0_valueOf : Cond.selects RX0 yX0_valueOf yX0_valueOf ∈ mT := mT_of (List.mem_of_getElem? (i := 434) (by decide +kernel)) (by decide +kernel)
set_option maxRecDepth 100000 in
theorem co_yX0_valueOf : Cond.code yX0_valueOf cX0_valueOf 2 (some FieldType.long) ∈ mT := mT_of (List.mem_of_getElem? (i := 435) rfl) rfl
theorem ml_X4_85 : Cond.methodLink RX4 85 yX4_joined ∈ mT := mT_of (List.mem_of_getElem? (i := 436) (by decide +kernel)) (by decide +kernel)
theorem st_yX4_joined : Cond.static yX4_joined ∈ mT := mT_of (List.mem_of_getElem? (i := 437) (by decide +kernel)) (by decide +kernel)
set_option maxRecDepth 100000 in
theorem co_yX4_joined : Cond.code yX4_joined cX4_joined 5 (some FieldType.long) ∈ mT := mT_of (List.mem_of_getElem? (i := 438) rfl) rfl
theorem ml_X6_178 : Cond.methodLink RX6 178 yX0_digestBehind ∈ mT := mT_of (List.mem_of_getElem? (i := 439) (by decide +kernel)) (by decide +kernel)
theorem im_yX0_digestBehind : Cond.instanceMethod yX0_digestBehind ∈ mT := mT_of (List.mem_of_getElem? (i := 440) (by decide +kernel)) (by decide +kernel)
theorem se_yX0_digestBehind : Cond.selects RX0 yX0_digestBehind yX0_digestBehind ∈ mT := mT_of (List.mem_of_getElem? (i := 441) (by decide +kernel)) (by decide +kernel)
set_option maxRecDepth 100000 in
theorem co_yX0_digestBehind : Cond.code yX0_digestBehind cX0_digestBehind 9 (some FieldType.int) ∈ mT := mT_of (List.mem_of_getElem? (i := 442) rfl) rfl
theorem ml_L_85 : Cond.methodLink RL 85 yX6_cell ∈ mT := mT_of (List.mem_of_getElem? (i := 443) (by decide +kernel)) (by decide +kernel)
theorem im_yX6_cell : Cond.instanceMethod yX6_cell ∈ mT := mT_of (List.mem_of_getElem? (i := 444) (by decide +kernel)) (by decide +kernel)
theorem se_yX6_cell : Cond.selects RX6 yX6_cell yX6_cell ∈ mT := mT_of (List.mem_of_getElem? (i := 445) (by decide +kernel)) (by decide +kernel)
set_option maxRecDepth 100000 in
theorem co_yX6_cell : Cond.code yX6_cell cX6_cell 4 (some FieldType.long) ∈ mT := mT_of (List.mem_of_getElem? (i := 446) rfl) rfl
theorem ml_X6_184 : Cond.methodLink RX6 184 yX0_valueOf ∈ mT := mT_of (List.mem_of_getElem? (i := 447) (by decide +kernel)) (by decide +kernel)
theorem ml_L_90 : Cond.methodLink RL 90 yX6_logged ∈ mT := mT_of (List.mem_of_getElem? (i := 448) (by decide +kernel)) (by decide +kernel)
theorem im_yX6_logged : Cond.instanceMethod yX6_logged ∈ mT := mT_of (List.mem_of_getElem? (i := 449) (by decide +kernel)) (by decide +kernel)
theorem se_yX6_logged : Cond.selects RX6 yX6_logged yX6_logged ∈ mT := mT_of (List.mem_of_getElem? (i := 450) (by decide +kernel)) (by decide +kernel)
set_option maxRecDepth 100000 in
theorem co_yX6_logged : Cond.code yX6_logged cX6_logged 4 (some FieldType.int) ∈ mT := mT_of (List.mem_of_getElem? (i := 451) rfl) rfl
theorem ml_X6_188 : Cond.methodLink RX6 188 yX6_entryAt ∈ mT := mT_of (List.mem_of_getElem? (i := 452) (by decide +kernel)) (by decide +kernel)
theorem im_yX6_entryAt : Cond.instanceMethod yX6_entryAt ∈ mT := mT_of (List.mem_of_getElem? (i := 454) (by decide +kernel)) (by decide +kernel)
set_option maxRecDepth 100000 in
theorem co_yX6_entryAt : Cond.code yX6_entryAt cX6_entryAt 2 (some (FieldType.object "EngineVersions$Entry")) ∈ mT := mT_of (List.mem_of_getElem? (i := 455) rfl) rfl
theorem ml_L_94 : Cond.methodLink RL 94 yX6_digest ∈ mT := mT_of (List.mem_of_getElem? (i := 456) (by decide +kernel)) (by decide +kernel)
theorem im_yX6_digest : Cond.instanceMethod yX6_digest ∈ mT := mT_of (List.mem_of_getElem? (i := 457) (by decide +kernel)) (by decide +kernel)
theorem se_yX6_digest : Cond.selects RX6 yX6_digest yX6_digest ∈ mT := mT_of (List.mem_of_getElem? (i := 458) (by decide +kernel)) (by decide +kernel)
set_option maxRecDepth 100000 in
theorem co_yX6_digest : Cond.code yX6_digest cX6_digest 1 (some FieldType.int) ∈ mT := mT_of (List.mem_of_getElem? (i := 459) rfl) rfl
theorem ml_L_98 : Cond.methodLink RL 98 yX6_replay ∈ mT := mT_of (List.mem_of_getElem? (i := 460) (by decide +kernel)) (by decide +kernel)
theorem im_yX6_replay : Cond.instanceMethod yX6_replay ∈ mT := mT_of (List.mem_of_getElem? (i := 461) (by decide +kernel)) (by decide +kernel)
theorem se_yX6_replay : Cond.selects RX6 yX6_replay yX6_replay ∈ mT := mT_of (List.mem_of_getElem? (i := 462) (by decide +kernel)) (by decide +kernel)
set_option maxRecDepth 100000 in
theorem co_yX6_replay : Cond.code yX6_replay cX6_replay 4 (some FieldType.int) ∈ mT := mT_of (List.mem_of_getElem? (i := 463) rfl) rfl
theorem ml_X6_196 : Cond.methodLink RX6 196 yX6_clearReplayCells ∈ mT := mT_of (List.mem_of_getElem? (i := 464) (by decide +kernel)) (by decide +kernel)
theorem im_yX6_clearReplayCells : Cond.instanceMethod yX6_clearReplayCells ∈ mT := mT_of (List.mem_of_getElem? (i := 466) (by decide +kernel)) (by decide +kernel)
set_option maxRecDepth 100000 in
theorem co_yX6_clearReplayCells : Cond.code yX6_clearReplayCells cX6_clearReplayCells 5 none ∈ mT := mT_of (List.mem_of_getElem? (i := 467) rfl) rfl
theorem ml_X6_223 : Cond.methodLink RX6 223 yX0_clear ∈ mT := mT_of (List.mem_of_getElem? (i := 468) (by decide +kernel)) (by decide +kernel)
theorem im_yX0_clear : Cond.instanceMethod yX0_clear ∈ mT := mT_of (List.mem_of_getElem? (i := 469) (by decide +kernel)) (by decide +kernel)
theorem se_yX0_clear : Cond.selects RX0 yX0_clear yX0_clear ∈ mT := mT_of (List.mem_of_getElem? (i := 470) (by decide +kernel)) (by decide +kernel)
set_option maxRecDepth 100000 in
theorem co_yX0_clear : Cond.code yX0_clear cX0_clear 2 none ∈ mT := mT_of (List.mem_of_getElem? (i := 471) rfl) rfl
theorem ml_X6_199 : Cond.methodLink RX6 199 yX6_digestBehindReplayOf ∈ mT := mT_of (List.mem_of_getElem? (i := 472) (by decide +kernel)) (by decide +kernel)
theorem im_yX6_digestBehindReplayOf : Cond.instanceMethod yX6_digestBehindReplayOf ∈ mT := mT_of (List.mem_of_getElem? (i := 474) (by decide +kernel)) (by decide +kernel)
set_option maxRecDepth 100000 in
theorem co_yX6_digestBehindReplayOf : Cond.code yX6_digestBehindReplayOf cX6_digestBehindReplayOf 5 (some FieldType.int) ∈ mT := mT_of (List.mem_of_getElem? (i := 475) rfl) rfl
theorem ml_L_102 : Cond.methodLink RL 102 yX6_count ∈ mT := mT_of (List.mem_of_getElem? (i := 476) (by decide +kernel)) (by decide +kernel)
theorem im_yX6_count : Cond.instanceMethod yX6_count ∈ mT := mT_of (List.mem_of_getElem? (i := 477) (by decide +kernel)) (by decide +kernel)
theorem se_yX6_count : Cond.selects RX6 yX6_count yX6_count ∈ mT := mT_of (List.mem_of_getElem? (i := 478) (by decide +kernel)) (by decide +kernel)
set_option maxRecDepth 100000 in
theorem co_yX6_count : Cond.code yX6_count cX6_count 2 (some FieldType.int) ∈ mT := mT_of (List.mem_of_getElem? (i := 479) rfl) rfl
theorem cl_L_10 : Cond.classLink RL 10 RX7 ∈ mT := mT_of (List.mem_of_getElem? (i := 480) (by decide +kernel)) (by decide +kernel)
theorem is_X7 : Cond.instantiable RX7 28 ∈ mT := mT_of (List.mem_of_getElem? (i := 481) (by decide +kernel)) (by decide +kernel)
theorem ml_L_12 : Cond.methodLink RL 12 yX7_init ∈ mT := mT_of (List.mem_of_getElem? (i := 482) (by decide +kernel)) (by decide +kernel)
theorem im_yX7_init : Cond.instanceMethod yX7_init ∈ mT := mT_of (List.mem_of_getElem? (i := 483) (by decide +kernel)) (by decide +kernel)
set_option maxRecDepth 100000 in
theorem co_yX7_init : Cond.code yX7_init cX7_init 2 none ∈ mT := mT_of (List.mem_of_getElem? (i := 484) rfl) rfl
theorem ml_X7_1 : Cond.methodLink RX7 1 objectInit ∈ mT := mT_of (List.mem_of_getElem? (i := 485) (by decide +kernel)) (by decide +kernel)
theorem fl_X7_7 : Cond.fieldLink RX7 7 "EngineVersionsModel" "editions" "I" ∈ mT := mT_of (List.mem_of_getElem? (i := 486) (by decide +kernel)) (by decide +kernel)
theorem fl_X7_13 : Cond.fieldLink RX7 13 "EngineVersionsModel" "prices" "[I" ∈ mT := mT_of (List.mem_of_getElem? (i := 487) (by decide +kernel)) (by decide +kernel)
theorem fl_X7_17 : Cond.fieldLink RX7 17 "EngineVersionsModel" "meanings" "[I" ∈ mT := mT_of (List.mem_of_getElem? (i := 488) (by decide +kernel)) (by decide +kernel)
theorem fl_X7_20 : Cond.fieldLink RX7 20 "EngineVersionsModel" "proposedFor" "[I" ∈ mT := mT_of (List.mem_of_getElem? (i := 489) (by decide +kernel)) (by decide +kernel)
theorem fl_X7_23 : Cond.fieldLink RX7 23 "EngineVersionsModel" "state" "[I" ∈ mT := mT_of (List.mem_of_getElem? (i := 490) (by decide +kernel)) (by decide +kernel)
theorem fl_X7_99 : Cond.fieldLink RX7 99 "EngineVersionsModel" "height" "I" ∈ mT := mT_of (List.mem_of_getElem? (i := 491) (by decide +kernel)) (by decide +kernel)
theorem fl_X7_26 : Cond.fieldLink RX7 26 "EngineVersionsModel" "inForce" "[I" ∈ mT := mT_of (List.mem_of_getElem? (i := 492) (by decide +kernel)) (by decide +kernel)
theorem fl_X7_86 : Cond.fieldLink RX7 86 "EngineVersionsModel" "nodes" "I" ∈ mT := mT_of (List.mem_of_getElem? (i := 493) (by decide +kernel)) (by decide +kernel)
theorem fl_X7_29 : Cond.fieldLink RX7 29 "EngineVersionsModel" "weight" "[I" ∈ mT := mT_of (List.mem_of_getElem? (i := 494) (by decide +kernel)) (by decide +kernel)
theorem fl_X7_32 : Cond.fieldLink RX7 32 "EngineVersionsModel" "builds" "[I" ∈ mT := mT_of (List.mem_of_getElem? (i := 495) (by decide +kernel)) (by decide +kernel)
theorem fl_X7_35 : Cond.fieldLink RX7 35 "EngineVersionsModel" "haltedAt" "[I" ∈ mT := mT_of (List.mem_of_getElem? (i := 496) (by decide +kernel)) (by decide +kernel)
theorem fl_X7_38 : Cond.fieldLink RX7 38 "EngineVersionsModel" "votes" "[Z" ∈ mT := mT_of (List.mem_of_getElem? (i := 497) (by decide +kernel)) (by decide +kernel)
theorem fl_X7_89 : Cond.fieldLink RX7 89 "EngineVersionsModel" "contracts" "I" ∈ mT := mT_of (List.mem_of_getElem? (i := 498) (by decide +kernel)) (by decide +kernel)
theorem fl_X7_42 : Cond.fieldLink RX7 42 "EngineVersionsModel" "kept" "[I" ∈ mT := mT_of (List.mem_of_getElem? (i := 499) (by decide +kernel)) (by decide +kernel)
theorem fl_X7_45 : Cond.fieldLink RX7 45 "EngineVersionsModel" "many" "[I" ∈ mT := mT_of (List.mem_of_getElem? (i := 500) (by decide +kernel)) (by decide +kernel)
theorem fl_X7_48 : Cond.fieldLink RX7 48 "EngineVersionsModel" "acts" "[I" ∈ mT := mT_of (List.mem_of_getElem? (i := 501) (by decide +kernel)) (by decide +kernel)
theorem fl_X7_51 : Cond.fieldLink RX7 51 "EngineVersionsModel" "numbers" "[I" ∈ mT := mT_of (List.mem_of_getElem? (i := 502) (by decide +kernel)) (by decide +kernel)
theorem fl_X7_54 : Cond.fieldLink RX7 54 "EngineVersionsModel" "cells" "[J" ∈ mT := mT_of (List.mem_of_getElem? (i := 503) (by decide +kernel)) (by decide +kernel)
theorem fl_X7_126 : Cond.fieldLink RX7 126 "EngineVersionsModel" "logs" "I" ∈ mT := mT_of (List.mem_of_getElem? (i := 504) (by decide +kernel)) (by decide +kernel)
theorem fl_X7_58 : Cond.fieldLink RX7 58 "EngineVersionsModel" "logContract" "[I" ∈ mT := mT_of (List.mem_of_getElem? (i := 505) (by decide +kernel)) (by decide +kernel)
theorem fl_X7_61 : Cond.fieldLink RX7 61 "EngineVersionsModel" "logHeight" "[I" ∈ mT := mT_of (List.mem_of_getElem? (i := 506) (by decide +kernel)) (by decide +kernel)
theorem fl_X7_64 : Cond.fieldLink RX7 64 "EngineVersionsModel" "logArgument" "[J" ∈ mT := mT_of (List.mem_of_getElem? (i := 507) (by decide +kernel)) (by decide +kernel)
theorem fl_X7_67 : Cond.fieldLink RX7 67 "EngineVersionsModel" "logLimit" "[I" ∈ mT := mT_of (List.mem_of_getElem? (i := 508) (by decide +kernel)) (by decide +kernel)
theorem fl_X7_70 : Cond.fieldLink RX7 70 "EngineVersionsModel" "logAnswer" "[I" ∈ mT := mT_of (List.mem_of_getElem? (i := 509) (by decide +kernel)) (by decide +kernel)
theorem fl_X7_133 : Cond.fieldLink RX7 133 "EngineVersionsModel" "digest" "I" ∈ mT := mT_of (List.mem_of_getElem? (i := 510) (by decide +kernel)) (by decide +kernel)
theorem fl_X7_73 : Cond.fieldLink RX7 73 "EngineVersionsModel" "pile" "[J" ∈ mT := mT_of (List.mem_of_getElem? (i := 511) (by decide +kernel)) (by decide +kernel)
theorem fl_X7_76 : Cond.fieldLink RX7 76 "EngineVersionsModel" "aside" "[J" ∈ mT := mT_of (List.mem_of_getElem? (i := 512) (by decide +kernel)) (by decide +kernel)
theorem fl_X7_79 : Cond.fieldLink RX7 79 "EngineVersionsModel" "safe" "[J" ∈ mT := mT_of (List.mem_of_getElem? (i := 513) (by decide +kernel)) (by decide +kernel)
theorem ac_boolean : Cond.arrayClass .boolean ∈ mT := mT_of (List.mem_of_getElem? (i := 571) (by decide +kernel)) (by decide +kernel)
theorem ml_L_17 : Cond.methodLink RL 17 yX7_edition ∈ mT := mT_of (List.mem_of_getElem? (i := 572) (by decide +kernel)) (by decide +kernel)
theorem im_yX7_edition : Cond.instanceMethod yX7_edition ∈ mT := mT_of (List.mem_of_getElem? (i := 573) (by decide +kernel)) (by decide +kernel)
theorem se_yX7_edition : Cond.selects RX7 yX7_edition yX7_edition ∈ mT := mT_of (List.mem_of_getElem? (i := 574) (by decide +kernel)) (by decide +kernel)
set_option maxRecDepth 100000 in
theorem co_yX7_edition : Cond.code yX7_edition cX7_edition 3 (some FieldType.int) ∈ mT := mT_of (List.mem_of_getElem? (i := 575) rfl) rfl
theorem ml_X7_92 : Cond.methodLink RX7 92 yX7_isEdition ∈ mT := mT_of (List.mem_of_getElem? (i := 576) (by decide +kernel)) (by decide +kernel)
theorem im_yX7_isEdition : Cond.instanceMethod yX7_isEdition ∈ mT := mT_of (List.mem_of_getElem? (i := 578) (by decide +kernel)) (by decide +kernel)
set_option maxRecDepth 100000 in
theorem co_yX7_isEdition : Cond.code yX7_isEdition cX7_isEdition 2 (some FieldType.boolean) ∈ mT := mT_of (List.mem_of_getElem? (i := 579) rfl) rfl
theorem ml_X7_82 : Cond.methodLink RX7 82 yX7_in ∈ mT := mT_of (List.mem_of_getElem? (i := 580) (by decide +kernel)) (by decide +kernel)
theorem st_yX7_in : Cond.static yX7_in ∈ mT := mT_of (List.mem_of_getElem? (i := 581) (by decide +kernel)) (by decide +kernel)
set_option maxRecDepth 100000 in
theorem co_yX7_in : Cond.code yX7_in cX7_in 3 (some FieldType.boolean) ∈ mT := mT_of (List.mem_of_getElem? (i := 582) rfl) rfl
theorem ml_L_22 : Cond.methodLink RL 22 yX7_price ∈ mT := mT_of (List.mem_of_getElem? (i := 583) (by decide +kernel)) (by decide +kernel)
theorem im_yX7_price : Cond.instanceMethod yX7_price ∈ mT := mT_of (List.mem_of_getElem? (i := 584) (by decide +kernel)) (by decide +kernel)
theorem se_yX7_price : Cond.selects RX7 yX7_price yX7_price ∈ mT := mT_of (List.mem_of_getElem? (i := 585) (by decide +kernel)) (by decide +kernel)
set_option maxRecDepth 100000 in
theorem co_yX7_price : Cond.code yX7_price cX7_price 5 (some FieldType.int) ∈ mT := mT_of (List.mem_of_getElem? (i := 586) rfl) rfl
theorem ml_L_26 : Cond.methodLink RL 26 yX7_member ∈ mT := mT_of (List.mem_of_getElem? (i := 587) (by decide +kernel)) (by decide +kernel)
theorem im_yX7_member : Cond.instanceMethod yX7_member ∈ mT := mT_of (List.mem_of_getElem? (i := 588) (by decide +kernel)) (by decide +kernel)
theorem se_yX7_member : Cond.selects RX7 yX7_member yX7_member ∈ mT := mT_of (List.mem_of_getElem? (i := 589) (by decide +kernel)) (by decide +kernel)
set_option maxRecDepth 100000 in
theorem co_yX7_member : Cond.code yX7_member cX7_member 5 (some FieldType.int) ∈ mT := mT_of (List.mem_of_getElem? (i := 590) rfl) rfl
theorem ml_L_30 : Cond.methodLink RL 30 yX7_about ∈ mT := mT_of (List.mem_of_getElem? (i := 591) (by decide +kernel)) (by decide +kernel)
theorem im_yX7_about : Cond.instanceMethod yX7_about ∈ mT := mT_of (List.mem_of_getElem? (i := 592) (by decide +kernel)) (by decide +kernel)
theorem se_yX7_about : Cond.selects RX7 yX7_about yX7_about ∈ mT := mT_of (List.mem_of_getElem? (i := 593) (by decide +kernel)) (by decide +kernel)
set_option maxRecDepth 100000 in
theorem co_yX7_about : Cond.code yX7_about cX7_about 4 (some FieldType.int) ∈ mT := mT_of (List.mem_of_getElem? (i := 594) rfl) rfl
theorem ml_L_34 : Cond.methodLink RL 34 yX7_differs ∈ mT := mT_of (List.mem_of_getElem? (i := 595) (by decide +kernel)) (by decide +kernel)
theorem im_yX7_differs : Cond.instanceMethod yX7_differs ∈ mT := mT_of (List.mem_of_getElem? (i := 596) (by decide +kernel)) (by decide +kernel)
theorem se_yX7_differs : Cond.selects RX7 yX7_differs yX7_differs ∈ mT := mT_of (List.mem_of_getElem? (i := 597) (by decide +kernel)) (by decide +kernel)
set_option maxRecDepth 100000 in
theorem co_yX7_differs : Cond.code yX7_differs cX7_differs 7 (some FieldType.int) ∈ mT := mT_of (List.mem_of_getElem? (i := 598) rfl) rfl
theorem ml_L_39 : Cond.methodLink RL 39 yX7_node ∈ mT := mT_of (List.mem_of_getElem? (i := 599) (by decide +kernel)) (by decide +kernel)
theorem im_yX7_node : Cond.instanceMethod yX7_node ∈ mT := mT_of (List.mem_of_getElem? (i := 600) (by decide +kernel)) (by decide +kernel)
theorem se_yX7_node : Cond.selects RX7 yX7_node yX7_node ∈ mT := mT_of (List.mem_of_getElem? (i := 601) (by decide +kernel)) (by decide +kernel)
set_option maxRecDepth 100000 in
theorem co_yX7_node : Cond.code yX7_node cX7_node 3 (some FieldType.int) ∈ mT := mT_of (List.mem_of_getElem? (i := 602) rfl) rfl
theorem ml_L_43 : Cond.methodLink RL 43 yX7_build ∈ mT := mT_of (List.mem_of_getElem? (i := 603) (by decide +kernel)) (by decide +kernel)
theorem im_yX7_build : Cond.instanceMethod yX7_build ∈ mT := mT_of (List.mem_of_getElem? (i := 604) (by decide +kernel)) (by decide +kernel)
theorem se_yX7_build : Cond.selects RX7 yX7_build yX7_build ∈ mT := mT_of (List.mem_of_getElem? (i := 605) (by decide +kernel)) (by decide +kernel)
set_option maxRecDepth 100000 in
theorem co_yX7_build : Cond.code yX7_build cX7_build 3 (some FieldType.int) ∈ mT := mT_of (List.mem_of_getElem? (i := 606) rfl) rfl
theorem ml_X7_96 : Cond.methodLink RX7 96 yX7_isNode ∈ mT := mT_of (List.mem_of_getElem? (i := 607) (by decide +kernel)) (by decide +kernel)
theorem im_yX7_isNode : Cond.instanceMethod yX7_isNode ∈ mT := mT_of (List.mem_of_getElem? (i := 609) (by decide +kernel)) (by decide +kernel)
set_option maxRecDepth 100000 in
theorem co_yX7_isNode : Cond.code yX7_isNode cX7_isNode 2 (some FieldType.boolean) ∈ mT := mT_of (List.mem_of_getElem? (i := 610) rfl) rfl
theorem ml_L_47 : Cond.methodLink RL 47 yX7_propose ∈ mT := mT_of (List.mem_of_getElem? (i := 611) (by decide +kernel)) (by decide +kernel)
theorem im_yX7_propose : Cond.instanceMethod yX7_propose ∈ mT := mT_of (List.mem_of_getElem? (i := 612) (by decide +kernel)) (by decide +kernel)
theorem se_yX7_propose : Cond.selects RX7 yX7_propose yX7_propose ∈ mT := mT_of (List.mem_of_getElem? (i := 613) (by decide +kernel)) (by decide +kernel)
set_option maxRecDepth 100000 in
theorem co_yX7_propose : Cond.code yX7_propose cX7_propose 5 (some FieldType.int) ∈ mT := mT_of (List.mem_of_getElem? (i := 614) rfl) rfl
theorem ml_L_52 : Cond.methodLink RL 52 yX7_vote ∈ mT := mT_of (List.mem_of_getElem? (i := 615) (by decide +kernel)) (by decide +kernel)
theorem im_yX7_vote : Cond.instanceMethod yX7_vote ∈ mT := mT_of (List.mem_of_getElem? (i := 616) (by decide +kernel)) (by decide +kernel)
theorem se_yX7_vote : Cond.selects RX7 yX7_vote yX7_vote ∈ mT := mT_of (List.mem_of_getElem? (i := 617) (by decide +kernel)) (by decide +kernel)
set_option maxRecDepth 100000 in
theorem co_yX7_vote : Cond.code yX7_vote cX7_vote 4 (some FieldType.int) ∈ mT := mT_of (List.mem_of_getElem? (i := 618) rfl) rfl
theorem ml_L_56 : Cond.methodLink RL 56 yX7_rise ∈ mT := mT_of (List.mem_of_getElem? (i := 619) (by decide +kernel)) (by decide +kernel)
theorem im_yX7_rise : Cond.instanceMethod yX7_rise ∈ mT := mT_of (List.mem_of_getElem? (i := 620) (by decide +kernel)) (by decide +kernel)
theorem se_yX7_rise : Cond.selects RX7 yX7_rise yX7_rise ∈ mT := mT_of (List.mem_of_getElem? (i := 621) (by decide +kernel)) (by decide +kernel)
set_option maxRecDepth 100000 in
theorem co_yX7_rise : Cond.code yX7_rise cX7_rise 3 (some FieldType.int) ∈ mT := mT_of (List.mem_of_getElem? (i := 622) rfl) rfl
theorem ml_X7_106 : Cond.methodLink RX7 106 yX7_comes ∈ mT := mT_of (List.mem_of_getElem? (i := 623) (by decide +kernel)) (by decide +kernel)
theorem im_yX7_comes : Cond.instanceMethod yX7_comes ∈ mT := mT_of (List.mem_of_getElem? (i := 625) (by decide +kernel)) (by decide +kernel)
set_option maxRecDepth 100000 in
theorem co_yX7_comes : Cond.code yX7_comes cX7_comes 2 none ∈ mT := mT_of (List.mem_of_getElem? (i := 626) rfl) rfl
theorem ml_X7_102 : Cond.methodLink RX7 102 yX7_agrees ∈ mT := mT_of (List.mem_of_getElem? (i := 627) (by decide +kernel)) (by decide +kernel)
theorem im_yX7_agrees : Cond.instanceMethod yX7_agrees ∈ mT := mT_of (List.mem_of_getElem? (i := 629) (by decide +kernel)) (by decide +kernel)
set_option maxRecDepth 100000 in
theorem co_yX7_agrees : Cond.code yX7_agrees cX7_agrees 5 none ∈ mT := mT_of (List.mem_of_getElem? (i := 630) rfl) rfl
theorem ml_L_60 : Cond.methodLink RL 60 yX7_force ∈ mT := mT_of (List.mem_of_getElem? (i := 631) (by decide +kernel)) (by decide +kernel)
theorem im_yX7_force : Cond.instanceMethod yX7_force ∈ mT := mT_of (List.mem_of_getElem? (i := 632) (by decide +kernel)) (by decide +kernel)
theorem se_yX7_force : Cond.selects RX7 yX7_force yX7_force ∈ mT := mT_of (List.mem_of_getElem? (i := 633) (by decide +kernel)) (by decide +kernel)
set_option maxRecDepth 100000 in
theorem co_yX7_force : Cond.code yX7_force cX7_force 2 (some FieldType.int) ∈ mT := mT_of (List.mem_of_getElem? (i := 634) rfl) rfl
theorem ml_L_64 : Cond.methodLink RL 64 yX7_halted ∈ mT := mT_of (List.mem_of_getElem? (i := 635) (by decide +kernel)) (by decide +kernel)
theorem im_yX7_halted : Cond.instanceMethod yX7_halted ∈ mT := mT_of (List.mem_of_getElem? (i := 636) (by decide +kernel)) (by decide +kernel)
theorem se_yX7_halted : Cond.selects RX7 yX7_halted yX7_halted ∈ mT := mT_of (List.mem_of_getElem? (i := 637) (by decide +kernel)) (by decide +kernel)
set_option maxRecDepth 100000 in
theorem co_yX7_halted : Cond.code yX7_halted cX7_halted 2 (some FieldType.int) ∈ mT := mT_of (List.mem_of_getElem? (i := 638) rfl) rfl
theorem ml_L_69 : Cond.methodLink RL 69 yX7_contract ∈ mT := mT_of (List.mem_of_getElem? (i := 639) (by decide +kernel)) (by decide +kernel)
theorem im_yX7_contract : Cond.instanceMethod yX7_contract ∈ mT := mT_of (List.mem_of_getElem? (i := 640) (by decide +kernel)) (by decide +kernel)
theorem se_yX7_contract : Cond.selects RX7 yX7_contract yX7_contract ∈ mT := mT_of (List.mem_of_getElem? (i := 641) (by decide +kernel)) (by decide +kernel)
set_option maxRecDepth 100000 in
theorem co_yX7_contract : Cond.code yX7_contract cX7_contract 1 (some FieldType.int) ∈ mT := mT_of (List.mem_of_getElem? (i := 642) rfl) rfl
theorem ml_L_73 : Cond.methodLink RL 73 yX7_act ∈ mT := mT_of (List.mem_of_getElem? (i := 643) (by decide +kernel)) (by decide +kernel)
theorem im_yX7_act : Cond.instanceMethod yX7_act ∈ mT := mT_of (List.mem_of_getElem? (i := 644) (by decide +kernel)) (by decide +kernel)
theorem se_yX7_act : Cond.selects RX7 yX7_act yX7_act ∈ mT := mT_of (List.mem_of_getElem? (i := 645) (by decide +kernel)) (by decide +kernel)
set_option maxRecDepth 100000 in
theorem co_yX7_act : Cond.code yX7_act cX7_act 5 (some FieldType.int) ∈ mT := mT_of (List.mem_of_getElem? (i := 646) rfl) rfl
theorem ml_X7_109 : Cond.methodLink RX7 109 yX7_isContract ∈ mT := mT_of (List.mem_of_getElem? (i := 647) (by decide +kernel)) (by decide +kernel)
theorem im_yX7_isContract : Cond.instanceMethod yX7_isContract ∈ mT := mT_of (List.mem_of_getElem? (i := 649) (by decide +kernel)) (by decide +kernel)
set_option maxRecDepth 100000 in
theorem co_yX7_isContract : Cond.code yX7_isContract cX7_isContract 2 (some FieldType.boolean) ∈ mT := mT_of (List.mem_of_getElem? (i := 650) rfl) rfl
theorem ml_L_77 : Cond.methodLink RL 77 yX7_deploy ∈ mT := mT_of (List.mem_of_getElem? (i := 651) (by decide +kernel)) (by decide +kernel)
theorem im_yX7_deploy : Cond.instanceMethod yX7_deploy ∈ mT := mT_of (List.mem_of_getElem? (i := 652) (by decide +kernel)) (by decide +kernel)
theorem se_yX7_deploy : Cond.selects RX7 yX7_deploy yX7_deploy ∈ mT := mT_of (List.mem_of_getElem? (i := 653) (by decide +kernel)) (by decide +kernel)
set_option maxRecDepth 100000 in
theorem co_yX7_deploy : Cond.code yX7_deploy cX7_deploy 7 (some FieldType.int) ∈ mT := mT_of (List.mem_of_getElem? (i := 654) rfl) rfl
theorem ml_L_84 : Cond.methodLink RL 84 yX7_run ∈ mT := mT_of (List.mem_of_getElem? (i := 655) (by decide +kernel)) (by decide +kernel)
theorem im_yX7_run : Cond.instanceMethod yX7_run ∈ mT := mT_of (List.mem_of_getElem? (i := 656) (by decide +kernel)) (by decide +kernel)
theorem se_yX7_run : Cond.selects RX7 yX7_run yX7_run ∈ mT := mT_of (List.mem_of_getElem? (i := 657) (by decide +kernel)) (by decide +kernel)
set_option maxRecDepth 100000 in
theorem co_yX7_run : Cond.code yX7_run cX7_run 6 (some FieldType.int) ∈ mT := mT_of (List.mem_of_getElem? (i := 658) rfl) rfl
theorem ml_X7_129 : Cond.methodLink RX7 129 yX7_runs ∈ mT := mT_of (List.mem_of_getElem? (i := 659) (by decide +kernel)) (by decide +kernel)
theorem im_yX7_runs : Cond.instanceMethod yX7_runs ∈ mT := mT_of (List.mem_of_getElem? (i := 661) (by decide +kernel)) (by decide +kernel)
set_option maxRecDepth 100000 in
theorem co_yX7_runs : Cond.code yX7_runs cX7_runs 11 (some FieldType.int) ∈ mT := mT_of (List.mem_of_getElem? (i := 662) rfl) rfl
theorem ml_X7_118 : Cond.methodLink RX7 118 yX7_meant ∈ mT := mT_of (List.mem_of_getElem? (i := 663) (by decide +kernel)) (by decide +kernel)
theorem st_yX7_meant : Cond.static yX7_meant ∈ mT := mT_of (List.mem_of_getElem? (i := 664) (by decide +kernel)) (by decide +kernel)
set_option maxRecDepth 100000 in
theorem co_yX7_meant : Cond.code yX7_meant cX7_meant 3 (some FieldType.long) ∈ mT := mT_of (List.mem_of_getElem? (i := 665) rfl) rfl
theorem cn_X7_112 : Cond.constantLong RX7 112 2 ∈ mT := mT_of (List.mem_of_getElem? (i := 666) (by decide +kernel)) (by decide +kernel)
theorem ml_X7_114 : Cond.methodLink RX7 114 yX7_ones ∈ mT := mT_of (List.mem_of_getElem? (i := 667) (by decide +kernel)) (by decide +kernel)
theorem st_yX7_ones : Cond.static yX7_ones ∈ mT := mT_of (List.mem_of_getElem? (i := 668) (by decide +kernel)) (by decide +kernel)
set_option maxRecDepth 100000 in
theorem co_yX7_ones : Cond.code yX7_ones cX7_ones 5 (some FieldType.long) ∈ mT := mT_of (List.mem_of_getElem? (i := 669) rfl) rfl
theorem ml_X7_122 : Cond.methodLink RX7 122 yX7_worked ∈ mT := mT_of (List.mem_of_getElem? (i := 670) (by decide +kernel)) (by decide +kernel)
theorem st_yX7_worked : Cond.static yX7_worked ∈ mT := mT_of (List.mem_of_getElem? (i := 671) (by decide +kernel)) (by decide +kernel)
set_option maxRecDepth 100000 in
theorem co_yX7_worked : Cond.code yX7_worked cX7_worked 5 (some FieldType.long) ∈ mT := mT_of (List.mem_of_getElem? (i := 672) rfl) rfl
theorem ml_X7_136 : Cond.methodLink RX7 136 yX7_digested ∈ mT := mT_of (List.mem_of_getElem? (i := 673) (by decide +kernel)) (by decide +kernel)
theorem im_yX7_digested : Cond.instanceMethod yX7_digested ∈ mT := mT_of (List.mem_of_getElem? (i := 675) (by decide +kernel)) (by decide +kernel)
set_option maxRecDepth 100000 in
theorem co_yX7_digested : Cond.code yX7_digested cX7_digested 8 (some FieldType.int) ∈ mT := mT_of (List.mem_of_getElem? (i := 676) rfl) rfl
theorem ml_L_89 : Cond.methodLink RL 89 yX7_cell ∈ mT := mT_of (List.mem_of_getElem? (i := 677) (by decide +kernel)) (by decide +kernel)
theorem im_yX7_cell : Cond.instanceMethod yX7_cell ∈ mT := mT_of (List.mem_of_getElem? (i := 678) (by decide +kernel)) (by decide +kernel)
theorem se_yX7_cell : Cond.selects RX7 yX7_cell yX7_cell ∈ mT := mT_of (List.mem_of_getElem? (i := 679) (by decide +kernel)) (by decide +kernel)
set_option maxRecDepth 100000 in
theorem co_yX7_cell : Cond.code yX7_cell cX7_cell 3 (some FieldType.long) ∈ mT := mT_of (List.mem_of_getElem? (i := 680) rfl) rfl
theorem ml_L_93 : Cond.methodLink RL 93 yX7_logged ∈ mT := mT_of (List.mem_of_getElem? (i := 681) (by decide +kernel)) (by decide +kernel)
theorem im_yX7_logged : Cond.instanceMethod yX7_logged ∈ mT := mT_of (List.mem_of_getElem? (i := 682) (by decide +kernel)) (by decide +kernel)
theorem se_yX7_logged : Cond.selects RX7 yX7_logged yX7_logged ∈ mT := mT_of (List.mem_of_getElem? (i := 683) (by decide +kernel)) (by decide +kernel)
set_option maxRecDepth 100000 in
theorem co_yX7_logged : Cond.code yX7_logged cX7_logged 3 (some FieldType.int) ∈ mT := mT_of (List.mem_of_getElem? (i := 684) rfl) rfl
theorem ml_L_97 : Cond.methodLink RL 97 yX7_digest ∈ mT := mT_of (List.mem_of_getElem? (i := 685) (by decide +kernel)) (by decide +kernel)
theorem im_yX7_digest : Cond.instanceMethod yX7_digest ∈ mT := mT_of (List.mem_of_getElem? (i := 686) (by decide +kernel)) (by decide +kernel)
theorem se_yX7_digest : Cond.selects RX7 yX7_digest yX7_digest ∈ mT := mT_of (List.mem_of_getElem? (i := 687) (by decide +kernel)) (by decide +kernel)
set_option maxRecDepth 100000 in
theorem co_yX7_digest : Cond.code yX7_digest cX7_digest 1 (some FieldType.int) ∈ mT := mT_of (List.mem_of_getElem? (i := 688) rfl) rfl
theorem ml_L_101 : Cond.methodLink RL 101 yX7_replay ∈ mT := mT_of (List.mem_of_getElem? (i := 689) (by decide +kernel)) (by decide +kernel)
theorem im_yX7_replay : Cond.instanceMethod yX7_replay ∈ mT := mT_of (List.mem_of_getElem? (i := 690) (by decide +kernel)) (by decide +kernel)
theorem se_yX7_replay : Cond.selects RX7 yX7_replay yX7_replay ∈ mT := mT_of (List.mem_of_getElem? (i := 691) (by decide +kernel)) (by decide +kernel)
set_option maxRecDepth 100000 in
theorem co_yX7_replay : Cond.code yX7_replay cX7_replay 6 (some FieldType.int) ∈ mT := mT_of (List.mem_of_getElem? (i := 692) rfl) rfl
theorem ml_L_105 : Cond.methodLink RL 105 yX7_count ∈ mT := mT_of (List.mem_of_getElem? (i := 693) (by decide +kernel)) (by decide +kernel)
theorem im_yX7_count : Cond.instanceMethod yX7_count ∈ mT := mT_of (List.mem_of_getElem? (i := 694) (by decide +kernel)) (by decide +kernel)
theorem se_yX7_count : Cond.selects RX7 yX7_count yX7_count ∈ mT := mT_of (List.mem_of_getElem? (i := 695) (by decide +kernel)) (by decide +kernel)
set_option maxRecDepth 100000 in
theorem co_yX7_count : Cond.code yX7_count cX7_count 2 (some FieldType.int) ∈ mT := mT_of (List.mem_of_getElem? (i := 696) rfl) rfl
theorem cn_L_78 : Cond.constantLong RL 78 4294967295 ∈ mT := mT_of (List.mem_of_getElem? (i := 697) (by decide +kernel)) (by decide +kernel)
theorem se_yX6_editionAt : Cond.selects RX6 yX6_editionAt yX6_editionAt ∈ mT := mT_of (List.mem_of_getElem? (i := 0) (by decide +kernel)) (by decide +kernel)
theorem se_yX6_nodeAt : Cond.selects RX6 yX6_nodeAt yX6_nodeAt ∈ mT := mT_of (List.mem_of_getElem? (i := 1) (by decide +kernel)) (by decide +kernel)
theorem se_yX6_highestProposed : Cond.selects RX6 yX6_highestProposed yX6_highestProposed ∈ mT := mT_of (List.mem_of_getElem? (i := 2) (by decide +kernel)) (by decide +kernel)
theorem se_yX6_decideProposals : Cond.selects RX6 yX6_decideProposals yX6_decideProposals ∈ mT := mT_of (List.mem_of_getElem? (i := 3) (by decide +kernel)) (by decide +kernel)
theorem se_yX6_isAgreed : Cond.selects RX6 yX6_isAgreed yX6_isAgreed ∈ mT := mT_of (List.mem_of_getElem? (i := 4) (by decide +kernel)) (by decide +kernel)
theorem se_yX6_haltLackingNodes : Cond.selects RX6 yX6_haltLackingNodes yX6_haltLackingNodes ∈ mT := mT_of (List.mem_of_getElem? (i := 5) (by decide +kernel)) (by decide +kernel)
theorem se_yX6_inForceAt : Cond.selects RX6 yX6_inForceAt yX6_inForceAt ∈ mT := mT_of (List.mem_of_getElem? (i := 6) (by decide +kernel)) (by decide +kernel)
theorem se_yX6_contractAt : Cond.selects RX6 yX6_contractAt yX6_contractAt ∈ mT := mT_of (List.mem_of_getElem? (i := 7) (by decide +kernel)) (by decide +kernel)
theorem se_yX4_top : Cond.selects RX4 yX4_top yX4_top ∈ mT := mT_of (List.mem_of_getElem? (i := 8) (by decide +kernel)) (by decide +kernel)
theorem se_yX4_perform : Cond.selects RX4 yX4_perform yX4_perform ∈ mT := mT_of (List.mem_of_getElem? (i := 9) (by decide +kernel)) (by decide +kernel)
theorem se_yX4_lay : Cond.selects RX4 yX4_lay yX4_lay ∈ mT := mT_of (List.mem_of_getElem? (i := 10) (by decide +kernel)) (by decide +kernel)
theorem se_yX4_take : Cond.selects RX4 yX4_take yX4_take ∈ mT := mT_of (List.mem_of_getElem? (i := 11) (by decide +kernel)) (by decide +kernel)
theorem se_yX6_entryAt : Cond.selects RX6 yX6_entryAt yX6_entryAt ∈ mT := mT_of (List.mem_of_getElem? (i := 12) (by decide +kernel)) (by decide +kernel)
theorem se_yX6_clearReplayCells : Cond.selects RX6 yX6_clearReplayCells yX6_clearReplayCells ∈ mT := mT_of (List.mem_of_getElem? (i := 13) (by decide +kernel)) (by decide +kernel)
theorem se_yX6_digestBehindReplayOf : Cond.selects RX6 yX6_digestBehindReplayOf yX6_digestBehindReplayOf ∈ mT := mT_of (List.mem_of_getElem? (i := 14) (by decide +kernel)) (by decide +kernel)
theorem se_yX7_isEdition : Cond.selects RX7 yX7_isEdition yX7_isEdition ∈ mT := mT_of (List.mem_of_getElem? (i := 15) (by decide +kernel)) (by decide +kernel)
theorem se_yX7_isNode : Cond.selects RX7 yX7_isNode yX7_isNode ∈ mT := mT_of (List.mem_of_getElem? (i := 16) (by decide +kernel)) (by decide +kernel)
theorem se_yX7_comes : Cond.selects RX7 yX7_comes yX7_comes ∈ mT := mT_of (List.mem_of_getElem? (i := 17) (by decide +kernel)) (by decide +kernel)
theorem se_yX7_agrees : Cond.selects RX7 yX7_agrees yX7_agrees ∈ mT := mT_of (List.mem_of_getElem? (i := 18) (by decide +kernel)) (by decide +kernel)
theorem se_yX7_isContract : Cond.selects RX7 yX7_isContract yX7_isContract ∈ mT := mT_of (List.mem_of_getElem? (i := 19) (by decide +kernel)) (by decide +kernel)
theorem se_yX7_runs : Cond.selects RX7 yX7_runs yX7_runs ∈ mT := mT_of (List.mem_of_getElem? (i := 20) (by decide +kernel)) (by decide +kernel)
theorem se_yX7_digested : Cond.selects RX7 yX7_digested yX7_digested ∈ mT := mT_of (List.mem_of_getElem? (i := 21) (by decide +kernel)) (by decide +kernel)
/-- links between nest mates -/
def mm_NW : List Cond := [Cond.methodLinkNest RX6 42 yX4_init RX6, Cond.methodLinkNest RX4 17 yX0_init RX6, Cond.methodLinkNest RX2 28 yX6_isBelow RX6, Cond.methodLinkNest RX6 140 yX1_init RX6, Cond.methodLinkNest RX1 20 yX0_init RX6, Cond.methodLinkNest RX1 36 yX6_isBelow RX6, Cond.methodLinkNest RX4 45 yX6_answerOfRule RX6, Cond.methodLinkNest RX4 107 yX6_isBelow RX6, Cond.methodLinkNest RX0 15 yX6_isBelow RX6]
theorem mn_X6_42 : Cond.methodLinkNest RX6 42 yX4_init RX6 ∈ mm_NW := List.mem_of_getElem? (i := 0) rfl
theorem mn_X4_17 : Cond.methodLinkNest RX4 17 yX0_init RX6 ∈ mm_NW := List.mem_of_getElem? (i := 1) rfl
theorem mn_X2_28 : Cond.methodLinkNest RX2 28 yX6_isBelow RX6 ∈ mm_NW := List.mem_of_getElem? (i := 2) rfl
theorem mn_X6_140 : Cond.methodLinkNest RX6 140 yX1_init RX6 ∈ mm_NW := List.mem_of_getElem? (i := 3) rfl
theorem mn_X1_20 : Cond.methodLinkNest RX1 20 yX0_init RX6 ∈ mm_NW := List.mem_of_getElem? (i := 4) rfl
theorem mn_X1_36 : Cond.methodLinkNest RX1 36 yX6_isBelow RX6 ∈ mm_NW := List.mem_of_getElem? (i := 5) rfl
theorem mn_X4_45 : Cond.methodLinkNest RX4 45 yX6_answerOfRule RX6 ∈ mm_NW := List.mem_of_getElem? (i := 6) rfl
theorem mn_X4_107 : Cond.methodLinkNest RX4 107 yX6_isBelow RX6 ∈ mm_NW := List.mem_of_getElem? (i := 7) rfl
theorem mn_X0_15 : Cond.methodLinkNest RX0 15 yX6_isBelow RX6 ∈ mm_NW := List.mem_of_getElem? (i := 8) rfl
theorem mm_NW_l : ∀ w ∈ mm_NW, w ∈ lw_tbl := by
  intro w h
  simp only [mm_NW, List.mem_cons, List.not_mem_nil, or_false] at h
  rcases h with rfl | rfl | rfl | rfl | rfl | rfl | rfl | rfl | rfl
  · exact mn_X6_42_l
  · exact mn_X4_17_l
  · exact mn_X2_28_l
  · exact mn_X6_140_l
  · exact mn_X1_20_l
  · exact mn_X1_36_l
  · exact mn_X4_45_l
  · exact mn_X4_107_l
  · exact mn_X0_15_l
def mm_AO : List String := [RX2, RX5, RX1, RX3]
theorem ao_X2_l : Cond.arrayOver (.object RX2) ∈ lw_tbl := List.mem_of_getElem? (i := 42) (by decide +kernel)
theorem ao_X2 : RX2 ∈ mm_AO := List.mem_of_getElem? (i := 0) rfl
theorem ao_X5_l : Cond.arrayOver (.object RX5) ∈ lw_tbl := List.mem_of_getElem? (i := 44) (by decide +kernel)
theorem ao_X5 : RX5 ∈ mm_AO := List.mem_of_getElem? (i := 1) rfl
theorem ao_X1_l : Cond.arrayOver (.object RX1) ∈ lw_tbl := List.mem_of_getElem? (i := 46) (by decide +kernel)
theorem ao_X1 : RX1 ∈ mm_AO := List.mem_of_getElem? (i := 2) rfl
theorem ao_X3_l : Cond.arrayOver (.object RX3) ∈ lw_tbl := List.mem_of_getElem? (i := 48) (by decide +kernel)
theorem ao_X3 : RX3 ∈ mm_AO := List.mem_of_getElem? (i := 3) rfl
theorem hl_X0 : ∀ w ∈ u_ws RX0 TX0 1, w ∈ lw_tbl := by decide +kernel
theorem hg_X0 : ∀ w ∈ u_ws RX0 TX0 1, goodWord w = true := by decide +kernel
theorem hin_X0 : ∀ w ∈ u_ws RX0 TX0 1, w ∈ mT := fun w h => mT_of (hl_X0 w h) (hg_X0 w h)
theorem hl_X1 : ∀ w ∈ u_ws RX1 TX1 6, w ∈ lw_tbl := by decide +kernel
theorem hg_X1 : ∀ w ∈ u_ws RX1 TX1 6, goodWord w = true := by decide +kernel
theorem hin_X1 : ∀ w ∈ u_ws RX1 TX1 6, w ∈ mT := fun w h => mT_of (hl_X1 w h) (hg_X1 w h)
theorem hl_X2 : ∀ w ∈ u_ws RX2 TX2 5, w ∈ lw_tbl := by decide +kernel
theorem hg_X2 : ∀ w ∈ u_ws RX2 TX2 5, goodWord w = true := by decide +kernel
theorem hin_X2 : ∀ w ∈ u_ws RX2 TX2 5, w ∈ mT := fun w h => mT_of (hl_X2 w h) (hg_X2 w h)
theorem hl_X3 : ∀ w ∈ u_ws RX3 TX3 5, w ∈ lw_tbl := by decide +kernel
theorem hg_X3 : ∀ w ∈ u_ws RX3 TX3 5, goodWord w = true := by decide +kernel
theorem hin_X3 : ∀ w ∈ u_ws RX3 TX3 5, w ∈ mT := fun w h => mT_of (hl_X3 w h) (hg_X3 w h)
theorem hl_X4 : ∀ w ∈ u_ws RX4 TX4 3, w ∈ lw_tbl := by decide +kernel
theorem hg_X4 : ∀ w ∈ u_ws RX4 TX4 3, goodWord w = true := by decide +kernel
theorem hin_X4 : ∀ w ∈ u_ws RX4 TX4 3, w ∈ mT := fun w h => mT_of (hl_X4 w h) (hg_X4 w h)
theorem hl_X5 : ∀ w ∈ u_ws RX5 TX5 4, w ∈ lw_tbl := by decide +kernel
theorem hg_X5 : ∀ w ∈ u_ws RX5 TX5 4, goodWord w = true := by decide +kernel
theorem hin_X5 : ∀ w ∈ u_ws RX5 TX5 4, w ∈ mT := fun w h => mT_of (hl_X5 w h) (hg_X5 w h)
theorem hl_X6 : ∀ w ∈ u_ws RX6 TX6 12, w ∈ lw_tbl := by decide +kernel
theorem hg_X6 : ∀ w ∈ u_ws RX6 TX6 12, goodWord w = true := by decide +kernel
theorem hin_X6 : ∀ w ∈ u_ws RX6 TX6 12, w ∈ mT := fun w h => mT_of (hl_X6 w h) (hg_X6 w h)
theorem hl_X7 : ∀ w ∈ u_ws RX7 TX7 28, w ∈ lw_tbl := by decide +kernel
theorem hg_X7 : ∀ w ∈ u_ws RX7 TX7 28, goodWord w = true := by decide +kernel
theorem hin_X7 : ∀ w ∈ u_ws RX7 TX7 28, w ∈ mT := fun w h => mT_of (hl_X7 w h) (hg_X7 w h)
