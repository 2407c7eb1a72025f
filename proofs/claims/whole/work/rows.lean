section
-- ===== PART A: goes FIRST, ahead of the names: the tables' words, and 'selects' of the private methods out of them =====
/-- a private method of a class that the tables say can be made, by its rows of tables_1 -/
def lw_okq (q : MethodName × Nat) : Prop := (q.1.cls ≠ "java/lang/invoke/MethodHandle" ∧ q.1.cls ≠ "java/lang/invoke/VarHandle") ∧ Cond.instantiable q.1.cls q.2 ∈ tables_1 ∧ Cond.privateMethod q.1 ∈ tables_1 ∧ Cond.instanceMethod q.1 ∈ tables_1
theorem lw_p0 : lw_okq (⟨"EngineVersions", "editionAt", "(I)LEngineVersions$Edition;"⟩, 12) := ⟨⟨by decide +kernel, by decide +kernel⟩, List.mem_of_getElem? (i := 12) (by decide +kernel), List.mem_of_getElem? (i := 123) (by decide +kernel), List.mem_of_getElem? (i := 124) (by decide +kernel)⟩
theorem lw_p1 : lw_okq (⟨"EngineVersions", "nodeAt", "(I)LEngineVersions$Node;"⟩, 12) := ⟨⟨by decide +kernel, by decide +kernel⟩, List.mem_of_getElem? (i := 12) (by decide +kernel), List.mem_of_getElem? (i := 197) (by decide +kernel), List.mem_of_getElem? (i := 198) (by decide +kernel)⟩
theorem lw_p2 : lw_okq (⟨"EngineVersions", "highestProposed", "()I"⟩, 12) := ⟨⟨by decide +kernel, by decide +kernel⟩, List.mem_of_getElem? (i := 12) (by decide +kernel), List.mem_of_getElem? (i := 209) (by decide +kernel), List.mem_of_getElem? (i := 210) (by decide +kernel)⟩
theorem lw_p3 : lw_okq (⟨"EngineVersions", "decideProposals", "()V"⟩, 12) := ⟨⟨by decide +kernel, by decide +kernel⟩, List.mem_of_getElem? (i := 12) (by decide +kernel), List.mem_of_getElem? (i := 228) (by decide +kernel), List.mem_of_getElem? (i := 229) (by decide +kernel)⟩
theorem lw_p4 : lw_okq (⟨"EngineVersions", "isAgreed", "(I)Z"⟩, 12) := ⟨⟨by decide +kernel, by decide +kernel⟩, List.mem_of_getElem? (i := 12) (by decide +kernel), List.mem_of_getElem? (i := 232) (by decide +kernel), List.mem_of_getElem? (i := 233) (by decide +kernel)⟩
theorem lw_p5 : lw_okq (⟨"EngineVersions", "haltLackingNodes", "()V"⟩, 12) := ⟨⟨by decide +kernel, by decide +kernel⟩, List.mem_of_getElem? (i := 12) (by decide +kernel), List.mem_of_getElem? (i := 240) (by decide +kernel), List.mem_of_getElem? (i := 241) (by decide +kernel)⟩
theorem lw_p6 : lw_okq (⟨"EngineVersions", "inForceAt", "(I)LEngineVersions$Edition;"⟩, 12) := ⟨⟨by decide +kernel, by decide +kernel⟩, List.mem_of_getElem? (i := 12) (by decide +kernel), List.mem_of_getElem? (i := 244) (by decide +kernel), List.mem_of_getElem? (i := 245) (by decide +kernel)⟩
theorem lw_p7 : lw_okq (⟨"EngineVersions", "contractAt", "(I)LEngineVersions$Contract;"⟩, 12) := ⟨⟨by decide +kernel, by decide +kernel⟩, List.mem_of_getElem? (i := 12) (by decide +kernel), List.mem_of_getElem? (i := 302) (by decide +kernel), List.mem_of_getElem? (i := 303) (by decide +kernel)⟩
theorem lw_p8 : lw_okq (⟨"EngineVersions$Machine", "top", "()J"⟩, 3) := ⟨⟨by decide +kernel, by decide +kernel⟩, List.mem_of_getElem? (i := 55) (by decide +kernel), List.mem_of_getElem? (i := 372) (by decide +kernel), List.mem_of_getElem? (i := 373) (by decide +kernel)⟩
theorem lw_p9 : lw_okq (⟨"EngineVersions$Machine", "perform", "(IILEngineVersions$Edition;J)V"⟩, 3) := ⟨⟨by decide +kernel, by decide +kernel⟩, List.mem_of_getElem? (i := 55) (by decide +kernel), List.mem_of_getElem? (i := 377) (by decide +kernel), List.mem_of_getElem? (i := 378) (by decide +kernel)⟩
theorem lw_p10 : lw_okq (⟨"EngineVersions$Machine", "lay", "(J)V"⟩, 3) := ⟨⟨by decide +kernel, by decide +kernel⟩, List.mem_of_getElem? (i := 55) (by decide +kernel), List.mem_of_getElem? (i := 381) (by decide +kernel), List.mem_of_getElem? (i := 382) (by decide +kernel)⟩
theorem lw_p11 : lw_okq (⟨"EngineVersions$Machine", "take", "()J"⟩, 3) := ⟨⟨by decide +kernel, by decide +kernel⟩, List.mem_of_getElem? (i := 55) (by decide +kernel), List.mem_of_getElem? (i := 386) (by decide +kernel), List.mem_of_getElem? (i := 387) (by decide +kernel)⟩
theorem lw_p12 : lw_okq (⟨"EngineVersions", "entryAt", "(I)LEngineVersions$Entry;"⟩, 12) := ⟨⟨by decide +kernel, by decide +kernel⟩, List.mem_of_getElem? (i := 12) (by decide +kernel), List.mem_of_getElem? (i := 431) (by decide +kernel), List.mem_of_getElem? (i := 432) (by decide +kernel)⟩
theorem lw_p13 : lw_okq (⟨"EngineVersions", "clearReplayCells", "()V"⟩, 12) := ⟨⟨by decide +kernel, by decide +kernel⟩, List.mem_of_getElem? (i := 12) (by decide +kernel), List.mem_of_getElem? (i := 443) (by decide +kernel), List.mem_of_getElem? (i := 444) (by decide +kernel)⟩
theorem lw_p14 : lw_okq (⟨"EngineVersions", "digestBehindReplayOf", "(LEngineVersions$Entry;I)I"⟩, 12) := ⟨⟨by decide +kernel, by decide +kernel⟩, List.mem_of_getElem? (i := 12) (by decide +kernel), List.mem_of_getElem? (i := 451) (by decide +kernel), List.mem_of_getElem? (i := 452) (by decide +kernel)⟩
theorem lw_p15 : lw_okq (⟨"EngineVersionsModel", "isEdition", "(I)Z"⟩, 28) := ⟨⟨by decide +kernel, by decide +kernel⟩, List.mem_of_getElem? (i := 459) (by decide +kernel), List.mem_of_getElem? (i := 555) (by decide +kernel), List.mem_of_getElem? (i := 556) (by decide +kernel)⟩
def lw_privs_1 : List (MethodName × Nat) := [(⟨"EngineVersions", "editionAt", "(I)LEngineVersions$Edition;"⟩, 12), (⟨"EngineVersions", "nodeAt", "(I)LEngineVersions$Node;"⟩, 12), (⟨"EngineVersions", "highestProposed", "()I"⟩, 12), (⟨"EngineVersions", "decideProposals", "()V"⟩, 12), (⟨"EngineVersions", "isAgreed", "(I)Z"⟩, 12), (⟨"EngineVersions", "haltLackingNodes", "()V"⟩, 12), (⟨"EngineVersions", "inForceAt", "(I)LEngineVersions$Edition;"⟩, 12), (⟨"EngineVersions", "contractAt", "(I)LEngineVersions$Contract;"⟩, 12), (⟨"EngineVersions$Machine", "top", "()J"⟩, 3), (⟨"EngineVersions$Machine", "perform", "(IILEngineVersions$Edition;J)V"⟩, 3), (⟨"EngineVersions$Machine", "lay", "(J)V"⟩, 3), (⟨"EngineVersions$Machine", "take", "()J"⟩, 3), (⟨"EngineVersions", "entryAt", "(I)LEngineVersions$Entry;"⟩, 12), (⟨"EngineVersions", "clearReplayCells", "()V"⟩, 12), (⟨"EngineVersions", "digestBehindReplayOf", "(LEngineVersions$Entry;I)I"⟩, 12), (⟨"EngineVersionsModel", "isEdition", "(I)Z"⟩, 28)]
theorem lw_r1 : ∀ q ∈ lw_privs_1, lw_okq q := List.forall_mem_cons.mpr ⟨lw_p0, List.forall_mem_cons.mpr ⟨lw_p1, List.forall_mem_cons.mpr ⟨lw_p2, List.forall_mem_cons.mpr ⟨lw_p3, List.forall_mem_cons.mpr ⟨lw_p4, List.forall_mem_cons.mpr ⟨lw_p5, List.forall_mem_cons.mpr ⟨lw_p6, List.forall_mem_cons.mpr ⟨lw_p7, List.forall_mem_cons.mpr ⟨lw_p8, List.forall_mem_cons.mpr ⟨lw_p9, List.forall_mem_cons.mpr ⟨lw_p10, List.forall_mem_cons.mpr ⟨lw_p11, List.forall_mem_cons.mpr ⟨lw_p12, List.forall_mem_cons.mpr ⟨lw_p13, List.forall_mem_cons.mpr ⟨lw_p14, List.forall_mem_cons.mpr ⟨lw_p15, fun _ h => absurd h List.not_mem_nil⟩⟩⟩⟩⟩⟩⟩⟩⟩⟩⟩⟩⟩⟩⟩⟩
theorem lw_p16 : lw_okq (⟨"EngineVersionsModel", "isNode", "(I)Z"⟩, 28) := ⟨⟨by decide +kernel, by decide +kernel⟩, List.mem_of_getElem? (i := 459) (by decide +kernel), List.mem_of_getElem? (i := 586) (by decide +kernel), List.mem_of_getElem? (i := 587) (by decide +kernel)⟩
theorem lw_p17 : lw_okq (⟨"EngineVersionsModel", "comes", "()V"⟩, 28) := ⟨⟨by decide +kernel, by decide +kernel⟩, List.mem_of_getElem? (i := 459) (by decide +kernel), List.mem_of_getElem? (i := 602) (by decide +kernel), List.mem_of_getElem? (i := 603) (by decide +kernel)⟩
theorem lw_p18 : lw_okq (⟨"EngineVersionsModel", "agrees", "(I)V"⟩, 28) := ⟨⟨by decide +kernel, by decide +kernel⟩, List.mem_of_getElem? (i := 459) (by decide +kernel), List.mem_of_getElem? (i := 606) (by decide +kernel), List.mem_of_getElem? (i := 607) (by decide +kernel)⟩
theorem lw_p19 : lw_okq (⟨"EngineVersionsModel", "isContract", "(I)Z"⟩, 28) := ⟨⟨by decide +kernel, by decide +kernel⟩, List.mem_of_getElem? (i := 459) (by decide +kernel), List.mem_of_getElem? (i := 626) (by decide +kernel), List.mem_of_getElem? (i := 627) (by decide +kernel)⟩
theorem lw_p20 : lw_okq (⟨"EngineVersionsModel", "runs", "(IJII)I"⟩, 28) := ⟨⟨by decide +kernel, by decide +kernel⟩, List.mem_of_getElem? (i := 459) (by decide +kernel), List.mem_of_getElem? (i := 638) (by decide +kernel), List.mem_of_getElem? (i := 639) (by decide +kernel)⟩
theorem lw_p21 : lw_okq (⟨"EngineVersionsModel", "digested", "(III)I"⟩, 28) := ⟨⟨by decide +kernel, by decide +kernel⟩, List.mem_of_getElem? (i := 459) (by decide +kernel), List.mem_of_getElem? (i := 652) (by decide +kernel), List.mem_of_getElem? (i := 653) (by decide +kernel)⟩
def lw_privs_2 : List (MethodName × Nat) := [(⟨"EngineVersionsModel", "isNode", "(I)Z"⟩, 28), (⟨"EngineVersionsModel", "comes", "()V"⟩, 28), (⟨"EngineVersionsModel", "agrees", "(I)V"⟩, 28), (⟨"EngineVersionsModel", "isContract", "(I)Z"⟩, 28), (⟨"EngineVersionsModel", "runs", "(IJII)I"⟩, 28), (⟨"EngineVersionsModel", "digested", "(III)I"⟩, 28)]
theorem lw_r2 : ∀ q ∈ lw_privs_2, lw_okq q := List.forall_mem_cons.mpr ⟨lw_p16, List.forall_mem_cons.mpr ⟨lw_p17, List.forall_mem_cons.mpr ⟨lw_p18, List.forall_mem_cons.mpr ⟨lw_p19, List.forall_mem_cons.mpr ⟨lw_p20, List.forall_mem_cons.mpr ⟨lw_p21, fun _ h => absurd h List.not_mem_nil⟩⟩⟩⟩⟩⟩
def lw_privs : List (MethodName × Nat) := lw_privs_1 ++ (lw_privs_2)
def lw_tbl : List Cond := k2_sels lw_privs ++ tables_1
theorem lw_privs_ok : ∀ q ∈ lw_privs, lw_okq q := by
  show ∀ q ∈ lw_privs_1 ++ (lw_privs_2), lw_okq q
  exact List.forall_mem_append.mpr ⟨lw_r1, lw_r2⟩
end
section
def RX0 : String := "EngineVersions$Cells"
def TX0 : u_T := fun k => match k with
  | _ => ("EngineVersions$Cells", "values", "[J", true)
def tyX0 : Nat → FieldType := fun k => match k with
  | _ => .array .long
theorem nmX0 : ∀ a, a < 1 → ∀ b, b < 1 → a ≠ b → (TX0 a).2.1 ≠ (TX0 b).2.1 := by decide +kernel
theorem tyX0_ok : ∀ k, k < 1 → parseFieldDescriptor (TX0 k).2.2.1 = some (tyX0 k) := by decide +kernel
abbrev cX0_init : ByteArray := prog_2_method_1_code
def yX0_init : MethodName := ⟨RX0, "<init>", "()V"⟩
abbrev cX0_valueOf : ByteArray := prog_2_method_2_code
def yX0_valueOf : MethodName := ⟨RX0, "valueOf", "(I)J"⟩
abbrev cX0_store : ByteArray := prog_2_method_3_code
def yX0_store : MethodName := ⟨RX0, "store", "(IJ)V"⟩
abbrev cX0_clear : ByteArray := prog_2_method_4_code
def yX0_clear : MethodName := ⟨RX0, "clear", "()V"⟩
abbrev cX0_becomeLike : ByteArray := prog_2_method_5_code
def yX0_becomeLike : MethodName := ⟨RX0, "becomeLike", "(LEngineVersions$Cells;)V"⟩
abbrev cX0_digestBehind : ByteArray := prog_2_method_6_code
def yX0_digestBehind : MethodName := ⟨RX0, "digestBehind", "(II)I"⟩
def RX1 : String := "EngineVersions$Contract"
def TX1 : u_T := fun k => match k with
  | 0 => ("EngineVersions$Contract", "acts", "[I", true)
  | 1 => ("EngineVersions$Contract", "numbers", "[I", true)
  | 2 => ("EngineVersions$Contract", "cells", "LEngineVersions$Cells;", true)
  | 3 => ("EngineVersions$Contract", "replayCells", "LEngineVersions$Cells;", true)
  | 4 => ("EngineVersions$Contract", "size", "I", false)
  | _ => ("EngineVersions$Contract", "kept", "LEngineVersions$Edition;", false)
def tyX1 : Nat → FieldType := fun k => match k with
  | 0 => .array .int
  | 1 => .array .int
  | 2 => .object "EngineVersions$Cells"
  | 3 => .object "EngineVersions$Cells"
  | 4 => .int
  | _ => .object "EngineVersions$Edition"
theorem nmX1 : ∀ a, a < 6 → ∀ b, b < 6 → a ≠ b → (TX1 a).2.1 ≠ (TX1 b).2.1 := by decide +kernel
theorem tyX1_ok : ∀ k, k < 6 → parseFieldDescriptor (TX1 k).2.2.1 = some (tyX1 k) := by decide +kernel
abbrev cX1_init : ByteArray := prog_3_method_1_code
def yX1_init : MethodName := ⟨RX1, "<init>", "()V"⟩
abbrev cX1_add : ByteArray := prog_3_method_2_code
def yX1_add : MethodName := ⟨RX1, "add", "(II)V"⟩
abbrev cX1_ruleBrokenUnder : ByteArray := prog_3_method_3_code
def yX1_ruleBrokenUnder : MethodName := ⟨RX1, "ruleBrokenUnder", "(LEngineVersions$Edition;)I"⟩
abbrev cX1_takenBy : ByteArray := prog_3_method_4_code
def yX1_takenBy : MethodName := ⟨RX1, "takenBy", "(I)I"⟩
abbrev cX1_laidBy : ByteArray := prog_3_method_5_code
def yX1_laidBy : MethodName := ⟨RX1, "laidBy", "(I)I"⟩
def RX2 : String := "EngineVersions$Edition"
def TX2 : u_T := fun k => match k with
  | 0 => ("EngineVersions$Edition", "number", "I", true)
  | 1 => ("EngineVersions$Edition", "prices", "[I", true)
  | 2 => ("EngineVersions$Edition", "meanings", "[I", true)
  | 3 => ("EngineVersions$Edition", "height", "I", false)
  | _ => ("EngineVersions$Edition", "state", "I", false)
def tyX2 : Nat → FieldType := fun k => match k with
  | 0 => .int
  | 1 => .array .int
  | 2 => .array .int
  | 3 => .int
  | _ => .int
theorem nmX2 : ∀ a, a < 5 → ∀ b, b < 5 → a ≠ b → (TX2 a).2.1 ≠ (TX2 b).2.1 := by decide +kernel
theorem tyX2_ok : ∀ k, k < 5 → parseFieldDescriptor (TX2 k).2.2.1 = some (tyX2 k) := by decide +kernel
abbrev cX2_init : ByteArray := prog_4_method_1_code
def yX2_init : MethodName := ⟨RX2, "<init>", "(I)V"⟩
abbrev cX2_becomeLike : ByteArray := prog_4_method_2_code
def yX2_becomeLike : MethodName := ⟨RX2, "becomeLike", "(LEngineVersions$Edition;)V"⟩
abbrev cX2_priceOf : ByteArray := prog_4_method_3_code
def yX2_priceOf : MethodName := ⟨RX2, "priceOf", "(I)I"⟩
abbrev cX2_meaningOf : ByteArray := prog_4_method_4_code
def yX2_meaningOf : MethodName := ⟨RX2, "meaningOf", "(I)I"⟩
abbrev cX2_traitOf : ByteArray := prog_4_method_5_code
def yX2_traitOf : MethodName := ⟨RX2, "traitOf", "(I)I"⟩
def RX3 : String := "EngineVersions$Entry"
def TX3 : u_T := fun k => match k with
  | 0 => ("EngineVersions$Entry", "contract", "I", true)
  | 1 => ("EngineVersions$Entry", "argument", "J", true)
  | 2 => ("EngineVersions$Entry", "limit", "I", true)
  | 3 => ("EngineVersions$Entry", "height", "I", true)
  | _ => ("EngineVersions$Entry", "answer", "I", false)
def tyX3 : Nat → FieldType := fun k => match k with
  | 0 => .int
  | 1 => .long
  | 2 => .int
  | 3 => .int
  | _ => .int
theorem nmX3 : ∀ a, a < 5 → ∀ b, b < 5 → a ≠ b → (TX3 a).2.1 ≠ (TX3 b).2.1 := by decide +kernel
theorem tyX3_ok : ∀ k, k < 5 → parseFieldDescriptor (TX3 k).2.2.1 = some (tyX3 k) := by decide +kernel
abbrev cX3_init : ByteArray := prog_5_method_1_code
def yX3_init : MethodName := ⟨RX3, "<init>", "(IJII)V"⟩
def RX4 : String := "EngineVersions$Machine"
def TX4 : u_T := fun k => match k with
  | 0 => ("EngineVersions$Machine", "stack", "[J", true)
  | 1 => ("EngineVersions$Machine", "draft", "LEngineVersions$Cells;", true)
  | _ => ("EngineVersions$Machine", "depth", "I", false)
def tyX4 : Nat → FieldType := fun k => match k with
  | 0 => .array .long
  | 1 => .object "EngineVersions$Cells"
  | _ => .int
theorem nmX4 : ∀ a, a < 3 → ∀ b, b < 3 → a ≠ b → (TX4 a).2.1 ≠ (TX4 b).2.1 := by decide +kernel
theorem tyX4_ok : ∀ k, k < 3 → parseFieldDescriptor (TX4 k).2.2.1 = some (tyX4 k) := by decide +kernel
abbrev cX4_init : ByteArray := prog_6_method_1_code
def yX4_init : MethodName := ⟨RX4, "<init>", "()V"⟩
abbrev cX4_execute : ByteArray := prog_6_method_2_code
def yX4_execute : MethodName := ⟨RX4, "execute", "(LEngineVersions$Contract;LEngineVersions$Cells;LEngineVersions$Edition;JI)I"⟩
abbrev cX4_perform : ByteArray := prog_6_method_3_code
def yX4_perform : MethodName := ⟨RX4, "perform", "(IILEngineVersions$Edition;J)V"⟩
abbrev cX4_joined : ByteArray := prog_6_method_4_code
def yX4_joined : MethodName := ⟨RX4, "joined", "(IJJ)J"⟩
abbrev cX4_meant : ByteArray := prog_6_method_5_code
def yX4_meant : MethodName := ⟨RX4, "meant", "(IJ)J"⟩
abbrev cX4_lay : ByteArray := prog_6_method_6_code
def yX4_lay : MethodName := ⟨RX4, "lay", "(J)V"⟩
abbrev cX4_top : ByteArray := prog_6_method_7_code
def yX4_top : MethodName := ⟨RX4, "top", "()J"⟩
abbrev cX4_take : ByteArray := prog_6_method_8_code
def yX4_take : MethodName := ⟨RX4, "take", "()J"⟩
def RX5 : String := "EngineVersions$Node"
def TX5 : u_T := fun k => match k with
  | 0 => ("EngineVersions$Node", "weight", "I", true)
  | 1 => ("EngineVersions$Node", "build", "I", false)
  | 2 => ("EngineVersions$Node", "votes", "I", false)
  | _ => ("EngineVersions$Node", "haltedAt", "I", false)
def tyX5 : Nat → FieldType := fun k => match k with
  | 0 => .int
  | 1 => .int
  | 2 => .int
  | _ => .int
theorem nmX5 : ∀ a, a < 4 → ∀ b, b < 4 → a ≠ b → (TX5 a).2.1 ≠ (TX5 b).2.1 := by decide +kernel
theorem tyX5_ok : ∀ k, k < 4 → parseFieldDescriptor (TX5 k).2.2.1 = some (tyX5 k) := by decide +kernel
abbrev cX5_init : ByteArray := prog_7_method_1_code
def yX5_init : MethodName := ⟨RX5, "<init>", "(II)V"⟩
abbrev cX5_isHalted : ByteArray := prog_7_method_2_code
def yX5_isHalted : MethodName := ⟨RX5, "isHalted", "()Z"⟩
abbrev cX5_hasEdition : ByteArray := prog_7_method_3_code
def yX5_hasEdition : MethodName := ⟨RX5, "hasEdition", "(I)Z"⟩
abbrev cX5_votedFor : ByteArray := prog_7_method_4_code
def yX5_votedFor : MethodName := ⟨RX5, "votedFor", "(I)Z"⟩
abbrev cX5_setVote : ByteArray := prog_7_method_5_code
def yX5_setVote : MethodName := ⟨RX5, "setVote", "(IZ)V"⟩
def RX6 : String := "EngineVersions"
def TX6 : u_T := fun k => match k with
  | 0 => ("EngineVersions", "editions", "[LEngineVersions$Edition;", true)
  | 1 => ("EngineVersions", "nodes", "[LEngineVersions$Node;", true)
  | 2 => ("EngineVersions", "contracts", "[LEngineVersions$Contract;", true)
  | 3 => ("EngineVersions", "log", "[LEngineVersions$Entry;", true)
  | 4 => ("EngineVersions", "origin", "LEngineVersions$Edition;", true)
  | 5 => ("EngineVersions", "machine", "LEngineVersions$Machine;", true)
  | 6 => ("EngineVersions", "editionCount", "I", false)
  | 7 => ("EngineVersions", "nodeCount", "I", false)
  | 8 => ("EngineVersions", "contractCount", "I", false)
  | 9 => ("EngineVersions", "runCount", "I", false)
  | 10 => ("EngineVersions", "height", "I", false)
  | _ => ("EngineVersions", "digestSoFar", "I", false)
def tyX6 : Nat → FieldType := fun k => match k with
  | 0 => .array (.object "EngineVersions$Edition")
  | 1 => .array (.object "EngineVersions$Node")
  | 2 => .array (.object "EngineVersions$Contract")
  | 3 => .array (.object "EngineVersions$Entry")
  | 4 => .object "EngineVersions$Edition"
  | 5 => .object "EngineVersions$Machine"
  | 6 => .int
  | 7 => .int
  | 8 => .int
  | 9 => .int
  | 10 => .int
  | _ => .int
theorem nmX6 : ∀ a, a < 12 → ∀ b, b < 12 → a ≠ b → (TX6 a).2.1 ≠ (TX6 b).2.1 := by decide +kernel
theorem tyX6_ok : ∀ k, k < 12 → parseFieldDescriptor (TX6 k).2.2.1 = some (tyX6 k) := by decide +kernel
abbrev cX6_init : ByteArray := prog_1_method_1_code
def yX6_init : MethodName := ⟨RX6, "<init>", "()V"⟩
abbrev cX6_edition : ByteArray := prog_1_method_2_code
def yX6_edition : MethodName := ⟨RX6, "edition", "(I)I"⟩
abbrev cX6_price : ByteArray := prog_1_method_3_code
def yX6_price : MethodName := ⟨RX6, "price", "(III)I"⟩
abbrev cX6_member : ByteArray := prog_1_method_4_code
def yX6_member : MethodName := ⟨RX6, "member", "(III)I"⟩
abbrev cX6_about : ByteArray := prog_1_method_5_code
def yX6_about : MethodName := ⟨RX6, "about", "(III)I"⟩
abbrev cX6_differs : ByteArray := prog_1_method_6_code
def yX6_differs : MethodName := ⟨RX6, "differs", "(III)I"⟩
abbrev cX6_node : ByteArray := prog_1_method_7_code
def yX6_node : MethodName := ⟨RX6, "node", "(II)I"⟩
abbrev cX6_build : ByteArray := prog_1_method_8_code
def yX6_build : MethodName := ⟨RX6, "build", "(II)I"⟩
abbrev cX6_propose : ByteArray := prog_1_method_9_code
def yX6_propose : MethodName := ⟨RX6, "propose", "(II)I"⟩
abbrev cX6_vote : ByteArray := prog_1_method_10_code
def yX6_vote : MethodName := ⟨RX6, "vote", "(IIZ)I"⟩
abbrev cX6_rise : ByteArray := prog_1_method_11_code
def yX6_rise : MethodName := ⟨RX6, "rise", "(I)I"⟩
abbrev cX6_force : ByteArray := prog_1_method_12_code
def yX6_force : MethodName := ⟨RX6, "force", "(I)I"⟩
abbrev cX6_halted : ByteArray := prog_1_method_13_code
def yX6_halted : MethodName := ⟨RX6, "halted", "(I)I"⟩
abbrev cX6_contract : ByteArray := prog_1_method_14_code
def yX6_contract : MethodName := ⟨RX6, "contract", "()I"⟩
abbrev cX6_act : ByteArray := prog_1_method_15_code
def yX6_act : MethodName := ⟨RX6, "act", "(III)I"⟩
abbrev cX6_deploy : ByteArray := prog_1_method_16_code
def yX6_deploy : MethodName := ⟨RX6, "deploy", "(I)I"⟩
abbrev cX6_run : ByteArray := prog_1_method_17_code
def yX6_run : MethodName := ⟨RX6, "run", "(IJI)I"⟩
abbrev cX6_cell : ByteArray := prog_1_method_18_code
def yX6_cell : MethodName := ⟨RX6, "cell", "(II)J"⟩
abbrev cX6_logged : ByteArray := prog_1_method_19_code
def yX6_logged : MethodName := ⟨RX6, "logged", "(II)I"⟩
abbrev cX6_digest : ByteArray := prog_1_method_20_code
def yX6_digest : MethodName := ⟨RX6, "digest", "()I"⟩
abbrev cX6_replay : ByteArray := prog_1_method_21_code
def yX6_replay : MethodName := ⟨RX6, "replay", "(I)I"⟩
abbrev cX6_count : ByteArray := prog_1_method_22_code
def yX6_count : MethodName := ⟨RX6, "count", "(I)I"⟩
abbrev cX6_isBelow : ByteArray := prog_1_method_23_code
def yX6_isBelow : MethodName := ⟨RX6, "isBelow", "(II)Z"⟩
abbrev cX6_isBuild : ByteArray := prog_1_method_24_code
def yX6_isBuild : MethodName := ⟨RX6, "isBuild", "(I)Z"⟩
abbrev cX6_isActWith : ByteArray := prog_1_method_25_code
def yX6_isActWith : MethodName := ⟨RX6, "isActWith", "(II)Z"⟩
abbrev cX6_answerOfRule : ByteArray := prog_1_method_26_code
def yX6_answerOfRule : MethodName := ⟨RX6, "answerOfRule", "(I)I"⟩
abbrev cX6_editionAt : ByteArray := prog_1_method_27_code
def yX6_editionAt : MethodName := ⟨RX6, "editionAt", "(I)LEngineVersions$Edition;"⟩
abbrev cX6_nodeAt : ByteArray := prog_1_method_28_code
def yX6_nodeAt : MethodName := ⟨RX6, "nodeAt", "(I)LEngineVersions$Node;"⟩
abbrev cX6_contractAt : ByteArray := prog_1_method_29_code
def yX6_contractAt : MethodName := ⟨RX6, "contractAt", "(I)LEngineVersions$Contract;"⟩
abbrev cX6_entryAt : ByteArray := prog_1_method_30_code
def yX6_entryAt : MethodName := ⟨RX6, "entryAt", "(I)LEngineVersions$Entry;"⟩
abbrev cX6_highestProposed : ByteArray := prog_1_method_31_code
def yX6_highestProposed : MethodName := ⟨RX6, "highestProposed", "()I"⟩
abbrev cX6_inForceAt : ByteArray := prog_1_method_32_code
def yX6_inForceAt : MethodName := ⟨RX6, "inForceAt", "(I)LEngineVersions$Edition;"⟩
abbrev cX6_decideProposals : ByteArray := prog_1_method_33_code
def yX6_decideProposals : MethodName := ⟨RX6, "decideProposals", "()V"⟩
abbrev cX6_isAgreed : ByteArray := prog_1_method_34_code
def yX6_isAgreed : MethodName := ⟨RX6, "isAgreed", "(I)Z"⟩
abbrev cX6_haltLackingNodes : ByteArray := prog_1_method_35_code
def yX6_haltLackingNodes : MethodName := ⟨RX6, "haltLackingNodes", "()V"⟩
abbrev cX6_clearReplayCells : ByteArray := prog_1_method_36_code
def yX6_clearReplayCells : MethodName := ⟨RX6, "clearReplayCells", "()V"⟩
abbrev cX6_digestBehindReplayOf : ByteArray := prog_1_method_37_code
def yX6_digestBehindReplayOf : MethodName := ⟨RX6, "digestBehindReplayOf", "(LEngineVersions$Entry;I)I"⟩
def RX7 : String := "EngineVersionsModel"
def TX7 : u_T := fun k => match k with
  | 0 => ("EngineVersionsModel", "editions", "I", false)
  | 1 => ("EngineVersionsModel", "prices", "[I", true)
  | 2 => ("EngineVersionsModel", "meanings", "[I", true)
  | 3 => ("EngineVersionsModel", "proposedFor", "[I", true)
  | 4 => ("EngineVersionsModel", "state", "[I", true)
  | 5 => ("EngineVersionsModel", "height", "I", false)
  | 6 => ("EngineVersionsModel", "inForce", "[I", true)
  | 7 => ("EngineVersionsModel", "nodes", "I", false)
  | 8 => ("EngineVersionsModel", "weight", "[I", true)
  | 9 => ("EngineVersionsModel", "builds", "[I", true)
  | 10 => ("EngineVersionsModel", "haltedAt", "[I", true)
  | 11 => ("EngineVersionsModel", "votes", "[Z", true)
  | 12 => ("EngineVersionsModel", "contracts", "I", false)
  | 13 => ("EngineVersionsModel", "kept", "[I", true)
  | 14 => ("EngineVersionsModel", "many", "[I", true)
  | 15 => ("EngineVersionsModel", "acts", "[I", true)
  | 16 => ("EngineVersionsModel", "numbers", "[I", true)
  | 17 => ("EngineVersionsModel", "cells", "[J", true)
  | 18 => ("EngineVersionsModel", "logs", "I", false)
  | 19 => ("EngineVersionsModel", "logContract", "[I", true)
  | 20 => ("EngineVersionsModel", "logHeight", "[I", true)
  | 21 => ("EngineVersionsModel", "logArgument", "[J", true)
  | 22 => ("EngineVersionsModel", "logLimit", "[I", true)
  | 23 => ("EngineVersionsModel", "logAnswer", "[I", true)
  | 24 => ("EngineVersionsModel", "digest", "I", false)
  | 25 => ("EngineVersionsModel", "pile", "[J", true)
  | 26 => ("EngineVersionsModel", "aside", "[J", true)
  | _ => ("EngineVersionsModel", "safe", "[J", true)
def tyX7 : Nat → FieldType := fun k => match k with
  | 0 => .int
  | 1 => .array .int
  | 2 => .array .int
  | 3 => .array .int
  | 4 => .array .int
  | 5 => .int
  | 6 => .array .int
  | 7 => .int
  | 8 => .array .int
  | 9 => .array .int
  | 10 => .array .int
  | 11 => .array .boolean
  | 12 => .int
  | 13 => .array .int
  | 14 => .array .int
  | 15 => .array .int
  | 16 => .array .int
  | 17 => .array .long
  | 18 => .int
  | 19 => .array .int
  | 20 => .array .int
  | 21 => .array .long
  | 22 => .array .int
  | 23 => .array .int
  | 24 => .int
  | 25 => .array .long
  | 26 => .array .long
  | _ => .array .long
theorem nmX7 : ∀ a, a < 28 → ∀ b, b < 28 → a ≠ b → (TX7 a).2.1 ≠ (TX7 b).2.1 := by decide +kernel
theorem tyX7_ok : ∀ k, k < 28 → parseFieldDescriptor (TX7 k).2.2.1 = some (tyX7 k) := by decide +kernel
abbrev cX7_init : ByteArray := prog_9_method_1_code
def yX7_init : MethodName := ⟨RX7, "<init>", "()V"⟩
abbrev cX7_in : ByteArray := prog_9_method_3_code
def yX7_in : MethodName := ⟨RX7, "in", "(III)Z"⟩
abbrev cX7_isEdition : ByteArray := prog_9_method_4_code
def yX7_isEdition : MethodName := ⟨RX7, "isEdition", "(I)Z"⟩
abbrev cX7_isNode : ByteArray := prog_9_method_5_code
def yX7_isNode : MethodName := ⟨RX7, "isNode", "(I)Z"⟩
abbrev cX7_isContract : ByteArray := prog_9_method_6_code
def yX7_isContract : MethodName := ⟨RX7, "isContract", "(I)Z"⟩
abbrev cX7_edition : ByteArray := prog_9_method_7_code
def yX7_edition : MethodName := ⟨RX7, "edition", "(I)I"⟩
abbrev cX7_price : ByteArray := prog_9_method_8_code
def yX7_price : MethodName := ⟨RX7, "price", "(III)I"⟩
abbrev cX7_member : ByteArray := prog_9_method_9_code
def yX7_member : MethodName := ⟨RX7, "member", "(III)I"⟩
abbrev cX7_about : ByteArray := prog_9_method_10_code
def yX7_about : MethodName := ⟨RX7, "about", "(III)I"⟩
abbrev cX7_differs : ByteArray := prog_9_method_11_code
def yX7_differs : MethodName := ⟨RX7, "differs", "(III)I"⟩
abbrev cX7_node : ByteArray := prog_9_method_12_code
def yX7_node : MethodName := ⟨RX7, "node", "(II)I"⟩
abbrev cX7_build : ByteArray := prog_9_method_13_code
def yX7_build : MethodName := ⟨RX7, "build", "(II)I"⟩
abbrev cX7_propose : ByteArray := prog_9_method_14_code
def yX7_propose : MethodName := ⟨RX7, "propose", "(II)I"⟩
abbrev cX7_vote : ByteArray := prog_9_method_15_code
def yX7_vote : MethodName := ⟨RX7, "vote", "(IIZ)I"⟩
abbrev cX7_agrees : ByteArray := prog_9_method_16_code
def yX7_agrees : MethodName := ⟨RX7, "agrees", "(I)V"⟩
abbrev cX7_comes : ByteArray := prog_9_method_17_code
def yX7_comes : MethodName := ⟨RX7, "comes", "()V"⟩
abbrev cX7_rise : ByteArray := prog_9_method_18_code
def yX7_rise : MethodName := ⟨RX7, "rise", "(I)I"⟩
abbrev cX7_force : ByteArray := prog_9_method_19_code
def yX7_force : MethodName := ⟨RX7, "force", "(I)I"⟩
abbrev cX7_halted : ByteArray := prog_9_method_20_code
def yX7_halted : MethodName := ⟨RX7, "halted", "(I)I"⟩
abbrev cX7_contract : ByteArray := prog_9_method_21_code
def yX7_contract : MethodName := ⟨RX7, "contract", "()I"⟩
abbrev cX7_act : ByteArray := prog_9_method_22_code
def yX7_act : MethodName := ⟨RX7, "act", "(III)I"⟩
abbrev cX7_deploy : ByteArray := prog_9_method_23_code
def yX7_deploy : MethodName := ⟨RX7, "deploy", "(I)I"⟩
abbrev cX7_meant : ByteArray := prog_9_method_24_code
def yX7_meant : MethodName := ⟨RX7, "meant", "(IJ)J"⟩
abbrev cX7_ones : ByteArray := prog_9_method_25_code
def yX7_ones : MethodName := ⟨RX7, "ones", "(J)J"⟩
abbrev cX7_worked : ByteArray := prog_9_method_26_code
def yX7_worked : MethodName := ⟨RX7, "worked", "(IJJ)J"⟩
abbrev cX7_runs : ByteArray := prog_9_method_27_code
def yX7_runs : MethodName := ⟨RX7, "runs", "(IJII)I"⟩
abbrev cX7_digested : ByteArray := prog_9_method_28_code
def yX7_digested : MethodName := ⟨RX7, "digested", "(III)I"⟩
abbrev cX7_run : ByteArray := prog_9_method_29_code
def yX7_run : MethodName := ⟨RX7, "run", "(IJI)I"⟩
abbrev cX7_cell : ByteArray := prog_9_method_30_code
def yX7_cell : MethodName := ⟨RX7, "cell", "(II)J"⟩
abbrev cX7_logged : ByteArray := prog_9_method_31_code
def yX7_logged : MethodName := ⟨RX7, "logged", "(II)I"⟩
abbrev cX7_digest : ByteArray := prog_9_method_32_code
def yX7_digest : MethodName := ⟨RX7, "digest", "()I"⟩
abbrev cX7_replay : ByteArray := prog_9_method_33_code
def yX7_replay : MethodName := ⟨RX7, "replay", "(I)I"⟩
abbrev cX7_count : ByteArray := prog_9_method_34_code
def yX7_count : MethodName := ⟨RX7, "count", "(I)I"⟩
def RJ13 : String := "java/lang/Long"
def TJ13 : u_T := fun k => match k with
  | _ => ("", "", "", false)
def tyJ13 : Nat → FieldType := fun k => match k with
  | _ => .int
theorem nmJ13 : ∀ a, a < 0 → ∀ b, b < 0 → a ≠ b → (TJ13 a).2.1 ≠ (TJ13 b).2.1 := by decide +kernel
theorem tyJ13_ok : ∀ k, k < 0 → parseFieldDescriptor (TJ13 k).2.2.1 = some (tyJ13 k) := by decide +kernel
abbrev cJ13_bitCount_95d88 : ByteArray := prog_10_method_50_code
def yJ13_bitCount_95d88 : MethodName := ⟨RJ13, "bitCount", "(J)I"⟩
def RJ9 : String := "java/lang/Math"
def TJ9 : u_T := fun k => match k with
  | _ => ("", "", "", false)
def tyJ9 : Nat → FieldType := fun k => match k with
  | _ => .int
theorem nmJ9 : ∀ a, a < 0 → ∀ b, b < 0 → a ≠ b → (TJ9 a).2.1 ≠ (TJ9 b).2.1 := by decide +kernel
theorem tyJ9_ok : ∀ k, k < 0 → parseFieldDescriptor (TJ9 k).2.2.1 = some (tyJ9 k) := by decide +kernel
abbrev cJ9_floorDiv_f86c9 : ByteArray := prog_11_method_49_code
def yJ9_floorDiv_f86c9 : MethodName := ⟨RJ9, "floorDiv", "(JJ)J"⟩
abbrev cJ9_abs_067f4 : ByteArray := prog_11_method_61_code
def yJ9_abs_067f4 : MethodName := ⟨RJ9, "abs", "(J)J"⟩
abbrev cJ9_max_7cf53 : ByteArray := prog_11_method_65_code
def yJ9_max_7cf53 : MethodName := ⟨RJ9, "max", "(II)I"⟩
def RL : String := "EngineVersionsLaw"
abbrev cL_law : ByteArray := code
def yL_law : MethodName := ⟨RL, "law", "([I)Z"⟩
abbrev vwCl : List vw_C := [(RX0, TX0, 1), (RX1, TX1, 6), (RX2, TX2, 5), (RX3, TX3, 5), (RX4, TX4, 3), (RX5, TX5, 4), (RX6, TX6, 12), (RX7, TX7, 28)]
/-- the words that any callee may be given -/
def mT : List Cond := lw_tbl.filter goodWord
theorem mT_of {w : Cond} (h1 : w ∈ lw_tbl) (h2 : goodWord w = true) : w ∈ mT := List.mem_filter.mpr ⟨h1, h2⟩
theorem mT_in {w : Cond} (h : w ∈ mT) : w ∈ lw_tbl := (List.mem_filter.mp h).1
theorem mT_ok (w : Cond) (h : w ∈ mT) : (w.onTables && w.keeps) = true ∨ ∃ ty, w = .arrayClass ty := good_of_word (List.mem_filter.mp h).2
theorem in_L : Cond.initialized RL ∈ mT := mT_of (List.mem_of_getElem? (i := 22) (by decide +kernel)) (by decide +kernel)
theorem in_X6 : Cond.initialized RX6 ∈ mT := mT_of (List.mem_of_getElem? (i := 23) (by decide +kernel)) (by decide +kernel)
theorem in_X2 : Cond.initialized RX2 ∈ mT := mT_of (List.mem_of_getElem? (i := 24) (by decide +kernel)) (by decide +kernel)
theorem in_X4 : Cond.initialized RX4 ∈ mT := mT_of (List.mem_of_getElem? (i := 25) (by decide +kernel)) (by decide +kernel)
theorem in_X0 : Cond.initialized RX0 ∈ mT := mT_of (List.mem_of_getElem? (i := 26) (by decide +kernel)) (by decide +kernel)
theorem in_X7 : Cond.initialized RX7 ∈ mT := mT_of (List.mem_of_getElem? (i := 27) (by decide +kernel)) (by decide +kernel)
theorem in_X5 : Cond.initialized RX5 ∈ mT := mT_of (List.mem_of_getElem? (i := 28) (by decide +kernel)) (by decide +kernel)
theorem in_J9 : Cond.initialized RJ9 ∈ mT := mT_of (List.mem_of_getElem? (i := 29) (by decide +kernel)) (by decide +kernel)
theorem in_X1 : Cond.initialized RX1 ∈ mT := mT_of (List.mem_of_getElem? (i := 30) (by decide +kernel)) (by decide +kernel)
theorem in_X3 : Cond.initialized RX3 ∈ mT := mT_of (List.mem_of_getElem? (i := 31) (by decide +kernel)) (by decide +kernel)
theorem in_J13 : Cond.initialized RJ13 ∈ mT := mT_of (List.mem_of_getElem? (i := 32) (by decide +kernel)) (by decide +kernel)
theorem cl_L_7 : Cond.classLink RL 7 RX6 ∈ mT := mT_of (List.mem_of_getElem? (i := 33) (by decide +kernel)) (by decide +kernel)
theorem is_X6 : Cond.instantiable RX6 12 ∈ mT := mT_of (List.mem_of_getElem? (i := 34) (by decide +kernel)) (by decide +kernel)
theorem ml_L_9 : Cond.methodLink RL 9 yX6_init ∈ mT := mT_of (List.mem_of_getElem? (i := 35) (by decide +kernel)) (by decide +kernel)
theorem im_yX6_init : Cond.instanceMethod yX6_init ∈ mT := mT_of (List.mem_of_getElem? (i := 36) (by decide +kernel)) (by decide +kernel)
set_option maxRecDepth 100000 in
theorem co_yX6_init : Cond.code yX6_init cX6_init 2 none ∈ mT := mT_of (List.mem_of_getElem? (i := 37) rfl) rfl
theorem ml_X6_3 : Cond.methodLink RX6 3 objectInit ∈ mT := mT_of (List.mem_of_getElem? (i := 38) (by decide +kernel)) (by decide +kernel)
theorem im_objectInit : Cond.instanceMethod objectInit ∈ mT := mT_of (List.mem_of_getElem? (i := 39) (by decide +kernel)) (by decide +kernel)
set_option maxRecDepth 100000 in
theorem co_objectInit : Cond.code objectInit ⟨#[0xb1]⟩ 1 none ∈ mT := mT_of (List.mem_of_getElem? (i := 40) rfl) rfl
theorem cl_X6_9 : Cond.classLink RX6 9 RX2 ∈ mT := mT_of (List.mem_of_getElem? (i := 41) (by decide +kernel)) (by decide +kernel)
theorem cl_X6_15 : Cond.classLink RX6 15 RX5 ∈ mT := mT_of (List.mem_of_getElem? (i := 43) (by decide +kernel)) (by decide +kernel)
theorem cl_X6_21 : Cond.classLink RX6 21 RX1 ∈ mT := mT_of (List.mem_of_getElem? (i := 45) (by decide +kernel)) (by decide +kernel)
theorem cl_X6_27 : Cond.classLink RX6 27 RX3 ∈ mT := mT_of (List.mem_of_getElem? (i := 47) (by decide +kernel)) (by decide +kernel)
theorem is_X2 : Cond.instantiable RX2 5 ∈ mT := mT_of (List.mem_of_getElem? (i := 49) (by decide +kernel)) (by decide +kernel)
theorem ml_X6_33 : Cond.methodLink RX6 33 yX2_init ∈ mT := mT_of (List.mem_of_getElem? (i := 50) (by decide +kernel)) (by decide +kernel)
theorem im_yX2_init : Cond.instanceMethod yX2_init ∈ mT := mT_of (List.mem_of_getElem? (i := 51) (by decide +kernel)) (by decide +kernel)
set_option maxRecDepth 100000 in
theorem co_yX2_init : Cond.code yX2_init cX2_init 2 none ∈ mT := mT_of (List.mem_of_getElem? (i := 52) rfl) rfl
theorem ml_X2_3 : Cond.methodLink RX2 3 objectInit ∈ mT := mT_of (List.mem_of_getElem? (i := 53) (by decide +kernel)) (by decide +kernel)
theorem fl_X2_25 : Cond.fieldLink RX2 25 "EngineVersions$Edition" "number" "I" ∈ mT := mT_of (List.mem_of_getElem? (i := 54) (by decide +kernel)) (by decide +kernel)
theorem fl_X6_85 : Cond.fieldLink RX6 85 "EngineVersions$Edition" "number" "I" ∈ mT := mT_of (List.mem_of_getElem? (i := 55) (by decide +kernel)) (by decide +kernel)
theorem fl_X2_9 : Cond.fieldLink RX2 9 "EngineVersions$Edition" "prices" "[I" ∈ mT := mT_of (List.mem_of_getElem? (i := 56) (by decide +kernel)) (by decide +kernel)
theorem fl_X6_66 : Cond.fieldLink RX6 66 "EngineVersions$Edition" "prices" "[I" ∈ mT := mT_of (List.mem_of_getElem? (i := 57) (by decide +kernel)) (by decide +kernel)
theorem fl_X2_15 : Cond.fieldLink RX2 15 "EngineVersions$Edition" "meanings" "[I" ∈ mT := mT_of (List.mem_of_getElem? (i := 58) (by decide +kernel)) (by decide +kernel)
theorem fl_X6_70 : Cond.fieldLink RX6 70 "EngineVersions$Edition" "meanings" "[I" ∈ mT := mT_of (List.mem_of_getElem? (i := 59) (by decide +kernel)) (by decide +kernel)
theorem fl_X2_18 : Cond.fieldLink RX2 18 "EngineVersions$Edition" "height" "I" ∈ mT := mT_of (List.mem_of_getElem? (i := 60) (by decide +kernel)) (by decide +kernel)
theorem fl_X6_73 : Cond.fieldLink RX6 73 "EngineVersions$Edition" "height" "I" ∈ mT := mT_of (List.mem_of_getElem? (i := 61) (by decide +kernel)) (by decide +kernel)
theorem fl_X2_22 : Cond.fieldLink RX2 22 "EngineVersions$Edition" "state" "I" ∈ mT := mT_of (List.mem_of_getElem? (i := 62) (by decide +kernel)) (by decide +kernel)
theorem fl_X6_74 : Cond.fieldLink RX6 74 "EngineVersions$Edition" "state" "I" ∈ mT := mT_of (List.mem_of_getElem? (i := 63) (by decide +kernel)) (by decide +kernel)
theorem ac_int : Cond.arrayClass .int ∈ mT := mT_of (List.mem_of_getElem? (i := 75) (by decide +kernel)) (by decide +kernel)
theorem cl_X6_40 : Cond.classLink RX6 40 RX4 ∈ mT := mT_of (List.mem_of_getElem? (i := 76) (by decide +kernel)) (by decide +kernel)
theorem is_X4 : Cond.instantiable RX4 3 ∈ mT := mT_of (List.mem_of_getElem? (i := 77) (by decide +kernel)) (by decide +kernel)
theorem mn_X6_42_l : Cond.methodLinkNest RX6 42 yX4_init RX6 ∈ lw_tbl := List.mem_of_getElem? (i := 78) (by decide +kernel)
theorem im_yX4_init : Cond.instanceMethod yX4_init ∈ mT := mT_of (List.mem_of_getElem? (i := 79) (by decide +kernel)) (by decide +kernel)
set_option maxRecDepth 100000 in
theorem co_yX4_init : Cond.code yX4_init cX4_init 1 none ∈ mT := mT_of (List.mem_of_getElem? (i := 80) rfl) rfl
theorem ml_X4_3 : Cond.methodLink RX4 3 objectInit ∈ mT := mT_of (List.mem_of_getElem? (i := 81) (by decide +kernel)) (by decide +kernel)
theorem cl_X4_15 : Cond.classLink RX4 15 RX0 ∈ mT := mT_of (List.mem_of_getElem? (i := 82) (by decide +kernel)) (by decide +kernel)
theorem is_X0 : Cond.instantiable RX0 1 ∈ mT := mT_of (List.mem_of_getElem? (i := 83) (by decide +kernel)) (by decide +kernel)
theorem mn_X4_17_l : Cond.methodLinkNest RX4 17 yX0_init RX6 ∈ lw_tbl := List.mem_of_getElem? (i := 84) (by decide +kernel)
theorem im_yX0_init : Cond.instanceMethod yX0_init ∈ mT := mT_of (List.mem_of_getElem? (i := 85) (by decide +kernel)) (by decide +kernel)
set_option maxRecDepth 100000 in
theorem co_yX0_init : Cond.code yX0_init cX0_init 1 none ∈ mT := mT_of (List.mem_of_getElem? (i := 86) rfl) rfl
theorem ml_X0_3 : Cond.methodLink RX0 3 objectInit ∈ mT := mT_of (List.mem_of_getElem? (i := 87) (by decide +kernel)) (by decide +kernel)
theorem fl_X0_9 : Cond.fieldLink RX0 9 "EngineVersions$Cells" "values" "[J" ∈ mT := mT_of (List.mem_of_getElem? (i := 88) (by decide +kernel)) (by decide +kernel)
theorem ac_long : Cond.arrayClass .long ∈ mT := mT_of (List.mem_of_getElem? (i := 92) (by decide +kernel)) (by decide +kernel)
theorem fl_X4_9 : Cond.fieldLink RX4 9 "EngineVersions$Machine" "stack" "[J" ∈ mT := mT_of (List.mem_of_getElem? (i := 93) (by decide +kernel)) (by decide +kernel)
theorem fl_X4_18 : Cond.fieldLink RX4 18 "EngineVersions$Machine" "draft" "LEngineVersions$Cells;" ∈ mT := mT_of (List.mem_of_getElem? (i := 94) (by decide +kernel)) (by decide +kernel)
theorem fl_X4_22 : Cond.fieldLink RX4 22 "EngineVersions$Machine" "depth" "I" ∈ mT := mT_of (List.mem_of_getElem? (i := 95) (by decide +kernel)) (by decide +kernel)
theorem fl_X6_11 : Cond.fieldLink RX6 11 "EngineVersions" "editions" "[LEngineVersions$Edition;" ∈ mT := mT_of (List.mem_of_getElem? (i := 103) (by decide +kernel)) (by decide +kernel)
theorem fl_X6_17 : Cond.fieldLink RX6 17 "EngineVersions" "nodes" "[LEngineVersions$Node;" ∈ mT := mT_of (List.mem_of_getElem? (i := 104) (by decide +kernel)) (by decide +kernel)
theorem fl_X6_23 : Cond.fieldLink RX6 23 "EngineVersions" "contracts" "[LEngineVersions$Contract;" ∈ mT := mT_of (List.mem_of_getElem? (i := 105) (by decide +kernel)) (by decide +kernel)
theorem fl_X6_29 : Cond.fieldLink RX6 29 "EngineVersions" "log" "[LEngineVersions$Entry;" ∈ mT := mT_of (List.mem_of_getElem? (i := 106) (by decide +kernel)) (by decide +kernel)
theorem fl_X6_36 : Cond.fieldLink RX6 36 "EngineVersions" "origin" "LEngineVersions$Edition;" ∈ mT := mT_of (List.mem_of_getElem? (i := 107) (by decide +kernel)) (by decide +kernel)
theorem fl_X6_43 : Cond.fieldLink RX6 43 "EngineVersions" "machine" "LEngineVersions$Machine;" ∈ mT := mT_of (List.mem_of_getElem? (i := 108) (by decide +kernel)) (by decide +kernel)
theorem fl_X6_47 : Cond.fieldLink RX6 47 "EngineVersions" "editionCount" "I" ∈ mT := mT_of (List.mem_of_getElem? (i := 109) (by decide +kernel)) (by decide +kernel)
theorem fl_X6_51 : Cond.fieldLink RX6 51 "EngineVersions" "nodeCount" "I" ∈ mT := mT_of (List.mem_of_getElem? (i := 110) (by decide +kernel)) (by decide +kernel)
theorem fl_X6_54 : Cond.fieldLink RX6 54 "EngineVersions" "contractCount" "I" ∈ mT := mT_of (List.mem_of_getElem? (i := 111) (by decide +kernel)) (by decide +kernel)
theorem fl_X6_57 : Cond.fieldLink RX6 57 "EngineVersions" "runCount" "I" ∈ mT := mT_of (List.mem_of_getElem? (i := 112) (by decide +kernel)) (by decide +kernel)
theorem fl_X6_60 : Cond.fieldLink RX6 60 "EngineVersions" "height" "I" ∈ mT := mT_of (List.mem_of_getElem? (i := 113) (by decide +kernel)) (by decide +kernel)
theorem fl_X6_63 : Cond.fieldLink RX6 63 "EngineVersions" "digestSoFar" "I" ∈ mT := mT_of (List.mem_of_getElem? (i := 114) (by decide +kernel)) (by decide +kernel)
theorem ml_L_13 : Cond.methodLink RL 13 yX6_edition ∈ mT := mT_of (List.mem_of_getElem? (i := 140) (by decide +kernel)) (by decide +kernel)
theorem im_yX6_edition : Cond.instanceMethod yX6_edition ∈ mT := mT_of (List.mem_of_getElem? (i := 141) (by decide +kernel)) (by decide +kernel)
theorem se_yX6_edition : Cond.selects RX6 yX6_edition yX6_edition ∈ mT := mT_of (List.mem_of_getElem? (i := 142) (by decide +kernel)) (by decide +kernel)
set_option maxRecDepth 100000 in
theorem co_yX6_edition : Cond.code yX6_edition cX6_edition 4 (some FieldType.int) ∈ mT := mT_of (List.mem_of_getElem? (i := 143) rfl) rfl
theorem ml_X6_77 : Cond.methodLink RX6 77 yX6_editionAt ∈ mT := mT_of (List.mem_of_getElem? (i := 144) (by decide +kernel)) (by decide +kernel)
theorem im_yX6_editionAt : Cond.instanceMethod yX6_editionAt ∈ mT := mT_of (List.mem_of_getElem? (i := 146) (by decide +kernel)) (by decide +kernel)
set_option maxRecDepth 100000 in
theorem co_yX6_editionAt : Cond.code yX6_editionAt cX6_editionAt 2 (some (FieldType.object "EngineVersions$Edition")) ∈ mT := mT_of (List.mem_of_getElem? (i := 147) rfl) rfl
theorem ml_X6_88 : Cond.methodLink RX6 88 yX6_isBelow ∈ mT := mT_of (List.mem_of_getElem? (i := 148) (by decide +kernel)) (by decide +kernel)
theorem st_yX6_isBelow : Cond.static yX6_isBelow ∈ mT := mT_of (List.mem_of_getElem? (i := 149) (by decide +kernel)) (by decide +kernel)
set_option maxRecDepth 100000 in
theorem co_yX6_isBelow : Cond.code yX6_isBelow cX6_isBelow 2 (some FieldType.boolean) ∈ mT := mT_of (List.mem_of_getElem? (i := 150) rfl) rfl
theorem ml_X6_81 : Cond.methodLink RX6 81 yX2_becomeLike ∈ mT := mT_of (List.mem_of_getElem? (i := 151) (by decide +kernel)) (by decide +kernel)
theorem im_yX2_becomeLike : Cond.instanceMethod yX2_becomeLike ∈ mT := mT_of (List.mem_of_getElem? (i := 152) (by decide +kernel)) (by decide +kernel)
theorem se_yX2_becomeLike : Cond.selects RX2 yX2_becomeLike yX2_becomeLike ∈ mT := mT_of (List.mem_of_getElem? (i := 153) (by decide +kernel)) (by decide +kernel)
set_option maxRecDepth 100000 in
theorem co_yX2_becomeLike : Cond.code yX2_becomeLike cX2_becomeLike 3 none ∈ mT := mT_of (List.mem_of_getElem? (i := 154) rfl) rfl
theorem ml_L_18 : Cond.methodLink RL 18 yX6_price ∈ mT := mT_of (List.mem_of_getElem? (i := 155) (by decide +kernel)) (by decide +kernel)
theorem im_yX6_price : Cond.instanceMethod yX6_price ∈ mT := mT_of (List.mem_of_getElem? (i := 156) (by decide +kernel)) (by decide +kernel)
theorem se_yX6_price : Cond.selects RX6 yX6_price yX6_price ∈ mT := mT_of (List.mem_of_getElem? (i := 157) (by decide +kernel)) (by decide +kernel)
set_option maxRecDepth 100000 in
theorem co_yX6_price : Cond.code yX6_price cX6_price 6 (some FieldType.int) ∈ mT := mT_of (List.mem_of_getElem? (i := 158) rfl) rfl
theorem ml_L_23 : Cond.methodLink RL 23 yX6_member ∈ mT := mT_of (List.mem_of_getElem? (i := 159) (by decide +kernel)) (by decide +kernel)
theorem im_yX6_member : Cond.instanceMethod yX6_member ∈ mT := mT_of (List.mem_of_getElem? (i := 160) (by decide +kernel)) (by decide +kernel)
theorem se_yX6_member : Cond.selects RX6 yX6_member yX6_member ∈ mT := mT_of (List.mem_of_getElem? (i := 161) (by decide +kernel)) (by decide +kernel)
set_option maxRecDepth 100000 in
theorem co_yX6_member : Cond.code yX6_member cX6_member 6 (some FieldType.int) ∈ mT := mT_of (List.mem_of_getElem? (i := 162) rfl) rfl
theorem ml_L_27 : Cond.methodLink RL 27 yX6_about ∈ mT := mT_of (List.mem_of_getElem? (i := 163) (by decide +kernel)) (by decide +kernel)
theorem im_yX6_about : Cond.instanceMethod yX6_about ∈ mT := mT_of (List.mem_of_getElem? (i := 164) (by decide +kernel)) (by decide +kernel)
theorem se_yX6_about : Cond.selects RX6 yX6_about yX6_about ∈ mT := mT_of (List.mem_of_getElem? (i := 165) (by decide +kernel)) (by decide +kernel)
set_option maxRecDepth 100000 in
theorem co_yX6_about : Cond.code yX6_about cX6_about 5 (some FieldType.int) ∈ mT := mT_of (List.mem_of_getElem? (i := 166) rfl) rfl
theorem ml_X6_92 : Cond.methodLink RX6 92 yX2_priceOf ∈ mT := mT_of (List.mem_of_getElem? (i := 167) (by decide +kernel)) (by decide +kernel)
theorem im_yX2_priceOf : Cond.instanceMethod yX2_priceOf ∈ mT := mT_of (List.mem_of_getElem? (i := 168) (by decide +kernel)) (by decide +kernel)
theorem se_yX2_priceOf : Cond.selects RX2 yX2_priceOf yX2_priceOf ∈ mT := mT_of (List.mem_of_getElem? (i := 169) (by decide +kernel)) (by decide +kernel)
set_option maxRecDepth 100000 in
theorem co_yX2_priceOf : Cond.code yX2_priceOf cX2_priceOf 2 (some FieldType.int) ∈ mT := mT_of (List.mem_of_getElem? (i := 170) rfl) rfl
theorem mn_X2_28_l : Cond.methodLinkNest RX2 28 yX6_isBelow RX6 ∈ lw_tbl := List.mem_of_getElem? (i := 171) (by decide +kernel)
theorem ml_X6_96 : Cond.methodLink RX6 96 yX2_meaningOf ∈ mT := mT_of (List.mem_of_getElem? (i := 172) (by decide +kernel)) (by decide +kernel)
theorem im_yX2_meaningOf : Cond.instanceMethod yX2_meaningOf ∈ mT := mT_of (List.mem_of_getElem? (i := 173) (by decide +kernel)) (by decide +kernel)
theorem se_yX2_meaningOf : Cond.selects RX2 yX2_meaningOf yX2_meaningOf ∈ mT := mT_of (List.mem_of_getElem? (i := 174) (by decide +kernel)) (by decide +kernel)
set_option maxRecDepth 100000 in
theorem co_yX2_meaningOf : Cond.code yX2_meaningOf cX2_meaningOf 2 (some FieldType.int) ∈ mT := mT_of (List.mem_of_getElem? (i := 175) rfl) rfl
theorem ml_L_31 : Cond.methodLink RL 31 yX6_differs ∈ mT := mT_of (List.mem_of_getElem? (i := 176) (by decide +kernel)) (by decide +kernel)
theorem im_yX6_differs : Cond.instanceMethod yX6_differs ∈ mT := mT_of (List.mem_of_getElem? (i := 177) (by decide +kernel)) (by decide +kernel)
theorem se_yX6_differs : Cond.selects RX6 yX6_differs yX6_differs ∈ mT := mT_of (List.mem_of_getElem? (i := 178) (by decide +kernel)) (by decide +kernel)
set_option maxRecDepth 100000 in
theorem co_yX6_differs : Cond.code yX6_differs cX6_differs 8 (some FieldType.int) ∈ mT := mT_of (List.mem_of_getElem? (i := 179) rfl) rfl
theorem ml_X6_99 : Cond.methodLink RX6 99 yX2_traitOf ∈ mT := mT_of (List.mem_of_getElem? (i := 180) (by decide +kernel)) (by decide +kernel)
theorem im_yX2_traitOf : Cond.instanceMethod yX2_traitOf ∈ mT := mT_of (List.mem_of_getElem? (i := 181) (by decide +kernel)) (by decide +kernel)
theorem se_yX2_traitOf : Cond.selects RX2 yX2_traitOf yX2_traitOf ∈ mT := mT_of (List.mem_of_getElem? (i := 182) (by decide +kernel)) (by decide +kernel)
set_option maxRecDepth 100000 in
theorem co_yX2_traitOf : Cond.code yX2_traitOf cX2_traitOf 2 (some FieldType.int) ∈ mT := mT_of (List.mem_of_getElem? (i := 183) rfl) rfl
theorem ml_X2_32 : Cond.methodLink RX2 32 yX2_priceOf ∈ mT := mT_of (List.mem_of_getElem? (i := 184) (by decide +kernel)) (by decide +kernel)
theorem ml_X2_36 : Cond.methodLink RX2 36 yX2_meaningOf ∈ mT := mT_of (List.mem_of_getElem? (i := 185) (by decide +kernel)) (by decide +kernel)
theorem ml_L_35 : Cond.methodLink RL 35 yX6_node ∈ mT := mT_of (List.mem_of_getElem? (i := 186) (by decide +kernel)) (by decide +kernel)
theorem im_yX6_node : Cond.instanceMethod yX6_node ∈ mT := mT_of (List.mem_of_getElem? (i := 187) (by decide +kernel)) (by decide +kernel)
theorem se_yX6_node : Cond.selects RX6 yX6_node yX6_node ∈ mT := mT_of (List.mem_of_getElem? (i := 188) (by decide +kernel)) (by decide +kernel)
set_option maxRecDepth 100000 in
theorem co_yX6_node : Cond.code yX6_node cX6_node 3 (some FieldType.int) ∈ mT := mT_of (List.mem_of_getElem? (i := 189) rfl) rfl
theorem ml_X6_102 : Cond.methodLink RX6 102 yX6_isBuild ∈ mT := mT_of (List.mem_of_getElem? (i := 190) (by decide +kernel)) (by decide +kernel)
theorem st_yX6_isBuild : Cond.static yX6_isBuild ∈ mT := mT_of (List.mem_of_getElem? (i := 191) (by decide +kernel)) (by decide +kernel)
set_option maxRecDepth 100000 in
theorem co_yX6_isBuild : Cond.code yX6_isBuild cX6_isBuild 1 (some FieldType.boolean) ∈ mT := mT_of (List.mem_of_getElem? (i := 192) rfl) rfl
theorem is_X5 : Cond.instantiable RX5 4 ∈ mT := mT_of (List.mem_of_getElem? (i := 193) (by decide +kernel)) (by decide +kernel)
theorem ml_X6_106 : Cond.methodLink RX6 106 yX5_init ∈ mT := mT_of (List.mem_of_getElem? (i := 194) (by decide +kernel)) (by decide +kernel)
theorem im_yX5_init : Cond.instanceMethod yX5_init ∈ mT := mT_of (List.mem_of_getElem? (i := 195) (by decide +kernel)) (by decide +kernel)
set_option maxRecDepth 100000 in
theorem co_yX5_init : Cond.code yX5_init cX5_init 3 none ∈ mT := mT_of (List.mem_of_getElem? (i := 196) rfl) rfl
theorem ml_X5_3 : Cond.methodLink RX5 3 objectInit ∈ mT := mT_of (List.mem_of_getElem? (i := 197) (by decide +kernel)) (by decide +kernel)
theorem fl_X5_18 : Cond.fieldLink RX5 18 "EngineVersions$Node" "weight" "I" ∈ mT := mT_of (List.mem_of_getElem? (i := 198) (by decide +kernel)) (by decide +kernel)
theorem fl_X6_211 : Cond.fieldLink RX6 211 "EngineVersions$Node" "weight" "I" ∈ mT := mT_of (List.mem_of_getElem? (i := 199) (by decide +kernel)) (by decide +kernel)
theorem fl_X5_21 : Cond.fieldLink RX5 21 "EngineVersions$Node" "build" "I" ∈ mT := mT_of (List.mem_of_getElem? (i := 200) (by decide +kernel)) (by decide +kernel)
theorem fl_X6_117 : Cond.fieldLink RX6 117 "EngineVersions$Node" "build" "I" ∈ mT := mT_of (List.mem_of_getElem? (i := 201) (by decide +kernel)) (by decide +kernel)
theorem fl_X5_9 : Cond.fieldLink RX5 9 "EngineVersions$Node" "votes" "I" ∈ mT := mT_of (List.mem_of_getElem? (i := 202) (by decide +kernel)) (by decide +kernel)
theorem fl_X5_15 : Cond.fieldLink RX5 15 "EngineVersions$Node" "haltedAt" "I" ∈ mT := mT_of (List.mem_of_getElem? (i := 203) (by decide +kernel)) (by decide +kernel)
theorem fl_X6_137 : Cond.fieldLink RX6 137 "EngineVersions$Node" "haltedAt" "I" ∈ mT := mT_of (List.mem_of_getElem? (i := 204) (by decide +kernel)) (by decide +kernel)
theorem ml_L_40 : Cond.methodLink RL 40 yX6_build ∈ mT := mT_of (List.mem_of_getElem? (i := 214) (by decide +kernel)) (by decide +kernel)
theorem im_yX6_build : Cond.instanceMethod yX6_build ∈ mT := mT_of (List.mem_of_getElem? (i := 215) (by decide +kernel)) (by decide +kernel)
theorem se_yX6_build : Cond.selects RX6 yX6_build yX6_build ∈ mT := mT_of (List.mem_of_getElem? (i := 216) (by decide +kernel)) (by decide +kernel)
set_option maxRecDepth 100000 in
theorem co_yX6_build : Cond.code yX6_build cX6_build 4 (some FieldType.int) ∈ mT := mT_of (List.mem_of_getElem? (i := 217) rfl) rfl
theorem ml_X6_109 : Cond.methodLink RX6 109 yX6_nodeAt ∈ mT := mT_of (List.mem_of_getElem? (i := 218) (by decide +kernel)) (by decide +kernel)
theorem im_yX6_nodeAt : Cond.instanceMethod yX6_nodeAt ∈ mT := mT_of (List.mem_of_getElem? (i := 220) (by decide +kernel)) (by decide +kernel)
set_option maxRecDepth 100000 in
theorem co_yX6_nodeAt : Cond.code yX6_nodeAt cX6_nodeAt 2 (some (FieldType.object "EngineVersions$Node")) ∈ mT := mT_of (List.mem_of_getElem? (i := 221) rfl) rfl
theorem ml_X6_113 : Cond.methodLink RX6 113 yX5_isHalted ∈ mT := mT_of (List.mem_of_getElem? (i := 222) (by decide +kernel)) (by decide +kernel)
theorem im_yX5_isHalted : Cond.instanceMethod yX5_isHalted ∈ mT := mT_of (List.mem_of_getElem? (i := 223) (by decide +kernel)) (by decide +kernel)
theorem se_yX5_isHalted : Cond.selects RX5 yX5_isHalted yX5_isHalted ∈ mT := mT_of (List.mem_of_getElem? (i := 224) (by decide +kernel)) (by decide +kernel)
set_option maxRecDepth 100000 in
theorem co_yX5_isHalted : Cond.code yX5_isHalted cX5_isHalted 1 (some FieldType.boolean) ∈ mT := mT_of (List.mem_of_getElem? (i := 225) rfl) rfl
theorem ml_L_44 : Cond.methodLink RL 44 yX6_propose ∈ mT := mT_of (List.mem_of_getElem? (i := 226) (by decide +kernel)) (by decide +kernel)
theorem im_yX6_propose : Cond.instanceMethod yX6_propose ∈ mT := mT_of (List.mem_of_getElem? (i := 227) (by decide +kernel)) (by decide +kernel)
theorem se_yX6_propose : Cond.selects RX6 yX6_propose yX6_propose ∈ mT := mT_of (List.mem_of_getElem? (i := 228) (by decide +kernel)) (by decide +kernel)
set_option maxRecDepth 100000 in
theorem co_yX6_propose : Cond.code yX6_propose cX6_propose 4 (some FieldType.int) ∈ mT := mT_of (List.mem_of_getElem? (i := 229) rfl) rfl
theorem ml_X6_120 : Cond.methodLink RX6 120 yX6_highestProposed ∈ mT := mT_of (List.mem_of_getElem? (i := 230) (by decide +kernel)) (by decide +kernel)
theorem im_yX6_highestProposed : Cond.instanceMethod yX6_highestProposed ∈ mT := mT_of (List.mem_of_getElem? (i := 232) (by decide +kernel)) (by decide +kernel)
set_option maxRecDepth 100000 in
theorem co_yX6_highestProposed : Cond.code yX6_highestProposed cX6_highestProposed 6 (some FieldType.int) ∈ mT := mT_of (List.mem_of_getElem? (i := 233) rfl) rfl
theorem ml_X6_203 : Cond.methodLink RX6 203 yJ9_max_7cf53 ∈ mT := mT_of (List.mem_of_getElem? (i := 234) (by decide +kernel)) (by decide +kernel)
theorem st_yJ9_max_7cf53 : Cond.static yJ9_max_7cf53 ∈ mT := mT_of (List.mem_of_getElem? (i := 235) (by decide +kernel)) (by decide +kernel)
set_option maxRecDepth 100000 in
theorem co_yJ9_max_7cf53 : Cond.code yJ9_max_7cf53 cJ9_max_7cf53 2 (some FieldType.int) ∈ mT := mT_of (List.mem_of_getElem? (i := 236) rfl) rfl
theorem ml_L_48 : Cond.methodLink RL 48 yX6_vote ∈ mT := mT_of (List.mem_of_getElem? (i := 237) (by decide +kernel)) (by decide +kernel)
theorem im_yX6_vote : Cond.instanceMethod yX6_vote ∈ mT := mT_of (List.mem_of_getElem? (i := 238) (by decide +kernel)) (by decide +kernel)
theorem se_yX6_vote : Cond.selects RX6 yX6_vote yX6_vote ∈ mT := mT_of (List.mem_of_getElem? (i := 239) (by decide +kernel)) (by decide +kernel)
set_option maxRecDepth 100000 in
theorem co_yX6_vote : Cond.code yX6_vote cX6_vote 6 (some FieldType.int) ∈ mT := mT_of (List.mem_of_getElem? (i := 240) rfl) rfl
theorem ml_X6_124 : Cond.methodLink RX6 124 yX5_setVote ∈ mT := mT_of (List.mem_of_getElem? (i := 241) (by decide +kernel)) (by decide +kernel)
theorem im_yX5_setVote : Cond.instanceMethod yX5_setVote ∈ mT := mT_of (List.mem_of_getElem? (i := 242) (by decide +kernel)) (by decide +kernel)
theorem se_yX5_setVote : Cond.selects RX5 yX5_setVote yX5_setVote ∈ mT := mT_of (List.mem_of_getElem? (i := 243) (by decide +kernel)) (by decide +kernel)
set_option maxRecDepth 100000 in
theorem co_yX5_setVote : Cond.code yX5_setVote cX5_setVote 4 none ∈ mT := mT_of (List.mem_of_getElem? (i := 244) rfl) rfl
theorem ml_L_53 : Cond.methodLink RL 53 yX6_rise ∈ mT := mT_of (List.mem_of_getElem? (i := 245) (by decide +kernel)) (by decide +kernel)
theorem im_yX6_rise : Cond.instanceMethod yX6_rise ∈ mT := mT_of (List.mem_of_getElem? (i := 246) (by decide +kernel)) (by decide +kernel)
theorem se_yX6_rise : Cond.selects RX6 yX6_rise yX6_rise ∈ mT := mT_of (List.mem_of_getElem? (i := 247) (by decide +kernel)) (by decide +kernel)
set_option maxRecDepth 100000 in
theorem co_yX6_rise : Cond.code yX6_rise cX6_rise 3 (some FieldType.int) ∈ mT := mT_of (List.mem_of_getElem? (i := 248) rfl) rfl
theorem ml_X6_128 : Cond.methodLink RX6 128 yX6_decideProposals ∈ mT := mT_of (List.mem_of_getElem? (i := 249) (by decide +kernel)) (by decide +kernel)
theorem im_yX6_decideProposals : Cond.instanceMethod yX6_decideProposals ∈ mT := mT_of (List.mem_of_getElem? (i := 251) (by decide +kernel)) (by decide +kernel)
set_option maxRecDepth 100000 in
theorem co_yX6_decideProposals : Cond.code yX6_decideProposals cX6_decideProposals 5 none ∈ mT := mT_of (List.mem_of_getElem? (i := 252) rfl) rfl
theorem ml_X6_208 : Cond.methodLink RX6 208 yX6_isAgreed ∈ mT := mT_of (List.mem_of_getElem? (i := 253) (by decide +kernel)) (by decide +kernel)
theorem im_yX6_isAgreed : Cond.instanceMethod yX6_isAgreed ∈ mT := mT_of (List.mem_of_getElem? (i := 255) (by decide +kernel)) (by decide +kernel)
set_option maxRecDepth 100000 in
theorem co_yX6_isAgreed : Cond.code yX6_isAgreed cX6_isAgreed 8 (some FieldType.boolean) ∈ mT := mT_of (List.mem_of_getElem? (i := 256) rfl) rfl
theorem ml_X6_214 : Cond.methodLink RX6 214 yX5_votedFor ∈ mT := mT_of (List.mem_of_getElem? (i := 257) (by decide +kernel)) (by decide +kernel)
theorem im_yX5_votedFor : Cond.instanceMethod yX5_votedFor ∈ mT := mT_of (List.mem_of_getElem? (i := 258) (by decide +kernel)) (by decide +kernel)
theorem se_yX5_votedFor : Cond.selects RX5 yX5_votedFor yX5_votedFor ∈ mT := mT_of (List.mem_of_getElem? (i := 259) (by decide +kernel)) (by decide +kernel)
set_option maxRecDepth 100000 in
theorem co_yX5_votedFor : Cond.code yX5_votedFor cX5_votedFor 2 (some FieldType.boolean) ∈ mT := mT_of (List.mem_of_getElem? (i := 260) rfl) rfl
theorem ml_X6_131 : Cond.methodLink RX6 131 yX6_haltLackingNodes ∈ mT := mT_of (List.mem_of_getElem? (i := 261) (by decide +kernel)) (by decide +kernel)
theorem im_yX6_haltLackingNodes : Cond.instanceMethod yX6_haltLackingNodes ∈ mT := mT_of (List.mem_of_getElem? (i := 263) (by decide +kernel)) (by decide +kernel)
set_option maxRecDepth 100000 in
theorem co_yX6_haltLackingNodes : Cond.code yX6_haltLackingNodes cX6_haltLackingNodes 6 none ∈ mT := mT_of (List.mem_of_getElem? (i := 264) rfl) rfl
theorem ml_X6_134 : Cond.methodLink RX6 134 yX6_inForceAt ∈ mT := mT_of (List.mem_of_getElem? (i := 265) (by decide +kernel)) (by decide +kernel)
theorem im_yX6_inForceAt : Cond.instanceMethod yX6_inForceAt ∈ mT := mT_of (List.mem_of_getElem? (i := 267) (by decide +kernel)) (by decide +kernel)
set_option maxRecDepth 100000 in
theorem co_yX6_inForceAt : Cond.code yX6_inForceAt cX6_inForceAt 7 (some (FieldType.object "EngineVersions$Edition")) ∈ mT := mT_of (List.mem_of_getElem? (i := 268) rfl) rfl
theorem ml_X6_217 : Cond.methodLink RX6 217 yX5_hasEdition ∈ mT := mT_of (List.mem_of_getElem? (i := 269) (by decide +kernel)) (by decide +kernel)
theorem im_yX5_hasEdition : Cond.instanceMethod yX5_hasEdition ∈ mT := mT_of (List.mem_of_getElem? (i := 270) (by decide +kernel)) (by decide +kernel)
theorem se_yX5_hasEdition : Cond.selects RX5 yX5_hasEdition yX5_hasEdition ∈ mT := mT_of (List.mem_of_getElem? (i := 271) (by decide +kernel)) (by decide +kernel)
set_option maxRecDepth 100000 in
theorem co_yX5_hasEdition : Cond.code yX5_hasEdition cX5_hasEdition 2 (some FieldType.boolean) ∈ mT := mT_of (List.mem_of_getElem? (i := 272) rfl) rfl
theorem ml_L_57 : Cond.methodLink RL 57 yX6_force ∈ mT := mT_of (List.mem_of_getElem? (i := 273) (by decide +kernel)) (by decide +kernel)
theorem im_yX6_force : Cond.instanceMethod yX6_force ∈ mT := mT_of (List.mem_of_getElem? (i := 274) (by decide +kernel)) (by decide +kernel)
theorem se_yX6_force : Cond.selects RX6 yX6_force yX6_force ∈ mT := mT_of (List.mem_of_getElem? (i := 275) (by decide +kernel)) (by decide +kernel)
set_option maxRecDepth 100000 in
theorem co_yX6_force : Cond.code yX6_force cX6_force 2 (some FieldType.int) ∈ mT := mT_of (List.mem_of_getElem? (i := 276) rfl) rfl
theorem ml_L_61 : Cond.methodLink RL 61 yX6_halted ∈ mT := mT_of (List.mem_of_getElem? (i := 277) (by decide +kernel)) (by decide +kernel)
theorem im_yX6_halted : Cond.instanceMethod yX6_halted ∈ mT := mT_of (List.mem_of_getElem? (i := 278) (by decide +kernel)) (by decide +kernel)
theorem se_yX6_halted : Cond.selects RX6 yX6_halted yX6_halted ∈ mT := mT_of (List.mem_of_getElem? (i := 279) (by decide +kernel)) (by decide +kernel)
set_option maxRecDepth 100000 in
theorem co_yX6_halted : Cond.code yX6_halted cX6_halted 3 (some FieldType.int) ∈ mT := mT_of (List.mem_of_getElem? (i := 280) rfl) rfl
theorem ml_L_65 : Cond.methodLink RL 65 yX6_contract ∈ mT := mT_of (List.mem_of_getElem? (i := 281) (by decide +kernel)) (by decide +kernel)
theorem im_yX6_contract : Cond.instanceMethod yX6_contract ∈ mT := mT_of (List.mem_of_getElem? (i := 282) (by decide +kernel)) (by decide +kernel)
theorem se_yX6_contract : Cond.selects RX6 yX6_contract yX6_contract ∈ mT := mT_of (List.mem_of_getElem? (i := 283) (by decide +kernel)) (by decide +kernel)
set_option maxRecDepth 100000 in
theorem co_yX6_contract : Cond.code yX6_contract cX6_contract 1 (some FieldType.int) ∈ mT := mT_of (List.mem_of_getElem? (i := 284) rfl) rfl
theorem is_X1 : Cond.instantiable RX1 6 ∈ mT := mT_of (List.mem_of_getElem? (i := 285) (by decide +kernel)) (by decide +kernel)
theorem mn_X6_140_l : Cond.methodLinkNest RX6 140 yX1_init RX6 ∈ lw_tbl := List.mem_of_getElem? (i := 286) (by decide +kernel)
theorem im_yX1_init : Cond.instanceMethod yX1_init ∈ mT := mT_of (List.mem_of_getElem? (i := 287) (by decide +kernel)) (by decide +kernel)
set_option maxRecDepth 100000 in
theorem co_yX1_init : Cond.code yX1_init cX1_init 1 none ∈ mT := mT_of (List.mem_of_getElem? (i := 288) rfl) rfl
theorem ml_X1_3 : Cond.methodLink RX1 3 objectInit ∈ mT := mT_of (List.mem_of_getElem? (i := 289) (by decide +kernel)) (by decide +kernel)
theorem cl_X1_18 : Cond.classLink RX1 18 RX0 ∈ mT := mT_of (List.mem_of_getElem? (i := 290) (by decide +kernel)) (by decide +kernel)
theorem mn_X1_20_l : Cond.methodLinkNest RX1 20 yX0_init RX6 ∈ lw_tbl := List.mem_of_getElem? (i := 291) (by decide +kernel)
theorem fl_X1_9 : Cond.fieldLink RX1 9 "EngineVersions$Contract" "acts" "[I" ∈ mT := mT_of (List.mem_of_getElem? (i := 292) (by decide +kernel)) (by decide +kernel)
theorem fl_X4_35 : Cond.fieldLink RX4 35 "EngineVersions$Contract" "acts" "[I" ∈ mT := mT_of (List.mem_of_getElem? (i := 293) (by decide +kernel)) (by decide +kernel)
theorem fl_X1_15 : Cond.fieldLink RX1 15 "EngineVersions$Contract" "numbers" "[I" ∈ mT := mT_of (List.mem_of_getElem? (i := 294) (by decide +kernel)) (by decide +kernel)
theorem fl_X4_52 : Cond.fieldLink RX4 52 "EngineVersions$Contract" "numbers" "[I" ∈ mT := mT_of (List.mem_of_getElem? (i := 295) (by decide +kernel)) (by decide +kernel)
theorem fl_X1_21 : Cond.fieldLink RX1 21 "EngineVersions$Contract" "cells" "LEngineVersions$Cells;" ∈ mT := mT_of (List.mem_of_getElem? (i := 296) (by decide +kernel)) (by decide +kernel)
theorem fl_X6_167 : Cond.fieldLink RX6 167 "EngineVersions$Contract" "cells" "LEngineVersions$Cells;" ∈ mT := mT_of (List.mem_of_getElem? (i := 297) (by decide +kernel)) (by decide +kernel)
theorem fl_X1_25 : Cond.fieldLink RX1 25 "EngineVersions$Contract" "replayCells" "LEngineVersions$Cells;" ∈ mT := mT_of (List.mem_of_getElem? (i := 298) (by decide +kernel)) (by decide +kernel)
theorem fl_X6_220 : Cond.fieldLink RX6 220 "EngineVersions$Contract" "replayCells" "LEngineVersions$Cells;" ∈ mT := mT_of (List.mem_of_getElem? (i := 299) (by decide +kernel)) (by decide +kernel)
theorem fl_X1_28 : Cond.fieldLink RX1 28 "EngineVersions$Contract" "size" "I" ∈ mT := mT_of (List.mem_of_getElem? (i := 300) (by decide +kernel)) (by decide +kernel)
theorem fl_X4_30 : Cond.fieldLink RX4 30 "EngineVersions$Contract" "size" "I" ∈ mT := mT_of (List.mem_of_getElem? (i := 301) (by decide +kernel)) (by decide +kernel)
theorem fl_X6_151 : Cond.fieldLink RX6 151 "EngineVersions$Contract" "size" "I" ∈ mT := mT_of (List.mem_of_getElem? (i := 302) (by decide +kernel)) (by decide +kernel)
theorem fl_X1_32 : Cond.fieldLink RX1 32 "EngineVersions$Contract" "kept" "LEngineVersions$Edition;" ∈ mT := mT_of (List.mem_of_getElem? (i := 303) (by decide +kernel)) (by decide +kernel)
theorem fl_X4_55 : Cond.fieldLink RX4 55 "EngineVersions$Contract" "kept" "LEngineVersions$Edition;" ∈ mT := mT_of (List.mem_of_getElem? (i := 304) (by decide +kernel)) (by decide +kernel)
theorem fl_X6_148 : Cond.fieldLink RX6 148 "EngineVersions$Contract" "kept" "LEngineVersions$Edition;" ∈ mT := mT_of (List.mem_of_getElem? (i := 305) (by decide +kernel)) (by decide +kernel)
theorem ml_L_70 : Cond.methodLink RL 70 yX6_act ∈ mT := mT_of (List.mem_of_getElem? (i := 319) (by decide +kernel)) (by decide +kernel)
theorem im_yX6_act : Cond.instanceMethod yX6_act ∈ mT := mT_of (List.mem_of_getElem? (i := 320) (by decide +kernel)) (by decide +kernel)
theorem se_yX6_act : Cond.selects RX6 yX6_act yX6_act ∈ mT := mT_of (List.mem_of_getElem? (i := 321) (by decide +kernel)) (by decide +kernel)
set_option maxRecDepth 100000 in
theorem co_yX6_act : Cond.code yX6_act cX6_act 5 (some FieldType.int) ∈ mT := mT_of (List.mem_of_getElem? (i := 322) rfl) rfl
theorem ml_X6_141 : Cond.methodLink RX6 141 yX6_contractAt ∈ mT := mT_of (List.mem_of_getElem? (i := 323) (by decide +kernel)) (by decide +kernel)
theorem im_yX6_contractAt : Cond.instanceMethod yX6_contractAt ∈ mT := mT_of (List.mem_of_getElem? (i := 325) (by decide +kernel)) (by decide +kernel)
set_option maxRecDepth 100000 in
theorem co_yX6_contractAt : Cond.code yX6_contractAt cX6_contractAt 2 (some (FieldType.object "EngineVersions$Contract")) ∈ mT := mT_of (List.mem_of_getElem? (i := 326) rfl) rfl
theorem ml_X6_145 : Cond.methodLink RX6 145 yX6_isActWith ∈ mT := mT_of (List.mem_of_getElem? (i := 327) (by decide +kernel)) (by decide +kernel)
theorem st_yX6_isActWith : Cond.static yX6_isActWith ∈ mT := mT_of (List.mem_of_getElem? (i := 328) (by decide +kernel)) (by decide +kernel)
set_option maxRecDepth 100000 in
theorem co_yX6_isActWith : Cond.code yX6_isActWith cX6_isActWith 2 (some FieldType.boolean) ∈ mT := mT_of (List.mem_of_getElem? (i := 329) rfl) rfl
theorem ml_X6_154 : Cond.methodLink RX6 154 yX1_add ∈ mT := mT_of (List.mem_of_getElem? (i := 330) (by decide +kernel)) (by decide +kernel)
theorem im_yX1_add : Cond.instanceMethod yX1_add ∈ mT := mT_of (List.mem_of_getElem? (i := 331) (by decide +kernel)) (by decide +kernel)
theorem se_yX1_add : Cond.selects RX1 yX1_add yX1_add ∈ mT := mT_of (List.mem_of_getElem? (i := 332) (by decide +kernel)) (by decide +kernel)
set_option maxRecDepth 100000 in
theorem co_yX1_add : Cond.code yX1_add cX1_add 3 none ∈ mT := mT_of (List.mem_of_getElem? (i := 333) rfl) rfl
theorem mn_X1_36_l : Cond.methodLinkNest RX1 36 yX6_isBelow RX6 ∈ lw_tbl := List.mem_of_getElem? (i := 334) (by decide +kernel)
theorem ml_L_74 : Cond.methodLink RL 74 yX6_deploy ∈ mT := mT_of (List.mem_of_getElem? (i := 335) (by decide +kernel)) (by decide +kernel)
theorem im_yX6_deploy : Cond.instanceMethod yX6_deploy ∈ mT := mT_of (List.mem_of_getElem? (i := 336) (by decide +kernel)) (by decide +kernel)
theorem se_yX6_deploy : Cond.selects RX6 yX6_deploy yX6_deploy ∈ mT := mT_of (List.mem_of_getElem? (i := 337) (by decide +kernel)) (by decide +kernel)
set_option maxRecDepth 100000 in
theorem co_yX6_deploy : Cond.code yX6_deploy cX6_deploy 5 (some FieldType.int) ∈ mT := mT_of (List.mem_of_getElem? (i := 338) rfl) rfl
theorem ml_X6_157 : Cond.methodLink RX6 157 yX1_ruleBrokenUnder ∈ mT := mT_of (List.mem_of_getElem? (i := 339) (by decide +kernel)) (by decide +kernel)
theorem im_yX1_ruleBrokenUnder : Cond.instanceMethod yX1_ruleBrokenUnder ∈ mT := mT_of (List.mem_of_getElem? (i := 340) (by decide +kernel)) (by decide +kernel)
theorem se_yX1_ruleBrokenUnder : Cond.selects RX1 yX1_ruleBrokenUnder yX1_ruleBrokenUnder ∈ mT := mT_of (List.mem_of_getElem? (i := 341) (by decide +kernel)) (by decide +kernel)
set_option maxRecDepth 100000 in
theorem co_yX1_ruleBrokenUnder : Cond.code yX1_ruleBrokenUnder cX1_ruleBrokenUnder 5 (some FieldType.int) ∈ mT := mT_of (List.mem_of_getElem? (i := 342) rfl) rfl
theorem ml_X1_40 : Cond.methodLink RX1 40 yX2_meaningOf ∈ mT := mT_of (List.mem_of_getElem? (i := 343) (by decide +kernel)) (by decide +kernel)
theorem ml_X1_46 : Cond.methodLink RX1 46 yX1_takenBy ∈ mT := mT_of (List.mem_of_getElem? (i := 344) (by decide +kernel)) (by decide +kernel)
theorem st_yX1_takenBy : Cond.static yX1_takenBy ∈ mT := mT_of (List.mem_of_getElem? (i := 345) (by decide +kernel)) (by decide +kernel)
set_option maxRecDepth 100000 in
theorem co_yX1_takenBy : Cond.code yX1_takenBy cX1_takenBy 1 (some FieldType.int) ∈ mT := mT_of (List.mem_of_getElem? (i := 346) rfl) rfl
theorem ml_X1_49 : Cond.methodLink RX1 49 yX1_laidBy ∈ mT := mT_of (List.mem_of_getElem? (i := 347) (by decide +kernel)) (by decide +kernel)
theorem st_yX1_laidBy : Cond.static yX1_laidBy ∈ mT := mT_of (List.mem_of_getElem? (i := 348) (by decide +kernel)) (by decide +kernel)
set_option maxRecDepth 100000 in
theorem co_yX1_laidBy : Cond.code yX1_laidBy cX1_laidBy 1 (some FieldType.int) ∈ mT := mT_of (List.mem_of_getElem? (i := 349) rfl) rfl
theorem ml_X6_161 : Cond.methodLink RX6 161 yX6_answerOfRule ∈ mT := mT_of (List.mem_of_getElem? (i := 350) (by decide +kernel)) (by decide +kernel)
theorem st_yX6_answerOfRule : Cond.static yX6_answerOfRule ∈ mT := mT_of (List.mem_of_getElem? (i := 351) (by decide +kernel)) (by decide +kernel)
set_option maxRecDepth 100000 in
theorem co_yX6_answerOfRule : Cond.code yX6_answerOfRule cX6_answerOfRule 1 (some FieldType.int) ∈ mT := mT_of (List.mem_of_getElem? (i := 352) rfl) rfl
theorem ml_L_80 : Cond.methodLink RL 80 yX6_run ∈ mT := mT_of (List.mem_of_getElem? (i := 353) (by decide +kernel)) (by decide +kernel)
theorem im_yX6_run : Cond.instanceMethod yX6_run ∈ mT := mT_of (List.mem_of_getElem? (i := 354) (by decide +kernel)) (by decide +kernel)
theorem se_yX6_run : Cond.selects RX6 yX6_run yX6_run ∈ mT := mT_of (List.mem_of_getElem? (i := 355) (by decide +kernel)) (by decide +kernel)
set_option maxRecDepth 100000 in
theorem co_yX6_run : Cond.code yX6_run cX6_run 7 (some FieldType.int) ∈ mT := mT_of (List.mem_of_getElem? (i := 356) rfl) rfl
theorem is_X3 : Cond.instantiable RX3 5 ∈ mT := mT_of (List.mem_of_getElem? (i := 357) (by decide +kernel)) (by decide +kernel)
theorem ml_X6_164 : Cond.methodLink RX6 164 yX3_init ∈ mT := mT_of (List.mem_of_getElem? (i := 358) (by decide +kernel)) (by decide +kernel)
theorem im_yX3_init : Cond.instanceMethod yX3_init ∈ mT := mT_of (List.mem_of_getElem? (i := 359) (by decide +kernel)) (by decide +kernel)
set_option maxRecDepth 100000 in
theorem co_yX3_init : Cond.code yX3_init cX3_init 6 none ∈ mT := mT_of (List.mem_of_getElem? (i := 360) rfl) rfl
theorem ml_X3_1 : Cond.methodLink RX3 1 objectInit ∈ mT := mT_of (List.mem_of_getElem? (i := 361) (by decide +kernel)) (by decide +kernel)
theorem fl_X3_13 : Cond.fieldLink RX3 13 "EngineVersions$Entry" "contract" "I" ∈ mT := mT_of (List.mem_of_getElem? (i := 362) (by decide +kernel)) (by decide +kernel)
theorem fl_X6_192 : Cond.fieldLink RX6 192 "EngineVersions$Entry" "contract" "I" ∈ mT := mT_of (List.mem_of_getElem? (i := 363) (by decide +kernel)) (by decide +kernel)
theorem fl_X3_16 : Cond.fieldLink RX3 16 "EngineVersions$Entry" "argument" "J" ∈ mT := mT_of (List.mem_of_getElem? (i := 364) (by decide +kernel)) (by decide +kernel)
theorem fl_X6_226 : Cond.fieldLink RX6 226 "EngineVersions$Entry" "argument" "J" ∈ mT := mT_of (List.mem_of_getElem? (i := 365) (by decide +kernel)) (by decide +kernel)
theorem fl_X3_20 : Cond.fieldLink RX3 20 "EngineVersions$Entry" "limit" "I" ∈ mT := mT_of (List.mem_of_getElem? (i := 366) (by decide +kernel)) (by decide +kernel)
theorem fl_X6_230 : Cond.fieldLink RX6 230 "EngineVersions$Entry" "limit" "I" ∈ mT := mT_of (List.mem_of_getElem? (i := 367) (by decide +kernel)) (by decide +kernel)
theorem fl_X3_23 : Cond.fieldLink RX3 23 "EngineVersions$Entry" "height" "I" ∈ mT := mT_of (List.mem_of_getElem? (i := 368) (by decide +kernel)) (by decide +kernel)
theorem fl_X6_195 : Cond.fieldLink RX6 195 "EngineVersions$Entry" "height" "I" ∈ mT := mT_of (List.mem_of_getElem? (i := 369) (by decide +kernel)) (by decide +kernel)
theorem fl_X3_7 : Cond.fieldLink RX3 7 "EngineVersions$Entry" "answer" "I" ∈ mT := mT_of (List.mem_of_getElem? (i := 370) (by decide +kernel)) (by decide +kernel)
theorem fl_X6_175 : Cond.fieldLink RX6 175 "EngineVersions$Entry" "answer" "I" ∈ mT := mT_of (List.mem_of_getElem? (i := 371) (by decide +kernel)) (by decide +kernel)
theorem ml_X6_171 : Cond.methodLink RX6 171 yX4_execute ∈ mT := mT_of (List.mem_of_getElem? (i := 383) (by decide +kernel)) (by decide +kernel)
theorem im_yX4_execute : Cond.instanceMethod yX4_execute ∈ mT := mT_of (List.mem_of_getElem? (i := 384) (by decide +kernel)) (by decide +kernel)
theorem se_yX4_execute : Cond.selects RX4 yX4_execute yX4_execute ∈ mT := mT_of (List.mem_of_getElem? (i := 385) (by decide +kernel)) (by decide +kernel)
set_option maxRecDepth 100000 in
theorem co_yX4_execute : Cond.code yX4_execute cX4_execute 10 (some FieldType.int) ∈ mT := mT_of (List.mem_of_getElem? (i := 386) rfl) rfl
theorem ml_X4_26 : Cond.methodLink RX4 26 yX0_becomeLike ∈ mT := mT_of (List.mem_of_getElem? (i := 387) (by decide +kernel)) (by decide +kernel)
theorem im_yX0_becomeLike : Cond.instanceMethod yX0_becomeLike ∈ mT := mT_of (List.mem_of_getElem? (i := 388) (by decide +kernel)) (by decide +kernel)
theorem se_yX0_becomeLike : Cond.selects RX0 yX0_becomeLike yX0_becomeLike ∈ mT := mT_of (List.mem_of_getElem? (i := 389) (by decide +kernel)) (by decide +kernel)
set_option maxRecDepth 100000 in
theorem co_yX0_becomeLike : Cond.code yX0_becomeLike cX0_becomeLike 3 none ∈ mT := mT_of (List.mem_of_getElem? (i := 390) rfl) rfl
theorem ml_X4_39 : Cond.methodLink RX4 39 yX2_priceOf ∈ mT := mT_of (List.mem_of_getElem? (i := 391) (by decide +kernel)) (by decide +kernel)
theorem mn_X4_45_l : Cond.methodLinkNest RX4 45 yX6_answerOfRule RX6 ∈ lw_tbl := List.mem_of_getElem? (i := 392) (by decide +kernel)
theorem ml_X4_48 : Cond.methodLink RX4 48 yX4_top ∈ mT := mT_of (List.mem_of_getElem? (i := 393) (by decide +kernel)) (by decide +kernel)
theorem im_yX4_top : Cond.instanceMethod yX4_top ∈ mT := mT_of (List.mem_of_getElem? (i := 395) (by decide +kernel)) (by decide +kernel)
set_option maxRecDepth 100000 in
theorem co_yX4_top : Cond.code yX4_top cX4_top 1 (some FieldType.long) ∈ mT := mT_of (List.mem_of_getElem? (i := 396) rfl) rfl
theorem mn_X4_107_l : Cond.methodLinkNest RX4 107 yX6_isBelow RX6 ∈ lw_tbl := List.mem_of_getElem? (i := 397) (by decide +kernel)
theorem ml_X4_59 : Cond.methodLink RX4 59 yX4_perform ∈ mT := mT_of (List.mem_of_getElem? (i := 398) (by decide +kernel)) (by decide +kernel)
theorem im_yX4_perform : Cond.instanceMethod yX4_perform ∈ mT := mT_of (List.mem_of_getElem? (i := 400) (by decide +kernel)) (by decide +kernel)
set_option maxRecDepth 100000 in
theorem co_yX4_perform : Cond.code yX4_perform cX4_perform 10 none ∈ mT := mT_of (List.mem_of_getElem? (i := 401) rfl) rfl
theorem ml_X4_63 : Cond.methodLink RX4 63 yX4_lay ∈ mT := mT_of (List.mem_of_getElem? (i := 402) (by decide +kernel)) (by decide +kernel)
theorem im_yX4_lay : Cond.instanceMethod yX4_lay ∈ mT := mT_of (List.mem_of_getElem? (i := 404) (by decide +kernel)) (by decide +kernel)
set_option maxRecDepth 100000 in
theorem co_yX4_lay : Cond.code yX4_lay cX4_lay 3 none ∈ mT := mT_of (List.mem_of_getElem? (i := 405) rfl) rfl
theorem ml_X4_67 : Cond.methodLink RX4 67 yX2_meaningOf ∈ mT := mT_of (List.mem_of_getElem? (i := 406) (by decide +kernel)) (by decide +kernel)
theorem ml_X4_70 : Cond.methodLink RX4 70 yX4_take ∈ mT := mT_of (List.mem_of_getElem? (i := 407) (by decide +kernel)) (by decide +kernel)
theorem im_yX4_take : Cond.instanceMethod yX4_take ∈ mT := mT_of (List.mem_of_getElem? (i := 409) (by decide +kernel)) (by decide +kernel)
set_option maxRecDepth 100000 in
theorem co_yX4_take : Cond.code yX4_take cX4_take 3 (some FieldType.long) ∈ mT := mT_of (List.mem_of_getElem? (i := 410) rfl) rfl
theorem ml_X4_73 : Cond.methodLink RX4 73 yX4_meant ∈ mT := mT_of (List.mem_of_getElem? (i := 411) (by decide +kernel)) (by decide +kernel)
theorem st_yX4_meant : Cond.static yX4_meant ∈ mT := mT_of (List.mem_of_getElem? (i := 412) (by decide +kernel)) (by decide +kernel)
set_option maxRecDepth 100000 in
theorem co_yX4_meant : Cond.code yX4_meant cX4_meant 3 (some FieldType.long) ∈ mT := mT_of (List.mem_of_getElem? (i := 413) rfl) rfl
theorem ml_X4_89 : Cond.methodLink RX4 89 yJ9_abs_067f4 ∈ mT := mT_of (List.mem_of_getElem? (i := 414) (by decide +kernel)) (by decide +kernel)
theorem st_yJ9_abs_067f4 : Cond.static yJ9_abs_067f4 ∈ mT := mT_of (List.mem_of_getElem? (i := 415) (by decide +kernel)) (by decide +kernel)
set_option maxRecDepth 100000 in
theorem co_yJ9_abs_067f4 : Cond.code yJ9_abs_067f4 cJ9_abs_067f4 2 (some FieldType.long) ∈ mT := mT_of (List.mem_of_getElem? (i := 416) rfl) rfl
theorem cn_X4_95 : Cond.constantLong RX4 95 2 ∈ mT := mT_of (List.mem_of_getElem? (i := 417) (by decide +kernel)) (by decide +kernel)
theorem ml_X4_97 : Cond.methodLink RX4 97 yJ9_floorDiv_f86c9 ∈ mT := mT_of (List.mem_of_getElem? (i := 418) (by decide +kernel)) (by decide +kernel)
theorem st_yJ9_floorDiv_f86c9 : Cond.static yJ9_floorDiv_f86c9 ∈ mT := mT_of (List.mem_of_getElem? (i := 419) (by decide +kernel)) (by decide +kernel)
set_option maxRecDepth 100000 in
theorem co_yJ9_floorDiv_f86c9 : Cond.code yJ9_floorDiv_f86c9 cJ9_floorDiv_f86c9 6 (some FieldType.long) ∈ mT := mT_of (List.mem_of_getElem? (i := 420) rfl) rfl
theorem ml_X4_101 : Cond.methodLink RX4 101 yJ13_bitCount_95d88 ∈ mT := mT_of (List.mem_of_getElem? (i := 421) (by decide +kernel)) (by decide +kernel)
theorem st_yJ13_bitCount_95d88 : Cond.static yJ13_bitCount_95d88 ∈ mT := mT_of (List.mem_of_getElem? (i := 422) (by decide +kernel)) (by decide +kernel)
set_option maxRecDepth 100000 in
theorem co_yJ13_bitCount_95d88 : Cond.code yJ13_bitCount_95d88 cJ13_bitCount_95d88 2 (some FieldType.int) ∈ mT := mT_of (List.mem_of_getElem? (i := 423) rfl) rfl
theorem cn_J13_314 : Cond.constantLong RJ13 314 6148914691236517205 ∈ mT := mT_of (List.mem_of_getElem? (i := 424) (by decide +kernel)) (by decide +kernel)
theorem cn_J13_316 : Cond.constantLong RJ13 316 3689348814741910323 ∈ mT := mT_of (List.mem_of_getElem? (i := 425) (by decide +kernel)) (by decide +kernel)
theorem cn_J13_318 : Cond.constantLong RJ13 318 1085102592571150095 ∈ mT := mT_of (List.mem_of_getElem? (i := 426) (by decide +kernel)) (by decide +kernel)
theorem ml_X4_77 : Cond.methodLink RX4 77 yX0_store ∈ mT := mT_of (List.mem_of_getElem? (i := 427) (by decide +kernel)) (by decide +kernel)
theorem im_yX0_store : Cond.instanceMethod yX0_store ∈ mT := mT_of (List.mem_of_getElem? (i := 428) (by decide +kernel)) (by decide +kernel)
theorem se_yX0_store : Cond.selects RX0 yX0_store yX0_store ∈ mT := mT_of (List.mem_of_getElem? (i := 429) (by decide +kernel)) (by decide +kernel)
set_option maxRecDepth 100000 in
theorem co_yX0_store : Cond.code yX0_store cX0_store 4 none ∈ mT := mT_of (List.mem_of_getElem? (i := 430) rfl) rfl
theorem mn_X0_15_l : Cond.methodLinkNest RX0 15 yX6_isBelow RX6 ∈ lw_tbl := List.mem_of_getElem? (i := 431) (by decide +kernel)
theorem ml_X4_81 : Cond.methodLink RX4 81 yX0_valueOf ∈ mT := mT_of (List.mem_of_getElem? (i := 432) (by decide +kernel)) (by decide +kernel)
theorem im_yX0_valueOf : Cond.instanceMethod yX0_valueOf ∈ mT := mT_of (List.mem_of_getElem? (i := 433) (by decide +kernel)) (by decide +kernel)
theorem se_yX0_valueOf : Cond.selects RX0 yX0_valueOf yX0_valueOf ∈ mT := mT_of (List.mem_of_getElem? (i := 434) (by decide +kernel)) (by decide +kernel)
set_option maxRecDepth 100000 in
theorem co_yX0_valueOf : Cond.code yX0_valueOf cX0_valueOf 2 (some FieldType.long) ∈ mT := mT_of (List.mem_of_getElem? (i := 435) rfl) rfl
theorem ml_X4_85 : Cond.methodLink RX4 85 yX4_joined ∈ mT := mT_of (List.mem_of_getElem? (i := 436) (by decide +kernel)) (by decide +kernel)
theorem st_yX4_joined : Cond.static yX4_joined ∈ mT := mT_of (List.mem_of_getElem? (i := 437) (by decide +kernel)) (by decide +kernel)
set_option maxRecDepth 100000 in
theorem co_yX4_joined : Cond.code yX4_joined cX4_joined 5 (some FieldType.long) ∈ mT := mT_of (List.mem_of_getElem? (i := 438) rfl) rfl
theorem ml_X6_178 : Cond.methodLink RX6 178 yX0_digestBehind ∈ mT := mT_of (List.mem_of_getElem? (i := 439) (by decide +kernel)) (by decide +kernel)
theorem im_yX0_digestBehind : Cond.instanceMethod yX0_digestBehind ∈ mT := mT_of (List.mem_of_getElem? (i := 440) (by decide +kernel)) (by decide +kernel)
theorem se_yX0_digestBehind : Cond.selects RX0 yX0_digestBehind yX0_digestBehind ∈ mT := mT_of (List.mem_of_getElem? (i := 441) (by decide +kernel)) (by decide +kernel)
set_option maxRecDepth 100000 in
theorem co_yX0_digestBehind : Cond.code yX0_digestBehind cX0_digestBehind 9 (some FieldType.int) ∈ mT := mT_of (List.mem_of_getElem? (i := 442) rfl) rfl
theorem ml_L_85 : Cond.methodLink RL 85 yX6_cell ∈ mT := mT_of (List.mem_of_getElem? (i := 443) (by decide +kernel)) (by decide +kernel)
theorem im_yX6_cell : Cond.instanceMethod yX6_cell ∈ mT := mT_of (List.mem_of_getElem? (i := 444) (by decide +kernel)) (by decide +kernel)
theorem se_yX6_cell : Cond.selects RX6 yX6_cell yX6_cell ∈ mT := mT_of (List.mem_of_getElem? (i := 445) (by decide +kernel)) (by decide +kernel)
set_option maxRecDepth 100000 in
theorem co_yX6_cell : Cond.code yX6_cell cX6_cell 4 (some FieldType.long) ∈ mT := mT_of (List.mem_of_getElem? (i := 446) rfl) rfl
theorem ml_X6_184 : Cond.methodLink RX6 184 yX0_valueOf ∈ mT := mT_of (List.mem_of_getElem? (i := 447) (by decide +kernel)) (by decide +kernel)
theorem ml_L_90 : Cond.methodLink RL 90 yX6_logged ∈ mT := mT_of (List.mem_of_getElem? (i := 448) (by decide +kernel)) (by decide +kernel)
theorem im_yX6_logged : Cond.instanceMethod yX6_logged ∈ mT := mT_of (List.mem_of_getElem? (i := 449) (by decide +kernel)) (by decide +kernel)
theorem se_yX6_logged : Cond.selects RX6 yX6_logged yX6_logged ∈ mT := mT_of (List.mem_of_getElem? (i := 450) (by decide +kernel)) (by decide +kernel)
set_option maxRecDepth 100000 in
theorem co_yX6_logged : Cond.code yX6_logged cX6_logged 4 (some FieldType.int) ∈ mT := mT_of (List.mem_of_getElem? (i := 451) rfl) rfl
theorem ml_X6_188 : Cond.methodLink RX6 188 yX6_entryAt ∈ mT := mT_of (List.mem_of_getElem? (i := 452) (by decide +kernel)) (by decide +kernel)
theorem im_yX6_entryAt : Cond.instanceMethod yX6_entryAt ∈ mT := mT_of (List.mem_of_getElem? (i := 454) (by decide +kernel)) (by decide +kernel)
set_option maxRecDepth 100000 in
theorem co_yX6_entryAt : Cond.code yX6_entryAt cX6_entryAt 2 (some (FieldType.object "EngineVersions$Entry")) ∈ mT := mT_of (List.mem_of_getElem? (i := 455) rfl) rfl
theorem ml_L_94 : Cond.methodLink RL 94 yX6_digest ∈ mT := mT_of (List.mem_of_getElem? (i := 456) (by decide +kernel)) (by decide +kernel)
theorem im_yX6_digest : Cond.instanceMethod yX6_digest ∈ mT := mT_of (List.mem_of_getElem? (i := 457) (by decide +kernel)) (by decide +kernel)
theorem se_yX6_digest : Cond.selects RX6 yX6_digest yX6_digest ∈ mT := mT_of (List.mem_of_getElem? (i := 458) (by decide +kernel)) (by decide +kernel)
set_option maxRecDepth 100000 in
theorem co_yX6_digest : Cond.code yX6_digest cX6_digest 1 (some FieldType.int) ∈ mT := mT_of (List.mem_of_getElem? (i := 459) rfl) rfl
theorem ml_L_98 : Cond.methodLink RL 98 yX6_replay ∈ mT := mT_of (List.mem_of_getElem? (i := 460) (by decide +kernel)) (by decide +kernel)
theorem im_yX6_replay : Cond.instanceMethod yX6_replay ∈ mT := mT_of (List.mem_of_getElem? (i := 461) (by decide +kernel)) (by decide +kernel)
theorem se_yX6_replay : Cond.selects RX6 yX6_replay yX6_replay ∈ mT := mT_of (List.mem_of_getElem? (i := 462) (by decide +kernel)) (by decide +kernel)
set_option maxRecDepth 100000 in
theorem co_yX6_replay : Cond.code yX6_replay cX6_replay 4 (some FieldType.int) ∈ mT := mT_of (List.mem_of_getElem? (i := 463) rfl) rfl
theorem ml_X6_196 : Cond.methodLink RX6 196 yX6_clearReplayCells ∈ mT := mT_of (List.mem_of_getElem? (i := 464) (by decide +kernel)) (by decide +kernel)
theorem im_yX6_clearReplayCells : Cond.instanceMethod yX6_clearReplayCells ∈ mT := mT_of (List.mem_of_getElem? (i := 466) (by decide +kernel)) (by decide +kernel)
set_option maxRecDepth 100000 in
theorem co_yX6_clearReplayCells : Cond.code yX6_clearReplayCells cX6_clearReplayCells 5 none ∈ mT := mT_of (List.mem_of_getElem? (i := 467) rfl) rfl
theorem ml_X6_223 : Cond.methodLink RX6 223 yX0_clear ∈ mT := mT_of (List.mem_of_getElem? (i := 468) (by decide +kernel)) (by decide +kernel)
theorem im_yX0_clear : Cond.instanceMethod yX0_clear ∈ mT := mT_of (List.mem_of_getElem? (i := 469) (by decide +kernel)) (by decide +kernel)
theorem se_yX0_clear : Cond.selects RX0 yX0_clear yX0_clear ∈ mT := mT_of (List.mem_of_getElem? (i := 470) (by decide +kernel)) (by decide +kernel)
set_option maxRecDepth 100000 in
theorem co_yX0_clear : Cond.code yX0_clear cX0_clear 2 none ∈ mT := mT_of (List.mem_of_getElem? (i := 471) rfl) rfl
theorem ml_X6_199 : Cond.methodLink RX6 199 yX6_digestBehindReplayOf ∈ mT := mT_of (List.mem_of_getElem? (i := 472) (by decide +kernel)) (by decide +kernel)
theorem im_yX6_digestBehindReplayOf : Cond.instanceMethod yX6_digestBehindReplayOf ∈ mT := mT_of (List.mem_of_getElem? (i := 474) (by decide +kernel)) (by decide +kernel)
set_option maxRecDepth 100000 in
theorem co_yX6_digestBehindReplayOf : Cond.code yX6_digestBehindReplayOf cX6_digestBehindReplayOf 5 (some FieldType.int) ∈ mT := mT_of (List.mem_of_getElem? (i := 475) rfl) rfl
theorem ml_L_102 : Cond.methodLink RL 102 yX6_count ∈ mT := mT_of (List.mem_of_getElem? (i := 476) (by decide +kernel)) (by decide +kernel)
theorem im_yX6_count : Cond.instanceMethod yX6_count ∈ mT := mT_of (List.mem_of_getElem? (i := 477) (by decide +kernel)) (by decide +kernel)
theorem se_yX6_count : Cond.selects RX6 yX6_count yX6_count ∈ mT := mT_of (List.mem_of_getElem? (i := 478) (by decide +kernel)) (by decide +kernel)
set_option maxRecDepth 100000 in
theorem co_yX6_count : Cond.code yX6_count cX6_count 2 (some FieldType.int) ∈ mT := mT_of (List.mem_of_getElem? (i := 479) rfl) rfl
theorem cl_L_10 : Cond.classLink RL 10 RX7 ∈ mT := mT_of (List.mem_of_getElem? (i := 480) (by decide +kernel)) (by decide +kernel)
theorem is_X7 : Cond.instantiable RX7 28 ∈ mT := mT_of (List.mem_of_getElem? (i := 481) (by decide +kernel)) (by decide +kernel)
theorem ml_L_12 : Cond.methodLink RL 12 yX7_init ∈ mT := mT_of (List.mem_of_getElem? (i := 482) (by decide +kernel)) (by decide +kernel)
theorem im_yX7_init : Cond.instanceMethod yX7_init ∈ mT := mT_of (List.mem_of_getElem? (i := 483) (by decide +kernel)) (by decide +kernel)
set_option maxRecDepth 100000 in
theorem co_yX7_init : Cond.code yX7_init cX7_init 2 none ∈ mT := mT_of (List.mem_of_getElem? (i := 484) rfl) rfl
theorem ml_X7_1 : Cond.methodLink RX7 1 objectInit ∈ mT := mT_of (List.mem_of_getElem? (i := 485) (by decide +kernel)) (by decide +kernel)
theorem fl_X7_7 : Cond.fieldLink RX7 7 "EngineVersionsModel" "editions" "I" ∈ mT := mT_of (List.mem_of_getElem? (i := 486) (by decide +kernel)) (by decide +kernel)
theorem fl_X7_13 : Cond.fieldLink RX7 13 "EngineVersionsModel" "prices" "[I" ∈ mT := mT_of (List.mem_of_getElem? (i := 487) (by decide +kernel)) (by decide +kernel)
theorem fl_X7_17 : Cond.fieldLink RX7 17 "EngineVersionsModel" "meanings" "[I" ∈ mT := mT_of (List.mem_of_getElem? (i := 488) (by decide +kernel)) (by decide +kernel)
theorem fl_X7_20 : Cond.fieldLink RX7 20 "EngineVersionsModel" "proposedFor" "[I" ∈ mT := mT_of (List.mem_of_getElem? (i := 489) (by decide +kernel)) (by decide +kernel)
theorem fl_X7_23 : Cond.fieldLink RX7 23 "EngineVersionsModel" "state" "[I" ∈ mT := mT_of (List.mem_of_getElem? (i := 490) (by decide +kernel)) (by decide +kernel)
theorem fl_X7_99 : Cond.fieldLink RX7 99 "EngineVersionsModel" "height" "I" ∈ mT := mT_of (List.mem_of_getElem? (i := 491) (by decide +kernel)) (by decide +kernel)
theorem fl_X7_26 : Cond.fieldLink RX7 26 "EngineVersionsModel" "inForce" "[I" ∈ mT := mT_of (List.mem_of_getElem? (i := 492) (by decide +kernel)) (by decide +kernel)
theorem fl_X7_86 : Cond.fieldLink RX7 86 "EngineVersionsModel" "nodes" "I" ∈ mT := mT_of (List.mem_of_getElem? (i := 493) (by decide +kernel)) (by decide +kernel)
theorem fl_X7_29 : Cond.fieldLink RX7 29 "EngineVersionsModel" "weight" "[I" ∈ mT := mT_of (List.mem_of_getElem? (i := 494) (by decide +kernel)) (by decide +kernel)
theorem fl_X7_32 : Cond.fieldLink RX7 32 "EngineVersionsModel" "builds" "[I" ∈ mT := mT_of (List.mem_of_getElem? (i := 495) (by decide +kernel)) (by decide +kernel)
theorem fl_X7_35 : Cond.fieldLink RX7 35 "EngineVersionsModel" "haltedAt" "[I" ∈ mT := mT_of (List.mem_of_getElem? (i := 496) (by decide +kernel)) (by decide +kernel)
theorem fl_X7_38 : Cond.fieldLink RX7 38 "EngineVersionsModel" "votes" "[Z" ∈ mT := mT_of (List.mem_of_getElem? (i := 497) (by decide +kernel)) (by decide +kernel)
theorem fl_X7_89 : Cond.fieldLink RX7 89 "EngineVersionsModel" "contracts" "I" ∈ mT := mT_of (List.mem_of_getElem? (i := 498) (by decide +kernel)) (by decide +kernel)
theorem fl_X7_42 : Cond.fieldLink RX7 42 "EngineVersionsModel" "kept" "[I" ∈ mT := mT_of (List.mem_of_getElem? (i := 499) (by decide +kernel)) (by decide +kernel)
theorem fl_X7_45 : Cond.fieldLink RX7 45 "EngineVersionsModel" "many" "[I" ∈ mT := mT_of (List.mem_of_getElem? (i := 500) (by decide +kernel)) (by decide +kernel)
theorem fl_X7_48 : Cond.fieldLink RX7 48 "EngineVersionsModel" "acts" "[I" ∈ mT := mT_of (List.mem_of_getElem? (i := 501) (by decide +kernel)) (by decide +kernel)
theorem fl_X7_51 : Cond.fieldLink RX7 51 "EngineVersionsModel" "numbers" "[I" ∈ mT := mT_of (List.mem_of_getElem? (i := 502) (by decide +kernel)) (by decide +kernel)
theorem fl_X7_54 : Cond.fieldLink RX7 54 "EngineVersionsModel" "cells" "[J" ∈ mT := mT_of (List.mem_of_getElem? (i := 503) (by decide +kernel)) (by decide +kernel)
theorem fl_X7_126 : Cond.fieldLink RX7 126 "EngineVersionsModel" "logs" "I" ∈ mT := mT_of (List.mem_of_getElem? (i := 504) (by decide +kernel)) (by decide +kernel)
theorem fl_X7_58 : Cond.fieldLink RX7 58 "EngineVersionsModel" "logContract" "[I" ∈ mT := mT_of (List.mem_of_getElem? (i := 505) (by decide +kernel)) (by decide +kernel)
theorem fl_X7_61 : Cond.fieldLink RX7 61 "EngineVersionsModel" "logHeight" "[I" ∈ mT := mT_of (List.mem_of_getElem? (i := 506) (by decide +kernel)) (by decide +kernel)
theorem fl_X7_64 : Cond.fieldLink RX7 64 "EngineVersionsModel" "logArgument" "[J" ∈ mT := mT_of (List.mem_of_getElem? (i := 507) (by decide +kernel)) (by decide +kernel)
theorem fl_X7_67 : Cond.fieldLink RX7 67 "EngineVersionsModel" "logLimit" "[I" ∈ mT := mT_of (List.mem_of_getElem? (i := 508) (by decide +kernel)) (by decide +kernel)
theorem fl_X7_70 : Cond.fieldLink RX7 70 "EngineVersionsModel" "logAnswer" "[I" ∈ mT := mT_of (List.mem_of_getElem? (i := 509) (by decide +kernel)) (by decide +kernel)
theorem fl_X7_133 : Cond.fieldLink RX7 133 "EngineVersionsModel" "digest" "I" ∈ mT := mT_of (List.mem_of_getElem? (i := 510) (by decide +kernel)) (by decide +kernel)
theorem fl_X7_73 : Cond.fieldLink RX7 73 "EngineVersionsModel" "pile" "[J" ∈ mT := mT_of (List.mem_of_getElem? (i := 511) (by decide +kernel)) (by decide +kernel)
theorem fl_X7_76 : Cond.fieldLink RX7 76 "EngineVersionsModel" "aside" "[J" ∈ mT := mT_of (List.mem_of_getElem? (i := 512) (by decide +kernel)) (by decide +kernel)
theorem fl_X7_79 : Cond.fieldLink RX7 79 "EngineVersionsModel" "safe" "[J" ∈ mT := mT_of (List.mem_of_getElem? (i := 513) (by decide +kernel)) (by decide +kernel)
theorem ac_boolean : Cond.arrayClass .boolean ∈ mT := mT_of (List.mem_of_getElem? (i := 571) (by decide +kernel)) (by decide +kernel)
theorem ml_L_17 : Cond.methodLink RL 17 yX7_edition ∈ mT := mT_of (List.mem_of_getElem? (i := 572) (by decide +kernel)) (by decide +kernel)
theorem im_yX7_edition : Cond.instanceMethod yX7_edition ∈ mT := mT_of (List.mem_of_getElem? (i := 573) (by decide +kernel)) (by decide +kernel)
theorem se_yX7_edition : Cond.selects RX7 yX7_edition yX7_edition ∈ mT := mT_of (List.mem_of_getElem? (i := 574) (by decide +kernel)) (by decide +kernel)
set_option maxRecDepth 100000 in
theorem co_yX7_edition : Cond.code yX7_edition cX7_edition 3 (some FieldType.int) ∈ mT := mT_of (List.mem_of_getElem? (i := 575) rfl) rfl
theorem ml_X7_92 : Cond.methodLink RX7 92 yX7_isEdition ∈ mT := mT_of (List.mem_of_getElem? (i := 576) (by decide +kernel)) (by decide +kernel)
theorem im_yX7_isEdition : Cond.instanceMethod yX7_isEdition ∈ mT := mT_of (List.mem_of_getElem? (i := 578) (by decide +kernel)) (by decide +kernel)
set_option maxRecDepth 100000 in
theorem co_yX7_isEdition : Cond.code yX7_isEdition cX7_isEdition 2 (some FieldType.boolean) ∈ mT := mT_of (List.mem_of_getElem? (i := 579) rfl) rfl
theorem ml_X7_82 : Cond.methodLink RX7 82 yX7_in ∈ mT := mT_of (List.mem_of_getElem? (i := 580) (by decide +kernel)) (by decide +kernel)
theorem st_yX7_in : Cond.static yX7_in ∈ mT := mT_of (List.mem_of_getElem? (i := 581) (by decide +kernel)) (by decide +kernel)
set_option maxRecDepth 100000 in
theorem co_yX7_in : Cond.code yX7_in cX7_in 3 (some FieldType.boolean) ∈ mT := mT_of (List.mem_of_getElem? (i := 582) rfl) rfl
theorem ml_L_22 : Cond.methodLink RL 22 yX7_price ∈ mT := mT_of (List.mem_of_getElem? (i := 583) (by decide +kernel)) (by decide +kernel)
theorem im_yX7_price : Cond.instanceMethod yX7_price ∈ mT := mT_of (List.mem_of_getElem? (i := 584) (by decide +kernel)) (by decide +kernel)
theorem se_yX7_price : Cond.selects RX7 yX7_price yX7_price ∈ mT := mT_of (List.mem_of_getElem? (i := 585) (by decide +kernel)) (by decide +kernel)
set_option maxRecDepth 100000 in
theorem co_yX7_price : Cond.code yX7_price cX7_price 5 (some FieldType.int) ∈ mT := mT_of (List.mem_of_getElem? (i := 586) rfl) rfl
theorem ml_L_26 : Cond.methodLink RL 26 yX7_member ∈ mT := mT_of (List.mem_of_getElem? (i := 587) (by decide +kernel)) (by decide +kernel)
theorem im_yX7_member : Cond.instanceMethod yX7_member ∈ mT := mT_of (List.mem_of_getElem? (i := 588) (by decide +kernel)) (by decide +kernel)
theorem se_yX7_member : Cond.selects RX7 yX7_member yX7_member ∈ mT := mT_of (List.mem_of_getElem? (i := 589) (by decide +kernel)) (by decide +kernel)
set_option maxRecDepth 100000 in
theorem co_yX7_member : Cond.code yX7_member cX7_member 5 (some FieldType.int) ∈ mT := mT_of (List.mem_of_getElem? (i := 590) rfl) rfl
theorem ml_L_30 : Cond.methodLink RL 30 yX7_about ∈ mT := mT_of (List.mem_of_getElem? (i := 591) (by decide +kernel)) (by decide +kernel)
theorem im_yX7_about : Cond.instanceMethod yX7_about ∈ mT := mT_of (List.mem_of_getElem? (i := 592) (by decide +kernel)) (by decide +kernel)
theorem se_yX7_about : Cond.selects RX7 yX7_about yX7_about ∈ mT := mT_of (List.mem_of_getElem? (i := 593) (by decide +kernel)) (by decide +kernel)
set_option maxRecDepth 100000 in
theorem co_yX7_about : Cond.code yX7_about cX7_about 4 (some FieldType.int) ∈ mT := mT_of (List.mem_of_getElem? (i := 594) rfl) rfl
theorem ml_L_34 : Cond.methodLink RL 34 yX7_differs ∈ mT := mT_of (List.mem_of_getElem? (i := 595) (by decide +kernel)) (by decide +kernel)
theorem im_yX7_differs : Cond.instanceMethod yX7_differs ∈ mT := mT_of (List.mem_of_getElem? (i := 596) (by decide +kernel)) (by decide +kernel)
theorem se_yX7_differs : Cond.selects RX7 yX7_differs yX7_differs ∈ mT := mT_of (List.mem_of_getElem? (i := 597) (by decide +kernel)) (by decide +kernel)
set_option maxRecDepth 100000 in
theorem co_yX7_differs : Cond.code yX7_differs cX7_differs 7 (some FieldType.int) ∈ mT := mT_of (List.mem_of_getElem? (i := 598) rfl) rfl
theorem ml_L_39 : Cond.methodLink RL 39 yX7_node ∈ mT := mT_of (List.mem_of_getElem? (i := 599) (by decide +kernel)) (by decide +kernel)
theorem im_yX7_node : Cond.instanceMethod yX7_node ∈ mT := mT_of (List.mem_of_getElem? (i := 600) (by decide +kernel)) (by decide +kernel)
theorem se_yX7_node : Cond.selects RX7 yX7_node yX7_node ∈ mT := mT_of (List.mem_of_getElem? (i := 601) (by decide +kernel)) (by decide +kernel)
set_option maxRecDepth 100000 in
theorem co_yX7_node : Cond.code yX7_node cX7_node 3 (some FieldType.int) ∈ mT := mT_of (List.mem_of_getElem? (i := 602) rfl) rfl
theorem ml_L_43 : Cond.methodLink RL 43 yX7_build ∈ mT := mT_of (List.mem_of_getElem? (i := 603) (by decide +kernel)) (by decide +kernel)
theorem im_yX7_build : Cond.instanceMethod yX7_build ∈ mT := mT_of (List.mem_of_getElem? (i := 604) (by decide +kernel)) (by decide +kernel)
theorem se_yX7_build : Cond.selects RX7 yX7_build yX7_build ∈ mT := mT_of (List.mem_of_getElem? (i := 605) (by decide +kernel)) (by decide +kernel)
set_option maxRecDepth 100000 in
theorem co_yX7_build : Cond.code yX7_build cX7_build 3 (some FieldType.int) ∈ mT := mT_of (List.mem_of_getElem? (i := 606) rfl) rfl
theorem ml_X7_96 : Cond.methodLink RX7 96 yX7_isNode ∈ mT := mT_of (List.mem_of_getElem? (i := 607) (by decide +kernel)) (by decide +kernel)
theorem im_yX7_isNode : Cond.instanceMethod yX7_isNode ∈ mT := mT_of (List.mem_of_getElem? (i := 609) (by decide +kernel)) (by decide +kernel)
set_option maxRecDepth 100000 in
theorem co_yX7_isNode : Cond.code yX7_isNode cX7_isNode 2 (some FieldType.boolean) ∈ mT := mT_of (List.mem_of_getElem? (i := 610) rfl) rfl
theorem ml_L_47 : Cond.methodLink RL 47 yX7_propose ∈ mT := mT_of (List.mem_of_getElem? (i := 611) (by decide +kernel)) (by decide +kernel)
theorem im_yX7_propose : Cond.instanceMethod yX7_propose ∈ mT := mT_of (List.mem_of_getElem? (i := 612) (by decide +kernel)) (by decide +kernel)
theorem se_yX7_propose : Cond.selects RX7 yX7_propose yX7_propose ∈ mT := mT_of (List.mem_of_getElem? (i := 613) (by decide +kernel)) (by decide +kernel)
set_option maxRecDepth 100000 in
theorem co_yX7_propose : Cond.code yX7_propose cX7_propose 5 (some FieldType.int) ∈ mT := mT_of (List.mem_of_getElem? (i := 614) rfl) rfl
theorem ml_L_52 : Cond.methodLink RL 52 yX7_vote ∈ mT := mT_of (List.mem_of_getElem? (i := 615) (by decide +kernel)) (by decide +kernel)
theorem im_yX7_vote : Cond.instanceMethod yX7_vote ∈ mT := mT_of (List.mem_of_getElem? (i := 616) (by decide +kernel)) (by decide +kernel)
theorem se_yX7_vote : Cond.selects RX7 yX7_vote yX7_vote ∈ mT := mT_of (List.mem_of_getElem? (i := 617) (by decide +kernel)) (by decide +kernel)
set_option maxRecDepth 100000 in
theorem co_yX7_vote : Cond.code yX7_vote cX7_vote 4 (some FieldType.int) ∈ mT := mT_of (List.mem_of_getElem? (i := 618) rfl) rfl
theorem ml_L_56 : Cond.methodLink RL 56 yX7_rise ∈ mT := mT_of (List.mem_of_getElem? (i := 619) (by decide +kernel)) (by decide +kernel)
theorem im_yX7_rise : Cond.instanceMethod yX7_rise ∈ mT := mT_of (List.mem_of_getElem? (i := 620) (by decide +kernel)) (by decide +kernel)
theorem se_yX7_rise : Cond.selects RX7 yX7_rise yX7_rise ∈ mT := mT_of (List.mem_of_getElem? (i := 621) (by decide +kernel)) (by decide +kernel)
set_option maxRecDepth 100000 in
theorem co_yX7_rise : Cond.code yX7_rise cX7_rise 3 (some FieldType.int) ∈ mT := mT_of (List.mem_of_getElem? (i := 622) rfl) rfl
theorem ml_X7_106 : Cond.methodLink RX7 106 yX7_comes ∈ mT := mT_of (List.mem_of_getElem? (i := 623) (by decide +kernel)) (by decide +kernel)
theorem im_yX7_comes : Cond.instanceMethod yX7_comes ∈ mT := mT_of (List.mem_of_getElem? (i := 625) (by decide +kernel)) (by decide +kernel)
set_option maxRecDepth 100000 in
theorem co_yX7_comes : Cond.code yX7_comes cX7_comes 2 none ∈ mT := mT_of (List.mem_of_getElem? (i := 626) rfl) rfl
theorem ml_X7_102 : Cond.methodLink RX7 102 yX7_agrees ∈ mT := mT_of (List.mem_of_getElem? (i := 627) (by decide +kernel)) (by decide +kernel)
theorem im_yX7_agrees : Cond.instanceMethod yX7_agrees ∈ mT := mT_of (List.mem_of_getElem? (i := 629) (by decide +kernel)) (by decide +kernel)
set_option maxRecDepth 100000 in
theorem co_yX7_agrees : Cond.code yX7_agrees cX7_agrees 5 none ∈ mT := mT_of (List.mem_of_getElem? (i := 630) rfl) rfl
theorem ml_L_60 : Cond.methodLink RL 60 yX7_force ∈ mT := mT_of (List.mem_of_getElem? (i := 631) (by decide +kernel)) (by decide +kernel)
theorem im_yX7_force : Cond.instanceMethod yX7_force ∈ mT := mT_of (List.mem_of_getElem? (i := 632) (by decide +kernel)) (by decide +kernel)
theorem se_yX7_force : Cond.selects RX7 yX7_force yX7_force ∈ mT := mT_of (List.mem_of_getElem? (i := 633) (by decide +kernel)) (by decide +kernel)
set_option maxRecDepth 100000 in
theorem co_yX7_force : Cond.code yX7_force cX7_force 2 (some FieldType.int) ∈ mT := mT_of (List.mem_of_getElem? (i := 634) rfl) rfl
theorem ml_L_64 : Cond.methodLink RL 64 yX7_halted ∈ mT := mT_of (List.mem_of_getElem? (i := 635) (by decide +kernel)) (by decide +kernel)
theorem im_yX7_halted : Cond.instanceMethod yX7_halted ∈ mT := mT_of (List.mem_of_getElem? (i := 636) (by decide +kernel)) (by decide +kernel)
theorem se_yX7_halted : Cond.selects RX7 yX7_halted yX7_halted ∈ mT := mT_of (List.mem_of_getElem? (i := 637) (by decide +kernel)) (by decide +kernel)
set_option maxRecDepth 100000 in
theorem co_yX7_halted : Cond.code yX7_halted cX7_halted 2 (some FieldType.int) ∈ mT := mT_of (List.mem_of_getElem? (i := 638) rfl) rfl
theorem ml_L_69 : Cond.methodLink RL 69 yX7_contract ∈ mT := mT_of (List.mem_of_getElem? (i := 639) (by decide +kernel)) (by decide +kernel)
theorem im_yX7_contract : Cond.instanceMethod yX7_contract ∈ mT := mT_of (List.mem_of_getElem? (i := 640) (by decide +kernel)) (by decide +kernel)
theorem se_yX7_contract : Cond.selects RX7 yX7_contract yX7_contract ∈ mT := mT_of (List.mem_of_getElem? (i := 641) (by decide +kernel)) (by decide +kernel)
set_option maxRecDepth 100000 in
theorem co_yX7_contract : Cond.code yX7_contract cX7_contract 1 (some FieldType.int) ∈ mT := mT_of (List.mem_of_getElem? (i := 642) rfl) rfl
theorem ml_L_73 : Cond.methodLink RL 73 yX7_act ∈ mT := mT_of (List.mem_of_getElem? (i := 643) (by decide +kernel)) (by decide +kernel)
theorem im_yX7_act : Cond.instanceMethod yX7_act ∈ mT := mT_of (List.mem_of_getElem? (i := 644) (by decide +kernel)) (by decide +kernel)
theorem se_yX7_act : Cond.selects RX7 yX7_act yX7_act ∈ mT := mT_of (List.mem_of_getElem? (i := 645) (by decide +kernel)) (by decide +kernel)
set_option maxRecDepth 100000 in
theorem co_yX7_act : Cond.code yX7_act cX7_act 5 (some FieldType.int) ∈ mT := mT_of (List.mem_of_getElem? (i := 646) rfl) rfl
theorem ml_X7_109 : Cond.methodLink RX7 109 yX7_isContract ∈ mT := mT_of (List.mem_of_getElem? (i := 647) (by decide +kernel)) (by decide +kernel)
theorem im_yX7_isContract : Cond.instanceMethod yX7_isContract ∈ mT := mT_of (List.mem_of_getElem? (i := 649) (by decide +kernel)) (by decide +kernel)
set_option maxRecDepth 100000 in
theorem co_yX7_isContract : Cond.code yX7_isContract cX7_isContract 2 (some FieldType.boolean) ∈ mT := mT_of (List.mem_of_getElem? (i := 650) rfl) rfl
theorem ml_L_77 : Cond.methodLink RL 77 yX7_deploy ∈ mT := mT_of (List.mem_of_getElem? (i := 651) (by decide +kernel)) (by decide +kernel)
theorem im_yX7_deploy : Cond.instanceMethod yX7_deploy ∈ mT := mT_of (List.mem_of_getElem? (i := 652) (by decide +kernel)) (by decide +kernel)
theorem se_yX7_deploy : Cond.selects RX7 yX7_deploy yX7_deploy ∈ mT := mT_of (List.mem_of_getElem? (i := 653) (by decide +kernel)) (by decide +kernel)
set_option maxRecDepth 100000 in
theorem co_yX7_deploy : Cond.code yX7_deploy cX7_deploy 7 (some FieldType.int) ∈ mT := mT_of (List.mem_of_getElem? (i := 654) rfl) rfl
theorem ml_L_84 : Cond.methodLink RL 84 yX7_run ∈ mT := mT_of (List.mem_of_getElem? (i := 655) (by decide +kernel)) (by decide +kernel)
theorem im_yX7_run : Cond.instanceMethod yX7_run ∈ mT := mT_of (List.mem_of_getElem? (i := 656) (by decide +kernel)) (by decide +kernel)
theorem se_yX7_run : Cond.selects RX7 yX7_run yX7_run ∈ mT := mT_of (List.mem_of_getElem? (i := 657) (by decide +kernel)) (by decide +kernel)
set_option maxRecDepth 100000 in
theorem co_yX7_run : Cond.code yX7_run cX7_run 6 (some FieldType.int) ∈ mT := mT_of (List.mem_of_getElem? (i := 658) rfl) rfl
theorem ml_X7_129 : Cond.methodLink RX7 129 yX7_runs ∈ mT := mT_of (List.mem_of_getElem? (i := 659) (by decide +kernel)) (by decide +kernel)
theorem im_yX7_runs : Cond.instanceMethod yX7_runs ∈ mT := mT_of (List.mem_of_getElem? (i := 661) (by decide +kernel)) (by decide +kernel)
set_option maxRecDepth 100000 in
theorem co_yX7_runs : Cond.code yX7_runs cX7_runs 11 (some FieldType.int) ∈ mT := mT_of (List.mem_of_getElem? (i := 662) rfl) rfl
theorem ml_X7_118 : Cond.methodLink RX7 118 yX7_meant ∈ mT := mT_of (List.mem_of_getElem? (i := 663) (by decide +kernel)) (by decide +kernel)
theorem st_yX7_meant : Cond.static yX7_meant ∈ mT := mT_of (List.mem_of_getElem? (i := 664) (by decide +kernel)) (by decide +kernel)
set_option maxRecDepth 100000 in
theorem co_yX7_meant : Cond.code yX7_meant cX7_meant 3 (some FieldType.long) ∈ mT := mT_of (List.mem_of_getElem? (i := 665) rfl) rfl
theorem cn_X7_112 : Cond.constantLong RX7 112 2 ∈ mT := mT_of (List.mem_of_getElem? (i := 666) (by decide +kernel)) (by decide +kernel)
theorem ml_X7_114 : Cond.methodLink RX7 114 yX7_ones ∈ mT := mT_of (List.mem_of_getElem? (i := 667) (by decide +kernel)) (by decide +kernel)
theorem st_yX7_ones : Cond.static yX7_ones ∈ mT := mT_of (List.mem_of_getElem? (i := 668) (by decide +kernel)) (by decide +kernel)
set_option maxRecDepth 100000 in
theorem co_yX7_ones : Cond.code yX7_ones cX7_ones 5 (some FieldType.long) ∈ mT := mT_of (List.mem_of_getElem? (i := 669) rfl) rfl
theorem ml_X7_122 : Cond.methodLink RX7 122 yX7_worked ∈ mT := mT_of (List.mem_of_getElem? (i := 670) (by decide +kernel)) (by decide +kernel)
theorem st_yX7_worked : Cond.static yX7_worked ∈ mT := mT_of (List.mem_of_getElem? (i := 671) (by decide +kernel)) (by decide +kernel)
set_option maxRecDepth 100000 in
theorem co_yX7_worked : Cond.code yX7_worked cX7_worked 5 (some FieldType.long) ∈ mT := mT_of (List.mem_of_getElem? (i := 672) rfl) rfl
theorem ml_X7_136 : Cond.methodLink RX7 136 yX7_digested ∈ mT := mT_of (List.mem_of_getElem? (i := 673) (by decide +kernel)) (by decide +kernel)
theorem im_yX7_digested : Cond.instanceMethod yX7_digested ∈ mT := mT_of (List.mem_of_getElem? (i := 675) (by decide +kernel)) (by decide +kernel)
set_option maxRecDepth 100000 in
theorem co_yX7_digested : Cond.code yX7_digested cX7_digested 8 (some FieldType.int) ∈ mT := mT_of (List.mem_of_getElem? (i := 676) rfl) rfl
theorem ml_L_89 : Cond.methodLink RL 89 yX7_cell ∈ mT := mT_of (List.mem_of_getElem? (i := 677) (by decide +kernel)) (by decide +kernel)
theorem im_yX7_cell : Cond.instanceMethod yX7_cell ∈ mT := mT_of (List.mem_of_getElem? (i := 678) (by decide +kernel)) (by decide +kernel)
theorem se_yX7_cell : Cond.selects RX7 yX7_cell yX7_cell ∈ mT := mT_of (List.mem_of_getElem? (i := 679) (by decide +kernel)) (by decide +kernel)
set_option maxRecDepth 100000 in
theorem co_yX7_cell : Cond.code yX7_cell cX7_cell 3 (some FieldType.long) ∈ mT := mT_of (List.mem_of_getElem? (i := 680) rfl) rfl
theorem ml_L_93 : Cond.methodLink RL 93 yX7_logged ∈ mT := mT_of (List.mem_of_getElem? (i := 681) (by decide +kernel)) (by decide +kernel)
theorem im_yX7_logged : Cond.instanceMethod yX7_logged ∈ mT := mT_of (List.mem_of_getElem? (i := 682) (by decide +kernel)) (by decide +kernel)
theorem se_yX7_logged : Cond.selects RX7 yX7_logged yX7_logged ∈ mT := mT_of (List.mem_of_getElem? (i := 683) (by decide +kernel)) (by decide +kernel)
set_option maxRecDepth 100000 in
theorem co_yX7_logged : Cond.code yX7_logged cX7_logged 3 (some FieldType.int) ∈ mT := mT_of (List.mem_of_getElem? (i := 684) rfl) rfl
theorem ml_L_97 : Cond.methodLink RL 97 yX7_digest ∈ mT := mT_of (List.mem_of_getElem? (i := 685) (by decide +kernel)) (by decide +kernel)
theorem im_yX7_digest : Cond.instanceMethod yX7_digest ∈ mT := mT_of (List.mem_of_getElem? (i := 686) (by decide +kernel)) (by decide +kernel)
theorem se_yX7_digest : Cond.selects RX7 yX7_digest yX7_digest ∈ mT := mT_of (List.mem_of_getElem? (i := 687) (by decide +kernel)) (by decide +kernel)
set_option maxRecDepth 100000 in
theorem co_yX7_digest : Cond.code yX7_digest cX7_digest 1 (some FieldType.int) ∈ mT := mT_of (List.mem_of_getElem? (i := 688) rfl) rfl
theorem ml_L_101 : Cond.methodLink RL 101 yX7_replay ∈ mT := mT_of (List.mem_of_getElem? (i := 689) (by decide +kernel)) (by decide +kernel)
theorem im_yX7_replay : Cond.instanceMethod yX7_replay ∈ mT := mT_of (List.mem_of_getElem? (i := 690) (by decide +kernel)) (by decide +kernel)
theorem se_yX7_replay : Cond.selects RX7 yX7_replay yX7_replay ∈ mT := mT_of (List.mem_of_getElem? (i := 691) (by decide +kernel)) (by decide +kernel)
set_option maxRecDepth 100000 in
theorem co_yX7_replay : Cond.code yX7_replay cX7_replay 6 (some FieldType.int) ∈ mT := mT_of (List.mem_of_getElem? (i := 692) rfl) rfl
theorem ml_L_105 : Cond.methodLink RL 105 yX7_count ∈ mT := mT_of (List.mem_of_getElem? (i := 693) (by decide +kernel)) (by decide +kernel)
theorem im_yX7_count : Cond.instanceMethod yX7_count ∈ mT := mT_of (List.mem_of_getElem? (i := 694) (by decide +kernel)) (by decide +kernel)
theorem se_yX7_count : Cond.selects RX7 yX7_count yX7_count ∈ mT := mT_of (List.mem_of_getElem? (i := 695) (by decide +kernel)) (by decide +kernel)
set_option maxRecDepth 100000 in
theorem co_yX7_count : Cond.code yX7_count cX7_count 2 (some FieldType.int) ∈ mT := mT_of (List.mem_of_getElem? (i := 696) rfl) rfl
theorem cn_L_78 : Cond.constantLong RL 78 4294967295 ∈ mT := mT_of (List.mem_of_getElem? (i := 697) (by decide +kernel)) (by decide +kernel)
theorem se_yX6_editionAt : Cond.selects RX6 yX6_editionAt yX6_editionAt ∈ mT := mT_of (List.mem_of_getElem? (i := 0) (by decide +kernel)) (by decide +kernel)
theorem se_yX6_nodeAt : Cond.selects RX6 yX6_nodeAt yX6_nodeAt ∈ mT := mT_of (List.mem_of_getElem? (i := 1) (by decide +kernel)) (by decide +kernel)
theorem se_yX6_highestProposed : Cond.selects RX6 yX6_highestProposed yX6_highestProposed ∈ mT := mT_of (List.mem_of_getElem? (i := 2) (by decide +kernel)) (by decide +kernel)
theorem se_yX6_decideProposals : Cond.selects RX6 yX6_decideProposals yX6_decideProposals ∈ mT := mT_of (List.mem_of_getElem? (i := 3) (by decide +kernel)) (by decide +kernel)
theorem se_yX6_isAgreed : Cond.selects RX6 yX6_isAgreed yX6_isAgreed ∈ mT := mT_of (List.mem_of_getElem? (i := 4) (by decide +kernel)) (by decide +kernel)
theorem se_yX6_haltLackingNodes : Cond.selects RX6 yX6_haltLackingNodes yX6_haltLackingNodes ∈ mT := mT_of (List.mem_of_getElem? (i := 5) (by decide +kernel)) (by decide +kernel)
theorem se_yX6_inForceAt : Cond.selects RX6 yX6_inForceAt yX6_inForceAt ∈ mT := mT_of (List.mem_of_getElem? (i := 6) (by decide +kernel)) (by decide +kernel)
theorem se_yX6_contractAt : Cond.selects RX6 yX6_contractAt yX6_contractAt ∈ mT := mT_of (List.mem_of_getElem? (i := 7) (by decide +kernel)) (by decide +kernel)
theorem se_yX4_top : Cond.selects RX4 yX4_top yX4_top ∈ mT := mT_of (List.mem_of_getElem? (i := 8) (by decide +kernel)) (by decide +kernel)
theorem se_yX4_perform : Cond.selects RX4 yX4_perform yX4_perform ∈ mT := mT_of (List.mem_of_getElem? (i := 9) (by decide +kernel)) (by decide +kernel)
theorem se_yX4_lay : Cond.selects RX4 yX4_lay yX4_lay ∈ mT := mT_of (List.mem_of_getElem? (i := 10) (by decide +kernel)) (by decide +kernel)
theorem se_yX4_take : Cond.selects RX4 yX4_take yX4_take ∈ mT := mT_of (List.mem_of_getElem? (i := 11) (by decide +kernel)) (by decide +kernel)
theorem se_yX6_entryAt : Cond.selects RX6 yX6_entryAt yX6_entryAt ∈ mT := mT_of (List.mem_of_getElem? (i := 12) (by decide +kernel)) (by decide +kernel)
theorem se_yX6_clearReplayCells : Cond.selects RX6 yX6_clearReplayCells yX6_clearReplayCells ∈ mT := mT_of (List.mem_of_getElem? (i := 13) (by decide +kernel)) (by decide +kernel)
theorem se_yX6_digestBehindReplayOf : Cond.selects RX6 yX6_digestBehindReplayOf yX6_digestBehindReplayOf ∈ mT := mT_of (List.mem_of_getElem? (i := 14) (by decide +kernel)) (by decide +kernel)
theorem se_yX7_isEdition : Cond.selects RX7 yX7_isEdition yX7_isEdition ∈ mT := mT_of (List.mem_of_getElem? (i := 15) (by decide +kernel)) (by decide +kernel)
theorem se_yX7_isNode : Cond.selects RX7 yX7_isNode yX7_isNode ∈ mT := mT_of (List.mem_of_getElem? (i := 16) (by decide +kernel)) (by decide +kernel)
theorem se_yX7_comes : Cond.selects RX7 yX7_comes yX7_comes ∈ mT := mT_of (List.mem_of_getElem? (i := 17) (by decide +kernel)) (by decide +kernel)
theorem se_yX7_agrees : Cond.selects RX7 yX7_agrees yX7_agrees ∈ mT := mT_of (List.mem_of_getElem? (i := 18) (by decide +kernel)) (by decide +kernel)
theorem se_yX7_isContract : Cond.selects RX7 yX7_isContract yX7_isContract ∈ mT := mT_of (List.mem_of_getElem? (i := 19) (by decide +kernel)) (by decide +kernel)
theorem se_yX7_runs : Cond.selects RX7 yX7_runs yX7_runs ∈ mT := mT_of (List.mem_of_getElem? (i := 20) (by decide +kernel)) (by decide +kernel)
theorem se_yX7_digested : Cond.selects RX7 yX7_digested yX7_digested ∈ mT := mT_of (List.mem_of_getElem? (i := 21) (by decide +kernel)) (by decide +kernel)
/-- links between nest mates -/
def mm_NW : List Cond := [Cond.methodLinkNest RX6 42 yX4_init RX6, Cond.methodLinkNest RX4 17 yX0_init RX6, Cond.methodLinkNest RX2 28 yX6_isBelow RX6, Cond.methodLinkNest RX6 140 yX1_init RX6, Cond.methodLinkNest RX1 20 yX0_init RX6, Cond.methodLinkNest RX1 36 yX6_isBelow RX6, Cond.methodLinkNest RX4 45 yX6_answerOfRule RX6, Cond.methodLinkNest RX4 107 yX6_isBelow RX6, Cond.methodLinkNest RX0 15 yX6_isBelow RX6]
theorem mn_X6_42 : Cond.methodLinkNest RX6 42 yX4_init RX6 ∈ mm_NW := List.mem_of_getElem? (i := 0) rfl
theorem mn_X4_17 : Cond.methodLinkNest RX4 17 yX0_init RX6 ∈ mm_NW := List.mem_of_getElem? (i := 1) rfl
theorem mn_X2_28 : Cond.methodLinkNest RX2 28 yX6_isBelow RX6 ∈ mm_NW := List.mem_of_getElem? (i := 2) rfl
theorem mn_X6_140 : Cond.methodLinkNest RX6 140 yX1_init RX6 ∈ mm_NW := List.mem_of_getElem? (i := 3) rfl
theorem mn_X1_20 : Cond.methodLinkNest RX1 20 yX0_init RX6 ∈ mm_NW := List.mem_of_getElem? (i := 4) rfl
theorem mn_X1_36 : Cond.methodLinkNest RX1 36 yX6_isBelow RX6 ∈ mm_NW := List.mem_of_getElem? (i := 5) rfl
theorem mn_X4_45 : Cond.methodLinkNest RX4 45 yX6_answerOfRule RX6 ∈ mm_NW := List.mem_of_getElem? (i := 6) rfl
theorem mn_X4_107 : Cond.methodLinkNest RX4 107 yX6_isBelow RX6 ∈ mm_NW := List.mem_of_getElem? (i := 7) rfl
theorem mn_X0_15 : Cond.methodLinkNest RX0 15 yX6_isBelow RX6 ∈ mm_NW := List.mem_of_getElem? (i := 8) rfl
theorem mm_NW_l : ∀ w ∈ mm_NW, w ∈ lw_tbl := by
  intro w h
  simp only [mm_NW, List.mem_cons, List.not_mem_nil, or_false] at h
  rcases h with rfl | rfl | rfl | rfl | rfl | rfl | rfl | rfl | rfl
  · exact mn_X6_42_l
  · exact mn_X4_17_l
  · exact mn_X2_28_l
  · exact mn_X6_140_l
  · exact mn_X1_20_l
  · exact mn_X1_36_l
  · exact mn_X4_45_l
  · exact mn_X4_107_l
  · exact mn_X0_15_l
def mm_AO : List String := [RX2, RX5, RX1, RX3]
theorem ao_X2_l : Cond.arrayOver (.object RX2) ∈ lw_tbl := List.mem_of_getElem? (i := 42) (by decide +kernel)
theorem ao_X2 : RX2 ∈ mm_AO := List.mem_of_getElem? (i := 0) rfl
theorem ao_X5_l : Cond.arrayOver (.object RX5) ∈ lw_tbl := List.mem_of_getElem? (i := 44) (by decide +kernel)
theorem ao_X5 : RX5 ∈ mm_AO := List.mem_of_getElem? (i := 1) rfl
theorem ao_X1_l : Cond.arrayOver (.object RX1) ∈ lw_tbl := List.mem_of_getElem? (i := 46) (by decide +kernel)
theorem ao_X1 : RX1 ∈ mm_AO := List.mem_of_getElem? (i := 2) rfl
theorem ao_X3_l : Cond.arrayOver (.object RX3) ∈ lw_tbl := List.mem_of_getElem? (i := 48) (by decide +kernel)
theorem ao_X3 : RX3 ∈ mm_AO := List.mem_of_getElem? (i := 3) rfl
theorem hl_X0 : ∀ w ∈ u_ws RX0 TX0 1, w ∈ lw_tbl := by decide +kernel
theorem hg_X0 : ∀ w ∈ u_ws RX0 TX0 1, goodWord w = true := by decide +kernel
theorem hin_X0 : ∀ w ∈ u_ws RX0 TX0 1, w ∈ mT := fun w h => mT_of (hl_X0 w h) (hg_X0 w h)
theorem hl_X1 : ∀ w ∈ u_ws RX1 TX1 6, w ∈ lw_tbl := by decide +kernel
theorem hg_X1 : ∀ w ∈ u_ws RX1 TX1 6, goodWord w = true := by decide +kernel
theorem hin_X1 : ∀ w ∈ u_ws RX1 TX1 6, w ∈ mT := fun w h => mT_of (hl_X1 w h) (hg_X1 w h)
theorem hl_X2 : ∀ w ∈ u_ws RX2 TX2 5, w ∈ lw_tbl := by decide +kernel
theorem hg_X2 : ∀ w ∈ u_ws RX2 TX2 5, goodWord w = true := by decide +kernel
theorem hin_X2 : ∀ w ∈ u_ws RX2 TX2 5, w ∈ mT := fun w h => mT_of (hl_X2 w h) (hg_X2 w h)
theorem hl_X3 : ∀ w ∈ u_ws RX3 TX3 5, w ∈ lw_tbl := by decide +kernel
theorem hg_X3 : ∀ w ∈ u_ws RX3 TX3 5, goodWord w = true := by decide +kernel
theorem hin_X3 : ∀ w ∈ u_ws RX3 TX3 5, w ∈ mT := fun w h => mT_of (hl_X3 w h) (hg_X3 w h)
theorem hl_X4 : ∀ w ∈ u_ws RX4 TX4 3, w ∈ lw_tbl := by decide +kernel
theorem hg_X4 : ∀ w ∈ u_ws RX4 TX4 3, goodWord w = true := by decide +kernel
theorem hin_X4 : ∀ w ∈ u_ws RX4 TX4 3, w ∈ mT := fun w h => mT_of (hl_X4 w h) (hg_X4 w h)
theorem hl_X5 : ∀ w ∈ u_ws RX5 TX5 4, w ∈ lw_tbl := by decide +kernel
theorem hg_X5 : ∀ w ∈ u_ws RX5 TX5 4, goodWord w = true := by decide +kernel
theorem hin_X5 : ∀ w ∈ u_ws RX5 TX5 4, w ∈ mT := fun w h => mT_of (hl_X5 w h) (hg_X5 w h)
theorem hl_X6 : ∀ w ∈ u_ws RX6 TX6 12, w ∈ lw_tbl := by decide +kernel
theorem hg_X6 : ∀ w ∈ u_ws RX6 TX6 12, goodWord w = true := by decide +kernel
theorem hin_X6 : ∀ w ∈ u_ws RX6 TX6 12, w ∈ mT := fun w h => mT_of (hl_X6 w h) (hg_X6 w h)
theorem hl_X7 : ∀ w ∈ u_ws RX7 TX7 28, w ∈ lw_tbl := by decide +kernel
theorem hg_X7 : ∀ w ∈ u_ws RX7 TX7 28, goodWord w = true := by decide +kernel
theorem hin_X7 : ∀ w ∈ u_ws RX7 TX7 28, w ∈ mT := fun w h => mT_of (hl_X7 w h) (hg_X7 w h)
end
section
theorem dX0_init_0 : decode cX0_init 0 = .ok (.aload_n 0, 1) := by decide +kernel
theorem dX0_init_1 : decode cX0_init 1 = .ok (.invokespecial 3, 3) := by decide +kernel
theorem dX0_init_4 : decode cX0_init 4 = .ok (.aload_n 0, 1) := by decide +kernel
theorem dX0_init_5 : decode cX0_init 5 = .ok (.iconst 4, 1) := by decide +kernel
theorem dX0_init_6 : decode cX0_init 6 = .ok (.newarray .long, 2) := by decide +kernel
theorem dX0_init_8 : decode cX0_init 8 = .ok (.putfield 9, 3) := by decide +kernel
theorem dX0_init_11 : decode cX0_init 11 = .ok (.return_, 1) := by decide +kernel
theorem dX0_valueOf_0 : decode cX0_valueOf 0 = .ok (.iload_n 1, 1) := by decide +kernel
theorem dX0_valueOf_1 : decode cX0_valueOf 1 = .ok (.aload_n 0, 1) := by decide +kernel
theorem dX0_valueOf_2 : decode cX0_valueOf 2 = .ok (.getfield 9, 3) := by decide +kernel
theorem dX0_valueOf_5 : decode cX0_valueOf 5 = .ok (.arraylength, 1) := by decide +kernel
theorem dX0_valueOf_6 : decode cX0_valueOf 6 = .ok (.invokestatic 15, 3) := by decide +kernel
theorem dX0_valueOf_9 : decode cX0_valueOf 9 = .ok (.ifCond .eq 12, 3) := by decide +kernel
theorem dX0_valueOf_12 : decode cX0_valueOf 12 = .ok (.aload_n 0, 1) := by decide +kernel
theorem dX0_valueOf_13 : decode cX0_valueOf 13 = .ok (.getfield 9, 3) := by decide +kernel
theorem dX0_valueOf_16 : decode cX0_valueOf 16 = .ok (.iload_n 1, 1) := by decide +kernel
theorem dX0_valueOf_17 : decode cX0_valueOf 17 = .ok (.laload, 1) := by decide +kernel
theorem dX0_valueOf_18 : decode cX0_valueOf 18 = .ok (.goto 4, 3) := by decide +kernel
theorem dX0_valueOf_21 : decode cX0_valueOf 21 = .ok (.lconst 0, 1) := by decide +kernel
theorem dX0_valueOf_22 : decode cX0_valueOf 22 = .ok (.lreturn, 1) := by decide +kernel
theorem dX0_store_0 : decode cX0_store 0 = .ok (.iload_n 1, 1) := by decide +kernel
theorem dX0_store_1 : decode cX0_store 1 = .ok (.aload_n 0, 1) := by decide +kernel
theorem dX0_store_2 : decode cX0_store 2 = .ok (.getfield 9, 3) := by decide +kernel
theorem dX0_store_5 : decode cX0_store 5 = .ok (.arraylength, 1) := by decide +kernel
theorem dX0_store_6 : decode cX0_store 6 = .ok (.invokestatic 15, 3) := by decide +kernel
theorem dX0_store_9 : decode cX0_store 9 = .ok (.ifCond .eq 10, 3) := by decide +kernel
theorem dX0_store_12 : decode cX0_store 12 = .ok (.aload_n 0, 1) := by decide +kernel
theorem dX0_store_13 : decode cX0_store 13 = .ok (.getfield 9, 3) := by decide +kernel
theorem dX0_store_16 : decode cX0_store 16 = .ok (.iload_n 1, 1) := by decide +kernel
theorem dX0_store_17 : decode cX0_store 17 = .ok (.lload_n 2, 1) := by decide +kernel
theorem dX0_store_18 : decode cX0_store 18 = .ok (.lastore, 1) := by decide +kernel
theorem dX0_store_19 : decode cX0_store 19 = .ok (.return_, 1) := by decide +kernel
theorem dX0_clear_0 : decode cX0_clear 0 = .ok (.iconst 0, 1) := by decide +kernel
theorem dX0_clear_1 : decode cX0_clear 1 = .ok (.istore_n 1, 1) := by decide +kernel
theorem dX0_clear_2 : decode cX0_clear 2 = .ok (.iload_n 1, 1) := by decide +kernel
theorem dX0_clear_3 : decode cX0_clear 3 = .ok (.iconst 4, 1) := by decide +kernel
theorem dX0_clear_4 : decode cX0_clear 4 = .ok (.if_icmp .ge 16, 3) := by decide +kernel
theorem dX0_clear_7 : decode cX0_clear 7 = .ok (.aload_n 0, 1) := by decide +kernel
theorem dX0_clear_8 : decode cX0_clear 8 = .ok (.getfield 9, 3) := by decide +kernel
theorem dX0_clear_11 : decode cX0_clear 11 = .ok (.iload_n 1, 1) := by decide +kernel
theorem dX0_clear_12 : decode cX0_clear 12 = .ok (.lconst 0, 1) := by decide +kernel
theorem dX0_clear_13 : decode cX0_clear 13 = .ok (.lastore, 1) := by decide +kernel
theorem dX0_clear_14 : decode cX0_clear 14 = .ok (.iinc 1 1, 3) := by decide +kernel
theorem dX0_clear_17 : decode cX0_clear 17 = .ok (.goto (-15), 3) := by decide +kernel
theorem dX0_clear_20 : decode cX0_clear 20 = .ok (.return_, 1) := by decide +kernel
theorem dX0_becomeLike_0 : decode cX0_becomeLike 0 = .ok (.iconst 0, 1) := by decide +kernel
theorem dX0_becomeLike_1 : decode cX0_becomeLike 1 = .ok (.istore_n 2, 1) := by decide +kernel
theorem dX0_becomeLike_2 : decode cX0_becomeLike 2 = .ok (.iload_n 2, 1) := by decide +kernel
theorem dX0_becomeLike_3 : decode cX0_becomeLike 3 = .ok (.iconst 4, 1) := by decide +kernel
theorem dX0_becomeLike_4 : decode cX0_becomeLike 4 = .ok (.if_icmp .ge 21, 3) := by decide +kernel
theorem dX0_becomeLike_7 : decode cX0_becomeLike 7 = .ok (.aload_n 0, 1) := by decide +kernel
theorem dX0_becomeLike_8 : decode cX0_becomeLike 8 = .ok (.getfield 9, 3) := by decide +kernel
theorem dX0_becomeLike_11 : decode cX0_becomeLike 11 = .ok (.iload_n 2, 1) := by decide +kernel
theorem dX0_becomeLike_12 : decode cX0_becomeLike 12 = .ok (.aload_n 1, 1) := by decide +kernel
theorem dX0_becomeLike_13 : decode cX0_becomeLike 13 = .ok (.getfield 9, 3) := by decide +kernel
theorem dX0_becomeLike_16 : decode cX0_becomeLike 16 = .ok (.iload_n 2, 1) := by decide +kernel
theorem dX0_becomeLike_17 : decode cX0_becomeLike 17 = .ok (.laload, 1) := by decide +kernel
theorem dX0_becomeLike_18 : decode cX0_becomeLike 18 = .ok (.lastore, 1) := by decide +kernel
theorem dX0_becomeLike_19 : decode cX0_becomeLike 19 = .ok (.iinc 2 1, 3) := by decide +kernel
theorem dX0_becomeLike_22 : decode cX0_becomeLike 22 = .ok (.goto (-20), 3) := by decide +kernel
theorem dX0_becomeLike_25 : decode cX0_becomeLike 25 = .ok (.return_, 1) := by decide +kernel
theorem dX0_digestBehind_0 : decode cX0_digestBehind 0 = .ok (.bipush 31, 2) := by decide +kernel
theorem dX0_digestBehind_2 : decode cX0_digestBehind 2 = .ok (.iload_n 1, 1) := by decide +kernel
theorem dX0_digestBehind_3 : decode cX0_digestBehind 3 = .ok (.imul, 1) := by decide +kernel
theorem dX0_digestBehind_4 : decode cX0_digestBehind 4 = .ok (.iload_n 2, 1) := by decide +kernel
theorem dX0_digestBehind_5 : decode cX0_digestBehind 5 = .ok (.iadd, 1) := by decide +kernel
theorem dX0_digestBehind_6 : decode cX0_digestBehind 6 = .ok (.istore_n 3, 1) := by decide +kernel
theorem dX0_digestBehind_7 : decode cX0_digestBehind 7 = .ok (.aload_n 0, 1) := by decide +kernel
theorem dX0_digestBehind_8 : decode cX0_digestBehind 8 = .ok (.getfield 9, 3) := by decide +kernel
theorem dX0_digestBehind_11 : decode cX0_digestBehind 11 = .ok (.astore 4, 2) := by decide +kernel
theorem dX0_digestBehind_13 : decode cX0_digestBehind 13 = .ok (.aload 4, 2) := by decide +kernel
theorem dX0_digestBehind_15 : decode cX0_digestBehind 15 = .ok (.arraylength, 1) := by decide +kernel
theorem dX0_digestBehind_16 : decode cX0_digestBehind 16 = .ok (.istore 5, 2) := by decide +kernel
theorem dX0_digestBehind_18 : decode cX0_digestBehind 18 = .ok (.iconst 0, 1) := by decide +kernel
theorem dX0_digestBehind_19 : decode cX0_digestBehind 19 = .ok (.istore 6, 2) := by decide +kernel
theorem dX0_digestBehind_21 : decode cX0_digestBehind 21 = .ok (.iload 6, 2) := by decide +kernel
theorem dX0_digestBehind_23 : decode cX0_digestBehind 23 = .ok (.iload 5, 2) := by decide +kernel
theorem dX0_digestBehind_25 : decode cX0_digestBehind 25 = .ok (.if_icmp .ge 37, 3) := by decide +kernel
theorem dX0_digestBehind_28 : decode cX0_digestBehind 28 = .ok (.aload 4, 2) := by decide +kernel
theorem dX0_digestBehind_30 : decode cX0_digestBehind 30 = .ok (.iload 6, 2) := by decide +kernel
theorem dX0_digestBehind_32 : decode cX0_digestBehind 32 = .ok (.laload, 1) := by decide +kernel
theorem dX0_digestBehind_33 : decode cX0_digestBehind 33 = .ok (.lstore 7, 2) := by decide +kernel
theorem dX0_digestBehind_35 : decode cX0_digestBehind 35 = .ok (.bipush 31, 2) := by decide +kernel
theorem dX0_digestBehind_37 : decode cX0_digestBehind 37 = .ok (.iload_n 3, 1) := by decide +kernel
theorem dX0_digestBehind_38 : decode cX0_digestBehind 38 = .ok (.imul, 1) := by decide +kernel
theorem dX0_digestBehind_39 : decode cX0_digestBehind 39 = .ok (.lload 7, 2) := by decide +kernel
theorem dX0_digestBehind_41 : decode cX0_digestBehind 41 = .ok (.bipush 32, 2) := by decide +kernel
theorem dX0_digestBehind_43 : decode cX0_digestBehind 43 = .ok (.lushr, 1) := by decide +kernel
theorem dX0_digestBehind_44 : decode cX0_digestBehind 44 = .ok (.l2i, 1) := by decide +kernel
theorem dX0_digestBehind_45 : decode cX0_digestBehind 45 = .ok (.iadd, 1) := by decide +kernel
theorem dX0_digestBehind_46 : decode cX0_digestBehind 46 = .ok (.istore_n 3, 1) := by decide +kernel
theorem dX0_digestBehind_47 : decode cX0_digestBehind 47 = .ok (.bipush 31, 2) := by decide +kernel
theorem dX0_digestBehind_49 : decode cX0_digestBehind 49 = .ok (.iload_n 3, 1) := by decide +kernel
theorem dX0_digestBehind_50 : decode cX0_digestBehind 50 = .ok (.imul, 1) := by decide +kernel
theorem dX0_digestBehind_51 : decode cX0_digestBehind 51 = .ok (.lload 7, 2) := by decide +kernel
theorem dX0_digestBehind_53 : decode cX0_digestBehind 53 = .ok (.l2i, 1) := by decide +kernel
theorem dX0_digestBehind_54 : decode cX0_digestBehind 54 = .ok (.iadd, 1) := by decide +kernel
theorem dX0_digestBehind_55 : decode cX0_digestBehind 55 = .ok (.istore_n 3, 1) := by decide +kernel
theorem dX0_digestBehind_56 : decode cX0_digestBehind 56 = .ok (.iinc 6 1, 3) := by decide +kernel
theorem dX0_digestBehind_59 : decode cX0_digestBehind 59 = .ok (.goto (-38), 3) := by decide +kernel
theorem dX0_digestBehind_62 : decode cX0_digestBehind 62 = .ok (.iload_n 3, 1) := by decide +kernel
theorem dX0_digestBehind_63 : decode cX0_digestBehind 63 = .ok (.ireturn, 1) := by decide +kernel
theorem dX1_init_0 : decode cX1_init 0 = .ok (.aload_n 0, 1) := by decide +kernel
theorem dX1_init_1 : decode cX1_init 1 = .ok (.invokespecial 3, 3) := by decide +kernel
theorem dX1_init_4 : decode cX1_init 4 = .ok (.aload_n 0, 1) := by decide +kernel
theorem dX1_init_5 : decode cX1_init 5 = .ok (.bipush 24, 2) := by decide +kernel
theorem dX1_init_7 : decode cX1_init 7 = .ok (.newarray .int, 2) := by decide +kernel
theorem dX1_init_9 : decode cX1_init 9 = .ok (.putfield 9, 3) := by decide +kernel
theorem dX1_init_12 : decode cX1_init 12 = .ok (.aload_n 0, 1) := by decide +kernel
theorem dX1_init_13 : decode cX1_init 13 = .ok (.bipush 24, 2) := by decide +kernel
theorem dX1_init_15 : decode cX1_init 15 = .ok (.newarray .int, 2) := by decide +kernel
theorem dX1_init_17 : decode cX1_init 17 = .ok (.putfield 15, 3) := by decide +kernel
theorem dX1_init_20 : decode cX1_init 20 = .ok (.aload_n 0, 1) := by decide +kernel
theorem dX1_init_21 : decode cX1_init 21 = .ok (.new 18, 3) := by decide +kernel
theorem dX1_init_24 : decode cX1_init 24 = .ok (.dup, 1) := by decide +kernel
theorem dX1_init_25 : decode cX1_init 25 = .ok (.invokespecial 20, 3) := by decide +kernel
theorem dX1_init_28 : decode cX1_init 28 = .ok (.putfield 21, 3) := by decide +kernel
theorem dX1_init_31 : decode cX1_init 31 = .ok (.aload_n 0, 1) := by decide +kernel
theorem dX1_init_32 : decode cX1_init 32 = .ok (.new 18, 3) := by decide +kernel
theorem dX1_init_35 : decode cX1_init 35 = .ok (.dup, 1) := by decide +kernel
theorem dX1_init_36 : decode cX1_init 36 = .ok (.invokespecial 20, 3) := by decide +kernel
theorem dX1_init_39 : decode cX1_init 39 = .ok (.putfield 25, 3) := by decide +kernel
theorem dX1_init_42 : decode cX1_init 42 = .ok (.aload_n 0, 1) := by decide +kernel
theorem dX1_init_43 : decode cX1_init 43 = .ok (.iconst 0, 1) := by decide +kernel
theorem dX1_init_44 : decode cX1_init 44 = .ok (.putfield 28, 3) := by decide +kernel
theorem dX1_init_47 : decode cX1_init 47 = .ok (.aload_n 0, 1) := by decide +kernel
theorem dX1_init_48 : decode cX1_init 48 = .ok (.aconst_null, 1) := by decide +kernel
theorem dX1_init_49 : decode cX1_init 49 = .ok (.putfield 32, 3) := by decide +kernel
theorem dX1_init_52 : decode cX1_init 52 = .ok (.return_, 1) := by decide +kernel
theorem dX1_add_0 : decode cX1_add 0 = .ok (.aload_n 0, 1) := by decide +kernel
theorem dX1_add_1 : decode cX1_add 1 = .ok (.getfield 28, 3) := by decide +kernel
theorem dX1_add_4 : decode cX1_add 4 = .ok (.bipush 24, 2) := by decide +kernel
theorem dX1_add_6 : decode cX1_add 6 = .ok (.invokestatic 36, 3) := by decide +kernel
theorem dX1_add_9 : decode cX1_add 9 = .ok (.ifCond .eq 33, 3) := by decide +kernel
theorem dX1_add_12 : decode cX1_add 12 = .ok (.aload_n 0, 1) := by decide +kernel
theorem dX1_add_13 : decode cX1_add 13 = .ok (.getfield 9, 3) := by decide +kernel
theorem dX1_add_16 : decode cX1_add 16 = .ok (.aload_n 0, 1) := by decide +kernel
theorem dX1_add_17 : decode cX1_add 17 = .ok (.getfield 28, 3) := by decide +kernel
theorem dX1_add_20 : decode cX1_add 20 = .ok (.iload_n 1, 1) := by decide +kernel
theorem dX1_add_21 : decode cX1_add 21 = .ok (.iastore, 1) := by decide +kernel
theorem dX1_add_22 : decode cX1_add 22 = .ok (.aload_n 0, 1) := by decide +kernel
theorem dX1_add_23 : decode cX1_add 23 = .ok (.getfield 15, 3) := by decide +kernel
theorem dX1_add_26 : decode cX1_add 26 = .ok (.aload_n 0, 1) := by decide +kernel
theorem dX1_add_27 : decode cX1_add 27 = .ok (.getfield 28, 3) := by decide +kernel
theorem dX1_add_30 : decode cX1_add 30 = .ok (.iload_n 2, 1) := by decide +kernel
theorem dX1_add_31 : decode cX1_add 31 = .ok (.iastore, 1) := by decide +kernel
theorem dX1_add_32 : decode cX1_add 32 = .ok (.aload_n 0, 1) := by decide +kernel
theorem dX1_add_33 : decode cX1_add 33 = .ok (.dup, 1) := by decide +kernel
theorem dX1_add_34 : decode cX1_add 34 = .ok (.getfield 28, 3) := by decide +kernel
theorem dX1_add_37 : decode cX1_add 37 = .ok (.iconst 1, 1) := by decide +kernel
theorem dX1_add_38 : decode cX1_add 38 = .ok (.iadd, 1) := by decide +kernel
theorem dX1_add_39 : decode cX1_add 39 = .ok (.putfield 28, 3) := by decide +kernel
theorem dX1_add_42 : decode cX1_add 42 = .ok (.return_, 1) := by decide +kernel
theorem dX1_ruleBrokenUnder_0 : decode cX1_ruleBrokenUnder 0 = .ok (.iconst 0, 1) := by decide +kernel
theorem dX1_ruleBrokenUnder_1 : decode cX1_ruleBrokenUnder 1 = .ok (.istore_n 2, 1) := by decide +kernel
theorem dX1_ruleBrokenUnder_2 : decode cX1_ruleBrokenUnder 2 = .ok (.iconst 0, 1) := by decide +kernel
theorem dX1_ruleBrokenUnder_3 : decode cX1_ruleBrokenUnder 3 = .ok (.istore_n 3, 1) := by decide +kernel
theorem dX1_ruleBrokenUnder_4 : decode cX1_ruleBrokenUnder 4 = .ok (.iload_n 3, 1) := by decide +kernel
theorem dX1_ruleBrokenUnder_5 : decode cX1_ruleBrokenUnder 5 = .ok (.aload_n 0, 1) := by decide +kernel
theorem dX1_ruleBrokenUnder_6 : decode cX1_ruleBrokenUnder 6 = .ok (.getfield 28, 3) := by decide +kernel
theorem dX1_ruleBrokenUnder_9 : decode cX1_ruleBrokenUnder 9 = .ok (.if_icmp .ge 70, 3) := by decide +kernel
theorem dX1_ruleBrokenUnder_12 : decode cX1_ruleBrokenUnder 12 = .ok (.iload_n 3, 1) := by decide +kernel
theorem dX1_ruleBrokenUnder_13 : decode cX1_ruleBrokenUnder 13 = .ok (.bipush 24, 2) := by decide +kernel
theorem dX1_ruleBrokenUnder_15 : decode cX1_ruleBrokenUnder 15 = .ok (.if_icmp .ge 64, 3) := by decide +kernel
theorem dX1_ruleBrokenUnder_18 : decode cX1_ruleBrokenUnder 18 = .ok (.aload_n 0, 1) := by decide +kernel
theorem dX1_ruleBrokenUnder_19 : decode cX1_ruleBrokenUnder 19 = .ok (.getfield 9, 3) := by decide +kernel
theorem dX1_ruleBrokenUnder_22 : decode cX1_ruleBrokenUnder 22 = .ok (.iload_n 3, 1) := by decide +kernel
theorem dX1_ruleBrokenUnder_23 : decode cX1_ruleBrokenUnder 23 = .ok (.iaload, 1) := by decide +kernel
theorem dX1_ruleBrokenUnder_24 : decode cX1_ruleBrokenUnder 24 = .ok (.istore 4, 2) := by decide +kernel
theorem dX1_ruleBrokenUnder_26 : decode cX1_ruleBrokenUnder 26 = .ok (.iload 4, 2) := by decide +kernel
theorem dX1_ruleBrokenUnder_28 : decode cX1_ruleBrokenUnder 28 = .ok (.bipush 6, 2) := by decide +kernel
theorem dX1_ruleBrokenUnder_30 : decode cX1_ruleBrokenUnder 30 = .ok (.if_icmp .ne 18, 3) := by decide +kernel
theorem dX1_ruleBrokenUnder_33 : decode cX1_ruleBrokenUnder 33 = .ok (.aload_n 1, 1) := by decide +kernel
theorem dX1_ruleBrokenUnder_34 : decode cX1_ruleBrokenUnder 34 = .ok (.aload_n 0, 1) := by decide +kernel
theorem dX1_ruleBrokenUnder_35 : decode cX1_ruleBrokenUnder 35 = .ok (.getfield 15, 3) := by decide +kernel
theorem dX1_ruleBrokenUnder_38 : decode cX1_ruleBrokenUnder 38 = .ok (.iload_n 3, 1) := by decide +kernel
theorem dX1_ruleBrokenUnder_39 : decode cX1_ruleBrokenUnder 39 = .ok (.iaload, 1) := by decide +kernel
theorem dX1_ruleBrokenUnder_40 : decode cX1_ruleBrokenUnder 40 = .ok (.invokevirtual 40, 3) := by decide +kernel
theorem dX1_ruleBrokenUnder_43 : decode cX1_ruleBrokenUnder 43 = .ok (.ifCond .ge 5, 3) := by decide +kernel
theorem dX1_ruleBrokenUnder_46 : decode cX1_ruleBrokenUnder 46 = .ok (.iconst 1, 1) := by decide +kernel
theorem dX1_ruleBrokenUnder_47 : decode cX1_ruleBrokenUnder 47 = .ok (.ireturn, 1) := by decide +kernel
theorem dX1_ruleBrokenUnder_48 : decode cX1_ruleBrokenUnder 48 = .ok (.iload_n 2, 1) := by decide +kernel
theorem dX1_ruleBrokenUnder_49 : decode cX1_ruleBrokenUnder 49 = .ok (.iload 4, 2) := by decide +kernel
theorem dX1_ruleBrokenUnder_51 : decode cX1_ruleBrokenUnder 51 = .ok (.invokestatic 46, 3) := by decide +kernel
theorem dX1_ruleBrokenUnder_54 : decode cX1_ruleBrokenUnder 54 = .ok (.if_icmp .ge 5, 3) := by decide +kernel
theorem dX1_ruleBrokenUnder_57 : decode cX1_ruleBrokenUnder 57 = .ok (.iconst 2, 1) := by decide +kernel
theorem dX1_ruleBrokenUnder_58 : decode cX1_ruleBrokenUnder 58 = .ok (.ireturn, 1) := by decide +kernel
theorem dX1_ruleBrokenUnder_59 : decode cX1_ruleBrokenUnder 59 = .ok (.iload_n 2, 1) := by decide +kernel
theorem dX1_ruleBrokenUnder_60 : decode cX1_ruleBrokenUnder 60 = .ok (.iload 4, 2) := by decide +kernel
theorem dX1_ruleBrokenUnder_62 : decode cX1_ruleBrokenUnder 62 = .ok (.invokestatic 49, 3) := by decide +kernel
theorem dX1_ruleBrokenUnder_65 : decode cX1_ruleBrokenUnder 65 = .ok (.iload 4, 2) := by decide +kernel
theorem dX1_ruleBrokenUnder_67 : decode cX1_ruleBrokenUnder 67 = .ok (.invokestatic 46, 3) := by decide +kernel
theorem dX1_ruleBrokenUnder_70 : decode cX1_ruleBrokenUnder 70 = .ok (.isub, 1) := by decide +kernel
theorem dX1_ruleBrokenUnder_71 : decode cX1_ruleBrokenUnder 71 = .ok (.iadd, 1) := by decide +kernel
theorem dX1_ruleBrokenUnder_72 : decode cX1_ruleBrokenUnder 72 = .ok (.istore_n 2, 1) := by decide +kernel
theorem dX1_ruleBrokenUnder_73 : decode cX1_ruleBrokenUnder 73 = .ok (.iinc 3 1, 3) := by decide +kernel
theorem dX1_ruleBrokenUnder_76 : decode cX1_ruleBrokenUnder 76 = .ok (.goto (-72), 3) := by decide +kernel
theorem dX1_ruleBrokenUnder_79 : decode cX1_ruleBrokenUnder 79 = .ok (.iconst 0, 1) := by decide +kernel
theorem dX1_ruleBrokenUnder_80 : decode cX1_ruleBrokenUnder 80 = .ok (.ireturn, 1) := by decide +kernel
theorem dX1_takenBy_0 : decode cX1_takenBy 0 = .ok (.iload_n 0, 1) := by decide +kernel
theorem dX1_takenBy_1 : decode cX1_takenBy 1 = .ok (.tableswitch 43 2 7 #[39, 39, 39, 39, 41, 41], 39) := by decide +kernel
theorem dX1_takenBy_40 : decode cX1_takenBy 40 = .ok (.iconst 2, 1) := by decide +kernel
theorem dX1_takenBy_41 : decode cX1_takenBy 41 = .ok (.ireturn, 1) := by decide +kernel
theorem dX1_takenBy_42 : decode cX1_takenBy 42 = .ok (.iconst 1, 1) := by decide +kernel
theorem dX1_takenBy_43 : decode cX1_takenBy 43 = .ok (.ireturn, 1) := by decide +kernel
theorem dX1_takenBy_44 : decode cX1_takenBy 44 = .ok (.iconst 0, 1) := by decide +kernel
theorem dX1_takenBy_45 : decode cX1_takenBy 45 = .ok (.ireturn, 1) := by decide +kernel
theorem dX1_laidBy_0 : decode cX1_laidBy 0 = .ok (.iload_n 0, 1) := by decide +kernel
theorem dX1_laidBy_1 : decode cX1_laidBy 1 = .ok (.bipush 7, 2) := by decide +kernel
theorem dX1_laidBy_3 : decode cX1_laidBy 3 = .ok (.if_icmp .ne 7, 3) := by decide +kernel
theorem dX1_laidBy_6 : decode cX1_laidBy 6 = .ok (.iconst 0, 1) := by decide +kernel
theorem dX1_laidBy_7 : decode cX1_laidBy 7 = .ok (.goto 4, 3) := by decide +kernel
theorem dX1_laidBy_10 : decode cX1_laidBy 10 = .ok (.iconst 1, 1) := by decide +kernel
theorem dX1_laidBy_11 : decode cX1_laidBy 11 = .ok (.ireturn, 1) := by decide +kernel
theorem dX2_init_0 : decode cX2_init 0 = .ok (.aload_n 0, 1) := by decide +kernel
theorem dX2_init_1 : decode cX2_init 1 = .ok (.invokespecial 3, 3) := by decide +kernel
theorem dX2_init_4 : decode cX2_init 4 = .ok (.aload_n 0, 1) := by decide +kernel
theorem dX2_init_5 : decode cX2_init 5 = .ok (.bipush 9, 2) := by decide +kernel
theorem dX2_init_7 : decode cX2_init 7 = .ok (.newarray .int, 2) := by decide +kernel
theorem dX2_init_9 : decode cX2_init 9 = .ok (.putfield 9, 3) := by decide +kernel
theorem dX2_init_12 : decode cX2_init 12 = .ok (.aload_n 0, 1) := by decide +kernel
theorem dX2_init_13 : decode cX2_init 13 = .ok (.bipush 8, 2) := by decide +kernel
theorem dX2_init_15 : decode cX2_init 15 = .ok (.newarray .int, 2) := by decide +kernel
theorem dX2_init_17 : decode cX2_init 17 = .ok (.putfield 15, 3) := by decide +kernel
theorem dX2_init_20 : decode cX2_init 20 = .ok (.aload_n 0, 1) := by decide +kernel
theorem dX2_init_21 : decode cX2_init 21 = .ok (.iconst (-1), 1) := by decide +kernel
theorem dX2_init_22 : decode cX2_init 22 = .ok (.putfield 18, 3) := by decide +kernel
theorem dX2_init_25 : decode cX2_init 25 = .ok (.aload_n 0, 1) := by decide +kernel
theorem dX2_init_26 : decode cX2_init 26 = .ok (.iconst 0, 1) := by decide +kernel
theorem dX2_init_27 : decode cX2_init 27 = .ok (.putfield 22, 3) := by decide +kernel
theorem dX2_init_30 : decode cX2_init 30 = .ok (.aload_n 0, 1) := by decide +kernel
theorem dX2_init_31 : decode cX2_init 31 = .ok (.iload_n 1, 1) := by decide +kernel
theorem dX2_init_32 : decode cX2_init 32 = .ok (.putfield 25, 3) := by decide +kernel
theorem dX2_init_35 : decode cX2_init 35 = .ok (.return_, 1) := by decide +kernel
theorem dX2_becomeLike_0 : decode cX2_becomeLike 0 = .ok (.iconst 0, 1) := by decide +kernel
theorem dX2_becomeLike_1 : decode cX2_becomeLike 1 = .ok (.istore_n 2, 1) := by decide +kernel
theorem dX2_becomeLike_2 : decode cX2_becomeLike 2 = .ok (.iload_n 2, 1) := by decide +kernel
theorem dX2_becomeLike_3 : decode cX2_becomeLike 3 = .ok (.bipush 9, 2) := by decide +kernel
theorem dX2_becomeLike_5 : decode cX2_becomeLike 5 = .ok (.if_icmp .ge 21, 3) := by decide +kernel
theorem dX2_becomeLike_8 : decode cX2_becomeLike 8 = .ok (.aload_n 0, 1) := by decide +kernel
theorem dX2_becomeLike_9 : decode cX2_becomeLike 9 = .ok (.getfield 9, 3) := by decide +kernel
theorem dX2_becomeLike_12 : decode cX2_becomeLike 12 = .ok (.iload_n 2, 1) := by decide +kernel
theorem dX2_becomeLike_13 : decode cX2_becomeLike 13 = .ok (.aload_n 1, 1) := by decide +kernel
theorem dX2_becomeLike_14 : decode cX2_becomeLike 14 = .ok (.getfield 9, 3) := by decide +kernel
theorem dX2_becomeLike_17 : decode cX2_becomeLike 17 = .ok (.iload_n 2, 1) := by decide +kernel
theorem dX2_becomeLike_18 : decode cX2_becomeLike 18 = .ok (.iaload, 1) := by decide +kernel
theorem dX2_becomeLike_19 : decode cX2_becomeLike 19 = .ok (.iastore, 1) := by decide +kernel
theorem dX2_becomeLike_20 : decode cX2_becomeLike 20 = .ok (.iinc 2 1, 3) := by decide +kernel
theorem dX2_becomeLike_23 : decode cX2_becomeLike 23 = .ok (.goto (-21), 3) := by decide +kernel
theorem dX2_becomeLike_26 : decode cX2_becomeLike 26 = .ok (.iconst 0, 1) := by decide +kernel
theorem dX2_becomeLike_27 : decode cX2_becomeLike 27 = .ok (.istore_n 2, 1) := by decide +kernel
theorem dX2_becomeLike_28 : decode cX2_becomeLike 28 = .ok (.iload_n 2, 1) := by decide +kernel
theorem dX2_becomeLike_29 : decode cX2_becomeLike 29 = .ok (.bipush 8, 2) := by decide +kernel
theorem dX2_becomeLike_31 : decode cX2_becomeLike 31 = .ok (.if_icmp .ge 21, 3) := by decide +kernel
theorem dX2_becomeLike_34 : decode cX2_becomeLike 34 = .ok (.aload_n 0, 1) := by decide +kernel
theorem dX2_becomeLike_35 : decode cX2_becomeLike 35 = .ok (.getfield 15, 3) := by decide +kernel
theorem dX2_becomeLike_38 : decode cX2_becomeLike 38 = .ok (.iload_n 2, 1) := by decide +kernel
theorem dX2_becomeLike_39 : decode cX2_becomeLike 39 = .ok (.aload_n 1, 1) := by decide +kernel
theorem dX2_becomeLike_40 : decode cX2_becomeLike 40 = .ok (.getfield 15, 3) := by decide +kernel
theorem dX2_becomeLike_43 : decode cX2_becomeLike 43 = .ok (.iload_n 2, 1) := by decide +kernel
theorem dX2_becomeLike_44 : decode cX2_becomeLike 44 = .ok (.iaload, 1) := by decide +kernel
theorem dX2_becomeLike_45 : decode cX2_becomeLike 45 = .ok (.iastore, 1) := by decide +kernel
theorem dX2_becomeLike_46 : decode cX2_becomeLike 46 = .ok (.iinc 2 1, 3) := by decide +kernel
theorem dX2_becomeLike_49 : decode cX2_becomeLike 49 = .ok (.goto (-21), 3) := by decide +kernel
theorem dX2_becomeLike_52 : decode cX2_becomeLike 52 = .ok (.return_, 1) := by decide +kernel
theorem dX2_priceOf_0 : decode cX2_priceOf 0 = .ok (.iload_n 1, 1) := by decide +kernel
theorem dX2_priceOf_1 : decode cX2_priceOf 1 = .ok (.aload_n 0, 1) := by decide +kernel
theorem dX2_priceOf_2 : decode cX2_priceOf 2 = .ok (.getfield 9, 3) := by decide +kernel
theorem dX2_priceOf_5 : decode cX2_priceOf 5 = .ok (.arraylength, 1) := by decide +kernel
theorem dX2_priceOf_6 : decode cX2_priceOf 6 = .ok (.invokestatic 28, 3) := by decide +kernel
theorem dX2_priceOf_9 : decode cX2_priceOf 9 = .ok (.ifCond .eq 12, 3) := by decide +kernel
theorem dX2_priceOf_12 : decode cX2_priceOf 12 = .ok (.aload_n 0, 1) := by decide +kernel
theorem dX2_priceOf_13 : decode cX2_priceOf 13 = .ok (.getfield 9, 3) := by decide +kernel
theorem dX2_priceOf_16 : decode cX2_priceOf 16 = .ok (.iload_n 1, 1) := by decide +kernel
theorem dX2_priceOf_17 : decode cX2_priceOf 17 = .ok (.iaload, 1) := by decide +kernel
theorem dX2_priceOf_18 : decode cX2_priceOf 18 = .ok (.goto 5, 3) := by decide +kernel
theorem dX2_priceOf_21 : decode cX2_priceOf 21 = .ok (.bipush (-2), 2) := by decide +kernel
theorem dX2_priceOf_23 : decode cX2_priceOf 23 = .ok (.ireturn, 1) := by decide +kernel
theorem dX2_meaningOf_0 : decode cX2_meaningOf 0 = .ok (.iload_n 1, 1) := by decide +kernel
theorem dX2_meaningOf_1 : decode cX2_meaningOf 1 = .ok (.aload_n 0, 1) := by decide +kernel
theorem dX2_meaningOf_2 : decode cX2_meaningOf 2 = .ok (.getfield 15, 3) := by decide +kernel
theorem dX2_meaningOf_5 : decode cX2_meaningOf 5 = .ok (.arraylength, 1) := by decide +kernel
theorem dX2_meaningOf_6 : decode cX2_meaningOf 6 = .ok (.invokestatic 28, 3) := by decide +kernel
theorem dX2_meaningOf_9 : decode cX2_meaningOf 9 = .ok (.ifCond .eq 12, 3) := by decide +kernel
theorem dX2_meaningOf_12 : decode cX2_meaningOf 12 = .ok (.aload_n 0, 1) := by decide +kernel
theorem dX2_meaningOf_13 : decode cX2_meaningOf 13 = .ok (.getfield 15, 3) := by decide +kernel
theorem dX2_meaningOf_16 : decode cX2_meaningOf 16 = .ok (.iload_n 1, 1) := by decide +kernel
theorem dX2_meaningOf_17 : decode cX2_meaningOf 17 = .ok (.iaload, 1) := by decide +kernel
theorem dX2_meaningOf_18 : decode cX2_meaningOf 18 = .ok (.goto 5, 3) := by decide +kernel
theorem dX2_meaningOf_21 : decode cX2_meaningOf 21 = .ok (.bipush (-2), 2) := by decide +kernel
theorem dX2_meaningOf_23 : decode cX2_meaningOf 23 = .ok (.ireturn, 1) := by decide +kernel
theorem dX2_traitOf_0 : decode cX2_traitOf 0 = .ok (.iload_n 1, 1) := by decide +kernel
theorem dX2_traitOf_1 : decode cX2_traitOf 1 = .ok (.bipush 9, 2) := by decide +kernel
theorem dX2_traitOf_3 : decode cX2_traitOf 3 = .ok (.if_icmp .ge 11, 3) := by decide +kernel
theorem dX2_traitOf_6 : decode cX2_traitOf 6 = .ok (.aload_n 0, 1) := by decide +kernel
theorem dX2_traitOf_7 : decode cX2_traitOf 7 = .ok (.iload_n 1, 1) := by decide +kernel
theorem dX2_traitOf_8 : decode cX2_traitOf 8 = .ok (.invokevirtual 32, 3) := by decide +kernel
theorem dX2_traitOf_11 : decode cX2_traitOf 11 = .ok (.goto 11, 3) := by decide +kernel
theorem dX2_traitOf_14 : decode cX2_traitOf 14 = .ok (.aload_n 0, 1) := by decide +kernel
theorem dX2_traitOf_15 : decode cX2_traitOf 15 = .ok (.iload_n 1, 1) := by decide +kernel
theorem dX2_traitOf_16 : decode cX2_traitOf 16 = .ok (.bipush 9, 2) := by decide +kernel
theorem dX2_traitOf_18 : decode cX2_traitOf 18 = .ok (.isub, 1) := by decide +kernel
theorem dX2_traitOf_19 : decode cX2_traitOf 19 = .ok (.invokevirtual 36, 3) := by decide +kernel
theorem dX2_traitOf_22 : decode cX2_traitOf 22 = .ok (.ireturn, 1) := by decide +kernel
theorem dX3_init_0 : decode cX3_init 0 = .ok (.aload_n 0, 1) := by decide +kernel
theorem dX3_init_1 : decode cX3_init 1 = .ok (.invokespecial 1, 3) := by decide +kernel
theorem dX3_init_4 : decode cX3_init 4 = .ok (.aload_n 0, 1) := by decide +kernel
theorem dX3_init_5 : decode cX3_init 5 = .ok (.iconst 0, 1) := by decide +kernel
theorem dX3_init_6 : decode cX3_init 6 = .ok (.putfield 7, 3) := by decide +kernel
theorem dX3_init_9 : decode cX3_init 9 = .ok (.aload_n 0, 1) := by decide +kernel
theorem dX3_init_10 : decode cX3_init 10 = .ok (.iload_n 1, 1) := by decide +kernel
theorem dX3_init_11 : decode cX3_init 11 = .ok (.putfield 13, 3) := by decide +kernel
theorem dX3_init_14 : decode cX3_init 14 = .ok (.aload_n 0, 1) := by decide +kernel
theorem dX3_init_15 : decode cX3_init 15 = .ok (.lload_n 2, 1) := by decide +kernel
theorem dX3_init_16 : decode cX3_init 16 = .ok (.putfield 16, 3) := by decide +kernel
theorem dX3_init_19 : decode cX3_init 19 = .ok (.aload_n 0, 1) := by decide +kernel
theorem dX3_init_20 : decode cX3_init 20 = .ok (.iload 4, 2) := by decide +kernel
theorem dX3_init_22 : decode cX3_init 22 = .ok (.putfield 20, 3) := by decide +kernel
theorem dX3_init_25 : decode cX3_init 25 = .ok (.aload_n 0, 1) := by decide +kernel
theorem dX3_init_26 : decode cX3_init 26 = .ok (.iload 5, 2) := by decide +kernel
theorem dX3_init_28 : decode cX3_init 28 = .ok (.putfield 23, 3) := by decide +kernel
theorem dX3_init_31 : decode cX3_init 31 = .ok (.return_, 1) := by decide +kernel
theorem dX4_init_0 : decode cX4_init 0 = .ok (.aload_n 0, 1) := by decide +kernel
theorem dX4_init_1 : decode cX4_init 1 = .ok (.invokespecial 3, 3) := by decide +kernel
theorem dX4_init_4 : decode cX4_init 4 = .ok (.aload_n 0, 1) := by decide +kernel
theorem dX4_init_5 : decode cX4_init 5 = .ok (.bipush 24, 2) := by decide +kernel
theorem dX4_init_7 : decode cX4_init 7 = .ok (.newarray .long, 2) := by decide +kernel
theorem dX4_init_9 : decode cX4_init 9 = .ok (.putfield 9, 3) := by decide +kernel
theorem dX4_init_12 : decode cX4_init 12 = .ok (.aload_n 0, 1) := by decide +kernel
theorem dX4_init_13 : decode cX4_init 13 = .ok (.new 15, 3) := by decide +kernel
theorem dX4_init_16 : decode cX4_init 16 = .ok (.dup, 1) := by decide +kernel
theorem dX4_init_17 : decode cX4_init 17 = .ok (.invokespecial 17, 3) := by decide +kernel
theorem dX4_init_20 : decode cX4_init 20 = .ok (.putfield 18, 3) := by decide +kernel
theorem dX4_init_23 : decode cX4_init 23 = .ok (.aload_n 0, 1) := by decide +kernel
theorem dX4_init_24 : decode cX4_init 24 = .ok (.iconst 0, 1) := by decide +kernel
theorem dX4_init_25 : decode cX4_init 25 = .ok (.putfield 22, 3) := by decide +kernel
theorem dX4_init_28 : decode cX4_init 28 = .ok (.return_, 1) := by decide +kernel
theorem dX4_execute_0 : decode cX4_execute 0 = .ok (.aload_n 0, 1) := by decide +kernel
theorem dX4_execute_1 : decode cX4_execute 1 = .ok (.getfield 18, 3) := by decide +kernel
theorem dX4_execute_4 : decode cX4_execute 4 = .ok (.aload_n 2, 1) := by decide +kernel
theorem dX4_execute_5 : decode cX4_execute 5 = .ok (.invokevirtual 26, 3) := by decide +kernel
theorem dX4_execute_8 : decode cX4_execute 8 = .ok (.aload_n 0, 1) := by decide +kernel
theorem dX4_execute_9 : decode cX4_execute 9 = .ok (.iconst 0, 1) := by decide +kernel
theorem dX4_execute_10 : decode cX4_execute 10 = .ok (.putfield 22, 3) := by decide +kernel
theorem dX4_execute_13 : decode cX4_execute 13 = .ok (.iconst 0, 1) := by decide +kernel
theorem dX4_execute_14 : decode cX4_execute 14 = .ok (.istore 7, 2) := by decide +kernel
theorem dX4_execute_16 : decode cX4_execute 16 = .ok (.iconst 0, 1) := by decide +kernel
theorem dX4_execute_17 : decode cX4_execute 17 = .ok (.istore 8, 2) := by decide +kernel
theorem dX4_execute_19 : decode cX4_execute 19 = .ok (.iload 8, 2) := by decide +kernel
theorem dX4_execute_21 : decode cX4_execute 21 = .ok (.aload_n 1, 1) := by decide +kernel
theorem dX4_execute_22 : decode cX4_execute 22 = .ok (.getfield 30, 3) := by decide +kernel
theorem dX4_execute_25 : decode cX4_execute 25 = .ok (.if_icmp .ge 87, 3) := by decide +kernel
theorem dX4_execute_28 : decode cX4_execute 28 = .ok (.iload 8, 2) := by decide +kernel
theorem dX4_execute_30 : decode cX4_execute 30 = .ok (.bipush 24, 2) := by decide +kernel
theorem dX4_execute_32 : decode cX4_execute 32 = .ok (.if_icmp .ge 80, 3) := by decide +kernel
theorem dX4_execute_35 : decode cX4_execute 35 = .ok (.aload_n 1, 1) := by decide +kernel
theorem dX4_execute_36 : decode cX4_execute 36 = .ok (.getfield 35, 3) := by decide +kernel
theorem dX4_execute_39 : decode cX4_execute 39 = .ok (.iload 8, 2) := by decide +kernel
theorem dX4_execute_41 : decode cX4_execute 41 = .ok (.iaload, 1) := by decide +kernel
theorem dX4_execute_42 : decode cX4_execute 42 = .ok (.istore 9, 2) := by decide +kernel
theorem dX4_execute_44 : decode cX4_execute 44 = .ok (.iload 7, 2) := by decide +kernel
theorem dX4_execute_46 : decode cX4_execute 46 = .ok (.aload_n 3, 1) := by decide +kernel
theorem dX4_execute_47 : decode cX4_execute 47 = .ok (.iload 9, 2) := by decide +kernel
theorem dX4_execute_49 : decode cX4_execute 49 = .ok (.invokevirtual 39, 3) := by decide +kernel
theorem dX4_execute_52 : decode cX4_execute 52 = .ok (.iadd, 1) := by decide +kernel
theorem dX4_execute_53 : decode cX4_execute 53 = .ok (.istore 7, 2) := by decide +kernel
theorem dX4_execute_55 : decode cX4_execute 55 = .ok (.iload 7, 2) := by decide +kernel
theorem dX4_execute_57 : decode cX4_execute 57 = .ok (.iload 6, 2) := by decide +kernel
theorem dX4_execute_59 : decode cX4_execute 59 = .ok (.if_icmp .le 8, 3) := by decide +kernel
theorem dX4_execute_62 : decode cX4_execute 62 = .ok (.iconst 3, 1) := by decide +kernel
theorem dX4_execute_63 : decode cX4_execute 63 = .ok (.invokestatic 45, 3) := by decide +kernel
theorem dX4_execute_66 : decode cX4_execute 66 = .ok (.ireturn, 1) := by decide +kernel
theorem dX4_execute_67 : decode cX4_execute 67 = .ok (.iload 9, 2) := by decide +kernel
theorem dX4_execute_69 : decode cX4_execute 69 = .ok (.iconst 5, 1) := by decide +kernel
theorem dX4_execute_70 : decode cX4_execute 70 = .ok (.if_icmp .ne 17, 3) := by decide +kernel
theorem dX4_execute_73 : decode cX4_execute 73 = .ok (.aload_n 0, 1) := by decide +kernel
theorem dX4_execute_74 : decode cX4_execute 74 = .ok (.invokevirtual 48, 3) := by decide +kernel
theorem dX4_execute_77 : decode cX4_execute 77 = .ok (.lconst 0, 1) := by decide +kernel
theorem dX4_execute_78 : decode cX4_execute 78 = .ok (.lcmp, 1) := by decide +kernel
theorem dX4_execute_79 : decode cX4_execute 79 = .ok (.ifCond .ne 8, 3) := by decide +kernel
theorem dX4_execute_82 : decode cX4_execute 82 = .ok (.iconst 4, 1) := by decide +kernel
theorem dX4_execute_83 : decode cX4_execute 83 = .ok (.invokestatic 45, 3) := by decide +kernel
theorem dX4_execute_86 : decode cX4_execute 86 = .ok (.ireturn, 1) := by decide +kernel
theorem dX4_execute_87 : decode cX4_execute 87 = .ok (.aload_n 0, 1) := by decide +kernel
theorem dX4_execute_88 : decode cX4_execute 88 = .ok (.iload 9, 2) := by decide +kernel
theorem dX4_execute_90 : decode cX4_execute 90 = .ok (.aload_n 1, 1) := by decide +kernel
theorem dX4_execute_91 : decode cX4_execute 91 = .ok (.getfield 52, 3) := by decide +kernel
theorem dX4_execute_94 : decode cX4_execute 94 = .ok (.iload 8, 2) := by decide +kernel
theorem dX4_execute_96 : decode cX4_execute 96 = .ok (.iaload, 1) := by decide +kernel
theorem dX4_execute_97 : decode cX4_execute 97 = .ok (.aload_n 1, 1) := by decide +kernel
theorem dX4_execute_98 : decode cX4_execute 98 = .ok (.getfield 55, 3) := by decide +kernel
theorem dX4_execute_101 : decode cX4_execute 101 = .ok (.lload 4, 2) := by decide +kernel
theorem dX4_execute_103 : decode cX4_execute 103 = .ok (.invokevirtual 59, 3) := by decide +kernel
theorem dX4_execute_106 : decode cX4_execute 106 = .ok (.iinc 8 1, 3) := by decide +kernel
theorem dX4_execute_109 : decode cX4_execute 109 = .ok (.goto (-90), 3) := by decide +kernel
theorem dX4_execute_112 : decode cX4_execute 112 = .ok (.aload_n 2, 1) := by decide +kernel
theorem dX4_execute_113 : decode cX4_execute 113 = .ok (.aload_n 0, 1) := by decide +kernel
theorem dX4_execute_114 : decode cX4_execute 114 = .ok (.getfield 18, 3) := by decide +kernel
theorem dX4_execute_117 : decode cX4_execute 117 = .ok (.invokevirtual 26, 3) := by decide +kernel
theorem dX4_execute_120 : decode cX4_execute 120 = .ok (.iload 7, 2) := by decide +kernel
theorem dX4_execute_122 : decode cX4_execute 122 = .ok (.ireturn, 1) := by decide +kernel
theorem dX4_perform_0 : decode cX4_perform 0 = .ok (.iload_n 1, 1) := by decide +kernel
theorem dX4_perform_1 : decode cX4_perform 1 = .ok (.tableswitch 126 0 8 #[51, 60, 126, 126, 126, 126, 69, 96, 111], 51) := by decide +kernel
theorem dX4_perform_52 : decode cX4_perform 52 = .ok (.aload_n 0, 1) := by decide +kernel
theorem dX4_perform_53 : decode cX4_perform 53 = .ok (.iload_n 2, 1) := by decide +kernel
theorem dX4_perform_54 : decode cX4_perform 54 = .ok (.i2l, 1) := by decide +kernel
theorem dX4_perform_55 : decode cX4_perform 55 = .ok (.invokevirtual 63, 3) := by decide +kernel
theorem dX4_perform_58 : decode cX4_perform 58 = .ok (.goto 93, 3) := by decide +kernel
theorem dX4_perform_61 : decode cX4_perform 61 = .ok (.aload_n 0, 1) := by decide +kernel
theorem dX4_perform_62 : decode cX4_perform 62 = .ok (.lload 4, 2) := by decide +kernel
theorem dX4_perform_64 : decode cX4_perform 64 = .ok (.invokevirtual 63, 3) := by decide +kernel
theorem dX4_perform_67 : decode cX4_perform 67 = .ok (.goto 84, 3) := by decide +kernel
theorem dX4_perform_70 : decode cX4_perform 70 = .ok (.aload_n 0, 1) := by decide +kernel
theorem dX4_perform_71 : decode cX4_perform 71 = .ok (.aload_n 3, 1) := by decide +kernel
theorem dX4_perform_72 : decode cX4_perform 72 = .ok (.ifnonnull 7, 3) := by decide +kernel
theorem dX4_perform_75 : decode cX4_perform 75 = .ok (.iconst (-1), 1) := by decide +kernel
theorem dX4_perform_76 : decode cX4_perform 76 = .ok (.goto 8, 3) := by decide +kernel
theorem dX4_perform_79 : decode cX4_perform 79 = .ok (.aload_n 3, 1) := by decide +kernel
theorem dX4_perform_80 : decode cX4_perform 80 = .ok (.iload_n 2, 1) := by decide +kernel
theorem dX4_perform_81 : decode cX4_perform 81 = .ok (.invokevirtual 67, 3) := by decide +kernel
theorem dX4_perform_84 : decode cX4_perform 84 = .ok (.aload_n 0, 1) := by decide +kernel
theorem dX4_perform_85 : decode cX4_perform 85 = .ok (.invokevirtual 70, 3) := by decide +kernel
theorem dX4_perform_88 : decode cX4_perform 88 = .ok (.invokestatic 73, 3) := by decide +kernel
theorem dX4_perform_91 : decode cX4_perform 91 = .ok (.invokevirtual 63, 3) := by decide +kernel
theorem dX4_perform_94 : decode cX4_perform 94 = .ok (.goto 57, 3) := by decide +kernel
theorem dX4_perform_97 : decode cX4_perform 97 = .ok (.aload_n 0, 1) := by decide +kernel
theorem dX4_perform_98 : decode cX4_perform 98 = .ok (.getfield 18, 3) := by decide +kernel
theorem dX4_perform_101 : decode cX4_perform 101 = .ok (.iload_n 2, 1) := by decide +kernel
theorem dX4_perform_102 : decode cX4_perform 102 = .ok (.aload_n 0, 1) := by decide +kernel
theorem dX4_perform_103 : decode cX4_perform 103 = .ok (.invokevirtual 70, 3) := by decide +kernel
theorem dX4_perform_106 : decode cX4_perform 106 = .ok (.invokevirtual 77, 3) := by decide +kernel
theorem dX4_perform_109 : decode cX4_perform 109 = .ok (.goto 42, 3) := by decide +kernel
theorem dX4_perform_112 : decode cX4_perform 112 = .ok (.aload_n 0, 1) := by decide +kernel
theorem dX4_perform_113 : decode cX4_perform 113 = .ok (.aload_n 0, 1) := by decide +kernel
theorem dX4_perform_114 : decode cX4_perform 114 = .ok (.getfield 18, 3) := by decide +kernel
theorem dX4_perform_117 : decode cX4_perform 117 = .ok (.iload_n 2, 1) := by decide +kernel
theorem dX4_perform_118 : decode cX4_perform 118 = .ok (.invokevirtual 81, 3) := by decide +kernel
theorem dX4_perform_121 : decode cX4_perform 121 = .ok (.invokevirtual 63, 3) := by decide +kernel
theorem dX4_perform_124 : decode cX4_perform 124 = .ok (.goto 27, 3) := by decide +kernel
theorem dX4_perform_127 : decode cX4_perform 127 = .ok (.aload_n 0, 1) := by decide +kernel
theorem dX4_perform_128 : decode cX4_perform 128 = .ok (.invokevirtual 70, 3) := by decide +kernel
theorem dX4_perform_131 : decode cX4_perform 131 = .ok (.lstore 6, 2) := by decide +kernel
theorem dX4_perform_133 : decode cX4_perform 133 = .ok (.aload_n 0, 1) := by decide +kernel
theorem dX4_perform_134 : decode cX4_perform 134 = .ok (.invokevirtual 70, 3) := by decide +kernel
theorem dX4_perform_137 : decode cX4_perform 137 = .ok (.lstore 8, 2) := by decide +kernel
theorem dX4_perform_139 : decode cX4_perform 139 = .ok (.aload_n 0, 1) := by decide +kernel
theorem dX4_perform_140 : decode cX4_perform 140 = .ok (.iload_n 1, 1) := by decide +kernel
theorem dX4_perform_141 : decode cX4_perform 141 = .ok (.lload 8, 2) := by decide +kernel
theorem dX4_perform_143 : decode cX4_perform 143 = .ok (.lload 6, 2) := by decide +kernel
theorem dX4_perform_145 : decode cX4_perform 145 = .ok (.invokestatic 85, 3) := by decide +kernel
theorem dX4_perform_148 : decode cX4_perform 148 = .ok (.invokevirtual 63, 3) := by decide +kernel
theorem dX4_perform_151 : decode cX4_perform 151 = .ok (.return_, 1) := by decide +kernel
theorem dX4_joined_0 : decode cX4_joined 0 = .ok (.iload_n 0, 1) := by decide +kernel
theorem dX4_joined_1 : decode cX4_joined 1 = .ok (.tableswitch 57 2 5 #[31, 35, 39, 43], 31) := by decide +kernel
theorem dX4_joined_32 : decode cX4_joined 32 = .ok (.lload_n 1, 1) := by decide +kernel
theorem dX4_joined_33 : decode cX4_joined 33 = .ok (.lload_n 3, 1) := by decide +kernel
theorem dX4_joined_34 : decode cX4_joined 34 = .ok (.ladd, 1) := by decide +kernel
theorem dX4_joined_35 : decode cX4_joined 35 = .ok (.lreturn, 1) := by decide +kernel
theorem dX4_joined_36 : decode cX4_joined 36 = .ok (.lload_n 1, 1) := by decide +kernel
theorem dX4_joined_37 : decode cX4_joined 37 = .ok (.lload_n 3, 1) := by decide +kernel
theorem dX4_joined_38 : decode cX4_joined 38 = .ok (.lsub, 1) := by decide +kernel
theorem dX4_joined_39 : decode cX4_joined 39 = .ok (.lreturn, 1) := by decide +kernel
theorem dX4_joined_40 : decode cX4_joined 40 = .ok (.lload_n 1, 1) := by decide +kernel
theorem dX4_joined_41 : decode cX4_joined 41 = .ok (.lload_n 3, 1) := by decide +kernel
theorem dX4_joined_42 : decode cX4_joined 42 = .ok (.lmul, 1) := by decide +kernel
theorem dX4_joined_43 : decode cX4_joined 43 = .ok (.lreturn, 1) := by decide +kernel
theorem dX4_joined_44 : decode cX4_joined 44 = .ok (.lload_n 3, 1) := by decide +kernel
theorem dX4_joined_45 : decode cX4_joined 45 = .ok (.lconst 0, 1) := by decide +kernel
theorem dX4_joined_46 : decode cX4_joined 46 = .ok (.lcmp, 1) := by decide +kernel
theorem dX4_joined_47 : decode cX4_joined 47 = .ok (.ifCond .ne 7, 3) := by decide +kernel
theorem dX4_joined_50 : decode cX4_joined 50 = .ok (.lconst 0, 1) := by decide +kernel
theorem dX4_joined_51 : decode cX4_joined 51 = .ok (.goto 6, 3) := by decide +kernel
theorem dX4_joined_54 : decode cX4_joined 54 = .ok (.lload_n 1, 1) := by decide +kernel
theorem dX4_joined_55 : decode cX4_joined 55 = .ok (.lload_n 3, 1) := by decide +kernel
theorem dX4_joined_56 : decode cX4_joined 56 = .ok (.ldiv, 1) := by decide +kernel
theorem dX4_joined_57 : decode cX4_joined 57 = .ok (.lreturn, 1) := by decide +kernel
theorem dX4_joined_58 : decode cX4_joined 58 = .ok (.lconst 0, 1) := by decide +kernel
theorem dX4_joined_59 : decode cX4_joined 59 = .ok (.lreturn, 1) := by decide +kernel
theorem dX4_meant_0 : decode cX4_meant 0 = .ok (.iload_n 0, 1) := by decide +kernel
theorem dX4_meant_1 : decode cX4_meant 1 = .ok (.tableswitch 71 0 5 #[39, 44, 47, 51, 57, 65], 39) := by decide +kernel
theorem dX4_meant_40 : decode cX4_meant 40 = .ok (.lload_n 1, 1) := by decide +kernel
theorem dX4_meant_41 : decode cX4_meant 41 = .ok (.invokestatic 89, 3) := by decide +kernel
theorem dX4_meant_44 : decode cX4_meant 44 = .ok (.lreturn, 1) := by decide +kernel
theorem dX4_meant_45 : decode cX4_meant 45 = .ok (.lload_n 1, 1) := by decide +kernel
theorem dX4_meant_46 : decode cX4_meant 46 = .ok (.lneg, 1) := by decide +kernel
theorem dX4_meant_47 : decode cX4_meant 47 = .ok (.lreturn, 1) := by decide +kernel
theorem dX4_meant_48 : decode cX4_meant 48 = .ok (.lload_n 1, 1) := by decide +kernel
theorem dX4_meant_49 : decode cX4_meant 49 = .ok (.lload_n 1, 1) := by decide +kernel
theorem dX4_meant_50 : decode cX4_meant 50 = .ok (.lmul, 1) := by decide +kernel
theorem dX4_meant_51 : decode cX4_meant 51 = .ok (.lreturn, 1) := by decide +kernel
theorem dX4_meant_52 : decode cX4_meant 52 = .ok (.lload_n 1, 1) := by decide +kernel
theorem dX4_meant_53 : decode cX4_meant 53 = .ok (.ldc2_w 95, 3) := by decide +kernel
theorem dX4_meant_56 : decode cX4_meant 56 = .ok (.ldiv, 1) := by decide +kernel
theorem dX4_meant_57 : decode cX4_meant 57 = .ok (.lreturn, 1) := by decide +kernel
theorem dX4_meant_58 : decode cX4_meant 58 = .ok (.lload_n 1, 1) := by decide +kernel
theorem dX4_meant_59 : decode cX4_meant 59 = .ok (.ldc2_w 95, 3) := by decide +kernel
theorem dX4_meant_62 : decode cX4_meant 62 = .ok (.invokestatic 97, 3) := by decide +kernel
theorem dX4_meant_65 : decode cX4_meant 65 = .ok (.lreturn, 1) := by decide +kernel
theorem dX4_meant_66 : decode cX4_meant 66 = .ok (.lload_n 1, 1) := by decide +kernel
theorem dX4_meant_67 : decode cX4_meant 67 = .ok (.invokestatic 101, 3) := by decide +kernel
theorem dX4_meant_70 : decode cX4_meant 70 = .ok (.i2l, 1) := by decide +kernel
theorem dX4_meant_71 : decode cX4_meant 71 = .ok (.lreturn, 1) := by decide +kernel
theorem dX4_meant_72 : decode cX4_meant 72 = .ok (.lload_n 1, 1) := by decide +kernel
theorem dX4_meant_73 : decode cX4_meant 73 = .ok (.lreturn, 1) := by decide +kernel
theorem dX4_lay_0 : decode cX4_lay 0 = .ok (.aload_n 0, 1) := by decide +kernel
theorem dX4_lay_1 : decode cX4_lay 1 = .ok (.getfield 22, 3) := by decide +kernel
theorem dX4_lay_4 : decode cX4_lay 4 = .ok (.aload_n 0, 1) := by decide +kernel
theorem dX4_lay_5 : decode cX4_lay 5 = .ok (.getfield 9, 3) := by decide +kernel
theorem dX4_lay_8 : decode cX4_lay 8 = .ok (.arraylength, 1) := by decide +kernel
theorem dX4_lay_9 : decode cX4_lay 9 = .ok (.invokestatic 107, 3) := by decide +kernel
theorem dX4_lay_12 : decode cX4_lay 12 = .ok (.ifCond .eq 23, 3) := by decide +kernel
theorem dX4_lay_15 : decode cX4_lay 15 = .ok (.aload_n 0, 1) := by decide +kernel
theorem dX4_lay_16 : decode cX4_lay 16 = .ok (.getfield 9, 3) := by decide +kernel
theorem dX4_lay_19 : decode cX4_lay 19 = .ok (.aload_n 0, 1) := by decide +kernel
theorem dX4_lay_20 : decode cX4_lay 20 = .ok (.getfield 22, 3) := by decide +kernel
theorem dX4_lay_23 : decode cX4_lay 23 = .ok (.lload_n 1, 1) := by decide +kernel
theorem dX4_lay_24 : decode cX4_lay 24 = .ok (.lastore, 1) := by decide +kernel
theorem dX4_lay_25 : decode cX4_lay 25 = .ok (.aload_n 0, 1) := by decide +kernel
theorem dX4_lay_26 : decode cX4_lay 26 = .ok (.dup, 1) := by decide +kernel
theorem dX4_lay_27 : decode cX4_lay 27 = .ok (.getfield 22, 3) := by decide +kernel
theorem dX4_lay_30 : decode cX4_lay 30 = .ok (.iconst 1, 1) := by decide +kernel
theorem dX4_lay_31 : decode cX4_lay 31 = .ok (.iadd, 1) := by decide +kernel
theorem dX4_lay_32 : decode cX4_lay 32 = .ok (.putfield 22, 3) := by decide +kernel
theorem dX4_lay_35 : decode cX4_lay 35 = .ok (.return_, 1) := by decide +kernel
theorem dX4_top_0 : decode cX4_top 0 = .ok (.aload_n 0, 1) := by decide +kernel
theorem dX4_top_1 : decode cX4_top 1 = .ok (.getfield 22, 3) := by decide +kernel
theorem dX4_top_4 : decode cX4_top 4 = .ok (.iconst 1, 1) := by decide +kernel
theorem dX4_top_5 : decode cX4_top 5 = .ok (.isub, 1) := by decide +kernel
theorem dX4_top_6 : decode cX4_top 6 = .ok (.aload_n 0, 1) := by decide +kernel
theorem dX4_top_7 : decode cX4_top 7 = .ok (.getfield 9, 3) := by decide +kernel
theorem dX4_top_10 : decode cX4_top 10 = .ok (.arraylength, 1) := by decide +kernel
theorem dX4_top_11 : decode cX4_top 11 = .ok (.invokestatic 107, 3) := by decide +kernel
theorem dX4_top_14 : decode cX4_top 14 = .ok (.ifCond .eq 17, 3) := by decide +kernel
theorem dX4_top_17 : decode cX4_top 17 = .ok (.aload_n 0, 1) := by decide +kernel
theorem dX4_top_18 : decode cX4_top 18 = .ok (.getfield 9, 3) := by decide +kernel
theorem dX4_top_21 : decode cX4_top 21 = .ok (.aload_n 0, 1) := by decide +kernel
theorem dX4_top_22 : decode cX4_top 22 = .ok (.getfield 22, 3) := by decide +kernel
theorem dX4_top_25 : decode cX4_top 25 = .ok (.iconst 1, 1) := by decide +kernel
theorem dX4_top_26 : decode cX4_top 26 = .ok (.isub, 1) := by decide +kernel
theorem dX4_top_27 : decode cX4_top 27 = .ok (.laload, 1) := by decide +kernel
theorem dX4_top_28 : decode cX4_top 28 = .ok (.goto 4, 3) := by decide +kernel
theorem dX4_top_31 : decode cX4_top 31 = .ok (.lconst 0, 1) := by decide +kernel
theorem dX4_top_32 : decode cX4_top 32 = .ok (.lreturn, 1) := by decide +kernel
theorem dX4_take_0 : decode cX4_take 0 = .ok (.aload_n 0, 1) := by decide +kernel
theorem dX4_take_1 : decode cX4_take 1 = .ok (.invokevirtual 48, 3) := by decide +kernel
theorem dX4_take_4 : decode cX4_take 4 = .ok (.lstore_n 1, 1) := by decide +kernel
theorem dX4_take_5 : decode cX4_take 5 = .ok (.aload_n 0, 1) := by decide +kernel
theorem dX4_take_6 : decode cX4_take 6 = .ok (.getfield 22, 3) := by decide +kernel
theorem dX4_take_9 : decode cX4_take 9 = .ok (.ifCond .le 13, 3) := by decide +kernel
theorem dX4_take_12 : decode cX4_take 12 = .ok (.aload_n 0, 1) := by decide +kernel
theorem dX4_take_13 : decode cX4_take 13 = .ok (.dup, 1) := by decide +kernel
theorem dX4_take_14 : decode cX4_take 14 = .ok (.getfield 22, 3) := by decide +kernel
theorem dX4_take_17 : decode cX4_take 17 = .ok (.iconst 1, 1) := by decide +kernel
theorem dX4_take_18 : decode cX4_take 18 = .ok (.isub, 1) := by decide +kernel
theorem dX4_take_19 : decode cX4_take 19 = .ok (.putfield 22, 3) := by decide +kernel
theorem dX4_take_22 : decode cX4_take 22 = .ok (.lload_n 1, 1) := by decide +kernel
theorem dX4_take_23 : decode cX4_take 23 = .ok (.lreturn, 1) := by decide +kernel
theorem dX5_init_0 : decode cX5_init 0 = .ok (.aload_n 0, 1) := by decide +kernel
theorem dX5_init_1 : decode cX5_init 1 = .ok (.invokespecial 3, 3) := by decide +kernel
theorem dX5_init_4 : decode cX5_init 4 = .ok (.aload_n 0, 1) := by decide +kernel
theorem dX5_init_5 : decode cX5_init 5 = .ok (.iconst 0, 1) := by decide +kernel
theorem dX5_init_6 : decode cX5_init 6 = .ok (.putfield 9, 3) := by decide +kernel
theorem dX5_init_9 : decode cX5_init 9 = .ok (.aload_n 0, 1) := by decide +kernel
theorem dX5_init_10 : decode cX5_init 10 = .ok (.iconst (-1), 1) := by decide +kernel
theorem dX5_init_11 : decode cX5_init 11 = .ok (.putfield 15, 3) := by decide +kernel
theorem dX5_init_14 : decode cX5_init 14 = .ok (.aload_n 0, 1) := by decide +kernel
theorem dX5_init_15 : decode cX5_init 15 = .ok (.iload_n 1, 1) := by decide +kernel
theorem dX5_init_16 : decode cX5_init 16 = .ok (.putfield 18, 3) := by decide +kernel
theorem dX5_init_19 : decode cX5_init 19 = .ok (.aload_n 0, 1) := by decide +kernel
theorem dX5_init_20 : decode cX5_init 20 = .ok (.iload_n 2, 1) := by decide +kernel
theorem dX5_init_21 : decode cX5_init 21 = .ok (.putfield 21, 3) := by decide +kernel
theorem dX5_init_24 : decode cX5_init 24 = .ok (.return_, 1) := by decide +kernel
theorem dX5_isHalted_0 : decode cX5_isHalted 0 = .ok (.aload_n 0, 1) := by decide +kernel
theorem dX5_isHalted_1 : decode cX5_isHalted 1 = .ok (.getfield 15, 3) := by decide +kernel
theorem dX5_isHalted_4 : decode cX5_isHalted 4 = .ok (.iconst (-1), 1) := by decide +kernel
theorem dX5_isHalted_5 : decode cX5_isHalted 5 = .ok (.if_icmp .eq 7, 3) := by decide +kernel
theorem dX5_isHalted_8 : decode cX5_isHalted 8 = .ok (.iconst 1, 1) := by decide +kernel
theorem dX5_isHalted_9 : decode cX5_isHalted 9 = .ok (.goto 4, 3) := by decide +kernel
theorem dX5_isHalted_12 : decode cX5_isHalted 12 = .ok (.iconst 0, 1) := by decide +kernel
theorem dX5_isHalted_13 : decode cX5_isHalted 13 = .ok (.ireturn, 1) := by decide +kernel
theorem dX5_hasEdition_0 : decode cX5_hasEdition 0 = .ok (.aload_n 0, 1) := by decide +kernel
theorem dX5_hasEdition_1 : decode cX5_hasEdition 1 = .ok (.getfield 21, 3) := by decide +kernel
theorem dX5_hasEdition_4 : decode cX5_hasEdition 4 = .ok (.iconst 1, 1) := by decide +kernel
theorem dX5_hasEdition_5 : decode cX5_hasEdition 5 = .ok (.iload_n 1, 1) := by decide +kernel
theorem dX5_hasEdition_6 : decode cX5_hasEdition 6 = .ok (.ishl, 1) := by decide +kernel
theorem dX5_hasEdition_7 : decode cX5_hasEdition 7 = .ok (.iand, 1) := by decide +kernel
theorem dX5_hasEdition_8 : decode cX5_hasEdition 8 = .ok (.ifCond .eq 7, 3) := by decide +kernel
theorem dX5_hasEdition_11 : decode cX5_hasEdition 11 = .ok (.iconst 1, 1) := by decide +kernel
theorem dX5_hasEdition_12 : decode cX5_hasEdition 12 = .ok (.goto 4, 3) := by decide +kernel
theorem dX5_hasEdition_15 : decode cX5_hasEdition 15 = .ok (.iconst 0, 1) := by decide +kernel
theorem dX5_hasEdition_16 : decode cX5_hasEdition 16 = .ok (.ireturn, 1) := by decide +kernel
theorem dX5_votedFor_0 : decode cX5_votedFor 0 = .ok (.aload_n 0, 1) := by decide +kernel
theorem dX5_votedFor_1 : decode cX5_votedFor 1 = .ok (.getfield 9, 3) := by decide +kernel
theorem dX5_votedFor_4 : decode cX5_votedFor 4 = .ok (.iconst 1, 1) := by decide +kernel
theorem dX5_votedFor_5 : decode cX5_votedFor 5 = .ok (.iload_n 1, 1) := by decide +kernel
theorem dX5_votedFor_6 : decode cX5_votedFor 6 = .ok (.ishl, 1) := by decide +kernel
theorem dX5_votedFor_7 : decode cX5_votedFor 7 = .ok (.iand, 1) := by decide +kernel
theorem dX5_votedFor_8 : decode cX5_votedFor 8 = .ok (.ifCond .eq 7, 3) := by decide +kernel
theorem dX5_votedFor_11 : decode cX5_votedFor 11 = .ok (.iconst 1, 1) := by decide +kernel
theorem dX5_votedFor_12 : decode cX5_votedFor 12 = .ok (.goto 4, 3) := by decide +kernel
theorem dX5_votedFor_15 : decode cX5_votedFor 15 = .ok (.iconst 0, 1) := by decide +kernel
theorem dX5_votedFor_16 : decode cX5_votedFor 16 = .ok (.ireturn, 1) := by decide +kernel
theorem dX5_setVote_0 : decode cX5_setVote 0 = .ok (.iconst 1, 1) := by decide +kernel
theorem dX5_setVote_1 : decode cX5_setVote 1 = .ok (.iload_n 1, 1) := by decide +kernel
theorem dX5_setVote_2 : decode cX5_setVote 2 = .ok (.ishl, 1) := by decide +kernel
theorem dX5_setVote_3 : decode cX5_setVote 3 = .ok (.istore_n 3, 1) := by decide +kernel
theorem dX5_setVote_4 : decode cX5_setVote 4 = .ok (.aload_n 0, 1) := by decide +kernel
theorem dX5_setVote_5 : decode cX5_setVote 5 = .ok (.iload_n 2, 1) := by decide +kernel
theorem dX5_setVote_6 : decode cX5_setVote 6 = .ok (.ifCond .eq 12, 3) := by decide +kernel
theorem dX5_setVote_9 : decode cX5_setVote 9 = .ok (.aload_n 0, 1) := by decide +kernel
theorem dX5_setVote_10 : decode cX5_setVote 10 = .ok (.getfield 9, 3) := by decide +kernel
theorem dX5_setVote_13 : decode cX5_setVote 13 = .ok (.iload_n 3, 1) := by decide +kernel
theorem dX5_setVote_14 : decode cX5_setVote 14 = .ok (.ior, 1) := by decide +kernel
theorem dX5_setVote_15 : decode cX5_setVote 15 = .ok (.goto 11, 3) := by decide +kernel
theorem dX5_setVote_18 : decode cX5_setVote 18 = .ok (.aload_n 0, 1) := by decide +kernel
theorem dX5_setVote_19 : decode cX5_setVote 19 = .ok (.getfield 9, 3) := by decide +kernel
theorem dX5_setVote_22 : decode cX5_setVote 22 = .ok (.iload_n 3, 1) := by decide +kernel
theorem dX5_setVote_23 : decode cX5_setVote 23 = .ok (.iconst (-1), 1) := by decide +kernel
theorem dX5_setVote_24 : decode cX5_setVote 24 = .ok (.ixor, 1) := by decide +kernel
theorem dX5_setVote_25 : decode cX5_setVote 25 = .ok (.iand, 1) := by decide +kernel
theorem dX5_setVote_26 : decode cX5_setVote 26 = .ok (.putfield 9, 3) := by decide +kernel
theorem dX5_setVote_29 : decode cX5_setVote 29 = .ok (.return_, 1) := by decide +kernel
theorem dJ13_bitCount_95d88_0 : decode cJ13_bitCount_95d88 0 = .ok (.lload_n 0, 1) := by decide +kernel
theorem dJ13_bitCount_95d88_1 : decode cJ13_bitCount_95d88 1 = .ok (.lload_n 0, 1) := by decide +kernel
theorem dJ13_bitCount_95d88_2 : decode cJ13_bitCount_95d88 2 = .ok (.iconst 1, 1) := by decide +kernel
theorem dJ13_bitCount_95d88_3 : decode cJ13_bitCount_95d88 3 = .ok (.lushr, 1) := by decide +kernel
theorem dJ13_bitCount_95d88_4 : decode cJ13_bitCount_95d88 4 = .ok (.ldc2_w 314, 3) := by decide +kernel
theorem dJ13_bitCount_95d88_7 : decode cJ13_bitCount_95d88 7 = .ok (.land, 1) := by decide +kernel
theorem dJ13_bitCount_95d88_8 : decode cJ13_bitCount_95d88 8 = .ok (.lsub, 1) := by decide +kernel
theorem dJ13_bitCount_95d88_9 : decode cJ13_bitCount_95d88 9 = .ok (.lstore_n 0, 1) := by decide +kernel
theorem dJ13_bitCount_95d88_10 : decode cJ13_bitCount_95d88 10 = .ok (.lload_n 0, 1) := by decide +kernel
theorem dJ13_bitCount_95d88_11 : decode cJ13_bitCount_95d88 11 = .ok (.ldc2_w 316, 3) := by decide +kernel
theorem dJ13_bitCount_95d88_14 : decode cJ13_bitCount_95d88 14 = .ok (.land, 1) := by decide +kernel
theorem dJ13_bitCount_95d88_15 : decode cJ13_bitCount_95d88 15 = .ok (.lload_n 0, 1) := by decide +kernel
theorem dJ13_bitCount_95d88_16 : decode cJ13_bitCount_95d88 16 = .ok (.iconst 2, 1) := by decide +kernel
theorem dJ13_bitCount_95d88_17 : decode cJ13_bitCount_95d88 17 = .ok (.lushr, 1) := by decide +kernel
theorem dJ13_bitCount_95d88_18 : decode cJ13_bitCount_95d88 18 = .ok (.ldc2_w 316, 3) := by decide +kernel
theorem dJ13_bitCount_95d88_21 : decode cJ13_bitCount_95d88 21 = .ok (.land, 1) := by decide +kernel
theorem dJ13_bitCount_95d88_22 : decode cJ13_bitCount_95d88 22 = .ok (.ladd, 1) := by decide +kernel
theorem dJ13_bitCount_95d88_23 : decode cJ13_bitCount_95d88 23 = .ok (.lstore_n 0, 1) := by decide +kernel
theorem dJ13_bitCount_95d88_24 : decode cJ13_bitCount_95d88 24 = .ok (.lload_n 0, 1) := by decide +kernel
theorem dJ13_bitCount_95d88_25 : decode cJ13_bitCount_95d88 25 = .ok (.lload_n 0, 1) := by decide +kernel
theorem dJ13_bitCount_95d88_26 : decode cJ13_bitCount_95d88 26 = .ok (.iconst 4, 1) := by decide +kernel
theorem dJ13_bitCount_95d88_27 : decode cJ13_bitCount_95d88 27 = .ok (.lushr, 1) := by decide +kernel
theorem dJ13_bitCount_95d88_28 : decode cJ13_bitCount_95d88 28 = .ok (.ladd, 1) := by decide +kernel
theorem dJ13_bitCount_95d88_29 : decode cJ13_bitCount_95d88 29 = .ok (.ldc2_w 318, 3) := by decide +kernel
theorem dJ13_bitCount_95d88_32 : decode cJ13_bitCount_95d88 32 = .ok (.land, 1) := by decide +kernel
theorem dJ13_bitCount_95d88_33 : decode cJ13_bitCount_95d88 33 = .ok (.lstore_n 0, 1) := by decide +kernel
theorem dJ13_bitCount_95d88_34 : decode cJ13_bitCount_95d88 34 = .ok (.lload_n 0, 1) := by decide +kernel
theorem dJ13_bitCount_95d88_35 : decode cJ13_bitCount_95d88 35 = .ok (.lload_n 0, 1) := by decide +kernel
theorem dJ13_bitCount_95d88_36 : decode cJ13_bitCount_95d88 36 = .ok (.bipush 8, 2) := by decide +kernel
theorem dJ13_bitCount_95d88_38 : decode cJ13_bitCount_95d88 38 = .ok (.lushr, 1) := by decide +kernel
theorem dJ13_bitCount_95d88_39 : decode cJ13_bitCount_95d88 39 = .ok (.ladd, 1) := by decide +kernel
theorem dJ13_bitCount_95d88_40 : decode cJ13_bitCount_95d88 40 = .ok (.lstore_n 0, 1) := by decide +kernel
theorem dJ13_bitCount_95d88_41 : decode cJ13_bitCount_95d88 41 = .ok (.lload_n 0, 1) := by decide +kernel
theorem dJ13_bitCount_95d88_42 : decode cJ13_bitCount_95d88 42 = .ok (.lload_n 0, 1) := by decide +kernel
theorem dJ13_bitCount_95d88_43 : decode cJ13_bitCount_95d88 43 = .ok (.bipush 16, 2) := by decide +kernel
theorem dJ13_bitCount_95d88_45 : decode cJ13_bitCount_95d88 45 = .ok (.lushr, 1) := by decide +kernel
theorem dJ13_bitCount_95d88_46 : decode cJ13_bitCount_95d88 46 = .ok (.ladd, 1) := by decide +kernel
theorem dJ13_bitCount_95d88_47 : decode cJ13_bitCount_95d88 47 = .ok (.lstore_n 0, 1) := by decide +kernel
theorem dJ13_bitCount_95d88_48 : decode cJ13_bitCount_95d88 48 = .ok (.lload_n 0, 1) := by decide +kernel
theorem dJ13_bitCount_95d88_49 : decode cJ13_bitCount_95d88 49 = .ok (.lload_n 0, 1) := by decide +kernel
theorem dJ13_bitCount_95d88_50 : decode cJ13_bitCount_95d88 50 = .ok (.bipush 32, 2) := by decide +kernel
theorem dJ13_bitCount_95d88_52 : decode cJ13_bitCount_95d88 52 = .ok (.lushr, 1) := by decide +kernel
theorem dJ13_bitCount_95d88_53 : decode cJ13_bitCount_95d88 53 = .ok (.ladd, 1) := by decide +kernel
theorem dJ13_bitCount_95d88_54 : decode cJ13_bitCount_95d88 54 = .ok (.lstore_n 0, 1) := by decide +kernel
theorem dJ13_bitCount_95d88_55 : decode cJ13_bitCount_95d88 55 = .ok (.lload_n 0, 1) := by decide +kernel
theorem dJ13_bitCount_95d88_56 : decode cJ13_bitCount_95d88 56 = .ok (.l2i, 1) := by decide +kernel
theorem dJ13_bitCount_95d88_57 : decode cJ13_bitCount_95d88 57 = .ok (.bipush 127, 2) := by decide +kernel
theorem dJ13_bitCount_95d88_59 : decode cJ13_bitCount_95d88 59 = .ok (.iand, 1) := by decide +kernel
theorem dJ13_bitCount_95d88_60 : decode cJ13_bitCount_95d88 60 = .ok (.ireturn, 1) := by decide +kernel
theorem dJ9_floorDiv_f86c9_0 : decode cJ9_floorDiv_f86c9 0 = .ok (.lload_n 0, 1) := by decide +kernel
theorem dJ9_floorDiv_f86c9_1 : decode cJ9_floorDiv_f86c9 1 = .ok (.lload_n 2, 1) := by decide +kernel
theorem dJ9_floorDiv_f86c9_2 : decode cJ9_floorDiv_f86c9 2 = .ok (.ldiv, 1) := by decide +kernel
theorem dJ9_floorDiv_f86c9_3 : decode cJ9_floorDiv_f86c9 3 = .ok (.lstore 4, 2) := by decide +kernel
theorem dJ9_floorDiv_f86c9_5 : decode cJ9_floorDiv_f86c9 5 = .ok (.lload_n 0, 1) := by decide +kernel
theorem dJ9_floorDiv_f86c9_6 : decode cJ9_floorDiv_f86c9 6 = .ok (.lload_n 2, 1) := by decide +kernel
theorem dJ9_floorDiv_f86c9_7 : decode cJ9_floorDiv_f86c9 7 = .ok (.lxor, 1) := by decide +kernel
theorem dJ9_floorDiv_f86c9_8 : decode cJ9_floorDiv_f86c9 8 = .ok (.lconst 0, 1) := by decide +kernel
theorem dJ9_floorDiv_f86c9_9 : decode cJ9_floorDiv_f86c9 9 = .ok (.lcmp, 1) := by decide +kernel
theorem dJ9_floorDiv_f86c9_10 : decode cJ9_floorDiv_f86c9 10 = .ok (.ifCond .ge 17, 3) := by decide +kernel
theorem dJ9_floorDiv_f86c9_13 : decode cJ9_floorDiv_f86c9 13 = .ok (.lload 4, 2) := by decide +kernel
theorem dJ9_floorDiv_f86c9_15 : decode cJ9_floorDiv_f86c9 15 = .ok (.lload_n 2, 1) := by decide +kernel
theorem dJ9_floorDiv_f86c9_16 : decode cJ9_floorDiv_f86c9 16 = .ok (.lmul, 1) := by decide +kernel
theorem dJ9_floorDiv_f86c9_17 : decode cJ9_floorDiv_f86c9 17 = .ok (.lload_n 0, 1) := by decide +kernel
theorem dJ9_floorDiv_f86c9_18 : decode cJ9_floorDiv_f86c9 18 = .ok (.lcmp, 1) := by decide +kernel
theorem dJ9_floorDiv_f86c9_19 : decode cJ9_floorDiv_f86c9 19 = .ok (.ifCond .eq 8, 3) := by decide +kernel
theorem dJ9_floorDiv_f86c9_22 : decode cJ9_floorDiv_f86c9 22 = .ok (.lload 4, 2) := by decide +kernel
theorem dJ9_floorDiv_f86c9_24 : decode cJ9_floorDiv_f86c9 24 = .ok (.lconst 1, 1) := by decide +kernel
theorem dJ9_floorDiv_f86c9_25 : decode cJ9_floorDiv_f86c9 25 = .ok (.lsub, 1) := by decide +kernel
theorem dJ9_floorDiv_f86c9_26 : decode cJ9_floorDiv_f86c9 26 = .ok (.lreturn, 1) := by decide +kernel
theorem dJ9_floorDiv_f86c9_27 : decode cJ9_floorDiv_f86c9 27 = .ok (.lload 4, 2) := by decide +kernel
theorem dJ9_floorDiv_f86c9_29 : decode cJ9_floorDiv_f86c9 29 = .ok (.lreturn, 1) := by decide +kernel
theorem dJ9_abs_067f4_0 : decode cJ9_abs_067f4 0 = .ok (.lload_n 0, 1) := by decide +kernel
theorem dJ9_abs_067f4_1 : decode cJ9_abs_067f4 1 = .ok (.lconst 0, 1) := by decide +kernel
theorem dJ9_abs_067f4_2 : decode cJ9_abs_067f4 2 = .ok (.lcmp, 1) := by decide +kernel
theorem dJ9_abs_067f4_3 : decode cJ9_abs_067f4 3 = .ok (.ifCond .ge 8, 3) := by decide +kernel
theorem dJ9_abs_067f4_6 : decode cJ9_abs_067f4 6 = .ok (.lload_n 0, 1) := by decide +kernel
theorem dJ9_abs_067f4_7 : decode cJ9_abs_067f4 7 = .ok (.lneg, 1) := by decide +kernel
theorem dJ9_abs_067f4_8 : decode cJ9_abs_067f4 8 = .ok (.goto 4, 3) := by decide +kernel
theorem dJ9_abs_067f4_11 : decode cJ9_abs_067f4 11 = .ok (.lload_n 0, 1) := by decide +kernel
theorem dJ9_abs_067f4_12 : decode cJ9_abs_067f4 12 = .ok (.lreturn, 1) := by decide +kernel
theorem dJ9_max_7cf53_0 : decode cJ9_max_7cf53 0 = .ok (.iload_n 0, 1) := by decide +kernel
theorem dJ9_max_7cf53_1 : decode cJ9_max_7cf53 1 = .ok (.iload_n 1, 1) := by decide +kernel
theorem dJ9_max_7cf53_2 : decode cJ9_max_7cf53 2 = .ok (.if_icmp .lt 7, 3) := by decide +kernel
theorem dJ9_max_7cf53_5 : decode cJ9_max_7cf53 5 = .ok (.iload_n 0, 1) := by decide +kernel
theorem dJ9_max_7cf53_6 : decode cJ9_max_7cf53 6 = .ok (.goto 4, 3) := by decide +kernel
theorem dJ9_max_7cf53_9 : decode cJ9_max_7cf53 9 = .ok (.iload_n 1, 1) := by decide +kernel
theorem dJ9_max_7cf53_10 : decode cJ9_max_7cf53 10 = .ok (.ireturn, 1) := by decide +kernel
end
section
theorem dX6_init_0 : decode cX6_init 0 = .ok (.aload_n 0, 1) := by decide +kernel
theorem dX6_init_1 : decode cX6_init 1 = .ok (.invokespecial 3, 3) := by decide +kernel
theorem dX6_init_4 : decode cX6_init 4 = .ok (.aload_n 0, 1) := by decide +kernel
theorem dX6_init_5 : decode cX6_init 5 = .ok (.bipush 10, 2) := by decide +kernel
theorem dX6_init_7 : decode cX6_init 7 = .ok (.anewarray 9, 3) := by decide +kernel
theorem dX6_init_10 : decode cX6_init 10 = .ok (.putfield 11, 3) := by decide +kernel
theorem dX6_init_13 : decode cX6_init 13 = .ok (.aload_n 0, 1) := by decide +kernel
theorem dX6_init_14 : decode cX6_init 14 = .ok (.bipush 12, 2) := by decide +kernel
theorem dX6_init_16 : decode cX6_init 16 = .ok (.anewarray 15, 3) := by decide +kernel
theorem dX6_init_19 : decode cX6_init 19 = .ok (.putfield 17, 3) := by decide +kernel
theorem dX6_init_22 : decode cX6_init 22 = .ok (.aload_n 0, 1) := by decide +kernel
theorem dX6_init_23 : decode cX6_init 23 = .ok (.bipush 12, 2) := by decide +kernel
theorem dX6_init_25 : decode cX6_init 25 = .ok (.anewarray 21, 3) := by decide +kernel
theorem dX6_init_28 : decode cX6_init 28 = .ok (.putfield 23, 3) := by decide +kernel
theorem dX6_init_31 : decode cX6_init 31 = .ok (.aload_n 0, 1) := by decide +kernel
theorem dX6_init_32 : decode cX6_init 32 = .ok (.bipush 64, 2) := by decide +kernel
theorem dX6_init_34 : decode cX6_init 34 = .ok (.anewarray 27, 3) := by decide +kernel
theorem dX6_init_37 : decode cX6_init 37 = .ok (.putfield 29, 3) := by decide +kernel
theorem dX6_init_40 : decode cX6_init 40 = .ok (.aload_n 0, 1) := by decide +kernel
theorem dX6_init_41 : decode cX6_init 41 = .ok (.new 9, 3) := by decide +kernel
theorem dX6_init_44 : decode cX6_init 44 = .ok (.dup, 1) := by decide +kernel
theorem dX6_init_45 : decode cX6_init 45 = .ok (.iconst 0, 1) := by decide +kernel
theorem dX6_init_46 : decode cX6_init 46 = .ok (.invokespecial 33, 3) := by decide +kernel
theorem dX6_init_49 : decode cX6_init 49 = .ok (.putfield 36, 3) := by decide +kernel
theorem dX6_init_52 : decode cX6_init 52 = .ok (.aload_n 0, 1) := by decide +kernel
theorem dX6_init_53 : decode cX6_init 53 = .ok (.new 40, 3) := by decide +kernel
theorem dX6_init_56 : decode cX6_init 56 = .ok (.dup, 1) := by decide +kernel
theorem dX6_init_57 : decode cX6_init 57 = .ok (.invokespecial 42, 3) := by decide +kernel
theorem dX6_init_60 : decode cX6_init 60 = .ok (.putfield 43, 3) := by decide +kernel
theorem dX6_init_63 : decode cX6_init 63 = .ok (.aload_n 0, 1) := by decide +kernel
theorem dX6_init_64 : decode cX6_init 64 = .ok (.iconst 1, 1) := by decide +kernel
theorem dX6_init_65 : decode cX6_init 65 = .ok (.putfield 47, 3) := by decide +kernel
theorem dX6_init_68 : decode cX6_init 68 = .ok (.aload_n 0, 1) := by decide +kernel
theorem dX6_init_69 : decode cX6_init 69 = .ok (.iconst 0, 1) := by decide +kernel
theorem dX6_init_70 : decode cX6_init 70 = .ok (.putfield 51, 3) := by decide +kernel
theorem dX6_init_73 : decode cX6_init 73 = .ok (.aload_n 0, 1) := by decide +kernel
theorem dX6_init_74 : decode cX6_init 74 = .ok (.iconst 0, 1) := by decide +kernel
theorem dX6_init_75 : decode cX6_init 75 = .ok (.putfield 54, 3) := by decide +kernel
theorem dX6_init_78 : decode cX6_init 78 = .ok (.aload_n 0, 1) := by decide +kernel
theorem dX6_init_79 : decode cX6_init 79 = .ok (.iconst 0, 1) := by decide +kernel
theorem dX6_init_80 : decode cX6_init 80 = .ok (.putfield 57, 3) := by decide +kernel
theorem dX6_init_83 : decode cX6_init 83 = .ok (.aload_n 0, 1) := by decide +kernel
theorem dX6_init_84 : decode cX6_init 84 = .ok (.iconst 0, 1) := by decide +kernel
theorem dX6_init_85 : decode cX6_init 85 = .ok (.putfield 60, 3) := by decide +kernel
theorem dX6_init_88 : decode cX6_init 88 = .ok (.aload_n 0, 1) := by decide +kernel
theorem dX6_init_89 : decode cX6_init 89 = .ok (.iconst 0, 1) := by decide +kernel
theorem dX6_init_90 : decode cX6_init 90 = .ok (.putfield 63, 3) := by decide +kernel
theorem dX6_init_93 : decode cX6_init 93 = .ok (.iconst 0, 1) := by decide +kernel
theorem dX6_init_94 : decode cX6_init 94 = .ok (.istore_n 1, 1) := by decide +kernel
theorem dX6_init_95 : decode cX6_init 95 = .ok (.iload_n 1, 1) := by decide +kernel
theorem dX6_init_96 : decode cX6_init 96 = .ok (.bipush 9, 2) := by decide +kernel
theorem dX6_init_98 : decode cX6_init 98 = .ok (.if_icmp .ge 19, 3) := by decide +kernel
theorem dX6_init_101 : decode cX6_init 101 = .ok (.aload_n 0, 1) := by decide +kernel
theorem dX6_init_102 : decode cX6_init 102 = .ok (.getfield 36, 3) := by decide +kernel
theorem dX6_init_105 : decode cX6_init 105 = .ok (.getfield 66, 3) := by decide +kernel
theorem dX6_init_108 : decode cX6_init 108 = .ok (.iload_n 1, 1) := by decide +kernel
theorem dX6_init_109 : decode cX6_init 109 = .ok (.iconst 1, 1) := by decide +kernel
theorem dX6_init_110 : decode cX6_init 110 = .ok (.iastore, 1) := by decide +kernel
theorem dX6_init_111 : decode cX6_init 111 = .ok (.iinc 1 1, 3) := by decide +kernel
theorem dX6_init_114 : decode cX6_init 114 = .ok (.goto (-19), 3) := by decide +kernel
theorem dX6_init_117 : decode cX6_init 117 = .ok (.iconst 0, 1) := by decide +kernel
theorem dX6_init_118 : decode cX6_init 118 = .ok (.istore_n 1, 1) := by decide +kernel
theorem dX6_init_119 : decode cX6_init 119 = .ok (.iload_n 1, 1) := by decide +kernel
theorem dX6_init_120 : decode cX6_init 120 = .ok (.bipush 8, 2) := by decide +kernel
theorem dX6_init_122 : decode cX6_init 122 = .ok (.if_icmp .ge 19, 3) := by decide +kernel
theorem dX6_init_125 : decode cX6_init 125 = .ok (.aload_n 0, 1) := by decide +kernel
theorem dX6_init_126 : decode cX6_init 126 = .ok (.getfield 36, 3) := by decide +kernel
theorem dX6_init_129 : decode cX6_init 129 = .ok (.getfield 70, 3) := by decide +kernel
theorem dX6_init_132 : decode cX6_init 132 = .ok (.iload_n 1, 1) := by decide +kernel
theorem dX6_init_133 : decode cX6_init 133 = .ok (.iconst (-1), 1) := by decide +kernel
theorem dX6_init_134 : decode cX6_init 134 = .ok (.iastore, 1) := by decide +kernel
theorem dX6_init_135 : decode cX6_init 135 = .ok (.iinc 1 1, 3) := by decide +kernel
theorem dX6_init_138 : decode cX6_init 138 = .ok (.goto (-19), 3) := by decide +kernel
theorem dX6_init_141 : decode cX6_init 141 = .ok (.aload_n 0, 1) := by decide +kernel
theorem dX6_init_142 : decode cX6_init 142 = .ok (.getfield 36, 3) := by decide +kernel
theorem dX6_init_145 : decode cX6_init 145 = .ok (.iconst 0, 1) := by decide +kernel
theorem dX6_init_146 : decode cX6_init 146 = .ok (.putfield 73, 3) := by decide +kernel
theorem dX6_init_149 : decode cX6_init 149 = .ok (.aload_n 0, 1) := by decide +kernel
theorem dX6_init_150 : decode cX6_init 150 = .ok (.getfield 36, 3) := by decide +kernel
theorem dX6_init_153 : decode cX6_init 153 = .ok (.iconst 2, 1) := by decide +kernel
theorem dX6_init_154 : decode cX6_init 154 = .ok (.putfield 74, 3) := by decide +kernel
theorem dX6_init_157 : decode cX6_init 157 = .ok (.aload_n 0, 1) := by decide +kernel
theorem dX6_init_158 : decode cX6_init 158 = .ok (.getfield 11, 3) := by decide +kernel
theorem dX6_init_161 : decode cX6_init 161 = .ok (.iconst 0, 1) := by decide +kernel
theorem dX6_init_162 : decode cX6_init 162 = .ok (.aload_n 0, 1) := by decide +kernel
theorem dX6_init_163 : decode cX6_init 163 = .ok (.getfield 36, 3) := by decide +kernel
theorem dX6_init_166 : decode cX6_init 166 = .ok (.aastore, 1) := by decide +kernel
theorem dX6_init_167 : decode cX6_init 167 = .ok (.return_, 1) := by decide +kernel
theorem dX6_edition_0 : decode cX6_edition 0 = .ok (.aload_n 0, 1) := by decide +kernel
theorem dX6_edition_1 : decode cX6_edition 1 = .ok (.iload_n 1, 1) := by decide +kernel
theorem dX6_edition_2 : decode cX6_edition 2 = .ok (.invokevirtual 77, 3) := by decide +kernel
theorem dX6_edition_5 : decode cX6_edition 5 = .ok (.astore_n 2, 1) := by decide +kernel
theorem dX6_edition_6 : decode cX6_edition 6 = .ok (.aload_n 2, 1) := by decide +kernel
theorem dX6_edition_7 : decode cX6_edition 7 = .ok (.ifnonnull 6, 3) := by decide +kernel
theorem dX6_edition_10 : decode cX6_edition 10 = .ok (.bipush (-2), 2) := by decide +kernel
theorem dX6_edition_12 : decode cX6_edition 12 = .ok (.ireturn, 1) := by decide +kernel
theorem dX6_edition_13 : decode cX6_edition 13 = .ok (.aload_n 0, 1) := by decide +kernel
theorem dX6_edition_14 : decode cX6_edition 14 = .ok (.getfield 47, 3) := by decide +kernel
theorem dX6_edition_17 : decode cX6_edition 17 = .ok (.bipush 10, 2) := by decide +kernel
theorem dX6_edition_19 : decode cX6_edition 19 = .ok (.if_icmp .lt 6, 3) := by decide +kernel
theorem dX6_edition_22 : decode cX6_edition 22 = .ok (.bipush (-4), 2) := by decide +kernel
theorem dX6_edition_24 : decode cX6_edition 24 = .ok (.ireturn, 1) := by decide +kernel
theorem dX6_edition_25 : decode cX6_edition 25 = .ok (.new 9, 3) := by decide +kernel
theorem dX6_edition_28 : decode cX6_edition 28 = .ok (.dup, 1) := by decide +kernel
theorem dX6_edition_29 : decode cX6_edition 29 = .ok (.aload_n 0, 1) := by decide +kernel
theorem dX6_edition_30 : decode cX6_edition 30 = .ok (.getfield 47, 3) := by decide +kernel
theorem dX6_edition_33 : decode cX6_edition 33 = .ok (.invokespecial 33, 3) := by decide +kernel
theorem dX6_edition_36 : decode cX6_edition 36 = .ok (.astore_n 3, 1) := by decide +kernel
theorem dX6_edition_37 : decode cX6_edition 37 = .ok (.aload_n 3, 1) := by decide +kernel
theorem dX6_edition_38 : decode cX6_edition 38 = .ok (.aload_n 2, 1) := by decide +kernel
theorem dX6_edition_39 : decode cX6_edition 39 = .ok (.invokevirtual 81, 3) := by decide +kernel
theorem dX6_edition_42 : decode cX6_edition 42 = .ok (.aload_n 0, 1) := by decide +kernel
theorem dX6_edition_43 : decode cX6_edition 43 = .ok (.getfield 11, 3) := by decide +kernel
theorem dX6_edition_46 : decode cX6_edition 46 = .ok (.aload_n 0, 1) := by decide +kernel
theorem dX6_edition_47 : decode cX6_edition 47 = .ok (.getfield 47, 3) := by decide +kernel
theorem dX6_edition_50 : decode cX6_edition 50 = .ok (.aload_n 3, 1) := by decide +kernel
theorem dX6_edition_51 : decode cX6_edition 51 = .ok (.aastore, 1) := by decide +kernel
theorem dX6_edition_52 : decode cX6_edition 52 = .ok (.aload_n 0, 1) := by decide +kernel
theorem dX6_edition_53 : decode cX6_edition 53 = .ok (.dup, 1) := by decide +kernel
theorem dX6_edition_54 : decode cX6_edition 54 = .ok (.getfield 47, 3) := by decide +kernel
theorem dX6_edition_57 : decode cX6_edition 57 = .ok (.iconst 1, 1) := by decide +kernel
theorem dX6_edition_58 : decode cX6_edition 58 = .ok (.iadd, 1) := by decide +kernel
theorem dX6_edition_59 : decode cX6_edition 59 = .ok (.putfield 47, 3) := by decide +kernel
theorem dX6_edition_62 : decode cX6_edition 62 = .ok (.aload_n 3, 1) := by decide +kernel
theorem dX6_edition_63 : decode cX6_edition 63 = .ok (.getfield 85, 3) := by decide +kernel
theorem dX6_edition_66 : decode cX6_edition 66 = .ok (.ireturn, 1) := by decide +kernel
theorem dX6_price_0 : decode cX6_price 0 = .ok (.aload_n 0, 1) := by decide +kernel
theorem dX6_price_1 : decode cX6_price 1 = .ok (.iload_n 1, 1) := by decide +kernel
theorem dX6_price_2 : decode cX6_price 2 = .ok (.invokevirtual 77, 3) := by decide +kernel
theorem dX6_price_5 : decode cX6_price 5 = .ok (.astore 4, 2) := by decide +kernel
theorem dX6_price_7 : decode cX6_price 7 = .ok (.aload 4, 2) := by decide +kernel
theorem dX6_price_9 : decode cX6_price 9 = .ok (.ifnull 22, 3) := by decide +kernel
theorem dX6_price_12 : decode cX6_price 12 = .ok (.iload_n 2, 1) := by decide +kernel
theorem dX6_price_13 : decode cX6_price 13 = .ok (.bipush 9, 2) := by decide +kernel
theorem dX6_price_15 : decode cX6_price 15 = .ok (.invokestatic 88, 3) := by decide +kernel
theorem dX6_price_18 : decode cX6_price 18 = .ok (.ifCond .eq 13, 3) := by decide +kernel
theorem dX6_price_21 : decode cX6_price 21 = .ok (.iload_n 3, 1) := by decide +kernel
theorem dX6_price_22 : decode cX6_price 22 = .ok (.ifCond .lt 9, 3) := by decide +kernel
theorem dX6_price_25 : decode cX6_price 25 = .ok (.iload_n 3, 1) := by decide +kernel
theorem dX6_price_26 : decode cX6_price 26 = .ok (.bipush 100, 2) := by decide +kernel
theorem dX6_price_28 : decode cX6_price 28 = .ok (.if_icmp .le 6, 3) := by decide +kernel
theorem dX6_price_31 : decode cX6_price 31 = .ok (.bipush (-2), 2) := by decide +kernel
theorem dX6_price_33 : decode cX6_price 33 = .ok (.ireturn, 1) := by decide +kernel
theorem dX6_price_34 : decode cX6_price 34 = .ok (.aload 4, 2) := by decide +kernel
theorem dX6_price_36 : decode cX6_price 36 = .ok (.getfield 74, 3) := by decide +kernel
theorem dX6_price_39 : decode cX6_price 39 = .ok (.ifCond .eq 6, 3) := by decide +kernel
theorem dX6_price_42 : decode cX6_price 42 = .ok (.bipush (-3), 2) := by decide +kernel
theorem dX6_price_44 : decode cX6_price 44 = .ok (.ireturn, 1) := by decide +kernel
theorem dX6_price_45 : decode cX6_price 45 = .ok (.aload 4, 2) := by decide +kernel
theorem dX6_price_47 : decode cX6_price 47 = .ok (.getfield 66, 3) := by decide +kernel
theorem dX6_price_50 : decode cX6_price 50 = .ok (.iload_n 2, 1) := by decide +kernel
theorem dX6_price_51 : decode cX6_price 51 = .ok (.iaload, 1) := by decide +kernel
theorem dX6_price_52 : decode cX6_price 52 = .ok (.istore 5, 2) := by decide +kernel
theorem dX6_price_54 : decode cX6_price 54 = .ok (.aload 4, 2) := by decide +kernel
theorem dX6_price_56 : decode cX6_price 56 = .ok (.getfield 66, 3) := by decide +kernel
theorem dX6_price_59 : decode cX6_price 59 = .ok (.iload_n 2, 1) := by decide +kernel
theorem dX6_price_60 : decode cX6_price 60 = .ok (.iload_n 3, 1) := by decide +kernel
theorem dX6_price_61 : decode cX6_price 61 = .ok (.iastore, 1) := by decide +kernel
theorem dX6_price_62 : decode cX6_price 62 = .ok (.iload 5, 2) := by decide +kernel
theorem dX6_price_64 : decode cX6_price 64 = .ok (.ireturn, 1) := by decide +kernel
theorem dX6_member_0 : decode cX6_member 0 = .ok (.aload_n 0, 1) := by decide +kernel
theorem dX6_member_1 : decode cX6_member 1 = .ok (.iload_n 1, 1) := by decide +kernel
theorem dX6_member_2 : decode cX6_member 2 = .ok (.invokevirtual 77, 3) := by decide +kernel
theorem dX6_member_5 : decode cX6_member 5 = .ok (.astore 4, 2) := by decide +kernel
theorem dX6_member_7 : decode cX6_member 7 = .ok (.aload 4, 2) := by decide +kernel
theorem dX6_member_9 : decode cX6_member 9 = .ok (.ifnull 12, 3) := by decide +kernel
theorem dX6_member_12 : decode cX6_member 12 = .ok (.iload_n 2, 1) := by decide +kernel
theorem dX6_member_13 : decode cX6_member 13 = .ok (.bipush 8, 2) := by decide +kernel
theorem dX6_member_15 : decode cX6_member 15 = .ok (.invokestatic 88, 3) := by decide +kernel
theorem dX6_member_18 : decode cX6_member 18 = .ok (.ifCond .ne 6, 3) := by decide +kernel
theorem dX6_member_21 : decode cX6_member 21 = .ok (.bipush (-2), 2) := by decide +kernel
theorem dX6_member_23 : decode cX6_member 23 = .ok (.ireturn, 1) := by decide +kernel
theorem dX6_member_24 : decode cX6_member 24 = .ok (.iload_n 3, 1) := by decide +kernel
theorem dX6_member_25 : decode cX6_member 25 = .ok (.iconst (-1), 1) := by decide +kernel
theorem dX6_member_26 : decode cX6_member 26 = .ok (.if_icmp .eq 15, 3) := by decide +kernel
theorem dX6_member_29 : decode cX6_member 29 = .ok (.iload_n 3, 1) := by decide +kernel
theorem dX6_member_30 : decode cX6_member 30 = .ok (.bipush 6, 2) := by decide +kernel
theorem dX6_member_32 : decode cX6_member 32 = .ok (.invokestatic 88, 3) := by decide +kernel
theorem dX6_member_35 : decode cX6_member 35 = .ok (.ifCond .ne 6, 3) := by decide +kernel
theorem dX6_member_38 : decode cX6_member 38 = .ok (.bipush (-2), 2) := by decide +kernel
theorem dX6_member_40 : decode cX6_member 40 = .ok (.ireturn, 1) := by decide +kernel
theorem dX6_member_41 : decode cX6_member 41 = .ok (.aload 4, 2) := by decide +kernel
theorem dX6_member_43 : decode cX6_member 43 = .ok (.getfield 74, 3) := by decide +kernel
theorem dX6_member_46 : decode cX6_member 46 = .ok (.ifCond .eq 6, 3) := by decide +kernel
theorem dX6_member_49 : decode cX6_member 49 = .ok (.bipush (-3), 2) := by decide +kernel
theorem dX6_member_51 : decode cX6_member 51 = .ok (.ireturn, 1) := by decide +kernel
theorem dX6_member_52 : decode cX6_member 52 = .ok (.aload 4, 2) := by decide +kernel
theorem dX6_member_54 : decode cX6_member 54 = .ok (.getfield 70, 3) := by decide +kernel
theorem dX6_member_57 : decode cX6_member 57 = .ok (.iload_n 2, 1) := by decide +kernel
theorem dX6_member_58 : decode cX6_member 58 = .ok (.iaload, 1) := by decide +kernel
theorem dX6_member_59 : decode cX6_member 59 = .ok (.istore 5, 2) := by decide +kernel
theorem dX6_member_61 : decode cX6_member 61 = .ok (.aload 4, 2) := by decide +kernel
theorem dX6_member_63 : decode cX6_member 63 = .ok (.getfield 70, 3) := by decide +kernel
theorem dX6_member_66 : decode cX6_member 66 = .ok (.iload_n 2, 1) := by decide +kernel
theorem dX6_member_67 : decode cX6_member 67 = .ok (.iload_n 3, 1) := by decide +kernel
theorem dX6_member_68 : decode cX6_member 68 = .ok (.iastore, 1) := by decide +kernel
theorem dX6_member_69 : decode cX6_member 69 = .ok (.iload 5, 2) := by decide +kernel
theorem dX6_member_71 : decode cX6_member 71 = .ok (.ireturn, 1) := by decide +kernel
theorem dX6_about_0 : decode cX6_about 0 = .ok (.aload_n 0, 1) := by decide +kernel
theorem dX6_about_1 : decode cX6_about 1 = .ok (.iload_n 1, 1) := by decide +kernel
theorem dX6_about_2 : decode cX6_about 2 = .ok (.invokevirtual 77, 3) := by decide +kernel
theorem dX6_about_5 : decode cX6_about 5 = .ok (.astore 4, 2) := by decide +kernel
theorem dX6_about_7 : decode cX6_about 7 = .ok (.aload 4, 2) := by decide +kernel
theorem dX6_about_9 : decode cX6_about 9 = .ok (.ifnonnull 6, 3) := by decide +kernel
theorem dX6_about_12 : decode cX6_about 12 = .ok (.bipush (-2), 2) := by decide +kernel
theorem dX6_about_14 : decode cX6_about 14 = .ok (.ireturn, 1) := by decide +kernel
theorem dX6_about_15 : decode cX6_about 15 = .ok (.iload_n 2, 1) := by decide +kernel
theorem dX6_about_16 : decode cX6_about 16 = .ok (.tableswitch 58 0 3 #[32, 39, 46, 52], 32) := by decide +kernel
theorem dX6_about_48 : decode cX6_about 48 = .ok (.aload 4, 2) := by decide +kernel
theorem dX6_about_50 : decode cX6_about 50 = .ok (.iload_n 3, 1) := by decide +kernel
theorem dX6_about_51 : decode cX6_about 51 = .ok (.invokevirtual 92, 3) := by decide +kernel
theorem dX6_about_54 : decode cX6_about 54 = .ok (.ireturn, 1) := by decide +kernel
theorem dX6_about_55 : decode cX6_about 55 = .ok (.aload 4, 2) := by decide +kernel
theorem dX6_about_57 : decode cX6_about 57 = .ok (.iload_n 3, 1) := by decide +kernel
theorem dX6_about_58 : decode cX6_about 58 = .ok (.invokevirtual 96, 3) := by decide +kernel
theorem dX6_about_61 : decode cX6_about 61 = .ok (.ireturn, 1) := by decide +kernel
theorem dX6_about_62 : decode cX6_about 62 = .ok (.aload 4, 2) := by decide +kernel
theorem dX6_about_64 : decode cX6_about 64 = .ok (.getfield 73, 3) := by decide +kernel
theorem dX6_about_67 : decode cX6_about 67 = .ok (.ireturn, 1) := by decide +kernel
theorem dX6_about_68 : decode cX6_about 68 = .ok (.aload 4, 2) := by decide +kernel
theorem dX6_about_70 : decode cX6_about 70 = .ok (.getfield 74, 3) := by decide +kernel
theorem dX6_about_73 : decode cX6_about 73 = .ok (.ireturn, 1) := by decide +kernel
theorem dX6_about_74 : decode cX6_about 74 = .ok (.bipush (-2), 2) := by decide +kernel
theorem dX6_about_76 : decode cX6_about 76 = .ok (.ireturn, 1) := by decide +kernel
theorem dX6_differs_0 : decode cX6_differs 0 = .ok (.aload_n 0, 1) := by decide +kernel
theorem dX6_differs_1 : decode cX6_differs 1 = .ok (.iload_n 1, 1) := by decide +kernel
theorem dX6_differs_2 : decode cX6_differs 2 = .ok (.invokevirtual 77, 3) := by decide +kernel
theorem dX6_differs_5 : decode cX6_differs 5 = .ok (.astore 4, 2) := by decide +kernel
theorem dX6_differs_7 : decode cX6_differs 7 = .ok (.aload_n 0, 1) := by decide +kernel
theorem dX6_differs_8 : decode cX6_differs 8 = .ok (.iload_n 2, 1) := by decide +kernel
theorem dX6_differs_9 : decode cX6_differs 9 = .ok (.invokevirtual 77, 3) := by decide +kernel
theorem dX6_differs_12 : decode cX6_differs 12 = .ok (.astore 5, 2) := by decide +kernel
theorem dX6_differs_14 : decode cX6_differs 14 = .ok (.aload 4, 2) := by decide +kernel
theorem dX6_differs_16 : decode cX6_differs 16 = .ok (.ifnull 8, 3) := by decide +kernel
theorem dX6_differs_19 : decode cX6_differs 19 = .ok (.aload 5, 2) := by decide +kernel
theorem dX6_differs_21 : decode cX6_differs 21 = .ok (.ifnonnull 6, 3) := by decide +kernel
theorem dX6_differs_24 : decode cX6_differs 24 = .ok (.bipush (-2), 2) := by decide +kernel
theorem dX6_differs_26 : decode cX6_differs 26 = .ok (.ireturn, 1) := by decide +kernel
theorem dX6_differs_27 : decode cX6_differs 27 = .ok (.iconst 0, 1) := by decide +kernel
theorem dX6_differs_28 : decode cX6_differs 28 = .ok (.istore 6, 2) := by decide +kernel
theorem dX6_differs_30 : decode cX6_differs 30 = .ok (.iconst 0, 1) := by decide +kernel
theorem dX6_differs_31 : decode cX6_differs 31 = .ok (.istore 7, 2) := by decide +kernel
theorem dX6_differs_33 : decode cX6_differs 33 = .ok (.iload 7, 2) := by decide +kernel
theorem dX6_differs_35 : decode cX6_differs 35 = .ok (.bipush 17, 2) := by decide +kernel
theorem dX6_differs_37 : decode cX6_differs 37 = .ok (.if_icmp .ge 38, 3) := by decide +kernel
theorem dX6_differs_40 : decode cX6_differs 40 = .ok (.aload 4, 2) := by decide +kernel
theorem dX6_differs_42 : decode cX6_differs 42 = .ok (.iload 7, 2) := by decide +kernel
theorem dX6_differs_44 : decode cX6_differs 44 = .ok (.invokevirtual 99, 3) := by decide +kernel
theorem dX6_differs_47 : decode cX6_differs 47 = .ok (.aload 5, 2) := by decide +kernel
theorem dX6_differs_49 : decode cX6_differs 49 = .ok (.iload 7, 2) := by decide +kernel
theorem dX6_differs_51 : decode cX6_differs 51 = .ok (.invokevirtual 99, 3) := by decide +kernel
theorem dX6_differs_54 : decode cX6_differs 54 = .ok (.if_icmp .eq 15, 3) := by decide +kernel
theorem dX6_differs_57 : decode cX6_differs 57 = .ok (.iload 6, 2) := by decide +kernel
theorem dX6_differs_59 : decode cX6_differs 59 = .ok (.iload_n 3, 1) := by decide +kernel
theorem dX6_differs_60 : decode cX6_differs 60 = .ok (.if_icmp .ne 6, 3) := by decide +kernel
theorem dX6_differs_63 : decode cX6_differs 63 = .ok (.iload 7, 2) := by decide +kernel
theorem dX6_differs_65 : decode cX6_differs 65 = .ok (.ireturn, 1) := by decide +kernel
theorem dX6_differs_66 : decode cX6_differs 66 = .ok (.iinc 6 1, 3) := by decide +kernel
theorem dX6_differs_69 : decode cX6_differs 69 = .ok (.iinc 7 1, 3) := by decide +kernel
theorem dX6_differs_72 : decode cX6_differs 72 = .ok (.goto (-39), 3) := by decide +kernel
theorem dX6_differs_75 : decode cX6_differs 75 = .ok (.iconst (-1), 1) := by decide +kernel
theorem dX6_differs_76 : decode cX6_differs 76 = .ok (.ireturn, 1) := by decide +kernel
theorem dX6_node_0 : decode cX6_node 0 = .ok (.iload_n 1, 1) := by decide +kernel
theorem dX6_node_1 : decode cX6_node 1 = .ok (.iconst 1, 1) := by decide +kernel
theorem dX6_node_2 : decode cX6_node 2 = .ok (.if_icmp .lt 17, 3) := by decide +kernel
theorem dX6_node_5 : decode cX6_node 5 = .ok (.iload_n 1, 1) := by decide +kernel
theorem dX6_node_6 : decode cX6_node 6 = .ok (.sipush 1000, 3) := by decide +kernel
theorem dX6_node_9 : decode cX6_node 9 = .ok (.if_icmp .gt 10, 3) := by decide +kernel
theorem dX6_node_12 : decode cX6_node 12 = .ok (.iload_n 2, 1) := by decide +kernel
theorem dX6_node_13 : decode cX6_node 13 = .ok (.invokestatic 102, 3) := by decide +kernel
theorem dX6_node_16 : decode cX6_node 16 = .ok (.ifCond .ne 6, 3) := by decide +kernel
theorem dX6_node_19 : decode cX6_node 19 = .ok (.bipush (-2), 2) := by decide +kernel
theorem dX6_node_21 : decode cX6_node 21 = .ok (.ireturn, 1) := by decide +kernel
theorem dX6_node_22 : decode cX6_node 22 = .ok (.aload_n 0, 1) := by decide +kernel
theorem dX6_node_23 : decode cX6_node 23 = .ok (.getfield 51, 3) := by decide +kernel
theorem dX6_node_26 : decode cX6_node 26 = .ok (.bipush 12, 2) := by decide +kernel
theorem dX6_node_28 : decode cX6_node 28 = .ok (.if_icmp .lt 6, 3) := by decide +kernel
theorem dX6_node_31 : decode cX6_node 31 = .ok (.bipush (-4), 2) := by decide +kernel
theorem dX6_node_33 : decode cX6_node 33 = .ok (.ireturn, 1) := by decide +kernel
theorem dX6_node_34 : decode cX6_node 34 = .ok (.aload_n 0, 1) := by decide +kernel
theorem dX6_node_35 : decode cX6_node 35 = .ok (.getfield 17, 3) := by decide +kernel
theorem dX6_node_38 : decode cX6_node 38 = .ok (.aload_n 0, 1) := by decide +kernel
theorem dX6_node_39 : decode cX6_node 39 = .ok (.getfield 51, 3) := by decide +kernel
theorem dX6_node_42 : decode cX6_node 42 = .ok (.new 15, 3) := by decide +kernel
theorem dX6_node_45 : decode cX6_node 45 = .ok (.dup, 1) := by decide +kernel
theorem dX6_node_46 : decode cX6_node 46 = .ok (.iload_n 1, 1) := by decide +kernel
theorem dX6_node_47 : decode cX6_node 47 = .ok (.iload_n 2, 1) := by decide +kernel
theorem dX6_node_48 : decode cX6_node 48 = .ok (.invokespecial 106, 3) := by decide +kernel
theorem dX6_node_51 : decode cX6_node 51 = .ok (.aastore, 1) := by decide +kernel
theorem dX6_node_52 : decode cX6_node 52 = .ok (.aload_n 0, 1) := by decide +kernel
theorem dX6_node_53 : decode cX6_node 53 = .ok (.dup, 1) := by decide +kernel
theorem dX6_node_54 : decode cX6_node 54 = .ok (.getfield 51, 3) := by decide +kernel
theorem dX6_node_57 : decode cX6_node 57 = .ok (.iconst 1, 1) := by decide +kernel
theorem dX6_node_58 : decode cX6_node 58 = .ok (.iadd, 1) := by decide +kernel
theorem dX6_node_59 : decode cX6_node 59 = .ok (.putfield 51, 3) := by decide +kernel
theorem dX6_node_62 : decode cX6_node 62 = .ok (.aload_n 0, 1) := by decide +kernel
theorem dX6_node_63 : decode cX6_node 63 = .ok (.getfield 51, 3) := by decide +kernel
theorem dX6_node_66 : decode cX6_node 66 = .ok (.iconst 1, 1) := by decide +kernel
theorem dX6_node_67 : decode cX6_node 67 = .ok (.isub, 1) := by decide +kernel
theorem dX6_node_68 : decode cX6_node 68 = .ok (.ireturn, 1) := by decide +kernel
theorem dX6_build_0 : decode cX6_build 0 = .ok (.aload_n 0, 1) := by decide +kernel
theorem dX6_build_1 : decode cX6_build 1 = .ok (.iload_n 1, 1) := by decide +kernel
theorem dX6_build_2 : decode cX6_build 2 = .ok (.invokevirtual 109, 3) := by decide +kernel
theorem dX6_build_5 : decode cX6_build 5 = .ok (.astore_n 3, 1) := by decide +kernel
theorem dX6_build_6 : decode cX6_build 6 = .ok (.aload_n 3, 1) := by decide +kernel
theorem dX6_build_7 : decode cX6_build 7 = .ok (.ifnull 10, 3) := by decide +kernel
theorem dX6_build_10 : decode cX6_build 10 = .ok (.iload_n 2, 1) := by decide +kernel
theorem dX6_build_11 : decode cX6_build 11 = .ok (.invokestatic 102, 3) := by decide +kernel
theorem dX6_build_14 : decode cX6_build 14 = .ok (.ifCond .ne 6, 3) := by decide +kernel
theorem dX6_build_17 : decode cX6_build 17 = .ok (.bipush (-2), 2) := by decide +kernel
theorem dX6_build_19 : decode cX6_build 19 = .ok (.ireturn, 1) := by decide +kernel
theorem dX6_build_20 : decode cX6_build 20 = .ok (.aload_n 3, 1) := by decide +kernel
theorem dX6_build_21 : decode cX6_build 21 = .ok (.invokevirtual 113, 3) := by decide +kernel
theorem dX6_build_24 : decode cX6_build 24 = .ok (.ifCond .eq 6, 3) := by decide +kernel
theorem dX6_build_27 : decode cX6_build 27 = .ok (.bipush (-3), 2) := by decide +kernel
theorem dX6_build_29 : decode cX6_build 29 = .ok (.ireturn, 1) := by decide +kernel
theorem dX6_build_30 : decode cX6_build 30 = .ok (.aload_n 3, 1) := by decide +kernel
theorem dX6_build_31 : decode cX6_build 31 = .ok (.iload_n 2, 1) := by decide +kernel
theorem dX6_build_32 : decode cX6_build 32 = .ok (.putfield 117, 3) := by decide +kernel
theorem dX6_build_35 : decode cX6_build 35 = .ok (.iconst 1, 1) := by decide +kernel
theorem dX6_build_36 : decode cX6_build 36 = .ok (.ireturn, 1) := by decide +kernel
theorem dX6_propose_0 : decode cX6_propose 0 = .ok (.aload_n 0, 1) := by decide +kernel
theorem dX6_propose_1 : decode cX6_propose 1 = .ok (.iload_n 1, 1) := by decide +kernel
theorem dX6_propose_2 : decode cX6_propose 2 = .ok (.invokevirtual 77, 3) := by decide +kernel
theorem dX6_propose_5 : decode cX6_propose 5 = .ok (.astore_n 3, 1) := by decide +kernel
theorem dX6_propose_6 : decode cX6_propose 6 = .ok (.aload_n 3, 1) := by decide +kernel
theorem dX6_propose_7 : decode cX6_propose 7 = .ok (.ifnull 10, 3) := by decide +kernel
theorem dX6_propose_10 : decode cX6_propose 10 = .ok (.iload_n 2, 1) := by decide +kernel
theorem dX6_propose_11 : decode cX6_propose 11 = .ok (.sipush 1000, 3) := by decide +kernel
theorem dX6_propose_14 : decode cX6_propose 14 = .ok (.if_icmp .le 6, 3) := by decide +kernel
theorem dX6_propose_17 : decode cX6_propose 17 = .ok (.bipush (-2), 2) := by decide +kernel
theorem dX6_propose_19 : decode cX6_propose 19 = .ok (.ireturn, 1) := by decide +kernel
theorem dX6_propose_20 : decode cX6_propose 20 = .ok (.aload_n 3, 1) := by decide +kernel
theorem dX6_propose_21 : decode cX6_propose 21 = .ok (.getfield 74, 3) := by decide +kernel
theorem dX6_propose_24 : decode cX6_propose 24 = .ok (.ifCond .ne 19, 3) := by decide +kernel
theorem dX6_propose_27 : decode cX6_propose 27 = .ok (.iload_n 2, 1) := by decide +kernel
theorem dX6_propose_28 : decode cX6_propose 28 = .ok (.aload_n 0, 1) := by decide +kernel
theorem dX6_propose_29 : decode cX6_propose 29 = .ok (.getfield 60, 3) := by decide +kernel
theorem dX6_propose_32 : decode cX6_propose 32 = .ok (.if_icmp .le 11, 3) := by decide +kernel
theorem dX6_propose_35 : decode cX6_propose 35 = .ok (.iload_n 2, 1) := by decide +kernel
theorem dX6_propose_36 : decode cX6_propose 36 = .ok (.aload_n 0, 1) := by decide +kernel
theorem dX6_propose_37 : decode cX6_propose 37 = .ok (.invokevirtual 120, 3) := by decide +kernel
theorem dX6_propose_40 : decode cX6_propose 40 = .ok (.if_icmp .gt 6, 3) := by decide +kernel
theorem dX6_propose_43 : decode cX6_propose 43 = .ok (.bipush (-3), 2) := by decide +kernel
theorem dX6_propose_45 : decode cX6_propose 45 = .ok (.ireturn, 1) := by decide +kernel
theorem dX6_propose_46 : decode cX6_propose 46 = .ok (.aload_n 3, 1) := by decide +kernel
theorem dX6_propose_47 : decode cX6_propose 47 = .ok (.iconst 1, 1) := by decide +kernel
theorem dX6_propose_48 : decode cX6_propose 48 = .ok (.putfield 74, 3) := by decide +kernel
theorem dX6_propose_51 : decode cX6_propose 51 = .ok (.aload_n 3, 1) := by decide +kernel
theorem dX6_propose_52 : decode cX6_propose 52 = .ok (.iload_n 2, 1) := by decide +kernel
theorem dX6_propose_53 : decode cX6_propose 53 = .ok (.putfield 73, 3) := by decide +kernel
theorem dX6_propose_56 : decode cX6_propose 56 = .ok (.iconst 1, 1) := by decide +kernel
theorem dX6_propose_57 : decode cX6_propose 57 = .ok (.ireturn, 1) := by decide +kernel
theorem dX6_vote_0 : decode cX6_vote 0 = .ok (.aload_n 0, 1) := by decide +kernel
theorem dX6_vote_1 : decode cX6_vote 1 = .ok (.iload_n 1, 1) := by decide +kernel
theorem dX6_vote_2 : decode cX6_vote 2 = .ok (.invokevirtual 109, 3) := by decide +kernel
theorem dX6_vote_5 : decode cX6_vote 5 = .ok (.astore 4, 2) := by decide +kernel
theorem dX6_vote_7 : decode cX6_vote 7 = .ok (.aload_n 0, 1) := by decide +kernel
theorem dX6_vote_8 : decode cX6_vote 8 = .ok (.iload_n 2, 1) := by decide +kernel
theorem dX6_vote_9 : decode cX6_vote 9 = .ok (.invokevirtual 77, 3) := by decide +kernel
theorem dX6_vote_12 : decode cX6_vote 12 = .ok (.astore 5, 2) := by decide +kernel
theorem dX6_vote_14 : decode cX6_vote 14 = .ok (.aload 4, 2) := by decide +kernel
theorem dX6_vote_16 : decode cX6_vote 16 = .ok (.ifnull 8, 3) := by decide +kernel
theorem dX6_vote_19 : decode cX6_vote 19 = .ok (.aload 5, 2) := by decide +kernel
theorem dX6_vote_21 : decode cX6_vote 21 = .ok (.ifnonnull 6, 3) := by decide +kernel
theorem dX6_vote_24 : decode cX6_vote 24 = .ok (.bipush (-2), 2) := by decide +kernel
theorem dX6_vote_26 : decode cX6_vote 26 = .ok (.ireturn, 1) := by decide +kernel
theorem dX6_vote_27 : decode cX6_vote 27 = .ok (.aload 5, 2) := by decide +kernel
theorem dX6_vote_29 : decode cX6_vote 29 = .ok (.getfield 74, 3) := by decide +kernel
theorem dX6_vote_32 : decode cX6_vote 32 = .ok (.iconst 1, 1) := by decide +kernel
theorem dX6_vote_33 : decode cX6_vote 33 = .ok (.if_icmp .ne 11, 3) := by decide +kernel
theorem dX6_vote_36 : decode cX6_vote 36 = .ok (.aload 4, 2) := by decide +kernel
theorem dX6_vote_38 : decode cX6_vote 38 = .ok (.invokevirtual 113, 3) := by decide +kernel
theorem dX6_vote_41 : decode cX6_vote 41 = .ok (.ifCond .eq 6, 3) := by decide +kernel
theorem dX6_vote_44 : decode cX6_vote 44 = .ok (.bipush (-3), 2) := by decide +kernel
theorem dX6_vote_46 : decode cX6_vote 46 = .ok (.ireturn, 1) := by decide +kernel
theorem dX6_vote_47 : decode cX6_vote 47 = .ok (.aload 4, 2) := by decide +kernel
theorem dX6_vote_49 : decode cX6_vote 49 = .ok (.aload 5, 2) := by decide +kernel
theorem dX6_vote_51 : decode cX6_vote 51 = .ok (.getfield 85, 3) := by decide +kernel
theorem dX6_vote_54 : decode cX6_vote 54 = .ok (.iload_n 3, 1) := by decide +kernel
theorem dX6_vote_55 : decode cX6_vote 55 = .ok (.invokevirtual 124, 3) := by decide +kernel
theorem dX6_vote_58 : decode cX6_vote 58 = .ok (.iconst 1, 1) := by decide +kernel
theorem dX6_vote_59 : decode cX6_vote 59 = .ok (.ireturn, 1) := by decide +kernel
theorem dX6_rise_0 : decode cX6_rise 0 = .ok (.iload_n 1, 1) := by decide +kernel
theorem dX6_rise_1 : decode cX6_rise 1 = .ok (.iconst 1, 1) := by decide +kernel
theorem dX6_rise_2 : decode cX6_rise 2 = .ok (.if_icmp .lt 9, 3) := by decide +kernel
theorem dX6_rise_5 : decode cX6_rise 5 = .ok (.iload_n 1, 1) := by decide +kernel
theorem dX6_rise_6 : decode cX6_rise 6 = .ok (.bipush 100, 2) := by decide +kernel
theorem dX6_rise_8 : decode cX6_rise 8 = .ok (.if_icmp .le 6, 3) := by decide +kernel
theorem dX6_rise_11 : decode cX6_rise 11 = .ok (.bipush (-2), 2) := by decide +kernel
theorem dX6_rise_13 : decode cX6_rise 13 = .ok (.ireturn, 1) := by decide +kernel
theorem dX6_rise_14 : decode cX6_rise 14 = .ok (.aload_n 0, 1) := by decide +kernel
theorem dX6_rise_15 : decode cX6_rise 15 = .ok (.getfield 60, 3) := by decide +kernel
theorem dX6_rise_18 : decode cX6_rise 18 = .ok (.iload_n 1, 1) := by decide +kernel
theorem dX6_rise_19 : decode cX6_rise 19 = .ok (.iadd, 1) := by decide +kernel
theorem dX6_rise_20 : decode cX6_rise 20 = .ok (.sipush 1000, 3) := by decide +kernel
theorem dX6_rise_23 : decode cX6_rise 23 = .ok (.if_icmp .le 6, 3) := by decide +kernel
theorem dX6_rise_26 : decode cX6_rise 26 = .ok (.bipush (-4), 2) := by decide +kernel
theorem dX6_rise_28 : decode cX6_rise 28 = .ok (.ireturn, 1) := by decide +kernel
theorem dX6_rise_29 : decode cX6_rise 29 = .ok (.iconst 0, 1) := by decide +kernel
theorem dX6_rise_30 : decode cX6_rise 30 = .ok (.istore_n 2, 1) := by decide +kernel
theorem dX6_rise_31 : decode cX6_rise 31 = .ok (.iload_n 2, 1) := by decide +kernel
theorem dX6_rise_32 : decode cX6_rise 32 = .ok (.iload_n 1, 1) := by decide +kernel
theorem dX6_rise_33 : decode cX6_rise 33 = .ok (.if_icmp .ge 27, 3) := by decide +kernel
theorem dX6_rise_36 : decode cX6_rise 36 = .ok (.aload_n 0, 1) := by decide +kernel
theorem dX6_rise_37 : decode cX6_rise 37 = .ok (.dup, 1) := by decide +kernel
theorem dX6_rise_38 : decode cX6_rise 38 = .ok (.getfield 60, 3) := by decide +kernel
theorem dX6_rise_41 : decode cX6_rise 41 = .ok (.iconst 1, 1) := by decide +kernel
theorem dX6_rise_42 : decode cX6_rise 42 = .ok (.iadd, 1) := by decide +kernel
theorem dX6_rise_43 : decode cX6_rise 43 = .ok (.putfield 60, 3) := by decide +kernel
theorem dX6_rise_46 : decode cX6_rise 46 = .ok (.aload_n 0, 1) := by decide +kernel
theorem dX6_rise_47 : decode cX6_rise 47 = .ok (.invokevirtual 128, 3) := by decide +kernel
theorem dX6_rise_50 : decode cX6_rise 50 = .ok (.aload_n 0, 1) := by decide +kernel
theorem dX6_rise_51 : decode cX6_rise 51 = .ok (.invokevirtual 131, 3) := by decide +kernel
theorem dX6_rise_54 : decode cX6_rise 54 = .ok (.iinc 2 1, 3) := by decide +kernel
theorem dX6_rise_57 : decode cX6_rise 57 = .ok (.goto (-26), 3) := by decide +kernel
theorem dX6_rise_60 : decode cX6_rise 60 = .ok (.aload_n 0, 1) := by decide +kernel
theorem dX6_rise_61 : decode cX6_rise 61 = .ok (.getfield 60, 3) := by decide +kernel
theorem dX6_rise_64 : decode cX6_rise 64 = .ok (.ireturn, 1) := by decide +kernel
theorem dX6_force_0 : decode cX6_force 0 = .ok (.iload_n 1, 1) := by decide +kernel
theorem dX6_force_1 : decode cX6_force 1 = .ok (.ifCond .lt 11, 3) := by decide +kernel
theorem dX6_force_4 : decode cX6_force 4 = .ok (.iload_n 1, 1) := by decide +kernel
theorem dX6_force_5 : decode cX6_force 5 = .ok (.aload_n 0, 1) := by decide +kernel
theorem dX6_force_6 : decode cX6_force 6 = .ok (.getfield 60, 3) := by decide +kernel
theorem dX6_force_9 : decode cX6_force 9 = .ok (.if_icmp .le 6, 3) := by decide +kernel
theorem dX6_force_12 : decode cX6_force 12 = .ok (.bipush (-2), 2) := by decide +kernel
theorem dX6_force_14 : decode cX6_force 14 = .ok (.ireturn, 1) := by decide +kernel
theorem dX6_force_15 : decode cX6_force 15 = .ok (.aload_n 0, 1) := by decide +kernel
theorem dX6_force_16 : decode cX6_force 16 = .ok (.iload_n 1, 1) := by decide +kernel
theorem dX6_force_17 : decode cX6_force 17 = .ok (.invokevirtual 134, 3) := by decide +kernel
theorem dX6_force_20 : decode cX6_force 20 = .ok (.getfield 85, 3) := by decide +kernel
theorem dX6_force_23 : decode cX6_force 23 = .ok (.ireturn, 1) := by decide +kernel
theorem dX6_halted_0 : decode cX6_halted 0 = .ok (.aload_n 0, 1) := by decide +kernel
theorem dX6_halted_1 : decode cX6_halted 1 = .ok (.iload_n 1, 1) := by decide +kernel
theorem dX6_halted_2 : decode cX6_halted 2 = .ok (.invokevirtual 109, 3) := by decide +kernel
theorem dX6_halted_5 : decode cX6_halted 5 = .ok (.astore_n 2, 1) := by decide +kernel
theorem dX6_halted_6 : decode cX6_halted 6 = .ok (.aload_n 2, 1) := by decide +kernel
theorem dX6_halted_7 : decode cX6_halted 7 = .ok (.ifnonnull 8, 3) := by decide +kernel
theorem dX6_halted_10 : decode cX6_halted 10 = .ok (.bipush (-2), 2) := by decide +kernel
theorem dX6_halted_12 : decode cX6_halted 12 = .ok (.goto 7, 3) := by decide +kernel
theorem dX6_halted_15 : decode cX6_halted 15 = .ok (.aload_n 2, 1) := by decide +kernel
theorem dX6_halted_16 : decode cX6_halted 16 = .ok (.getfield 137, 3) := by decide +kernel
theorem dX6_halted_19 : decode cX6_halted 19 = .ok (.ireturn, 1) := by decide +kernel
theorem dX6_contract_0 : decode cX6_contract 0 = .ok (.aload_n 0, 1) := by decide +kernel
theorem dX6_contract_1 : decode cX6_contract 1 = .ok (.getfield 54, 3) := by decide +kernel
theorem dX6_contract_4 : decode cX6_contract 4 = .ok (.bipush 12, 2) := by decide +kernel
theorem dX6_contract_6 : decode cX6_contract 6 = .ok (.if_icmp .lt 6, 3) := by decide +kernel
theorem dX6_contract_9 : decode cX6_contract 9 = .ok (.bipush (-4), 2) := by decide +kernel
theorem dX6_contract_11 : decode cX6_contract 11 = .ok (.ireturn, 1) := by decide +kernel
theorem dX6_contract_12 : decode cX6_contract 12 = .ok (.aload_n 0, 1) := by decide +kernel
theorem dX6_contract_13 : decode cX6_contract 13 = .ok (.getfield 23, 3) := by decide +kernel
theorem dX6_contract_16 : decode cX6_contract 16 = .ok (.aload_n 0, 1) := by decide +kernel
theorem dX6_contract_17 : decode cX6_contract 17 = .ok (.getfield 54, 3) := by decide +kernel
theorem dX6_contract_20 : decode cX6_contract 20 = .ok (.new 21, 3) := by decide +kernel
theorem dX6_contract_23 : decode cX6_contract 23 = .ok (.dup, 1) := by decide +kernel
theorem dX6_contract_24 : decode cX6_contract 24 = .ok (.invokespecial 140, 3) := by decide +kernel
theorem dX6_contract_27 : decode cX6_contract 27 = .ok (.aastore, 1) := by decide +kernel
theorem dX6_contract_28 : decode cX6_contract 28 = .ok (.aload_n 0, 1) := by decide +kernel
theorem dX6_contract_29 : decode cX6_contract 29 = .ok (.dup, 1) := by decide +kernel
theorem dX6_contract_30 : decode cX6_contract 30 = .ok (.getfield 54, 3) := by decide +kernel
theorem dX6_contract_33 : decode cX6_contract 33 = .ok (.iconst 1, 1) := by decide +kernel
theorem dX6_contract_34 : decode cX6_contract 34 = .ok (.iadd, 1) := by decide +kernel
theorem dX6_contract_35 : decode cX6_contract 35 = .ok (.putfield 54, 3) := by decide +kernel
theorem dX6_contract_38 : decode cX6_contract 38 = .ok (.aload_n 0, 1) := by decide +kernel
theorem dX6_contract_39 : decode cX6_contract 39 = .ok (.getfield 54, 3) := by decide +kernel
theorem dX6_contract_42 : decode cX6_contract 42 = .ok (.iconst 1, 1) := by decide +kernel
theorem dX6_contract_43 : decode cX6_contract 43 = .ok (.isub, 1) := by decide +kernel
theorem dX6_contract_44 : decode cX6_contract 44 = .ok (.ireturn, 1) := by decide +kernel
theorem dX6_act_0 : decode cX6_act 0 = .ok (.aload_n 0, 1) := by decide +kernel
theorem dX6_act_1 : decode cX6_act 1 = .ok (.iload_n 1, 1) := by decide +kernel
theorem dX6_act_2 : decode cX6_act 2 = .ok (.invokevirtual 141, 3) := by decide +kernel
theorem dX6_act_5 : decode cX6_act 5 = .ok (.astore 4, 2) := by decide +kernel
theorem dX6_act_7 : decode cX6_act 7 = .ok (.aload 4, 2) := by decide +kernel
theorem dX6_act_9 : decode cX6_act 9 = .ok (.ifnull 11, 3) := by decide +kernel
theorem dX6_act_12 : decode cX6_act 12 = .ok (.iload_n 2, 1) := by decide +kernel
theorem dX6_act_13 : decode cX6_act 13 = .ok (.iload_n 3, 1) := by decide +kernel
theorem dX6_act_14 : decode cX6_act 14 = .ok (.invokestatic 145, 3) := by decide +kernel
theorem dX6_act_17 : decode cX6_act 17 = .ok (.ifCond .ne 6, 3) := by decide +kernel
theorem dX6_act_20 : decode cX6_act 20 = .ok (.bipush (-2), 2) := by decide +kernel
theorem dX6_act_22 : decode cX6_act 22 = .ok (.ireturn, 1) := by decide +kernel
theorem dX6_act_23 : decode cX6_act 23 = .ok (.aload 4, 2) := by decide +kernel
theorem dX6_act_25 : decode cX6_act 25 = .ok (.getfield 148, 3) := by decide +kernel
theorem dX6_act_28 : decode cX6_act 28 = .ok (.ifnull 6, 3) := by decide +kernel
theorem dX6_act_31 : decode cX6_act 31 = .ok (.bipush (-3), 2) := by decide +kernel
theorem dX6_act_33 : decode cX6_act 33 = .ok (.ireturn, 1) := by decide +kernel
theorem dX6_act_34 : decode cX6_act 34 = .ok (.aload 4, 2) := by decide +kernel
theorem dX6_act_36 : decode cX6_act 36 = .ok (.getfield 151, 3) := by decide +kernel
theorem dX6_act_39 : decode cX6_act 39 = .ok (.bipush 24, 2) := by decide +kernel
theorem dX6_act_41 : decode cX6_act 41 = .ok (.if_icmp .lt 6, 3) := by decide +kernel
theorem dX6_act_44 : decode cX6_act 44 = .ok (.bipush (-4), 2) := by decide +kernel
theorem dX6_act_46 : decode cX6_act 46 = .ok (.ireturn, 1) := by decide +kernel
theorem dX6_act_47 : decode cX6_act 47 = .ok (.aload 4, 2) := by decide +kernel
theorem dX6_act_49 : decode cX6_act 49 = .ok (.iload_n 2, 1) := by decide +kernel
theorem dX6_act_50 : decode cX6_act 50 = .ok (.iload_n 3, 1) := by decide +kernel
theorem dX6_act_51 : decode cX6_act 51 = .ok (.invokevirtual 154, 3) := by decide +kernel
theorem dX6_act_54 : decode cX6_act 54 = .ok (.aload 4, 2) := by decide +kernel
theorem dX6_act_56 : decode cX6_act 56 = .ok (.getfield 151, 3) := by decide +kernel
theorem dX6_act_59 : decode cX6_act 59 = .ok (.ireturn, 1) := by decide +kernel
theorem dX6_deploy_0 : decode cX6_deploy 0 = .ok (.aload_n 0, 1) := by decide +kernel
theorem dX6_deploy_1 : decode cX6_deploy 1 = .ok (.iload_n 1, 1) := by decide +kernel
theorem dX6_deploy_2 : decode cX6_deploy 2 = .ok (.invokevirtual 141, 3) := by decide +kernel
theorem dX6_deploy_5 : decode cX6_deploy 5 = .ok (.astore_n 2, 1) := by decide +kernel
theorem dX6_deploy_6 : decode cX6_deploy 6 = .ok (.aload_n 2, 1) := by decide +kernel
theorem dX6_deploy_7 : decode cX6_deploy 7 = .ok (.ifnonnull 6, 3) := by decide +kernel
theorem dX6_deploy_10 : decode cX6_deploy 10 = .ok (.bipush (-2), 2) := by decide +kernel
theorem dX6_deploy_12 : decode cX6_deploy 12 = .ok (.ireturn, 1) := by decide +kernel
theorem dX6_deploy_13 : decode cX6_deploy 13 = .ok (.aload_n 2, 1) := by decide +kernel
theorem dX6_deploy_14 : decode cX6_deploy 14 = .ok (.getfield 148, 3) := by decide +kernel
theorem dX6_deploy_17 : decode cX6_deploy 17 = .ok (.ifnonnull 10, 3) := by decide +kernel
theorem dX6_deploy_20 : decode cX6_deploy 20 = .ok (.aload_n 2, 1) := by decide +kernel
theorem dX6_deploy_21 : decode cX6_deploy 21 = .ok (.getfield 151, 3) := by decide +kernel
theorem dX6_deploy_24 : decode cX6_deploy 24 = .ok (.ifCond .ne 6, 3) := by decide +kernel
theorem dX6_deploy_27 : decode cX6_deploy 27 = .ok (.bipush (-3), 2) := by decide +kernel
theorem dX6_deploy_29 : decode cX6_deploy 29 = .ok (.ireturn, 1) := by decide +kernel
theorem dX6_deploy_30 : decode cX6_deploy 30 = .ok (.aload_n 0, 1) := by decide +kernel
theorem dX6_deploy_31 : decode cX6_deploy 31 = .ok (.aload_n 0, 1) := by decide +kernel
theorem dX6_deploy_32 : decode cX6_deploy 32 = .ok (.getfield 60, 3) := by decide +kernel
theorem dX6_deploy_35 : decode cX6_deploy 35 = .ok (.invokevirtual 134, 3) := by decide +kernel
theorem dX6_deploy_38 : decode cX6_deploy 38 = .ok (.astore_n 3, 1) := by decide +kernel
theorem dX6_deploy_39 : decode cX6_deploy 39 = .ok (.aload_n 2, 1) := by decide +kernel
theorem dX6_deploy_40 : decode cX6_deploy 40 = .ok (.aload_n 3, 1) := by decide +kernel
theorem dX6_deploy_41 : decode cX6_deploy 41 = .ok (.invokevirtual 157, 3) := by decide +kernel
theorem dX6_deploy_44 : decode cX6_deploy 44 = .ok (.istore 4, 2) := by decide +kernel
theorem dX6_deploy_46 : decode cX6_deploy 46 = .ok (.iload 4, 2) := by decide +kernel
theorem dX6_deploy_48 : decode cX6_deploy 48 = .ok (.ifCond .eq 9, 3) := by decide +kernel
theorem dX6_deploy_51 : decode cX6_deploy 51 = .ok (.iload 4, 2) := by decide +kernel
theorem dX6_deploy_53 : decode cX6_deploy 53 = .ok (.invokestatic 161, 3) := by decide +kernel
theorem dX6_deploy_56 : decode cX6_deploy 56 = .ok (.ireturn, 1) := by decide +kernel
theorem dX6_deploy_57 : decode cX6_deploy 57 = .ok (.aload_n 2, 1) := by decide +kernel
theorem dX6_deploy_58 : decode cX6_deploy 58 = .ok (.aload_n 3, 1) := by decide +kernel
theorem dX6_deploy_59 : decode cX6_deploy 59 = .ok (.putfield 148, 3) := by decide +kernel
theorem dX6_deploy_62 : decode cX6_deploy 62 = .ok (.aload_n 3, 1) := by decide +kernel
theorem dX6_deploy_63 : decode cX6_deploy 63 = .ok (.getfield 85, 3) := by decide +kernel
theorem dX6_deploy_66 : decode cX6_deploy 66 = .ok (.ireturn, 1) := by decide +kernel
theorem dX6_run_0 : decode cX6_run 0 = .ok (.aload_n 0, 1) := by decide +kernel
theorem dX6_run_1 : decode cX6_run 1 = .ok (.iload_n 1, 1) := by decide +kernel
theorem dX6_run_2 : decode cX6_run 2 = .ok (.invokevirtual 141, 3) := by decide +kernel
theorem dX6_run_5 : decode cX6_run 5 = .ok (.astore 5, 2) := by decide +kernel
theorem dX6_run_7 : decode cX6_run 7 = .ok (.aload 5, 2) := by decide +kernel
theorem dX6_run_9 : decode cX6_run 9 = .ok (.ifnull 8, 3) := by decide +kernel
theorem dX6_run_12 : decode cX6_run 12 = .ok (.iload 4, 2) := by decide +kernel
theorem dX6_run_14 : decode cX6_run 14 = .ok (.ifCond .ge 6, 3) := by decide +kernel
theorem dX6_run_17 : decode cX6_run 17 = .ok (.bipush (-2), 2) := by decide +kernel
theorem dX6_run_19 : decode cX6_run 19 = .ok (.ireturn, 1) := by decide +kernel
theorem dX6_run_20 : decode cX6_run 20 = .ok (.aload 5, 2) := by decide +kernel
theorem dX6_run_22 : decode cX6_run 22 = .ok (.getfield 148, 3) := by decide +kernel
theorem dX6_run_25 : decode cX6_run 25 = .ok (.ifnonnull 6, 3) := by decide +kernel
theorem dX6_run_28 : decode cX6_run 28 = .ok (.bipush (-3), 2) := by decide +kernel
theorem dX6_run_30 : decode cX6_run 30 = .ok (.ireturn, 1) := by decide +kernel
theorem dX6_run_31 : decode cX6_run 31 = .ok (.aload_n 0, 1) := by decide +kernel
theorem dX6_run_32 : decode cX6_run 32 = .ok (.getfield 57, 3) := by decide +kernel
theorem dX6_run_35 : decode cX6_run 35 = .ok (.bipush 64, 2) := by decide +kernel
theorem dX6_run_37 : decode cX6_run 37 = .ok (.if_icmp .lt 6, 3) := by decide +kernel
theorem dX6_run_40 : decode cX6_run 40 = .ok (.bipush (-4), 2) := by decide +kernel
theorem dX6_run_42 : decode cX6_run 42 = .ok (.ireturn, 1) := by decide +kernel
theorem dX6_run_43 : decode cX6_run 43 = .ok (.new 27, 3) := by decide +kernel
theorem dX6_run_46 : decode cX6_run 46 = .ok (.dup, 1) := by decide +kernel
theorem dX6_run_47 : decode cX6_run 47 = .ok (.iload_n 1, 1) := by decide +kernel
theorem dX6_run_48 : decode cX6_run 48 = .ok (.lload_n 2, 1) := by decide +kernel
theorem dX6_run_49 : decode cX6_run 49 = .ok (.iload 4, 2) := by decide +kernel
theorem dX6_run_51 : decode cX6_run 51 = .ok (.aload_n 0, 1) := by decide +kernel
theorem dX6_run_52 : decode cX6_run 52 = .ok (.getfield 60, 3) := by decide +kernel
theorem dX6_run_55 : decode cX6_run 55 = .ok (.invokespecial 164, 3) := by decide +kernel
theorem dX6_run_58 : decode cX6_run 58 = .ok (.astore 6, 2) := by decide +kernel
theorem dX6_run_60 : decode cX6_run 60 = .ok (.aload 6, 2) := by decide +kernel
theorem dX6_run_62 : decode cX6_run 62 = .ok (.aload_n 0, 1) := by decide +kernel
theorem dX6_run_63 : decode cX6_run 63 = .ok (.getfield 43, 3) := by decide +kernel
theorem dX6_run_66 : decode cX6_run 66 = .ok (.aload 5, 2) := by decide +kernel
theorem dX6_run_68 : decode cX6_run 68 = .ok (.aload 5, 2) := by decide +kernel
theorem dX6_run_70 : decode cX6_run 70 = .ok (.getfield 167, 3) := by decide +kernel
theorem dX6_run_73 : decode cX6_run 73 = .ok (.aload_n 0, 1) := by decide +kernel
theorem dX6_run_74 : decode cX6_run 74 = .ok (.aload_n 0, 1) := by decide +kernel
theorem dX6_run_75 : decode cX6_run 75 = .ok (.getfield 60, 3) := by decide +kernel
theorem dX6_run_78 : decode cX6_run 78 = .ok (.invokevirtual 134, 3) := by decide +kernel
theorem dX6_run_81 : decode cX6_run 81 = .ok (.lload_n 2, 1) := by decide +kernel
theorem dX6_run_82 : decode cX6_run 82 = .ok (.iload 4, 2) := by decide +kernel
theorem dX6_run_84 : decode cX6_run 84 = .ok (.invokevirtual 171, 3) := by decide +kernel
theorem dX6_run_87 : decode cX6_run 87 = .ok (.putfield 175, 3) := by decide +kernel
theorem dX6_run_90 : decode cX6_run 90 = .ok (.aload_n 0, 1) := by decide +kernel
theorem dX6_run_91 : decode cX6_run 91 = .ok (.aload 5, 2) := by decide +kernel
theorem dX6_run_93 : decode cX6_run 93 = .ok (.getfield 167, 3) := by decide +kernel
theorem dX6_run_96 : decode cX6_run 96 = .ok (.aload_n 0, 1) := by decide +kernel
theorem dX6_run_97 : decode cX6_run 97 = .ok (.getfield 63, 3) := by decide +kernel
theorem dX6_run_100 : decode cX6_run 100 = .ok (.aload 6, 2) := by decide +kernel
theorem dX6_run_102 : decode cX6_run 102 = .ok (.getfield 175, 3) := by decide +kernel
theorem dX6_run_105 : decode cX6_run 105 = .ok (.invokevirtual 178, 3) := by decide +kernel
theorem dX6_run_108 : decode cX6_run 108 = .ok (.putfield 63, 3) := by decide +kernel
theorem dX6_run_111 : decode cX6_run 111 = .ok (.aload_n 0, 1) := by decide +kernel
theorem dX6_run_112 : decode cX6_run 112 = .ok (.getfield 29, 3) := by decide +kernel
theorem dX6_run_115 : decode cX6_run 115 = .ok (.aload_n 0, 1) := by decide +kernel
theorem dX6_run_116 : decode cX6_run 116 = .ok (.getfield 57, 3) := by decide +kernel
theorem dX6_run_119 : decode cX6_run 119 = .ok (.aload 6, 2) := by decide +kernel
theorem dX6_run_121 : decode cX6_run 121 = .ok (.aastore, 1) := by decide +kernel
theorem dX6_run_122 : decode cX6_run 122 = .ok (.aload_n 0, 1) := by decide +kernel
theorem dX6_run_123 : decode cX6_run 123 = .ok (.dup, 1) := by decide +kernel
theorem dX6_run_124 : decode cX6_run 124 = .ok (.getfield 57, 3) := by decide +kernel
theorem dX6_run_127 : decode cX6_run 127 = .ok (.iconst 1, 1) := by decide +kernel
theorem dX6_run_128 : decode cX6_run 128 = .ok (.iadd, 1) := by decide +kernel
theorem dX6_run_129 : decode cX6_run 129 = .ok (.putfield 57, 3) := by decide +kernel
theorem dX6_run_132 : decode cX6_run 132 = .ok (.aload 6, 2) := by decide +kernel
theorem dX6_run_134 : decode cX6_run 134 = .ok (.getfield 175, 3) := by decide +kernel
theorem dX6_run_137 : decode cX6_run 137 = .ok (.ireturn, 1) := by decide +kernel
theorem dX6_cell_0 : decode cX6_cell 0 = .ok (.aload_n 0, 1) := by decide +kernel
theorem dX6_cell_1 : decode cX6_cell 1 = .ok (.iload_n 1, 1) := by decide +kernel
theorem dX6_cell_2 : decode cX6_cell 2 = .ok (.invokevirtual 141, 3) := by decide +kernel
theorem dX6_cell_5 : decode cX6_cell 5 = .ok (.astore_n 3, 1) := by decide +kernel
theorem dX6_cell_6 : decode cX6_cell 6 = .ok (.aload_n 3, 1) := by decide +kernel
theorem dX6_cell_7 : decode cX6_cell 7 = .ok (.ifnonnull 7, 3) := by decide +kernel
theorem dX6_cell_10 : decode cX6_cell 10 = .ok (.lconst 0, 1) := by decide +kernel
theorem dX6_cell_11 : decode cX6_cell 11 = .ok (.goto 11, 3) := by decide +kernel
theorem dX6_cell_14 : decode cX6_cell 14 = .ok (.aload_n 3, 1) := by decide +kernel
theorem dX6_cell_15 : decode cX6_cell 15 = .ok (.getfield 167, 3) := by decide +kernel
theorem dX6_cell_18 : decode cX6_cell 18 = .ok (.iload_n 2, 1) := by decide +kernel
theorem dX6_cell_19 : decode cX6_cell 19 = .ok (.invokevirtual 184, 3) := by decide +kernel
theorem dX6_cell_22 : decode cX6_cell 22 = .ok (.lreturn, 1) := by decide +kernel
theorem dX6_logged_0 : decode cX6_logged 0 = .ok (.aload_n 0, 1) := by decide +kernel
theorem dX6_logged_1 : decode cX6_logged 1 = .ok (.iload_n 1, 1) := by decide +kernel
theorem dX6_logged_2 : decode cX6_logged 2 = .ok (.invokevirtual 188, 3) := by decide +kernel
theorem dX6_logged_5 : decode cX6_logged 5 = .ok (.astore_n 3, 1) := by decide +kernel
theorem dX6_logged_6 : decode cX6_logged 6 = .ok (.aload_n 3, 1) := by decide +kernel
theorem dX6_logged_7 : decode cX6_logged 7 = .ok (.ifnonnull 6, 3) := by decide +kernel
theorem dX6_logged_10 : decode cX6_logged 10 = .ok (.bipush (-2), 2) := by decide +kernel
theorem dX6_logged_12 : decode cX6_logged 12 = .ok (.ireturn, 1) := by decide +kernel
theorem dX6_logged_13 : decode cX6_logged 13 = .ok (.iload_n 2, 1) := by decide +kernel
theorem dX6_logged_14 : decode cX6_logged 14 = .ok (.tableswitch 41 0 2 #[26, 31, 36], 26) := by decide +kernel
theorem dX6_logged_40 : decode cX6_logged 40 = .ok (.aload_n 3, 1) := by decide +kernel
theorem dX6_logged_41 : decode cX6_logged 41 = .ok (.getfield 192, 3) := by decide +kernel
theorem dX6_logged_44 : decode cX6_logged 44 = .ok (.ireturn, 1) := by decide +kernel
theorem dX6_logged_45 : decode cX6_logged 45 = .ok (.aload_n 3, 1) := by decide +kernel
theorem dX6_logged_46 : decode cX6_logged 46 = .ok (.getfield 195, 3) := by decide +kernel
theorem dX6_logged_49 : decode cX6_logged 49 = .ok (.ireturn, 1) := by decide +kernel
theorem dX6_logged_50 : decode cX6_logged 50 = .ok (.aload_n 3, 1) := by decide +kernel
theorem dX6_logged_51 : decode cX6_logged 51 = .ok (.getfield 175, 3) := by decide +kernel
theorem dX6_logged_54 : decode cX6_logged 54 = .ok (.ireturn, 1) := by decide +kernel
theorem dX6_logged_55 : decode cX6_logged 55 = .ok (.bipush (-2), 2) := by decide +kernel
theorem dX6_logged_57 : decode cX6_logged 57 = .ok (.ireturn, 1) := by decide +kernel
theorem dX6_digest_0 : decode cX6_digest 0 = .ok (.aload_n 0, 1) := by decide +kernel
theorem dX6_digest_1 : decode cX6_digest 1 = .ok (.getfield 63, 3) := by decide +kernel
theorem dX6_digest_4 : decode cX6_digest 4 = .ok (.ireturn, 1) := by decide +kernel
theorem dX6_replay_0 : decode cX6_replay 0 = .ok (.iload_n 1, 1) := by decide +kernel
theorem dX6_replay_1 : decode cX6_replay 1 = .ok (.ifCond .lt 11, 3) := by decide +kernel
theorem dX6_replay_4 : decode cX6_replay 4 = .ok (.iload_n 1, 1) := by decide +kernel
theorem dX6_replay_5 : decode cX6_replay 5 = .ok (.aload_n 0, 1) := by decide +kernel
theorem dX6_replay_6 : decode cX6_replay 6 = .ok (.getfield 57, 3) := by decide +kernel
theorem dX6_replay_9 : decode cX6_replay 9 = .ok (.if_icmp .le 5, 3) := by decide +kernel
theorem dX6_replay_12 : decode cX6_replay 12 = .ok (.iconst 0, 1) := by decide +kernel
theorem dX6_replay_13 : decode cX6_replay 13 = .ok (.ireturn, 1) := by decide +kernel
theorem dX6_replay_14 : decode cX6_replay 14 = .ok (.aload_n 0, 1) := by decide +kernel
theorem dX6_replay_15 : decode cX6_replay 15 = .ok (.invokevirtual 196, 3) := by decide +kernel
theorem dX6_replay_18 : decode cX6_replay 18 = .ok (.iconst 0, 1) := by decide +kernel
theorem dX6_replay_19 : decode cX6_replay 19 = .ok (.istore_n 2, 1) := by decide +kernel
theorem dX6_replay_20 : decode cX6_replay 20 = .ok (.iconst 0, 1) := by decide +kernel
theorem dX6_replay_21 : decode cX6_replay 21 = .ok (.istore_n 3, 1) := by decide +kernel
theorem dX6_replay_22 : decode cX6_replay 22 = .ok (.iload_n 3, 1) := by decide +kernel
theorem dX6_replay_23 : decode cX6_replay 23 = .ok (.iload_n 1, 1) := by decide +kernel
theorem dX6_replay_24 : decode cX6_replay 24 = .ok (.if_icmp .ge 20, 3) := by decide +kernel
theorem dX6_replay_27 : decode cX6_replay 27 = .ok (.aload_n 0, 1) := by decide +kernel
theorem dX6_replay_28 : decode cX6_replay 28 = .ok (.aload_n 0, 1) := by decide +kernel
theorem dX6_replay_29 : decode cX6_replay 29 = .ok (.iload_n 3, 1) := by decide +kernel
theorem dX6_replay_30 : decode cX6_replay 30 = .ok (.invokevirtual 188, 3) := by decide +kernel
theorem dX6_replay_33 : decode cX6_replay 33 = .ok (.iload_n 2, 1) := by decide +kernel
theorem dX6_replay_34 : decode cX6_replay 34 = .ok (.invokevirtual 199, 3) := by decide +kernel
theorem dX6_replay_37 : decode cX6_replay 37 = .ok (.istore_n 2, 1) := by decide +kernel
theorem dX6_replay_38 : decode cX6_replay 38 = .ok (.iinc 3 1, 3) := by decide +kernel
theorem dX6_replay_41 : decode cX6_replay 41 = .ok (.goto (-19), 3) := by decide +kernel
theorem dX6_replay_44 : decode cX6_replay 44 = .ok (.iload_n 2, 1) := by decide +kernel
theorem dX6_replay_45 : decode cX6_replay 45 = .ok (.ireturn, 1) := by decide +kernel
theorem dX6_count_0 : decode cX6_count 0 = .ok (.iload_n 1, 1) := by decide +kernel
theorem dX6_count_1 : decode cX6_count 1 = .ok (.tableswitch 60 0 4 #[35, 40, 45, 50, 55], 35) := by decide +kernel
theorem dX6_count_36 : decode cX6_count 36 = .ok (.aload_n 0, 1) := by decide +kernel
theorem dX6_count_37 : decode cX6_count 37 = .ok (.getfield 47, 3) := by decide +kernel
theorem dX6_count_40 : decode cX6_count 40 = .ok (.ireturn, 1) := by decide +kernel
theorem dX6_count_41 : decode cX6_count 41 = .ok (.aload_n 0, 1) := by decide +kernel
theorem dX6_count_42 : decode cX6_count 42 = .ok (.getfield 51, 3) := by decide +kernel
theorem dX6_count_45 : decode cX6_count 45 = .ok (.ireturn, 1) := by decide +kernel
theorem dX6_count_46 : decode cX6_count 46 = .ok (.aload_n 0, 1) := by decide +kernel
theorem dX6_count_47 : decode cX6_count 47 = .ok (.getfield 54, 3) := by decide +kernel
theorem dX6_count_50 : decode cX6_count 50 = .ok (.ireturn, 1) := by decide +kernel
theorem dX6_count_51 : decode cX6_count 51 = .ok (.aload_n 0, 1) := by decide +kernel
theorem dX6_count_52 : decode cX6_count 52 = .ok (.getfield 57, 3) := by decide +kernel
theorem dX6_count_55 : decode cX6_count 55 = .ok (.ireturn, 1) := by decide +kernel
theorem dX6_count_56 : decode cX6_count 56 = .ok (.aload_n 0, 1) := by decide +kernel
theorem dX6_count_57 : decode cX6_count 57 = .ok (.getfield 60, 3) := by decide +kernel
theorem dX6_count_60 : decode cX6_count 60 = .ok (.ireturn, 1) := by decide +kernel
theorem dX6_count_61 : decode cX6_count 61 = .ok (.bipush (-2), 2) := by decide +kernel
theorem dX6_count_63 : decode cX6_count 63 = .ok (.ireturn, 1) := by decide +kernel
theorem dX6_isBelow_0 : decode cX6_isBelow 0 = .ok (.iload_n 0, 1) := by decide +kernel
theorem dX6_isBelow_1 : decode cX6_isBelow 1 = .ok (.ifCond .lt 12, 3) := by decide +kernel
theorem dX6_isBelow_4 : decode cX6_isBelow 4 = .ok (.iload_n 0, 1) := by decide +kernel
theorem dX6_isBelow_5 : decode cX6_isBelow 5 = .ok (.iload_n 1, 1) := by decide +kernel
theorem dX6_isBelow_6 : decode cX6_isBelow 6 = .ok (.if_icmp .ge 7, 3) := by decide +kernel
theorem dX6_isBelow_9 : decode cX6_isBelow 9 = .ok (.iconst 1, 1) := by decide +kernel
theorem dX6_isBelow_10 : decode cX6_isBelow 10 = .ok (.goto 4, 3) := by decide +kernel
theorem dX6_isBelow_13 : decode cX6_isBelow 13 = .ok (.iconst 0, 1) := by decide +kernel
theorem dX6_isBelow_14 : decode cX6_isBelow 14 = .ok (.ireturn, 1) := by decide +kernel
theorem dX6_isBuild_0 : decode cX6_isBuild 0 = .ok (.iload_n 0, 1) := by decide +kernel
theorem dX6_isBuild_1 : decode cX6_isBuild 1 = .ok (.ifCond .lt 14, 3) := by decide +kernel
theorem dX6_isBuild_4 : decode cX6_isBuild 4 = .ok (.iload_n 0, 1) := by decide +kernel
theorem dX6_isBuild_5 : decode cX6_isBuild 5 = .ok (.sipush 1023, 3) := by decide +kernel
theorem dX6_isBuild_8 : decode cX6_isBuild 8 = .ok (.if_icmp .gt 7, 3) := by decide +kernel
theorem dX6_isBuild_11 : decode cX6_isBuild 11 = .ok (.iconst 1, 1) := by decide +kernel
theorem dX6_isBuild_12 : decode cX6_isBuild 12 = .ok (.goto 4, 3) := by decide +kernel
theorem dX6_isBuild_15 : decode cX6_isBuild 15 = .ok (.iconst 0, 1) := by decide +kernel
theorem dX6_isBuild_16 : decode cX6_isBuild 16 = .ok (.ireturn, 1) := by decide +kernel
theorem dX6_isActWith_0 : decode cX6_isActWith 0 = .ok (.iload_n 0, 1) := by decide +kernel
theorem dX6_isActWith_1 : decode cX6_isActWith 1 = .ok (.tableswitch 40 6 8 #[27, 34, 34], 27) := by decide +kernel
theorem dX6_isActWith_28 : decode cX6_isActWith 28 = .ok (.iload_n 1, 1) := by decide +kernel
theorem dX6_isActWith_29 : decode cX6_isActWith 29 = .ok (.bipush 8, 2) := by decide +kernel
theorem dX6_isActWith_31 : decode cX6_isActWith 31 = .ok (.invokestatic 88, 3) := by decide +kernel
theorem dX6_isActWith_34 : decode cX6_isActWith 34 = .ok (.ireturn, 1) := by decide +kernel
theorem dX6_isActWith_35 : decode cX6_isActWith 35 = .ok (.iload_n 1, 1) := by decide +kernel
theorem dX6_isActWith_36 : decode cX6_isActWith 36 = .ok (.iconst 4, 1) := by decide +kernel
theorem dX6_isActWith_37 : decode cX6_isActWith 37 = .ok (.invokestatic 88, 3) := by decide +kernel
theorem dX6_isActWith_40 : decode cX6_isActWith 40 = .ok (.ireturn, 1) := by decide +kernel
theorem dX6_isActWith_41 : decode cX6_isActWith 41 = .ok (.iload_n 0, 1) := by decide +kernel
theorem dX6_isActWith_42 : decode cX6_isActWith 42 = .ok (.bipush 9, 2) := by decide +kernel
theorem dX6_isActWith_44 : decode cX6_isActWith 44 = .ok (.invokestatic 88, 3) := by decide +kernel
theorem dX6_isActWith_47 : decode cX6_isActWith 47 = .ok (.ireturn, 1) := by decide +kernel
theorem dX6_answerOfRule_0 : decode cX6_answerOfRule 0 = .ok (.bipush (-10), 2) := by decide +kernel
theorem dX6_answerOfRule_2 : decode cX6_answerOfRule 2 = .ok (.iload_n 0, 1) := by decide +kernel
theorem dX6_answerOfRule_3 : decode cX6_answerOfRule 3 = .ok (.isub, 1) := by decide +kernel
theorem dX6_answerOfRule_4 : decode cX6_answerOfRule 4 = .ok (.ireturn, 1) := by decide +kernel
theorem dX6_editionAt_0 : decode cX6_editionAt 0 = .ok (.iload_n 1, 1) := by decide +kernel
theorem dX6_editionAt_1 : decode cX6_editionAt 1 = .ok (.aload_n 0, 1) := by decide +kernel
theorem dX6_editionAt_2 : decode cX6_editionAt 2 = .ok (.getfield 11, 3) := by decide +kernel
theorem dX6_editionAt_5 : decode cX6_editionAt 5 = .ok (.arraylength, 1) := by decide +kernel
theorem dX6_editionAt_6 : decode cX6_editionAt 6 = .ok (.invokestatic 88, 3) := by decide +kernel
theorem dX6_editionAt_9 : decode cX6_editionAt 9 = .ok (.ifCond .eq 12, 3) := by decide +kernel
theorem dX6_editionAt_12 : decode cX6_editionAt 12 = .ok (.aload_n 0, 1) := by decide +kernel
theorem dX6_editionAt_13 : decode cX6_editionAt 13 = .ok (.getfield 11, 3) := by decide +kernel
theorem dX6_editionAt_16 : decode cX6_editionAt 16 = .ok (.iload_n 1, 1) := by decide +kernel
theorem dX6_editionAt_17 : decode cX6_editionAt 17 = .ok (.aaload, 1) := by decide +kernel
theorem dX6_editionAt_18 : decode cX6_editionAt 18 = .ok (.goto 4, 3) := by decide +kernel
theorem dX6_editionAt_21 : decode cX6_editionAt 21 = .ok (.aconst_null, 1) := by decide +kernel
theorem dX6_editionAt_22 : decode cX6_editionAt 22 = .ok (.areturn, 1) := by decide +kernel
theorem dX6_nodeAt_0 : decode cX6_nodeAt 0 = .ok (.iload_n 1, 1) := by decide +kernel
theorem dX6_nodeAt_1 : decode cX6_nodeAt 1 = .ok (.aload_n 0, 1) := by decide +kernel
theorem dX6_nodeAt_2 : decode cX6_nodeAt 2 = .ok (.getfield 17, 3) := by decide +kernel
theorem dX6_nodeAt_5 : decode cX6_nodeAt 5 = .ok (.arraylength, 1) := by decide +kernel
theorem dX6_nodeAt_6 : decode cX6_nodeAt 6 = .ok (.invokestatic 88, 3) := by decide +kernel
theorem dX6_nodeAt_9 : decode cX6_nodeAt 9 = .ok (.ifCond .eq 12, 3) := by decide +kernel
theorem dX6_nodeAt_12 : decode cX6_nodeAt 12 = .ok (.aload_n 0, 1) := by decide +kernel
theorem dX6_nodeAt_13 : decode cX6_nodeAt 13 = .ok (.getfield 17, 3) := by decide +kernel
theorem dX6_nodeAt_16 : decode cX6_nodeAt 16 = .ok (.iload_n 1, 1) := by decide +kernel
theorem dX6_nodeAt_17 : decode cX6_nodeAt 17 = .ok (.aaload, 1) := by decide +kernel
theorem dX6_nodeAt_18 : decode cX6_nodeAt 18 = .ok (.goto 4, 3) := by decide +kernel
theorem dX6_nodeAt_21 : decode cX6_nodeAt 21 = .ok (.aconst_null, 1) := by decide +kernel
theorem dX6_nodeAt_22 : decode cX6_nodeAt 22 = .ok (.areturn, 1) := by decide +kernel
theorem dX6_contractAt_0 : decode cX6_contractAt 0 = .ok (.iload_n 1, 1) := by decide +kernel
theorem dX6_contractAt_1 : decode cX6_contractAt 1 = .ok (.aload_n 0, 1) := by decide +kernel
theorem dX6_contractAt_2 : decode cX6_contractAt 2 = .ok (.getfield 23, 3) := by decide +kernel
theorem dX6_contractAt_5 : decode cX6_contractAt 5 = .ok (.arraylength, 1) := by decide +kernel
theorem dX6_contractAt_6 : decode cX6_contractAt 6 = .ok (.invokestatic 88, 3) := by decide +kernel
theorem dX6_contractAt_9 : decode cX6_contractAt 9 = .ok (.ifCond .eq 12, 3) := by decide +kernel
theorem dX6_contractAt_12 : decode cX6_contractAt 12 = .ok (.aload_n 0, 1) := by decide +kernel
theorem dX6_contractAt_13 : decode cX6_contractAt 13 = .ok (.getfield 23, 3) := by decide +kernel
theorem dX6_contractAt_16 : decode cX6_contractAt 16 = .ok (.iload_n 1, 1) := by decide +kernel
theorem dX6_contractAt_17 : decode cX6_contractAt 17 = .ok (.aaload, 1) := by decide +kernel
theorem dX6_contractAt_18 : decode cX6_contractAt 18 = .ok (.goto 4, 3) := by decide +kernel
theorem dX6_contractAt_21 : decode cX6_contractAt 21 = .ok (.aconst_null, 1) := by decide +kernel
theorem dX6_contractAt_22 : decode cX6_contractAt 22 = .ok (.areturn, 1) := by decide +kernel
theorem dX6_entryAt_0 : decode cX6_entryAt 0 = .ok (.iload_n 1, 1) := by decide +kernel
theorem dX6_entryAt_1 : decode cX6_entryAt 1 = .ok (.aload_n 0, 1) := by decide +kernel
theorem dX6_entryAt_2 : decode cX6_entryAt 2 = .ok (.getfield 29, 3) := by decide +kernel
theorem dX6_entryAt_5 : decode cX6_entryAt 5 = .ok (.arraylength, 1) := by decide +kernel
theorem dX6_entryAt_6 : decode cX6_entryAt 6 = .ok (.invokestatic 88, 3) := by decide +kernel
theorem dX6_entryAt_9 : decode cX6_entryAt 9 = .ok (.ifCond .eq 12, 3) := by decide +kernel
theorem dX6_entryAt_12 : decode cX6_entryAt 12 = .ok (.aload_n 0, 1) := by decide +kernel
theorem dX6_entryAt_13 : decode cX6_entryAt 13 = .ok (.getfield 29, 3) := by decide +kernel
theorem dX6_entryAt_16 : decode cX6_entryAt 16 = .ok (.iload_n 1, 1) := by decide +kernel
theorem dX6_entryAt_17 : decode cX6_entryAt 17 = .ok (.aaload, 1) := by decide +kernel
theorem dX6_entryAt_18 : decode cX6_entryAt 18 = .ok (.goto 4, 3) := by decide +kernel
theorem dX6_entryAt_21 : decode cX6_entryAt 21 = .ok (.aconst_null, 1) := by decide +kernel
theorem dX6_entryAt_22 : decode cX6_entryAt 22 = .ok (.areturn, 1) := by decide +kernel
theorem dX6_highestProposed_0 : decode cX6_highestProposed 0 = .ok (.iconst 0, 1) := by decide +kernel
theorem dX6_highestProposed_1 : decode cX6_highestProposed 1 = .ok (.istore_n 1, 1) := by decide +kernel
theorem dX6_highestProposed_2 : decode cX6_highestProposed 2 = .ok (.aload_n 0, 1) := by decide +kernel
theorem dX6_highestProposed_3 : decode cX6_highestProposed 3 = .ok (.getfield 11, 3) := by decide +kernel
theorem dX6_highestProposed_6 : decode cX6_highestProposed 6 = .ok (.astore_n 2, 1) := by decide +kernel
theorem dX6_highestProposed_7 : decode cX6_highestProposed 7 = .ok (.aload_n 2, 1) := by decide +kernel
theorem dX6_highestProposed_8 : decode cX6_highestProposed 8 = .ok (.arraylength, 1) := by decide +kernel
theorem dX6_highestProposed_9 : decode cX6_highestProposed 9 = .ok (.istore_n 3, 1) := by decide +kernel
theorem dX6_highestProposed_10 : decode cX6_highestProposed 10 = .ok (.iconst 0, 1) := by decide +kernel
theorem dX6_highestProposed_11 : decode cX6_highestProposed 11 = .ok (.istore 4, 2) := by decide +kernel
theorem dX6_highestProposed_13 : decode cX6_highestProposed 13 = .ok (.iload 4, 2) := by decide +kernel
theorem dX6_highestProposed_15 : decode cX6_highestProposed 15 = .ok (.iload_n 3, 1) := by decide +kernel
theorem dX6_highestProposed_16 : decode cX6_highestProposed 16 = .ok (.if_icmp .ge 30, 3) := by decide +kernel
theorem dX6_highestProposed_19 : decode cX6_highestProposed 19 = .ok (.aload_n 2, 1) := by decide +kernel
theorem dX6_highestProposed_20 : decode cX6_highestProposed 20 = .ok (.iload 4, 2) := by decide +kernel
theorem dX6_highestProposed_22 : decode cX6_highestProposed 22 = .ok (.aaload, 1) := by decide +kernel
theorem dX6_highestProposed_23 : decode cX6_highestProposed 23 = .ok (.astore 5, 2) := by decide +kernel
theorem dX6_highestProposed_25 : decode cX6_highestProposed 25 = .ok (.aload 5, 2) := by decide +kernel
theorem dX6_highestProposed_27 : decode cX6_highestProposed 27 = .ok (.ifnull 13, 3) := by decide +kernel
theorem dX6_highestProposed_30 : decode cX6_highestProposed 30 = .ok (.iload_n 1, 1) := by decide +kernel
theorem dX6_highestProposed_31 : decode cX6_highestProposed 31 = .ok (.aload 5, 2) := by decide +kernel
theorem dX6_highestProposed_33 : decode cX6_highestProposed 33 = .ok (.getfield 73, 3) := by decide +kernel
theorem dX6_highestProposed_36 : decode cX6_highestProposed 36 = .ok (.invokestatic 203, 3) := by decide +kernel
theorem dX6_highestProposed_39 : decode cX6_highestProposed 39 = .ok (.istore_n 1, 1) := by decide +kernel
theorem dX6_highestProposed_40 : decode cX6_highestProposed 40 = .ok (.iinc 4 1, 3) := by decide +kernel
theorem dX6_highestProposed_43 : decode cX6_highestProposed 43 = .ok (.goto (-30), 3) := by decide +kernel
theorem dX6_highestProposed_46 : decode cX6_highestProposed 46 = .ok (.iload_n 1, 1) := by decide +kernel
theorem dX6_highestProposed_47 : decode cX6_highestProposed 47 = .ok (.ireturn, 1) := by decide +kernel
theorem dX6_inForceAt_0 : decode cX6_inForceAt 0 = .ok (.aload_n 0, 1) := by decide +kernel
theorem dX6_inForceAt_1 : decode cX6_inForceAt 1 = .ok (.getfield 36, 3) := by decide +kernel
theorem dX6_inForceAt_4 : decode cX6_inForceAt 4 = .ok (.astore_n 2, 1) := by decide +kernel
theorem dX6_inForceAt_5 : decode cX6_inForceAt 5 = .ok (.aload_n 0, 1) := by decide +kernel
theorem dX6_inForceAt_6 : decode cX6_inForceAt 6 = .ok (.getfield 11, 3) := by decide +kernel
theorem dX6_inForceAt_9 : decode cX6_inForceAt 9 = .ok (.astore_n 3, 1) := by decide +kernel
theorem dX6_inForceAt_10 : decode cX6_inForceAt 10 = .ok (.aload_n 3, 1) := by decide +kernel
theorem dX6_inForceAt_11 : decode cX6_inForceAt 11 = .ok (.arraylength, 1) := by decide +kernel
theorem dX6_inForceAt_12 : decode cX6_inForceAt 12 = .ok (.istore 4, 2) := by decide +kernel
theorem dX6_inForceAt_14 : decode cX6_inForceAt 14 = .ok (.iconst 0, 1) := by decide +kernel
theorem dX6_inForceAt_15 : decode cX6_inForceAt 15 = .ok (.istore 5, 2) := by decide +kernel
theorem dX6_inForceAt_17 : decode cX6_inForceAt 17 = .ok (.iload 5, 2) := by decide +kernel
theorem dX6_inForceAt_19 : decode cX6_inForceAt 19 = .ok (.iload 4, 2) := by decide +kernel
theorem dX6_inForceAt_21 : decode cX6_inForceAt 21 = .ok (.if_icmp .ge 53, 3) := by decide +kernel
theorem dX6_inForceAt_24 : decode cX6_inForceAt 24 = .ok (.aload_n 3, 1) := by decide +kernel
theorem dX6_inForceAt_25 : decode cX6_inForceAt 25 = .ok (.iload 5, 2) := by decide +kernel
theorem dX6_inForceAt_27 : decode cX6_inForceAt 27 = .ok (.aaload, 1) := by decide +kernel
theorem dX6_inForceAt_28 : decode cX6_inForceAt 28 = .ok (.astore 6, 2) := by decide +kernel
theorem dX6_inForceAt_30 : decode cX6_inForceAt 30 = .ok (.aload 6, 2) := by decide +kernel
theorem dX6_inForceAt_32 : decode cX6_inForceAt 32 = .ok (.ifnull 36, 3) := by decide +kernel
theorem dX6_inForceAt_35 : decode cX6_inForceAt 35 = .ok (.aload 6, 2) := by decide +kernel
theorem dX6_inForceAt_37 : decode cX6_inForceAt 37 = .ok (.getfield 74, 3) := by decide +kernel
theorem dX6_inForceAt_40 : decode cX6_inForceAt 40 = .ok (.iconst 2, 1) := by decide +kernel
theorem dX6_inForceAt_41 : decode cX6_inForceAt 41 = .ok (.if_icmp .ne 27, 3) := by decide +kernel
theorem dX6_inForceAt_44 : decode cX6_inForceAt 44 = .ok (.aload 6, 2) := by decide +kernel
theorem dX6_inForceAt_46 : decode cX6_inForceAt 46 = .ok (.getfield 73, 3) := by decide +kernel
theorem dX6_inForceAt_49 : decode cX6_inForceAt 49 = .ok (.iload_n 1, 1) := by decide +kernel
theorem dX6_inForceAt_50 : decode cX6_inForceAt 50 = .ok (.if_icmp .gt 18, 3) := by decide +kernel
theorem dX6_inForceAt_53 : decode cX6_inForceAt 53 = .ok (.aload 6, 2) := by decide +kernel
theorem dX6_inForceAt_55 : decode cX6_inForceAt 55 = .ok (.getfield 73, 3) := by decide +kernel
theorem dX6_inForceAt_58 : decode cX6_inForceAt 58 = .ok (.aload_n 2, 1) := by decide +kernel
theorem dX6_inForceAt_59 : decode cX6_inForceAt 59 = .ok (.getfield 73, 3) := by decide +kernel
theorem dX6_inForceAt_62 : decode cX6_inForceAt 62 = .ok (.if_icmp .le 6, 3) := by decide +kernel
theorem dX6_inForceAt_65 : decode cX6_inForceAt 65 = .ok (.aload 6, 2) := by decide +kernel
theorem dX6_inForceAt_67 : decode cX6_inForceAt 67 = .ok (.astore_n 2, 1) := by decide +kernel
theorem dX6_inForceAt_68 : decode cX6_inForceAt 68 = .ok (.iinc 5 1, 3) := by decide +kernel
theorem dX6_inForceAt_71 : decode cX6_inForceAt 71 = .ok (.goto (-54), 3) := by decide +kernel
theorem dX6_inForceAt_74 : decode cX6_inForceAt 74 = .ok (.aload_n 2, 1) := by decide +kernel
theorem dX6_inForceAt_75 : decode cX6_inForceAt 75 = .ok (.areturn, 1) := by decide +kernel
theorem dX6_decideProposals_0 : decode cX6_decideProposals 0 = .ok (.aload_n 0, 1) := by decide +kernel
theorem dX6_decideProposals_1 : decode cX6_decideProposals 1 = .ok (.getfield 11, 3) := by decide +kernel
theorem dX6_decideProposals_4 : decode cX6_decideProposals 4 = .ok (.astore_n 1, 1) := by decide +kernel
theorem dX6_decideProposals_5 : decode cX6_decideProposals 5 = .ok (.aload_n 1, 1) := by decide +kernel
theorem dX6_decideProposals_6 : decode cX6_decideProposals 6 = .ok (.arraylength, 1) := by decide +kernel
theorem dX6_decideProposals_7 : decode cX6_decideProposals 7 = .ok (.istore_n 2, 1) := by decide +kernel
theorem dX6_decideProposals_8 : decode cX6_decideProposals 8 = .ok (.iconst 0, 1) := by decide +kernel
theorem dX6_decideProposals_9 : decode cX6_decideProposals 9 = .ok (.istore_n 3, 1) := by decide +kernel
theorem dX6_decideProposals_10 : decode cX6_decideProposals 10 = .ok (.iload_n 3, 1) := by decide +kernel
theorem dX6_decideProposals_11 : decode cX6_decideProposals 11 = .ok (.iload_n 2, 1) := by decide +kernel
theorem dX6_decideProposals_12 : decode cX6_decideProposals 12 = .ok (.if_icmp .ge 62, 3) := by decide +kernel
theorem dX6_decideProposals_15 : decode cX6_decideProposals 15 = .ok (.aload_n 1, 1) := by decide +kernel
theorem dX6_decideProposals_16 : decode cX6_decideProposals 16 = .ok (.iload_n 3, 1) := by decide +kernel
theorem dX6_decideProposals_17 : decode cX6_decideProposals 17 = .ok (.aaload, 1) := by decide +kernel
theorem dX6_decideProposals_18 : decode cX6_decideProposals 18 = .ok (.astore 4, 2) := by decide +kernel
theorem dX6_decideProposals_20 : decode cX6_decideProposals 20 = .ok (.aload 4, 2) := by decide +kernel
theorem dX6_decideProposals_22 : decode cX6_decideProposals 22 = .ok (.ifnull 46, 3) := by decide +kernel
theorem dX6_decideProposals_25 : decode cX6_decideProposals 25 = .ok (.aload 4, 2) := by decide +kernel
theorem dX6_decideProposals_27 : decode cX6_decideProposals 27 = .ok (.getfield 74, 3) := by decide +kernel
theorem dX6_decideProposals_30 : decode cX6_decideProposals 30 = .ok (.iconst 1, 1) := by decide +kernel
theorem dX6_decideProposals_31 : decode cX6_decideProposals 31 = .ok (.if_icmp .ne 37, 3) := by decide +kernel
theorem dX6_decideProposals_34 : decode cX6_decideProposals 34 = .ok (.aload 4, 2) := by decide +kernel
theorem dX6_decideProposals_36 : decode cX6_decideProposals 36 = .ok (.getfield 73, 3) := by decide +kernel
theorem dX6_decideProposals_39 : decode cX6_decideProposals 39 = .ok (.aload_n 0, 1) := by decide +kernel
theorem dX6_decideProposals_40 : decode cX6_decideProposals 40 = .ok (.getfield 60, 3) := by decide +kernel
theorem dX6_decideProposals_43 : decode cX6_decideProposals 43 = .ok (.if_icmp .ne 25, 3) := by decide +kernel
theorem dX6_decideProposals_46 : decode cX6_decideProposals 46 = .ok (.aload 4, 2) := by decide +kernel
theorem dX6_decideProposals_48 : decode cX6_decideProposals 48 = .ok (.aload_n 0, 1) := by decide +kernel
theorem dX6_decideProposals_49 : decode cX6_decideProposals 49 = .ok (.aload 4, 2) := by decide +kernel
theorem dX6_decideProposals_51 : decode cX6_decideProposals 51 = .ok (.getfield 85, 3) := by decide +kernel
theorem dX6_decideProposals_54 : decode cX6_decideProposals 54 = .ok (.invokevirtual 208, 3) := by decide +kernel
theorem dX6_decideProposals_57 : decode cX6_decideProposals 57 = .ok (.ifCond .eq 7, 3) := by decide +kernel
theorem dX6_decideProposals_60 : decode cX6_decideProposals 60 = .ok (.iconst 2, 1) := by decide +kernel
theorem dX6_decideProposals_61 : decode cX6_decideProposals 61 = .ok (.goto 4, 3) := by decide +kernel
theorem dX6_decideProposals_64 : decode cX6_decideProposals 64 = .ok (.iconst 3, 1) := by decide +kernel
theorem dX6_decideProposals_65 : decode cX6_decideProposals 65 = .ok (.putfield 74, 3) := by decide +kernel
theorem dX6_decideProposals_68 : decode cX6_decideProposals 68 = .ok (.iinc 3 1, 3) := by decide +kernel
theorem dX6_decideProposals_71 : decode cX6_decideProposals 71 = .ok (.goto (-61), 3) := by decide +kernel
theorem dX6_decideProposals_74 : decode cX6_decideProposals 74 = .ok (.return_, 1) := by decide +kernel
theorem dX6_isAgreed_0 : decode cX6_isAgreed 0 = .ok (.iconst 0, 1) := by decide +kernel
theorem dX6_isAgreed_1 : decode cX6_isAgreed 1 = .ok (.istore_n 2, 1) := by decide +kernel
theorem dX6_isAgreed_2 : decode cX6_isAgreed 2 = .ok (.iconst 0, 1) := by decide +kernel
theorem dX6_isAgreed_3 : decode cX6_isAgreed 3 = .ok (.istore_n 3, 1) := by decide +kernel
theorem dX6_isAgreed_4 : decode cX6_isAgreed 4 = .ok (.aload_n 0, 1) := by decide +kernel
theorem dX6_isAgreed_5 : decode cX6_isAgreed 5 = .ok (.getfield 17, 3) := by decide +kernel
theorem dX6_isAgreed_8 : decode cX6_isAgreed 8 = .ok (.astore 4, 2) := by decide +kernel
theorem dX6_isAgreed_10 : decode cX6_isAgreed 10 = .ok (.aload 4, 2) := by decide +kernel
theorem dX6_isAgreed_12 : decode cX6_isAgreed 12 = .ok (.arraylength, 1) := by decide +kernel
theorem dX6_isAgreed_13 : decode cX6_isAgreed 13 = .ok (.istore 5, 2) := by decide +kernel
theorem dX6_isAgreed_15 : decode cX6_isAgreed 15 = .ok (.iconst 0, 1) := by decide +kernel
theorem dX6_isAgreed_16 : decode cX6_isAgreed 16 = .ok (.istore 6, 2) := by decide +kernel
theorem dX6_isAgreed_18 : decode cX6_isAgreed 18 = .ok (.iload 6, 2) := by decide +kernel
theorem dX6_isAgreed_20 : decode cX6_isAgreed 20 = .ok (.iload 5, 2) := by decide +kernel
theorem dX6_isAgreed_22 : decode cX6_isAgreed 22 = .ok (.if_icmp .ge 54, 3) := by decide +kernel
theorem dX6_isAgreed_25 : decode cX6_isAgreed 25 = .ok (.aload 4, 2) := by decide +kernel
theorem dX6_isAgreed_27 : decode cX6_isAgreed 27 = .ok (.iload 6, 2) := by decide +kernel
theorem dX6_isAgreed_29 : decode cX6_isAgreed 29 = .ok (.aaload, 1) := by decide +kernel
theorem dX6_isAgreed_30 : decode cX6_isAgreed 30 = .ok (.astore 7, 2) := by decide +kernel
theorem dX6_isAgreed_32 : decode cX6_isAgreed 32 = .ok (.aload 7, 2) := by decide +kernel
theorem dX6_isAgreed_34 : decode cX6_isAgreed 34 = .ok (.ifnull 36, 3) := by decide +kernel
theorem dX6_isAgreed_37 : decode cX6_isAgreed 37 = .ok (.iload_n 2, 1) := by decide +kernel
theorem dX6_isAgreed_38 : decode cX6_isAgreed 38 = .ok (.aload 7, 2) := by decide +kernel
theorem dX6_isAgreed_40 : decode cX6_isAgreed 40 = .ok (.getfield 211, 3) := by decide +kernel
theorem dX6_isAgreed_43 : decode cX6_isAgreed 43 = .ok (.iadd, 1) := by decide +kernel
theorem dX6_isAgreed_44 : decode cX6_isAgreed 44 = .ok (.istore_n 2, 1) := by decide +kernel
theorem dX6_isAgreed_45 : decode cX6_isAgreed 45 = .ok (.aload 7, 2) := by decide +kernel
theorem dX6_isAgreed_47 : decode cX6_isAgreed 47 = .ok (.iload_n 1, 1) := by decide +kernel
theorem dX6_isAgreed_48 : decode cX6_isAgreed 48 = .ok (.invokevirtual 214, 3) := by decide +kernel
theorem dX6_isAgreed_51 : decode cX6_isAgreed 51 = .ok (.ifCond .eq 19, 3) := by decide +kernel
theorem dX6_isAgreed_54 : decode cX6_isAgreed 54 = .ok (.aload 7, 2) := by decide +kernel
theorem dX6_isAgreed_56 : decode cX6_isAgreed 56 = .ok (.invokevirtual 113, 3) := by decide +kernel
theorem dX6_isAgreed_59 : decode cX6_isAgreed 59 = .ok (.ifCond .ne 11, 3) := by decide +kernel
theorem dX6_isAgreed_62 : decode cX6_isAgreed 62 = .ok (.iload_n 3, 1) := by decide +kernel
theorem dX6_isAgreed_63 : decode cX6_isAgreed 63 = .ok (.aload 7, 2) := by decide +kernel
theorem dX6_isAgreed_65 : decode cX6_isAgreed 65 = .ok (.getfield 211, 3) := by decide +kernel
theorem dX6_isAgreed_68 : decode cX6_isAgreed 68 = .ok (.iadd, 1) := by decide +kernel
theorem dX6_isAgreed_69 : decode cX6_isAgreed 69 = .ok (.istore_n 3, 1) := by decide +kernel
theorem dX6_isAgreed_70 : decode cX6_isAgreed 70 = .ok (.iinc 6 1, 3) := by decide +kernel
theorem dX6_isAgreed_73 : decode cX6_isAgreed 73 = .ok (.goto (-55), 3) := by decide +kernel
theorem dX6_isAgreed_76 : decode cX6_isAgreed 76 = .ok (.iconst 3, 1) := by decide +kernel
theorem dX6_isAgreed_77 : decode cX6_isAgreed 77 = .ok (.iload_n 3, 1) := by decide +kernel
theorem dX6_isAgreed_78 : decode cX6_isAgreed 78 = .ok (.imul, 1) := by decide +kernel
theorem dX6_isAgreed_79 : decode cX6_isAgreed 79 = .ok (.iconst 2, 1) := by decide +kernel
theorem dX6_isAgreed_80 : decode cX6_isAgreed 80 = .ok (.iload_n 2, 1) := by decide +kernel
theorem dX6_isAgreed_81 : decode cX6_isAgreed 81 = .ok (.imul, 1) := by decide +kernel
theorem dX6_isAgreed_82 : decode cX6_isAgreed 82 = .ok (.if_icmp .lt 7, 3) := by decide +kernel
theorem dX6_isAgreed_85 : decode cX6_isAgreed 85 = .ok (.iconst 1, 1) := by decide +kernel
theorem dX6_isAgreed_86 : decode cX6_isAgreed 86 = .ok (.goto 4, 3) := by decide +kernel
theorem dX6_isAgreed_89 : decode cX6_isAgreed 89 = .ok (.iconst 0, 1) := by decide +kernel
theorem dX6_isAgreed_90 : decode cX6_isAgreed 90 = .ok (.ireturn, 1) := by decide +kernel
theorem dX6_haltLackingNodes_0 : decode cX6_haltLackingNodes 0 = .ok (.aload_n 0, 1) := by decide +kernel
theorem dX6_haltLackingNodes_1 : decode cX6_haltLackingNodes 1 = .ok (.aload_n 0, 1) := by decide +kernel
theorem dX6_haltLackingNodes_2 : decode cX6_haltLackingNodes 2 = .ok (.getfield 60, 3) := by decide +kernel
theorem dX6_haltLackingNodes_5 : decode cX6_haltLackingNodes 5 = .ok (.invokevirtual 134, 3) := by decide +kernel
theorem dX6_haltLackingNodes_8 : decode cX6_haltLackingNodes 8 = .ok (.getfield 85, 3) := by decide +kernel
theorem dX6_haltLackingNodes_11 : decode cX6_haltLackingNodes 11 = .ok (.istore_n 1, 1) := by decide +kernel
theorem dX6_haltLackingNodes_12 : decode cX6_haltLackingNodes 12 = .ok (.aload_n 0, 1) := by decide +kernel
theorem dX6_haltLackingNodes_13 : decode cX6_haltLackingNodes 13 = .ok (.getfield 17, 3) := by decide +kernel
theorem dX6_haltLackingNodes_16 : decode cX6_haltLackingNodes 16 = .ok (.astore_n 2, 1) := by decide +kernel
theorem dX6_haltLackingNodes_17 : decode cX6_haltLackingNodes 17 = .ok (.aload_n 2, 1) := by decide +kernel
theorem dX6_haltLackingNodes_18 : decode cX6_haltLackingNodes 18 = .ok (.arraylength, 1) := by decide +kernel
theorem dX6_haltLackingNodes_19 : decode cX6_haltLackingNodes 19 = .ok (.istore_n 3, 1) := by decide +kernel
theorem dX6_haltLackingNodes_20 : decode cX6_haltLackingNodes 20 = .ok (.iconst 0, 1) := by decide +kernel
theorem dX6_haltLackingNodes_21 : decode cX6_haltLackingNodes 21 = .ok (.istore 4, 2) := by decide +kernel
theorem dX6_haltLackingNodes_23 : decode cX6_haltLackingNodes 23 = .ok (.iload 4, 2) := by decide +kernel
theorem dX6_haltLackingNodes_25 : decode cX6_haltLackingNodes 25 = .ok (.iload_n 3, 1) := by decide +kernel
theorem dX6_haltLackingNodes_26 : decode cX6_haltLackingNodes 26 = .ok (.if_icmp .ge 46, 3) := by decide +kernel
theorem dX6_haltLackingNodes_29 : decode cX6_haltLackingNodes 29 = .ok (.aload_n 2, 1) := by decide +kernel
theorem dX6_haltLackingNodes_30 : decode cX6_haltLackingNodes 30 = .ok (.iload 4, 2) := by decide +kernel
theorem dX6_haltLackingNodes_32 : decode cX6_haltLackingNodes 32 = .ok (.aaload, 1) := by decide +kernel
theorem dX6_haltLackingNodes_33 : decode cX6_haltLackingNodes 33 = .ok (.astore 5, 2) := by decide +kernel
theorem dX6_haltLackingNodes_35 : decode cX6_haltLackingNodes 35 = .ok (.aload 5, 2) := by decide +kernel
theorem dX6_haltLackingNodes_37 : decode cX6_haltLackingNodes 37 = .ok (.ifnull 29, 3) := by decide +kernel
theorem dX6_haltLackingNodes_40 : decode cX6_haltLackingNodes 40 = .ok (.aload 5, 2) := by decide +kernel
theorem dX6_haltLackingNodes_42 : decode cX6_haltLackingNodes 42 = .ok (.invokevirtual 113, 3) := by decide +kernel
theorem dX6_haltLackingNodes_45 : decode cX6_haltLackingNodes 45 = .ok (.ifCond .ne 21, 3) := by decide +kernel
theorem dX6_haltLackingNodes_48 : decode cX6_haltLackingNodes 48 = .ok (.aload 5, 2) := by decide +kernel
theorem dX6_haltLackingNodes_50 : decode cX6_haltLackingNodes 50 = .ok (.iload_n 1, 1) := by decide +kernel
theorem dX6_haltLackingNodes_51 : decode cX6_haltLackingNodes 51 = .ok (.invokevirtual 217, 3) := by decide +kernel
theorem dX6_haltLackingNodes_54 : decode cX6_haltLackingNodes 54 = .ok (.ifCond .ne 12, 3) := by decide +kernel
theorem dX6_haltLackingNodes_57 : decode cX6_haltLackingNodes 57 = .ok (.aload 5, 2) := by decide +kernel
theorem dX6_haltLackingNodes_59 : decode cX6_haltLackingNodes 59 = .ok (.aload_n 0, 1) := by decide +kernel
theorem dX6_haltLackingNodes_60 : decode cX6_haltLackingNodes 60 = .ok (.getfield 60, 3) := by decide +kernel
theorem dX6_haltLackingNodes_63 : decode cX6_haltLackingNodes 63 = .ok (.putfield 137, 3) := by decide +kernel
theorem dX6_haltLackingNodes_66 : decode cX6_haltLackingNodes 66 = .ok (.iinc 4 1, 3) := by decide +kernel
theorem dX6_haltLackingNodes_69 : decode cX6_haltLackingNodes 69 = .ok (.goto (-46), 3) := by decide +kernel
theorem dX6_haltLackingNodes_72 : decode cX6_haltLackingNodes 72 = .ok (.return_, 1) := by decide +kernel
theorem dX6_clearReplayCells_0 : decode cX6_clearReplayCells 0 = .ok (.aload_n 0, 1) := by decide +kernel
theorem dX6_clearReplayCells_1 : decode cX6_clearReplayCells 1 = .ok (.getfield 23, 3) := by decide +kernel
theorem dX6_clearReplayCells_4 : decode cX6_clearReplayCells 4 = .ok (.astore_n 1, 1) := by decide +kernel
theorem dX6_clearReplayCells_5 : decode cX6_clearReplayCells 5 = .ok (.aload_n 1, 1) := by decide +kernel
theorem dX6_clearReplayCells_6 : decode cX6_clearReplayCells 6 = .ok (.arraylength, 1) := by decide +kernel
theorem dX6_clearReplayCells_7 : decode cX6_clearReplayCells 7 = .ok (.istore_n 2, 1) := by decide +kernel
theorem dX6_clearReplayCells_8 : decode cX6_clearReplayCells 8 = .ok (.iconst 0, 1) := by decide +kernel
theorem dX6_clearReplayCells_9 : decode cX6_clearReplayCells 9 = .ok (.istore_n 3, 1) := by decide +kernel
theorem dX6_clearReplayCells_10 : decode cX6_clearReplayCells 10 = .ok (.iload_n 3, 1) := by decide +kernel
theorem dX6_clearReplayCells_11 : decode cX6_clearReplayCells 11 = .ok (.iload_n 2, 1) := by decide +kernel
theorem dX6_clearReplayCells_12 : decode cX6_clearReplayCells 12 = .ok (.if_icmp .ge 27, 3) := by decide +kernel
theorem dX6_clearReplayCells_15 : decode cX6_clearReplayCells 15 = .ok (.aload_n 1, 1) := by decide +kernel
theorem dX6_clearReplayCells_16 : decode cX6_clearReplayCells 16 = .ok (.iload_n 3, 1) := by decide +kernel
theorem dX6_clearReplayCells_17 : decode cX6_clearReplayCells 17 = .ok (.aaload, 1) := by decide +kernel
theorem dX6_clearReplayCells_18 : decode cX6_clearReplayCells 18 = .ok (.astore 4, 2) := by decide +kernel
theorem dX6_clearReplayCells_20 : decode cX6_clearReplayCells 20 = .ok (.aload 4, 2) := by decide +kernel
theorem dX6_clearReplayCells_22 : decode cX6_clearReplayCells 22 = .ok (.ifnull 11, 3) := by decide +kernel
theorem dX6_clearReplayCells_25 : decode cX6_clearReplayCells 25 = .ok (.aload 4, 2) := by decide +kernel
theorem dX6_clearReplayCells_27 : decode cX6_clearReplayCells 27 = .ok (.getfield 220, 3) := by decide +kernel
theorem dX6_clearReplayCells_30 : decode cX6_clearReplayCells 30 = .ok (.invokevirtual 223, 3) := by decide +kernel
theorem dX6_clearReplayCells_33 : decode cX6_clearReplayCells 33 = .ok (.iinc 3 1, 3) := by decide +kernel
theorem dX6_clearReplayCells_36 : decode cX6_clearReplayCells 36 = .ok (.goto (-26), 3) := by decide +kernel
theorem dX6_clearReplayCells_39 : decode cX6_clearReplayCells 39 = .ok (.return_, 1) := by decide +kernel
theorem dX6_digestBehindReplayOf_0 : decode cX6_digestBehindReplayOf 0 = .ok (.aload_n 1, 1) := by decide +kernel
theorem dX6_digestBehindReplayOf_1 : decode cX6_digestBehindReplayOf 1 = .ok (.ifnonnull 7, 3) := by decide +kernel
theorem dX6_digestBehindReplayOf_4 : decode cX6_digestBehindReplayOf 4 = .ok (.aconst_null, 1) := by decide +kernel
theorem dX6_digestBehindReplayOf_5 : decode cX6_digestBehindReplayOf 5 = .ok (.goto 11, 3) := by decide +kernel
theorem dX6_digestBehindReplayOf_8 : decode cX6_digestBehindReplayOf 8 = .ok (.aload_n 0, 1) := by decide +kernel
theorem dX6_digestBehindReplayOf_9 : decode cX6_digestBehindReplayOf 9 = .ok (.aload_n 1, 1) := by decide +kernel
theorem dX6_digestBehindReplayOf_10 : decode cX6_digestBehindReplayOf 10 = .ok (.getfield 192, 3) := by decide +kernel
theorem dX6_digestBehindReplayOf_13 : decode cX6_digestBehindReplayOf 13 = .ok (.invokevirtual 141, 3) := by decide +kernel
theorem dX6_digestBehindReplayOf_16 : decode cX6_digestBehindReplayOf 16 = .ok (.astore_n 3, 1) := by decide +kernel
theorem dX6_digestBehindReplayOf_17 : decode cX6_digestBehindReplayOf 17 = .ok (.aload_n 3, 1) := by decide +kernel
theorem dX6_digestBehindReplayOf_18 : decode cX6_digestBehindReplayOf 18 = .ok (.ifnonnull 5, 3) := by decide +kernel
theorem dX6_digestBehindReplayOf_21 : decode cX6_digestBehindReplayOf 21 = .ok (.iload_n 2, 1) := by decide +kernel
theorem dX6_digestBehindReplayOf_22 : decode cX6_digestBehindReplayOf 22 = .ok (.ireturn, 1) := by decide +kernel
theorem dX6_digestBehindReplayOf_23 : decode cX6_digestBehindReplayOf 23 = .ok (.aload_n 0, 1) := by decide +kernel
theorem dX6_digestBehindReplayOf_24 : decode cX6_digestBehindReplayOf 24 = .ok (.getfield 43, 3) := by decide +kernel
theorem dX6_digestBehindReplayOf_27 : decode cX6_digestBehindReplayOf 27 = .ok (.aload_n 3, 1) := by decide +kernel
theorem dX6_digestBehindReplayOf_28 : decode cX6_digestBehindReplayOf 28 = .ok (.aload_n 3, 1) := by decide +kernel
theorem dX6_digestBehindReplayOf_29 : decode cX6_digestBehindReplayOf 29 = .ok (.getfield 220, 3) := by decide +kernel
theorem dX6_digestBehindReplayOf_32 : decode cX6_digestBehindReplayOf 32 = .ok (.aload_n 0, 1) := by decide +kernel
theorem dX6_digestBehindReplayOf_33 : decode cX6_digestBehindReplayOf 33 = .ok (.aload_n 1, 1) := by decide +kernel
theorem dX6_digestBehindReplayOf_34 : decode cX6_digestBehindReplayOf 34 = .ok (.getfield 195, 3) := by decide +kernel
theorem dX6_digestBehindReplayOf_37 : decode cX6_digestBehindReplayOf 37 = .ok (.invokevirtual 134, 3) := by decide +kernel
theorem dX6_digestBehindReplayOf_40 : decode cX6_digestBehindReplayOf 40 = .ok (.aload_n 1, 1) := by decide +kernel
theorem dX6_digestBehindReplayOf_41 : decode cX6_digestBehindReplayOf 41 = .ok (.getfield 226, 3) := by decide +kernel
theorem dX6_digestBehindReplayOf_44 : decode cX6_digestBehindReplayOf 44 = .ok (.aload_n 1, 1) := by decide +kernel
theorem dX6_digestBehindReplayOf_45 : decode cX6_digestBehindReplayOf 45 = .ok (.getfield 230, 3) := by decide +kernel
theorem dX6_digestBehindReplayOf_48 : decode cX6_digestBehindReplayOf 48 = .ok (.invokevirtual 171, 3) := by decide +kernel
theorem dX6_digestBehindReplayOf_51 : decode cX6_digestBehindReplayOf 51 = .ok (.istore 4, 2) := by decide +kernel
theorem dX6_digestBehindReplayOf_53 : decode cX6_digestBehindReplayOf 53 = .ok (.aload_n 3, 1) := by decide +kernel
theorem dX6_digestBehindReplayOf_54 : decode cX6_digestBehindReplayOf 54 = .ok (.getfield 220, 3) := by decide +kernel
theorem dX6_digestBehindReplayOf_57 : decode cX6_digestBehindReplayOf 57 = .ok (.iload_n 2, 1) := by decide +kernel
theorem dX6_digestBehindReplayOf_58 : decode cX6_digestBehindReplayOf 58 = .ok (.iload 4, 2) := by decide +kernel
theorem dX6_digestBehindReplayOf_60 : decode cX6_digestBehindReplayOf 60 = .ok (.invokevirtual 178, 3) := by decide +kernel
theorem dX6_digestBehindReplayOf_63 : decode cX6_digestBehindReplayOf 63 = .ok (.ireturn, 1) := by decide +kernel
end
section
theorem dX7_init_0 : decode cX7_init 0 = .ok (.aload_n 0, 1) := by decide +kernel
theorem dX7_init_1 : decode cX7_init 1 = .ok (.invokespecial 1, 3) := by decide +kernel
theorem dX7_init_4 : decode cX7_init 4 = .ok (.aload_n 0, 1) := by decide +kernel
theorem dX7_init_5 : decode cX7_init 5 = .ok (.iconst 1, 1) := by decide +kernel
theorem dX7_init_6 : decode cX7_init 6 = .ok (.putfield 7, 3) := by decide +kernel
theorem dX7_init_9 : decode cX7_init 9 = .ok (.aload_n 0, 1) := by decide +kernel
theorem dX7_init_10 : decode cX7_init 10 = .ok (.bipush 90, 2) := by decide +kernel
theorem dX7_init_12 : decode cX7_init 12 = .ok (.newarray .int, 2) := by decide +kernel
theorem dX7_init_14 : decode cX7_init 14 = .ok (.putfield 13, 3) := by decide +kernel
theorem dX7_init_17 : decode cX7_init 17 = .ok (.aload_n 0, 1) := by decide +kernel
theorem dX7_init_18 : decode cX7_init 18 = .ok (.bipush 80, 2) := by decide +kernel
theorem dX7_init_20 : decode cX7_init 20 = .ok (.newarray .int, 2) := by decide +kernel
theorem dX7_init_22 : decode cX7_init 22 = .ok (.putfield 17, 3) := by decide +kernel
theorem dX7_init_25 : decode cX7_init 25 = .ok (.aload_n 0, 1) := by decide +kernel
theorem dX7_init_26 : decode cX7_init 26 = .ok (.bipush 10, 2) := by decide +kernel
theorem dX7_init_28 : decode cX7_init 28 = .ok (.newarray .int, 2) := by decide +kernel
theorem dX7_init_30 : decode cX7_init 30 = .ok (.putfield 20, 3) := by decide +kernel
theorem dX7_init_33 : decode cX7_init 33 = .ok (.aload_n 0, 1) := by decide +kernel
theorem dX7_init_34 : decode cX7_init 34 = .ok (.bipush 10, 2) := by decide +kernel
theorem dX7_init_36 : decode cX7_init 36 = .ok (.newarray .int, 2) := by decide +kernel
theorem dX7_init_38 : decode cX7_init 38 = .ok (.putfield 23, 3) := by decide +kernel
theorem dX7_init_41 : decode cX7_init 41 = .ok (.aload_n 0, 1) := by decide +kernel
theorem dX7_init_42 : decode cX7_init 42 = .ok (.sipush 1001, 3) := by decide +kernel
theorem dX7_init_45 : decode cX7_init 45 = .ok (.newarray .int, 2) := by decide +kernel
theorem dX7_init_47 : decode cX7_init 47 = .ok (.putfield 26, 3) := by decide +kernel
theorem dX7_init_50 : decode cX7_init 50 = .ok (.aload_n 0, 1) := by decide +kernel
theorem dX7_init_51 : decode cX7_init 51 = .ok (.bipush 12, 2) := by decide +kernel
theorem dX7_init_53 : decode cX7_init 53 = .ok (.newarray .int, 2) := by decide +kernel
theorem dX7_init_55 : decode cX7_init 55 = .ok (.putfield 29, 3) := by decide +kernel
theorem dX7_init_58 : decode cX7_init 58 = .ok (.aload_n 0, 1) := by decide +kernel
theorem dX7_init_59 : decode cX7_init 59 = .ok (.bipush 12, 2) := by decide +kernel
theorem dX7_init_61 : decode cX7_init 61 = .ok (.newarray .int, 2) := by decide +kernel
theorem dX7_init_63 : decode cX7_init 63 = .ok (.putfield 32, 3) := by decide +kernel
theorem dX7_init_66 : decode cX7_init 66 = .ok (.aload_n 0, 1) := by decide +kernel
theorem dX7_init_67 : decode cX7_init 67 = .ok (.bipush 12, 2) := by decide +kernel
theorem dX7_init_69 : decode cX7_init 69 = .ok (.newarray .int, 2) := by decide +kernel
theorem dX7_init_71 : decode cX7_init 71 = .ok (.putfield 35, 3) := by decide +kernel
theorem dX7_init_74 : decode cX7_init 74 = .ok (.aload_n 0, 1) := by decide +kernel
theorem dX7_init_75 : decode cX7_init 75 = .ok (.bipush 120, 2) := by decide +kernel
theorem dX7_init_77 : decode cX7_init 77 = .ok (.newarray .boolean, 2) := by decide +kernel
theorem dX7_init_79 : decode cX7_init 79 = .ok (.putfield 38, 3) := by decide +kernel
theorem dX7_init_82 : decode cX7_init 82 = .ok (.aload_n 0, 1) := by decide +kernel
theorem dX7_init_83 : decode cX7_init 83 = .ok (.bipush 12, 2) := by decide +kernel
theorem dX7_init_85 : decode cX7_init 85 = .ok (.newarray .int, 2) := by decide +kernel
theorem dX7_init_87 : decode cX7_init 87 = .ok (.putfield 42, 3) := by decide +kernel
theorem dX7_init_90 : decode cX7_init 90 = .ok (.aload_n 0, 1) := by decide +kernel
theorem dX7_init_91 : decode cX7_init 91 = .ok (.bipush 12, 2) := by decide +kernel
theorem dX7_init_93 : decode cX7_init 93 = .ok (.newarray .int, 2) := by decide +kernel
theorem dX7_init_95 : decode cX7_init 95 = .ok (.putfield 45, 3) := by decide +kernel
theorem dX7_init_98 : decode cX7_init 98 = .ok (.aload_n 0, 1) := by decide +kernel
theorem dX7_init_99 : decode cX7_init 99 = .ok (.sipush 288, 3) := by decide +kernel
theorem dX7_init_102 : decode cX7_init 102 = .ok (.newarray .int, 2) := by decide +kernel
theorem dX7_init_104 : decode cX7_init 104 = .ok (.putfield 48, 3) := by decide +kernel
theorem dX7_init_107 : decode cX7_init 107 = .ok (.aload_n 0, 1) := by decide +kernel
theorem dX7_init_108 : decode cX7_init 108 = .ok (.sipush 288, 3) := by decide +kernel
theorem dX7_init_111 : decode cX7_init 111 = .ok (.newarray .int, 2) := by decide +kernel
theorem dX7_init_113 : decode cX7_init 113 = .ok (.putfield 51, 3) := by decide +kernel
theorem dX7_init_116 : decode cX7_init 116 = .ok (.aload_n 0, 1) := by decide +kernel
theorem dX7_init_117 : decode cX7_init 117 = .ok (.bipush 48, 2) := by decide +kernel
theorem dX7_init_119 : decode cX7_init 119 = .ok (.newarray .long, 2) := by decide +kernel
theorem dX7_init_121 : decode cX7_init 121 = .ok (.putfield 54, 3) := by decide +kernel
theorem dX7_init_124 : decode cX7_init 124 = .ok (.aload_n 0, 1) := by decide +kernel
theorem dX7_init_125 : decode cX7_init 125 = .ok (.bipush 64, 2) := by decide +kernel
theorem dX7_init_127 : decode cX7_init 127 = .ok (.newarray .int, 2) := by decide +kernel
theorem dX7_init_129 : decode cX7_init 129 = .ok (.putfield 58, 3) := by decide +kernel
theorem dX7_init_132 : decode cX7_init 132 = .ok (.aload_n 0, 1) := by decide +kernel
theorem dX7_init_133 : decode cX7_init 133 = .ok (.bipush 64, 2) := by decide +kernel
theorem dX7_init_135 : decode cX7_init 135 = .ok (.newarray .int, 2) := by decide +kernel
theorem dX7_init_137 : decode cX7_init 137 = .ok (.putfield 61, 3) := by decide +kernel
theorem dX7_init_140 : decode cX7_init 140 = .ok (.aload_n 0, 1) := by decide +kernel
theorem dX7_init_141 : decode cX7_init 141 = .ok (.bipush 64, 2) := by decide +kernel
theorem dX7_init_143 : decode cX7_init 143 = .ok (.newarray .long, 2) := by decide +kernel
theorem dX7_init_145 : decode cX7_init 145 = .ok (.putfield 64, 3) := by decide +kernel
theorem dX7_init_148 : decode cX7_init 148 = .ok (.aload_n 0, 1) := by decide +kernel
theorem dX7_init_149 : decode cX7_init 149 = .ok (.bipush 64, 2) := by decide +kernel
theorem dX7_init_151 : decode cX7_init 151 = .ok (.newarray .int, 2) := by decide +kernel
theorem dX7_init_153 : decode cX7_init 153 = .ok (.putfield 67, 3) := by decide +kernel
theorem dX7_init_156 : decode cX7_init 156 = .ok (.aload_n 0, 1) := by decide +kernel
theorem dX7_init_157 : decode cX7_init 157 = .ok (.bipush 64, 2) := by decide +kernel
theorem dX7_init_159 : decode cX7_init 159 = .ok (.newarray .int, 2) := by decide +kernel
theorem dX7_init_161 : decode cX7_init 161 = .ok (.putfield 70, 3) := by decide +kernel
theorem dX7_init_164 : decode cX7_init 164 = .ok (.aload_n 0, 1) := by decide +kernel
theorem dX7_init_165 : decode cX7_init 165 = .ok (.bipush 24, 2) := by decide +kernel
theorem dX7_init_167 : decode cX7_init 167 = .ok (.newarray .long, 2) := by decide +kernel
theorem dX7_init_169 : decode cX7_init 169 = .ok (.putfield 73, 3) := by decide +kernel
theorem dX7_init_172 : decode cX7_init 172 = .ok (.aload_n 0, 1) := by decide +kernel
theorem dX7_init_173 : decode cX7_init 173 = .ok (.iconst 4, 1) := by decide +kernel
theorem dX7_init_174 : decode cX7_init 174 = .ok (.newarray .long, 2) := by decide +kernel
theorem dX7_init_176 : decode cX7_init 176 = .ok (.putfield 76, 3) := by decide +kernel
theorem dX7_init_179 : decode cX7_init 179 = .ok (.aload_n 0, 1) := by decide +kernel
theorem dX7_init_180 : decode cX7_init 180 = .ok (.bipush 48, 2) := by decide +kernel
theorem dX7_init_182 : decode cX7_init 182 = .ok (.newarray .long, 2) := by decide +kernel
theorem dX7_init_184 : decode cX7_init 184 = .ok (.putfield 79, 3) := by decide +kernel
theorem dX7_init_187 : decode cX7_init 187 = .ok (.iconst 0, 1) := by decide +kernel
theorem dX7_init_188 : decode cX7_init 188 = .ok (.istore_n 1, 1) := by decide +kernel
theorem dX7_init_189 : decode cX7_init 189 = .ok (.iload_n 1, 1) := by decide +kernel
theorem dX7_init_190 : decode cX7_init 190 = .ok (.bipush 9, 2) := by decide +kernel
theorem dX7_init_192 : decode cX7_init 192 = .ok (.if_icmp .ge 16, 3) := by decide +kernel
theorem dX7_init_195 : decode cX7_init 195 = .ok (.aload_n 0, 1) := by decide +kernel
theorem dX7_init_196 : decode cX7_init 196 = .ok (.getfield 13, 3) := by decide +kernel
theorem dX7_init_199 : decode cX7_init 199 = .ok (.iload_n 1, 1) := by decide +kernel
theorem dX7_init_200 : decode cX7_init 200 = .ok (.iconst 1, 1) := by decide +kernel
theorem dX7_init_201 : decode cX7_init 201 = .ok (.iastore, 1) := by decide +kernel
theorem dX7_init_202 : decode cX7_init 202 = .ok (.iinc 1 1, 3) := by decide +kernel
theorem dX7_init_205 : decode cX7_init 205 = .ok (.goto (-16), 3) := by decide +kernel
theorem dX7_init_208 : decode cX7_init 208 = .ok (.iconst 0, 1) := by decide +kernel
theorem dX7_init_209 : decode cX7_init 209 = .ok (.istore_n 1, 1) := by decide +kernel
theorem dX7_init_210 : decode cX7_init 210 = .ok (.iload_n 1, 1) := by decide +kernel
theorem dX7_init_211 : decode cX7_init 211 = .ok (.bipush 8, 2) := by decide +kernel
theorem dX7_init_213 : decode cX7_init 213 = .ok (.if_icmp .ge 16, 3) := by decide +kernel
theorem dX7_init_216 : decode cX7_init 216 = .ok (.aload_n 0, 1) := by decide +kernel
theorem dX7_init_217 : decode cX7_init 217 = .ok (.getfield 17, 3) := by decide +kernel
theorem dX7_init_220 : decode cX7_init 220 = .ok (.iload_n 1, 1) := by decide +kernel
theorem dX7_init_221 : decode cX7_init 221 = .ok (.iconst (-1), 1) := by decide +kernel
theorem dX7_init_222 : decode cX7_init 222 = .ok (.iastore, 1) := by decide +kernel
theorem dX7_init_223 : decode cX7_init 223 = .ok (.iinc 1 1, 3) := by decide +kernel
theorem dX7_init_226 : decode cX7_init 226 = .ok (.goto (-16), 3) := by decide +kernel
theorem dX7_init_229 : decode cX7_init 229 = .ok (.aload_n 0, 1) := by decide +kernel
theorem dX7_init_230 : decode cX7_init 230 = .ok (.getfield 23, 3) := by decide +kernel
theorem dX7_init_233 : decode cX7_init 233 = .ok (.iconst 0, 1) := by decide +kernel
theorem dX7_init_234 : decode cX7_init 234 = .ok (.iconst 2, 1) := by decide +kernel
theorem dX7_init_235 : decode cX7_init 235 = .ok (.iastore, 1) := by decide +kernel
theorem dX7_init_236 : decode cX7_init 236 = .ok (.return_, 1) := by decide +kernel
theorem dX7_in_0 : decode cX7_in 0 = .ok (.iload_n 0, 1) := by decide +kernel
theorem dX7_in_1 : decode cX7_in 1 = .ok (.iload_n 1, 1) := by decide +kernel
theorem dX7_in_2 : decode cX7_in 2 = .ok (.if_icmp .lt 12, 3) := by decide +kernel
theorem dX7_in_5 : decode cX7_in 5 = .ok (.iload_n 0, 1) := by decide +kernel
theorem dX7_in_6 : decode cX7_in 6 = .ok (.iload_n 2, 1) := by decide +kernel
theorem dX7_in_7 : decode cX7_in 7 = .ok (.if_icmp .gt 7, 3) := by decide +kernel
theorem dX7_in_10 : decode cX7_in 10 = .ok (.iconst 1, 1) := by decide +kernel
theorem dX7_in_11 : decode cX7_in 11 = .ok (.goto 4, 3) := by decide +kernel
theorem dX7_in_14 : decode cX7_in 14 = .ok (.iconst 0, 1) := by decide +kernel
theorem dX7_in_15 : decode cX7_in 15 = .ok (.ireturn, 1) := by decide +kernel
theorem dX7_isEdition_0 : decode cX7_isEdition 0 = .ok (.iload_n 1, 1) := by decide +kernel
theorem dX7_isEdition_1 : decode cX7_isEdition 1 = .ok (.iconst 0, 1) := by decide +kernel
theorem dX7_isEdition_2 : decode cX7_isEdition 2 = .ok (.aload_n 0, 1) := by decide +kernel
theorem dX7_isEdition_3 : decode cX7_isEdition 3 = .ok (.getfield 7, 3) := by decide +kernel
theorem dX7_isEdition_6 : decode cX7_isEdition 6 = .ok (.iconst 1, 1) := by decide +kernel
theorem dX7_isEdition_7 : decode cX7_isEdition 7 = .ok (.isub, 1) := by decide +kernel
theorem dX7_isEdition_8 : decode cX7_isEdition 8 = .ok (.invokestatic 82, 3) := by decide +kernel
theorem dX7_isEdition_11 : decode cX7_isEdition 11 = .ok (.ireturn, 1) := by decide +kernel
theorem dX7_isNode_0 : decode cX7_isNode 0 = .ok (.iload_n 1, 1) := by decide +kernel
theorem dX7_isNode_1 : decode cX7_isNode 1 = .ok (.iconst 0, 1) := by decide +kernel
theorem dX7_isNode_2 : decode cX7_isNode 2 = .ok (.aload_n 0, 1) := by decide +kernel
theorem dX7_isNode_3 : decode cX7_isNode 3 = .ok (.getfield 86, 3) := by decide +kernel
theorem dX7_isNode_6 : decode cX7_isNode 6 = .ok (.iconst 1, 1) := by decide +kernel
theorem dX7_isNode_7 : decode cX7_isNode 7 = .ok (.isub, 1) := by decide +kernel
theorem dX7_isNode_8 : decode cX7_isNode 8 = .ok (.invokestatic 82, 3) := by decide +kernel
theorem dX7_isNode_11 : decode cX7_isNode 11 = .ok (.ireturn, 1) := by decide +kernel
theorem dX7_isContract_0 : decode cX7_isContract 0 = .ok (.iload_n 1, 1) := by decide +kernel
theorem dX7_isContract_1 : decode cX7_isContract 1 = .ok (.iconst 0, 1) := by decide +kernel
theorem dX7_isContract_2 : decode cX7_isContract 2 = .ok (.aload_n 0, 1) := by decide +kernel
theorem dX7_isContract_3 : decode cX7_isContract 3 = .ok (.getfield 89, 3) := by decide +kernel
theorem dX7_isContract_6 : decode cX7_isContract 6 = .ok (.iconst 1, 1) := by decide +kernel
theorem dX7_isContract_7 : decode cX7_isContract 7 = .ok (.isub, 1) := by decide +kernel
theorem dX7_isContract_8 : decode cX7_isContract 8 = .ok (.invokestatic 82, 3) := by decide +kernel
theorem dX7_isContract_11 : decode cX7_isContract 11 = .ok (.ireturn, 1) := by decide +kernel
theorem dX7_edition_0 : decode cX7_edition 0 = .ok (.aload_n 0, 1) := by decide +kernel
theorem dX7_edition_1 : decode cX7_edition 1 = .ok (.iload_n 1, 1) := by decide +kernel
theorem dX7_edition_2 : decode cX7_edition 2 = .ok (.invokevirtual 92, 3) := by decide +kernel
theorem dX7_edition_5 : decode cX7_edition 5 = .ok (.ifCond .ne 6, 3) := by decide +kernel
theorem dX7_edition_8 : decode cX7_edition 8 = .ok (.bipush (-2), 2) := by decide +kernel
theorem dX7_edition_10 : decode cX7_edition 10 = .ok (.ireturn, 1) := by decide +kernel
theorem dX7_edition_11 : decode cX7_edition 11 = .ok (.aload_n 0, 1) := by decide +kernel
theorem dX7_edition_12 : decode cX7_edition 12 = .ok (.getfield 7, 3) := by decide +kernel
theorem dX7_edition_15 : decode cX7_edition 15 = .ok (.bipush 10, 2) := by decide +kernel
theorem dX7_edition_17 : decode cX7_edition 17 = .ok (.if_icmp .ne 6, 3) := by decide +kernel
theorem dX7_edition_20 : decode cX7_edition 20 = .ok (.bipush (-4), 2) := by decide +kernel
theorem dX7_edition_22 : decode cX7_edition 22 = .ok (.ireturn, 1) := by decide +kernel
theorem dX7_edition_23 : decode cX7_edition 23 = .ok (.iconst 0, 1) := by decide +kernel
theorem dX7_edition_24 : decode cX7_edition 24 = .ok (.istore_n 2, 1) := by decide +kernel
theorem dX7_edition_25 : decode cX7_edition 25 = .ok (.iload_n 2, 1) := by decide +kernel
theorem dX7_edition_26 : decode cX7_edition 26 = .ok (.bipush 9, 2) := by decide +kernel
theorem dX7_edition_28 : decode cX7_edition 28 = .ok (.if_icmp .ge 34, 3) := by decide +kernel
theorem dX7_edition_31 : decode cX7_edition 31 = .ok (.aload_n 0, 1) := by decide +kernel
theorem dX7_edition_32 : decode cX7_edition 32 = .ok (.getfield 13, 3) := by decide +kernel
theorem dX7_edition_35 : decode cX7_edition 35 = .ok (.bipush 9, 2) := by decide +kernel
theorem dX7_edition_37 : decode cX7_edition 37 = .ok (.aload_n 0, 1) := by decide +kernel
theorem dX7_edition_38 : decode cX7_edition 38 = .ok (.getfield 7, 3) := by decide +kernel
theorem dX7_edition_41 : decode cX7_edition 41 = .ok (.imul, 1) := by decide +kernel
theorem dX7_edition_42 : decode cX7_edition 42 = .ok (.iload_n 2, 1) := by decide +kernel
theorem dX7_edition_43 : decode cX7_edition 43 = .ok (.iadd, 1) := by decide +kernel
theorem dX7_edition_44 : decode cX7_edition 44 = .ok (.aload_n 0, 1) := by decide +kernel
theorem dX7_edition_45 : decode cX7_edition 45 = .ok (.getfield 13, 3) := by decide +kernel
theorem dX7_edition_48 : decode cX7_edition 48 = .ok (.bipush 9, 2) := by decide +kernel
theorem dX7_edition_50 : decode cX7_edition 50 = .ok (.iload_n 1, 1) := by decide +kernel
theorem dX7_edition_51 : decode cX7_edition 51 = .ok (.imul, 1) := by decide +kernel
theorem dX7_edition_52 : decode cX7_edition 52 = .ok (.iload_n 2, 1) := by decide +kernel
theorem dX7_edition_53 : decode cX7_edition 53 = .ok (.iadd, 1) := by decide +kernel
theorem dX7_edition_54 : decode cX7_edition 54 = .ok (.iaload, 1) := by decide +kernel
theorem dX7_edition_55 : decode cX7_edition 55 = .ok (.iastore, 1) := by decide +kernel
theorem dX7_edition_56 : decode cX7_edition 56 = .ok (.iinc 2 1, 3) := by decide +kernel
theorem dX7_edition_59 : decode cX7_edition 59 = .ok (.goto (-34), 3) := by decide +kernel
theorem dX7_edition_62 : decode cX7_edition 62 = .ok (.iconst 0, 1) := by decide +kernel
theorem dX7_edition_63 : decode cX7_edition 63 = .ok (.istore_n 2, 1) := by decide +kernel
theorem dX7_edition_64 : decode cX7_edition 64 = .ok (.iload_n 2, 1) := by decide +kernel
theorem dX7_edition_65 : decode cX7_edition 65 = .ok (.bipush 8, 2) := by decide +kernel
theorem dX7_edition_67 : decode cX7_edition 67 = .ok (.if_icmp .ge 34, 3) := by decide +kernel
theorem dX7_edition_70 : decode cX7_edition 70 = .ok (.aload_n 0, 1) := by decide +kernel
theorem dX7_edition_71 : decode cX7_edition 71 = .ok (.getfield 17, 3) := by decide +kernel
theorem dX7_edition_74 : decode cX7_edition 74 = .ok (.bipush 8, 2) := by decide +kernel
theorem dX7_edition_76 : decode cX7_edition 76 = .ok (.aload_n 0, 1) := by decide +kernel
theorem dX7_edition_77 : decode cX7_edition 77 = .ok (.getfield 7, 3) := by decide +kernel
theorem dX7_edition_80 : decode cX7_edition 80 = .ok (.imul, 1) := by decide +kernel
theorem dX7_edition_81 : decode cX7_edition 81 = .ok (.iload_n 2, 1) := by decide +kernel
theorem dX7_edition_82 : decode cX7_edition 82 = .ok (.iadd, 1) := by decide +kernel
theorem dX7_edition_83 : decode cX7_edition 83 = .ok (.aload_n 0, 1) := by decide +kernel
theorem dX7_edition_84 : decode cX7_edition 84 = .ok (.getfield 17, 3) := by decide +kernel
theorem dX7_edition_87 : decode cX7_edition 87 = .ok (.bipush 8, 2) := by decide +kernel
theorem dX7_edition_89 : decode cX7_edition 89 = .ok (.iload_n 1, 1) := by decide +kernel
theorem dX7_edition_90 : decode cX7_edition 90 = .ok (.imul, 1) := by decide +kernel
theorem dX7_edition_91 : decode cX7_edition 91 = .ok (.iload_n 2, 1) := by decide +kernel
theorem dX7_edition_92 : decode cX7_edition 92 = .ok (.iadd, 1) := by decide +kernel
theorem dX7_edition_93 : decode cX7_edition 93 = .ok (.iaload, 1) := by decide +kernel
theorem dX7_edition_94 : decode cX7_edition 94 = .ok (.iastore, 1) := by decide +kernel
theorem dX7_edition_95 : decode cX7_edition 95 = .ok (.iinc 2 1, 3) := by decide +kernel
theorem dX7_edition_98 : decode cX7_edition 98 = .ok (.goto (-34), 3) := by decide +kernel
theorem dX7_edition_101 : decode cX7_edition 101 = .ok (.aload_n 0, 1) := by decide +kernel
theorem dX7_edition_102 : decode cX7_edition 102 = .ok (.getfield 20, 3) := by decide +kernel
theorem dX7_edition_105 : decode cX7_edition 105 = .ok (.aload_n 0, 1) := by decide +kernel
theorem dX7_edition_106 : decode cX7_edition 106 = .ok (.getfield 7, 3) := by decide +kernel
theorem dX7_edition_109 : decode cX7_edition 109 = .ok (.iconst (-1), 1) := by decide +kernel
theorem dX7_edition_110 : decode cX7_edition 110 = .ok (.iastore, 1) := by decide +kernel
theorem dX7_edition_111 : decode cX7_edition 111 = .ok (.aload_n 0, 1) := by decide +kernel
theorem dX7_edition_112 : decode cX7_edition 112 = .ok (.getfield 23, 3) := by decide +kernel
theorem dX7_edition_115 : decode cX7_edition 115 = .ok (.aload_n 0, 1) := by decide +kernel
theorem dX7_edition_116 : decode cX7_edition 116 = .ok (.getfield 7, 3) := by decide +kernel
theorem dX7_edition_119 : decode cX7_edition 119 = .ok (.iconst 0, 1) := by decide +kernel
theorem dX7_edition_120 : decode cX7_edition 120 = .ok (.iastore, 1) := by decide +kernel
theorem dX7_edition_121 : decode cX7_edition 121 = .ok (.aload_n 0, 1) := by decide +kernel
theorem dX7_edition_122 : decode cX7_edition 122 = .ok (.dup, 1) := by decide +kernel
theorem dX7_edition_123 : decode cX7_edition 123 = .ok (.getfield 7, 3) := by decide +kernel
theorem dX7_edition_126 : decode cX7_edition 126 = .ok (.iconst 1, 1) := by decide +kernel
theorem dX7_edition_127 : decode cX7_edition 127 = .ok (.iadd, 1) := by decide +kernel
theorem dX7_edition_128 : decode cX7_edition 128 = .ok (.putfield 7, 3) := by decide +kernel
theorem dX7_edition_131 : decode cX7_edition 131 = .ok (.aload_n 0, 1) := by decide +kernel
theorem dX7_edition_132 : decode cX7_edition 132 = .ok (.getfield 7, 3) := by decide +kernel
theorem dX7_edition_135 : decode cX7_edition 135 = .ok (.iconst 1, 1) := by decide +kernel
theorem dX7_edition_136 : decode cX7_edition 136 = .ok (.isub, 1) := by decide +kernel
theorem dX7_edition_137 : decode cX7_edition 137 = .ok (.ireturn, 1) := by decide +kernel
theorem dX7_price_0 : decode cX7_price 0 = .ok (.aload_n 0, 1) := by decide +kernel
theorem dX7_price_1 : decode cX7_price 1 = .ok (.iload_n 1, 1) := by decide +kernel
theorem dX7_price_2 : decode cX7_price 2 = .ok (.invokevirtual 92, 3) := by decide +kernel
theorem dX7_price_5 : decode cX7_price 5 = .ok (.ifCond .eq 23, 3) := by decide +kernel
theorem dX7_price_8 : decode cX7_price 8 = .ok (.iload_n 2, 1) := by decide +kernel
theorem dX7_price_9 : decode cX7_price 9 = .ok (.iconst 0, 1) := by decide +kernel
theorem dX7_price_10 : decode cX7_price 10 = .ok (.bipush 8, 2) := by decide +kernel
theorem dX7_price_12 : decode cX7_price 12 = .ok (.invokestatic 82, 3) := by decide +kernel
theorem dX7_price_15 : decode cX7_price 15 = .ok (.ifCond .eq 13, 3) := by decide +kernel
theorem dX7_price_18 : decode cX7_price 18 = .ok (.iload_n 3, 1) := by decide +kernel
theorem dX7_price_19 : decode cX7_price 19 = .ok (.iconst 0, 1) := by decide +kernel
theorem dX7_price_20 : decode cX7_price 20 = .ok (.bipush 100, 2) := by decide +kernel
theorem dX7_price_22 : decode cX7_price 22 = .ok (.invokestatic 82, 3) := by decide +kernel
theorem dX7_price_25 : decode cX7_price 25 = .ok (.ifCond .ne 6, 3) := by decide +kernel
theorem dX7_price_28 : decode cX7_price 28 = .ok (.bipush (-2), 2) := by decide +kernel
theorem dX7_price_30 : decode cX7_price 30 = .ok (.ireturn, 1) := by decide +kernel
theorem dX7_price_31 : decode cX7_price 31 = .ok (.aload_n 0, 1) := by decide +kernel
theorem dX7_price_32 : decode cX7_price 32 = .ok (.getfield 23, 3) := by decide +kernel
theorem dX7_price_35 : decode cX7_price 35 = .ok (.iload_n 1, 1) := by decide +kernel
theorem dX7_price_36 : decode cX7_price 36 = .ok (.iaload, 1) := by decide +kernel
theorem dX7_price_37 : decode cX7_price 37 = .ok (.ifCond .eq 6, 3) := by decide +kernel
theorem dX7_price_40 : decode cX7_price 40 = .ok (.bipush (-3), 2) := by decide +kernel
theorem dX7_price_42 : decode cX7_price 42 = .ok (.ireturn, 1) := by decide +kernel
theorem dX7_price_43 : decode cX7_price 43 = .ok (.aload_n 0, 1) := by decide +kernel
theorem dX7_price_44 : decode cX7_price 44 = .ok (.getfield 13, 3) := by decide +kernel
theorem dX7_price_47 : decode cX7_price 47 = .ok (.bipush 9, 2) := by decide +kernel
theorem dX7_price_49 : decode cX7_price 49 = .ok (.iload_n 1, 1) := by decide +kernel
theorem dX7_price_50 : decode cX7_price 50 = .ok (.imul, 1) := by decide +kernel
theorem dX7_price_51 : decode cX7_price 51 = .ok (.iload_n 2, 1) := by decide +kernel
theorem dX7_price_52 : decode cX7_price 52 = .ok (.iadd, 1) := by decide +kernel
theorem dX7_price_53 : decode cX7_price 53 = .ok (.iaload, 1) := by decide +kernel
theorem dX7_price_54 : decode cX7_price 54 = .ok (.istore 4, 2) := by decide +kernel
theorem dX7_price_56 : decode cX7_price 56 = .ok (.aload_n 0, 1) := by decide +kernel
theorem dX7_price_57 : decode cX7_price 57 = .ok (.getfield 13, 3) := by decide +kernel
theorem dX7_price_60 : decode cX7_price 60 = .ok (.bipush 9, 2) := by decide +kernel
theorem dX7_price_62 : decode cX7_price 62 = .ok (.iload_n 1, 1) := by decide +kernel
theorem dX7_price_63 : decode cX7_price 63 = .ok (.imul, 1) := by decide +kernel
theorem dX7_price_64 : decode cX7_price 64 = .ok (.iload_n 2, 1) := by decide +kernel
theorem dX7_price_65 : decode cX7_price 65 = .ok (.iadd, 1) := by decide +kernel
theorem dX7_price_66 : decode cX7_price 66 = .ok (.iload_n 3, 1) := by decide +kernel
theorem dX7_price_67 : decode cX7_price 67 = .ok (.iastore, 1) := by decide +kernel
theorem dX7_price_68 : decode cX7_price 68 = .ok (.iload 4, 2) := by decide +kernel
theorem dX7_price_70 : decode cX7_price 70 = .ok (.ireturn, 1) := by decide +kernel
theorem dX7_member_0 : decode cX7_member 0 = .ok (.aload_n 0, 1) := by decide +kernel
theorem dX7_member_1 : decode cX7_member 1 = .ok (.iload_n 1, 1) := by decide +kernel
theorem dX7_member_2 : decode cX7_member 2 = .ok (.invokevirtual 92, 3) := by decide +kernel
theorem dX7_member_5 : decode cX7_member 5 = .ok (.ifCond .eq 22, 3) := by decide +kernel
theorem dX7_member_8 : decode cX7_member 8 = .ok (.iload_n 2, 1) := by decide +kernel
theorem dX7_member_9 : decode cX7_member 9 = .ok (.iconst 0, 1) := by decide +kernel
theorem dX7_member_10 : decode cX7_member 10 = .ok (.bipush 7, 2) := by decide +kernel
theorem dX7_member_12 : decode cX7_member 12 = .ok (.invokestatic 82, 3) := by decide +kernel
theorem dX7_member_15 : decode cX7_member 15 = .ok (.ifCond .eq 12, 3) := by decide +kernel
theorem dX7_member_18 : decode cX7_member 18 = .ok (.iload_n 3, 1) := by decide +kernel
theorem dX7_member_19 : decode cX7_member 19 = .ok (.iconst (-1), 1) := by decide +kernel
theorem dX7_member_20 : decode cX7_member 20 = .ok (.iconst 5, 1) := by decide +kernel
theorem dX7_member_21 : decode cX7_member 21 = .ok (.invokestatic 82, 3) := by decide +kernel
theorem dX7_member_24 : decode cX7_member 24 = .ok (.ifCond .ne 6, 3) := by decide +kernel
theorem dX7_member_27 : decode cX7_member 27 = .ok (.bipush (-2), 2) := by decide +kernel
theorem dX7_member_29 : decode cX7_member 29 = .ok (.ireturn, 1) := by decide +kernel
theorem dX7_member_30 : decode cX7_member 30 = .ok (.aload_n 0, 1) := by decide +kernel
theorem dX7_member_31 : decode cX7_member 31 = .ok (.getfield 23, 3) := by decide +kernel
theorem dX7_member_34 : decode cX7_member 34 = .ok (.iload_n 1, 1) := by decide +kernel
theorem dX7_member_35 : decode cX7_member 35 = .ok (.iaload, 1) := by decide +kernel
theorem dX7_member_36 : decode cX7_member 36 = .ok (.ifCond .eq 6, 3) := by decide +kernel
theorem dX7_member_39 : decode cX7_member 39 = .ok (.bipush (-3), 2) := by decide +kernel
theorem dX7_member_41 : decode cX7_member 41 = .ok (.ireturn, 1) := by decide +kernel
theorem dX7_member_42 : decode cX7_member 42 = .ok (.aload_n 0, 1) := by decide +kernel
theorem dX7_member_43 : decode cX7_member 43 = .ok (.getfield 17, 3) := by decide +kernel
theorem dX7_member_46 : decode cX7_member 46 = .ok (.bipush 8, 2) := by decide +kernel
theorem dX7_member_48 : decode cX7_member 48 = .ok (.iload_n 1, 1) := by decide +kernel
theorem dX7_member_49 : decode cX7_member 49 = .ok (.imul, 1) := by decide +kernel
theorem dX7_member_50 : decode cX7_member 50 = .ok (.iload_n 2, 1) := by decide +kernel
theorem dX7_member_51 : decode cX7_member 51 = .ok (.iadd, 1) := by decide +kernel
theorem dX7_member_52 : decode cX7_member 52 = .ok (.iaload, 1) := by decide +kernel
theorem dX7_member_53 : decode cX7_member 53 = .ok (.istore 4, 2) := by decide +kernel
theorem dX7_member_55 : decode cX7_member 55 = .ok (.aload_n 0, 1) := by decide +kernel
theorem dX7_member_56 : decode cX7_member 56 = .ok (.getfield 17, 3) := by decide +kernel
theorem dX7_member_59 : decode cX7_member 59 = .ok (.bipush 8, 2) := by decide +kernel
theorem dX7_member_61 : decode cX7_member 61 = .ok (.iload_n 1, 1) := by decide +kernel
theorem dX7_member_62 : decode cX7_member 62 = .ok (.imul, 1) := by decide +kernel
theorem dX7_member_63 : decode cX7_member 63 = .ok (.iload_n 2, 1) := by decide +kernel
theorem dX7_member_64 : decode cX7_member 64 = .ok (.iadd, 1) := by decide +kernel
theorem dX7_member_65 : decode cX7_member 65 = .ok (.iload_n 3, 1) := by decide +kernel
theorem dX7_member_66 : decode cX7_member 66 = .ok (.iastore, 1) := by decide +kernel
theorem dX7_member_67 : decode cX7_member 67 = .ok (.iload 4, 2) := by decide +kernel
theorem dX7_member_69 : decode cX7_member 69 = .ok (.ireturn, 1) := by decide +kernel
theorem dX7_about_0 : decode cX7_about 0 = .ok (.aload_n 0, 1) := by decide +kernel
theorem dX7_about_1 : decode cX7_about 1 = .ok (.iload_n 1, 1) := by decide +kernel
theorem dX7_about_2 : decode cX7_about 2 = .ok (.invokevirtual 92, 3) := by decide +kernel
theorem dX7_about_5 : decode cX7_about 5 = .ok (.ifCond .ne 6, 3) := by decide +kernel
theorem dX7_about_8 : decode cX7_about 8 = .ok (.bipush (-2), 2) := by decide +kernel
theorem dX7_about_10 : decode cX7_about 10 = .ok (.ireturn, 1) := by decide +kernel
theorem dX7_about_11 : decode cX7_about 11 = .ok (.iload_n 2, 1) := by decide +kernel
theorem dX7_about_12 : decode cX7_about 12 = .ok (.tableswitch 100 0 3 #[32, 59, 86, 93], 32) := by decide +kernel
theorem dX7_about_44 : decode cX7_about 44 = .ok (.iload_n 3, 1) := by decide +kernel
theorem dX7_about_45 : decode cX7_about 45 = .ok (.iconst 0, 1) := by decide +kernel
theorem dX7_about_46 : decode cX7_about 46 = .ok (.bipush 8, 2) := by decide +kernel
theorem dX7_about_48 : decode cX7_about 48 = .ok (.invokestatic 82, 3) := by decide +kernel
theorem dX7_about_51 : decode cX7_about 51 = .ok (.ifCond .eq 17, 3) := by decide +kernel
theorem dX7_about_54 : decode cX7_about 54 = .ok (.aload_n 0, 1) := by decide +kernel
theorem dX7_about_55 : decode cX7_about 55 = .ok (.getfield 13, 3) := by decide +kernel
theorem dX7_about_58 : decode cX7_about 58 = .ok (.bipush 9, 2) := by decide +kernel
theorem dX7_about_60 : decode cX7_about 60 = .ok (.iload_n 1, 1) := by decide +kernel
theorem dX7_about_61 : decode cX7_about 61 = .ok (.imul, 1) := by decide +kernel
theorem dX7_about_62 : decode cX7_about 62 = .ok (.iload_n 3, 1) := by decide +kernel
theorem dX7_about_63 : decode cX7_about 63 = .ok (.iadd, 1) := by decide +kernel
theorem dX7_about_64 : decode cX7_about 64 = .ok (.iaload, 1) := by decide +kernel
theorem dX7_about_65 : decode cX7_about 65 = .ok (.goto 5, 3) := by decide +kernel
theorem dX7_about_68 : decode cX7_about 68 = .ok (.bipush (-2), 2) := by decide +kernel
theorem dX7_about_70 : decode cX7_about 70 = .ok (.ireturn, 1) := by decide +kernel
theorem dX7_about_71 : decode cX7_about 71 = .ok (.iload_n 3, 1) := by decide +kernel
theorem dX7_about_72 : decode cX7_about 72 = .ok (.iconst 0, 1) := by decide +kernel
theorem dX7_about_73 : decode cX7_about 73 = .ok (.bipush 7, 2) := by decide +kernel
theorem dX7_about_75 : decode cX7_about 75 = .ok (.invokestatic 82, 3) := by decide +kernel
theorem dX7_about_78 : decode cX7_about 78 = .ok (.ifCond .eq 17, 3) := by decide +kernel
theorem dX7_about_81 : decode cX7_about 81 = .ok (.aload_n 0, 1) := by decide +kernel
theorem dX7_about_82 : decode cX7_about 82 = .ok (.getfield 17, 3) := by decide +kernel
theorem dX7_about_85 : decode cX7_about 85 = .ok (.bipush 8, 2) := by decide +kernel
theorem dX7_about_87 : decode cX7_about 87 = .ok (.iload_n 1, 1) := by decide +kernel
theorem dX7_about_88 : decode cX7_about 88 = .ok (.imul, 1) := by decide +kernel
theorem dX7_about_89 : decode cX7_about 89 = .ok (.iload_n 3, 1) := by decide +kernel
theorem dX7_about_90 : decode cX7_about 90 = .ok (.iadd, 1) := by decide +kernel
theorem dX7_about_91 : decode cX7_about 91 = .ok (.iaload, 1) := by decide +kernel
theorem dX7_about_92 : decode cX7_about 92 = .ok (.goto 5, 3) := by decide +kernel
theorem dX7_about_95 : decode cX7_about 95 = .ok (.bipush (-2), 2) := by decide +kernel
theorem dX7_about_97 : decode cX7_about 97 = .ok (.ireturn, 1) := by decide +kernel
theorem dX7_about_98 : decode cX7_about 98 = .ok (.aload_n 0, 1) := by decide +kernel
theorem dX7_about_99 : decode cX7_about 99 = .ok (.getfield 20, 3) := by decide +kernel
theorem dX7_about_102 : decode cX7_about 102 = .ok (.iload_n 1, 1) := by decide +kernel
theorem dX7_about_103 : decode cX7_about 103 = .ok (.iaload, 1) := by decide +kernel
theorem dX7_about_104 : decode cX7_about 104 = .ok (.ireturn, 1) := by decide +kernel
theorem dX7_about_105 : decode cX7_about 105 = .ok (.aload_n 0, 1) := by decide +kernel
theorem dX7_about_106 : decode cX7_about 106 = .ok (.getfield 23, 3) := by decide +kernel
theorem dX7_about_109 : decode cX7_about 109 = .ok (.iload_n 1, 1) := by decide +kernel
theorem dX7_about_110 : decode cX7_about 110 = .ok (.iaload, 1) := by decide +kernel
theorem dX7_about_111 : decode cX7_about 111 = .ok (.ireturn, 1) := by decide +kernel
theorem dX7_about_112 : decode cX7_about 112 = .ok (.bipush (-2), 2) := by decide +kernel
theorem dX7_about_114 : decode cX7_about 114 = .ok (.ireturn, 1) := by decide +kernel
theorem dX7_differs_0 : decode cX7_differs 0 = .ok (.aload_n 0, 1) := by decide +kernel
theorem dX7_differs_1 : decode cX7_differs 1 = .ok (.iload_n 1, 1) := by decide +kernel
theorem dX7_differs_2 : decode cX7_differs 2 = .ok (.invokevirtual 92, 3) := by decide +kernel
theorem dX7_differs_5 : decode cX7_differs 5 = .ok (.ifCond .eq 11, 3) := by decide +kernel
theorem dX7_differs_8 : decode cX7_differs 8 = .ok (.aload_n 0, 1) := by decide +kernel
theorem dX7_differs_9 : decode cX7_differs 9 = .ok (.iload_n 2, 1) := by decide +kernel
theorem dX7_differs_10 : decode cX7_differs 10 = .ok (.invokevirtual 92, 3) := by decide +kernel
theorem dX7_differs_13 : decode cX7_differs 13 = .ok (.ifCond .ne 6, 3) := by decide +kernel
theorem dX7_differs_16 : decode cX7_differs 16 = .ok (.bipush (-2), 2) := by decide +kernel
theorem dX7_differs_18 : decode cX7_differs 18 = .ok (.ireturn, 1) := by decide +kernel
theorem dX7_differs_19 : decode cX7_differs 19 = .ok (.iconst 0, 1) := by decide +kernel
theorem dX7_differs_20 : decode cX7_differs 20 = .ok (.istore 4, 2) := by decide +kernel
theorem dX7_differs_22 : decode cX7_differs 22 = .ok (.iconst 0, 1) := by decide +kernel
theorem dX7_differs_23 : decode cX7_differs 23 = .ok (.istore 5, 2) := by decide +kernel
theorem dX7_differs_25 : decode cX7_differs 25 = .ok (.iload 5, 2) := by decide +kernel
theorem dX7_differs_27 : decode cX7_differs 27 = .ok (.bipush 17, 2) := by decide +kernel
theorem dX7_differs_29 : decode cX7_differs 29 = .ok (.if_icmp .ge 121, 3) := by decide +kernel
theorem dX7_differs_32 : decode cX7_differs 32 = .ok (.iload 5, 2) := by decide +kernel
theorem dX7_differs_34 : decode cX7_differs 34 = .ok (.bipush 9, 2) := by decide +kernel
theorem dX7_differs_36 : decode cX7_differs 36 = .ok (.if_icmp .ge 38, 3) := by decide +kernel
theorem dX7_differs_39 : decode cX7_differs 39 = .ok (.aload_n 0, 1) := by decide +kernel
theorem dX7_differs_40 : decode cX7_differs 40 = .ok (.getfield 13, 3) := by decide +kernel
theorem dX7_differs_43 : decode cX7_differs 43 = .ok (.bipush 9, 2) := by decide +kernel
theorem dX7_differs_45 : decode cX7_differs 45 = .ok (.iload_n 1, 1) := by decide +kernel
theorem dX7_differs_46 : decode cX7_differs 46 = .ok (.imul, 1) := by decide +kernel
theorem dX7_differs_47 : decode cX7_differs 47 = .ok (.iload 5, 2) := by decide +kernel
theorem dX7_differs_49 : decode cX7_differs 49 = .ok (.iadd, 1) := by decide +kernel
theorem dX7_differs_50 : decode cX7_differs 50 = .ok (.iaload, 1) := by decide +kernel
theorem dX7_differs_51 : decode cX7_differs 51 = .ok (.aload_n 0, 1) := by decide +kernel
theorem dX7_differs_52 : decode cX7_differs 52 = .ok (.getfield 13, 3) := by decide +kernel
theorem dX7_differs_55 : decode cX7_differs 55 = .ok (.bipush 9, 2) := by decide +kernel
theorem dX7_differs_57 : decode cX7_differs 57 = .ok (.iload_n 2, 1) := by decide +kernel
theorem dX7_differs_58 : decode cX7_differs 58 = .ok (.imul, 1) := by decide +kernel
theorem dX7_differs_59 : decode cX7_differs 59 = .ok (.iload 5, 2) := by decide +kernel
theorem dX7_differs_61 : decode cX7_differs 61 = .ok (.iadd, 1) := by decide +kernel
theorem dX7_differs_62 : decode cX7_differs 62 = .ok (.iaload, 1) := by decide +kernel
theorem dX7_differs_63 : decode cX7_differs 63 = .ok (.if_icmp .eq 7, 3) := by decide +kernel
theorem dX7_differs_66 : decode cX7_differs 66 = .ok (.iconst 1, 1) := by decide +kernel
theorem dX7_differs_67 : decode cX7_differs 67 = .ok (.goto 45, 3) := by decide +kernel
theorem dX7_differs_70 : decode cX7_differs 70 = .ok (.iconst 0, 1) := by decide +kernel
theorem dX7_differs_71 : decode cX7_differs 71 = .ok (.goto 41, 3) := by decide +kernel
theorem dX7_differs_74 : decode cX7_differs 74 = .ok (.aload_n 0, 1) := by decide +kernel
theorem dX7_differs_75 : decode cX7_differs 75 = .ok (.getfield 17, 3) := by decide +kernel
theorem dX7_differs_78 : decode cX7_differs 78 = .ok (.bipush 8, 2) := by decide +kernel
theorem dX7_differs_80 : decode cX7_differs 80 = .ok (.iload_n 1, 1) := by decide +kernel
theorem dX7_differs_81 : decode cX7_differs 81 = .ok (.imul, 1) := by decide +kernel
theorem dX7_differs_82 : decode cX7_differs 82 = .ok (.iload 5, 2) := by decide +kernel
theorem dX7_differs_84 : decode cX7_differs 84 = .ok (.iadd, 1) := by decide +kernel
theorem dX7_differs_85 : decode cX7_differs 85 = .ok (.bipush 9, 2) := by decide +kernel
theorem dX7_differs_87 : decode cX7_differs 87 = .ok (.isub, 1) := by decide +kernel
theorem dX7_differs_88 : decode cX7_differs 88 = .ok (.iaload, 1) := by decide +kernel
theorem dX7_differs_89 : decode cX7_differs 89 = .ok (.aload_n 0, 1) := by decide +kernel
theorem dX7_differs_90 : decode cX7_differs 90 = .ok (.getfield 17, 3) := by decide +kernel
theorem dX7_differs_93 : decode cX7_differs 93 = .ok (.bipush 8, 2) := by decide +kernel
theorem dX7_differs_95 : decode cX7_differs 95 = .ok (.iload_n 2, 1) := by decide +kernel
theorem dX7_differs_96 : decode cX7_differs 96 = .ok (.imul, 1) := by decide +kernel
theorem dX7_differs_97 : decode cX7_differs 97 = .ok (.iload 5, 2) := by decide +kernel
theorem dX7_differs_99 : decode cX7_differs 99 = .ok (.iadd, 1) := by decide +kernel
theorem dX7_differs_100 : decode cX7_differs 100 = .ok (.bipush 9, 2) := by decide +kernel
theorem dX7_differs_102 : decode cX7_differs 102 = .ok (.isub, 1) := by decide +kernel
theorem dX7_differs_103 : decode cX7_differs 103 = .ok (.iaload, 1) := by decide +kernel
theorem dX7_differs_104 : decode cX7_differs 104 = .ok (.if_icmp .eq 7, 3) := by decide +kernel
theorem dX7_differs_107 : decode cX7_differs 107 = .ok (.iconst 1, 1) := by decide +kernel
theorem dX7_differs_108 : decode cX7_differs 108 = .ok (.goto 4, 3) := by decide +kernel
theorem dX7_differs_111 : decode cX7_differs 111 = .ok (.iconst 0, 1) := by decide +kernel
theorem dX7_differs_112 : decode cX7_differs 112 = .ok (.istore 6, 2) := by decide +kernel
theorem dX7_differs_114 : decode cX7_differs 114 = .ok (.iload 6, 2) := by decide +kernel
theorem dX7_differs_116 : decode cX7_differs 116 = .ok (.ifCond .eq 12, 3) := by decide +kernel
theorem dX7_differs_119 : decode cX7_differs 119 = .ok (.iload 4, 2) := by decide +kernel
theorem dX7_differs_121 : decode cX7_differs 121 = .ok (.iload_n 3, 1) := by decide +kernel
theorem dX7_differs_122 : decode cX7_differs 122 = .ok (.if_icmp .ne 6, 3) := by decide +kernel
theorem dX7_differs_125 : decode cX7_differs 125 = .ok (.iload 5, 2) := by decide +kernel
theorem dX7_differs_127 : decode cX7_differs 127 = .ok (.ireturn, 1) := by decide +kernel
theorem dX7_differs_128 : decode cX7_differs 128 = .ok (.iload 6, 2) := by decide +kernel
theorem dX7_differs_130 : decode cX7_differs 130 = .ok (.ifCond .eq 10, 3) := by decide +kernel
theorem dX7_differs_133 : decode cX7_differs 133 = .ok (.iload 4, 2) := by decide +kernel
theorem dX7_differs_135 : decode cX7_differs 135 = .ok (.iconst 1, 1) := by decide +kernel
theorem dX7_differs_136 : decode cX7_differs 136 = .ok (.iadd, 1) := by decide +kernel
theorem dX7_differs_137 : decode cX7_differs 137 = .ok (.goto 5, 3) := by decide +kernel
theorem dX7_differs_140 : decode cX7_differs 140 = .ok (.iload 4, 2) := by decide +kernel
theorem dX7_differs_142 : decode cX7_differs 142 = .ok (.istore 4, 2) := by decide +kernel
theorem dX7_differs_144 : decode cX7_differs 144 = .ok (.iinc 5 1, 3) := by decide +kernel
theorem dX7_differs_147 : decode cX7_differs 147 = .ok (.goto (-122), 3) := by decide +kernel
theorem dX7_differs_150 : decode cX7_differs 150 = .ok (.iconst (-1), 1) := by decide +kernel
theorem dX7_differs_151 : decode cX7_differs 151 = .ok (.ireturn, 1) := by decide +kernel
theorem dX7_node_0 : decode cX7_node 0 = .ok (.iload_n 1, 1) := by decide +kernel
theorem dX7_node_1 : decode cX7_node 1 = .ok (.iconst 1, 1) := by decide +kernel
theorem dX7_node_2 : decode cX7_node 2 = .ok (.sipush 1000, 3) := by decide +kernel
theorem dX7_node_5 : decode cX7_node 5 = .ok (.invokestatic 82, 3) := by decide +kernel
theorem dX7_node_8 : decode cX7_node 8 = .ok (.ifCond .eq 14, 3) := by decide +kernel
theorem dX7_node_11 : decode cX7_node 11 = .ok (.iload_n 2, 1) := by decide +kernel
theorem dX7_node_12 : decode cX7_node 12 = .ok (.iconst 0, 1) := by decide +kernel
theorem dX7_node_13 : decode cX7_node 13 = .ok (.sipush 1023, 3) := by decide +kernel
theorem dX7_node_16 : decode cX7_node 16 = .ok (.invokestatic 82, 3) := by decide +kernel
theorem dX7_node_19 : decode cX7_node 19 = .ok (.ifCond .ne 6, 3) := by decide +kernel
theorem dX7_node_22 : decode cX7_node 22 = .ok (.bipush (-2), 2) := by decide +kernel
theorem dX7_node_24 : decode cX7_node 24 = .ok (.ireturn, 1) := by decide +kernel
theorem dX7_node_25 : decode cX7_node 25 = .ok (.aload_n 0, 1) := by decide +kernel
theorem dX7_node_26 : decode cX7_node 26 = .ok (.getfield 86, 3) := by decide +kernel
theorem dX7_node_29 : decode cX7_node 29 = .ok (.bipush 12, 2) := by decide +kernel
theorem dX7_node_31 : decode cX7_node 31 = .ok (.if_icmp .ne 6, 3) := by decide +kernel
theorem dX7_node_34 : decode cX7_node 34 = .ok (.bipush (-4), 2) := by decide +kernel
theorem dX7_node_36 : decode cX7_node 36 = .ok (.ireturn, 1) := by decide +kernel
theorem dX7_node_37 : decode cX7_node 37 = .ok (.aload_n 0, 1) := by decide +kernel
theorem dX7_node_38 : decode cX7_node 38 = .ok (.getfield 29, 3) := by decide +kernel
theorem dX7_node_41 : decode cX7_node 41 = .ok (.aload_n 0, 1) := by decide +kernel
theorem dX7_node_42 : decode cX7_node 42 = .ok (.getfield 86, 3) := by decide +kernel
theorem dX7_node_45 : decode cX7_node 45 = .ok (.iload_n 1, 1) := by decide +kernel
theorem dX7_node_46 : decode cX7_node 46 = .ok (.iastore, 1) := by decide +kernel
theorem dX7_node_47 : decode cX7_node 47 = .ok (.aload_n 0, 1) := by decide +kernel
theorem dX7_node_48 : decode cX7_node 48 = .ok (.getfield 32, 3) := by decide +kernel
theorem dX7_node_51 : decode cX7_node 51 = .ok (.aload_n 0, 1) := by decide +kernel
theorem dX7_node_52 : decode cX7_node 52 = .ok (.getfield 86, 3) := by decide +kernel
theorem dX7_node_55 : decode cX7_node 55 = .ok (.iload_n 2, 1) := by decide +kernel
theorem dX7_node_56 : decode cX7_node 56 = .ok (.iastore, 1) := by decide +kernel
theorem dX7_node_57 : decode cX7_node 57 = .ok (.aload_n 0, 1) := by decide +kernel
theorem dX7_node_58 : decode cX7_node 58 = .ok (.getfield 35, 3) := by decide +kernel
theorem dX7_node_61 : decode cX7_node 61 = .ok (.aload_n 0, 1) := by decide +kernel
theorem dX7_node_62 : decode cX7_node 62 = .ok (.getfield 86, 3) := by decide +kernel
theorem dX7_node_65 : decode cX7_node 65 = .ok (.iconst (-1), 1) := by decide +kernel
theorem dX7_node_66 : decode cX7_node 66 = .ok (.iastore, 1) := by decide +kernel
theorem dX7_node_67 : decode cX7_node 67 = .ok (.aload_n 0, 1) := by decide +kernel
theorem dX7_node_68 : decode cX7_node 68 = .ok (.dup, 1) := by decide +kernel
theorem dX7_node_69 : decode cX7_node 69 = .ok (.getfield 86, 3) := by decide +kernel
theorem dX7_node_72 : decode cX7_node 72 = .ok (.iconst 1, 1) := by decide +kernel
theorem dX7_node_73 : decode cX7_node 73 = .ok (.iadd, 1) := by decide +kernel
theorem dX7_node_74 : decode cX7_node 74 = .ok (.putfield 86, 3) := by decide +kernel
theorem dX7_node_77 : decode cX7_node 77 = .ok (.aload_n 0, 1) := by decide +kernel
theorem dX7_node_78 : decode cX7_node 78 = .ok (.getfield 86, 3) := by decide +kernel
theorem dX7_node_81 : decode cX7_node 81 = .ok (.iconst 1, 1) := by decide +kernel
theorem dX7_node_82 : decode cX7_node 82 = .ok (.isub, 1) := by decide +kernel
theorem dX7_node_83 : decode cX7_node 83 = .ok (.ireturn, 1) := by decide +kernel
theorem dX7_build_0 : decode cX7_build 0 = .ok (.aload_n 0, 1) := by decide +kernel
theorem dX7_build_1 : decode cX7_build 1 = .ok (.iload_n 1, 1) := by decide +kernel
theorem dX7_build_2 : decode cX7_build 2 = .ok (.invokevirtual 96, 3) := by decide +kernel
theorem dX7_build_5 : decode cX7_build 5 = .ok (.ifCond .eq 14, 3) := by decide +kernel
theorem dX7_build_8 : decode cX7_build 8 = .ok (.iload_n 2, 1) := by decide +kernel
theorem dX7_build_9 : decode cX7_build 9 = .ok (.iconst 0, 1) := by decide +kernel
theorem dX7_build_10 : decode cX7_build 10 = .ok (.sipush 1023, 3) := by decide +kernel
theorem dX7_build_13 : decode cX7_build 13 = .ok (.invokestatic 82, 3) := by decide +kernel
theorem dX7_build_16 : decode cX7_build 16 = .ok (.ifCond .ne 6, 3) := by decide +kernel
theorem dX7_build_19 : decode cX7_build 19 = .ok (.bipush (-2), 2) := by decide +kernel
theorem dX7_build_21 : decode cX7_build 21 = .ok (.ireturn, 1) := by decide +kernel
theorem dX7_build_22 : decode cX7_build 22 = .ok (.aload_n 0, 1) := by decide +kernel
theorem dX7_build_23 : decode cX7_build 23 = .ok (.getfield 35, 3) := by decide +kernel
theorem dX7_build_26 : decode cX7_build 26 = .ok (.iload_n 1, 1) := by decide +kernel
theorem dX7_build_27 : decode cX7_build 27 = .ok (.iaload, 1) := by decide +kernel
theorem dX7_build_28 : decode cX7_build 28 = .ok (.iconst (-1), 1) := by decide +kernel
theorem dX7_build_29 : decode cX7_build 29 = .ok (.if_icmp .eq 6, 3) := by decide +kernel
theorem dX7_build_32 : decode cX7_build 32 = .ok (.bipush (-3), 2) := by decide +kernel
theorem dX7_build_34 : decode cX7_build 34 = .ok (.ireturn, 1) := by decide +kernel
theorem dX7_build_35 : decode cX7_build 35 = .ok (.aload_n 0, 1) := by decide +kernel
theorem dX7_build_36 : decode cX7_build 36 = .ok (.getfield 32, 3) := by decide +kernel
theorem dX7_build_39 : decode cX7_build 39 = .ok (.iload_n 1, 1) := by decide +kernel
theorem dX7_build_40 : decode cX7_build 40 = .ok (.iload_n 2, 1) := by decide +kernel
theorem dX7_build_41 : decode cX7_build 41 = .ok (.iastore, 1) := by decide +kernel
theorem dX7_build_42 : decode cX7_build 42 = .ok (.iconst 1, 1) := by decide +kernel
theorem dX7_build_43 : decode cX7_build 43 = .ok (.ireturn, 1) := by decide +kernel
theorem dX7_propose_0 : decode cX7_propose 0 = .ok (.aload_n 0, 1) := by decide +kernel
theorem dX7_propose_1 : decode cX7_propose 1 = .ok (.iload_n 1, 1) := by decide +kernel
theorem dX7_propose_2 : decode cX7_propose 2 = .ok (.invokevirtual 92, 3) := by decide +kernel
theorem dX7_propose_5 : decode cX7_propose 5 = .ok (.ifCond .eq 10, 3) := by decide +kernel
theorem dX7_propose_8 : decode cX7_propose 8 = .ok (.iload_n 2, 1) := by decide +kernel
theorem dX7_propose_9 : decode cX7_propose 9 = .ok (.sipush 1000, 3) := by decide +kernel
theorem dX7_propose_12 : decode cX7_propose 12 = .ok (.if_icmp .le 6, 3) := by decide +kernel
theorem dX7_propose_15 : decode cX7_propose 15 = .ok (.bipush (-2), 2) := by decide +kernel
theorem dX7_propose_17 : decode cX7_propose 17 = .ok (.ireturn, 1) := by decide +kernel
theorem dX7_propose_18 : decode cX7_propose 18 = .ok (.aload_n 0, 1) := by decide +kernel
theorem dX7_propose_19 : decode cX7_propose 19 = .ok (.getfield 23, 3) := by decide +kernel
theorem dX7_propose_22 : decode cX7_propose 22 = .ok (.iload_n 1, 1) := by decide +kernel
theorem dX7_propose_23 : decode cX7_propose 23 = .ok (.iaload, 1) := by decide +kernel
theorem dX7_propose_24 : decode cX7_propose 24 = .ok (.ifCond .ne 15, 3) := by decide +kernel
theorem dX7_propose_27 : decode cX7_propose 27 = .ok (.iload_n 2, 1) := by decide +kernel
theorem dX7_propose_28 : decode cX7_propose 28 = .ok (.aload_n 0, 1) := by decide +kernel
theorem dX7_propose_29 : decode cX7_propose 29 = .ok (.getfield 99, 3) := by decide +kernel
theorem dX7_propose_32 : decode cX7_propose 32 = .ok (.if_icmp .le 7, 3) := by decide +kernel
theorem dX7_propose_35 : decode cX7_propose 35 = .ok (.iconst 1, 1) := by decide +kernel
theorem dX7_propose_36 : decode cX7_propose 36 = .ok (.goto 4, 3) := by decide +kernel
theorem dX7_propose_39 : decode cX7_propose 39 = .ok (.iconst 0, 1) := by decide +kernel
theorem dX7_propose_40 : decode cX7_propose 40 = .ok (.istore_n 3, 1) := by decide +kernel
theorem dX7_propose_41 : decode cX7_propose 41 = .ok (.iconst 0, 1) := by decide +kernel
theorem dX7_propose_42 : decode cX7_propose 42 = .ok (.istore 4, 2) := by decide +kernel
theorem dX7_propose_44 : decode cX7_propose 44 = .ok (.iload 4, 2) := by decide +kernel
theorem dX7_propose_46 : decode cX7_propose 46 = .ok (.aload_n 0, 1) := by decide +kernel
theorem dX7_propose_47 : decode cX7_propose 47 = .ok (.getfield 7, 3) := by decide +kernel
theorem dX7_propose_50 : decode cX7_propose 50 = .ok (.if_icmp .ge 41, 3) := by decide +kernel
theorem dX7_propose_53 : decode cX7_propose 53 = .ok (.iload_n 3, 1) := by decide +kernel
theorem dX7_propose_54 : decode cX7_propose 54 = .ok (.ifCond .eq 29, 3) := by decide +kernel
theorem dX7_propose_57 : decode cX7_propose 57 = .ok (.aload_n 0, 1) := by decide +kernel
theorem dX7_propose_58 : decode cX7_propose 58 = .ok (.getfield 23, 3) := by decide +kernel
theorem dX7_propose_61 : decode cX7_propose 61 = .ok (.iload 4, 2) := by decide +kernel
theorem dX7_propose_63 : decode cX7_propose 63 = .ok (.iaload, 1) := by decide +kernel
theorem dX7_propose_64 : decode cX7_propose 64 = .ok (.iconst 1, 1) := by decide +kernel
theorem dX7_propose_65 : decode cX7_propose 65 = .ok (.if_icmp .ne 14, 3) := by decide +kernel
theorem dX7_propose_68 : decode cX7_propose 68 = .ok (.aload_n 0, 1) := by decide +kernel
theorem dX7_propose_69 : decode cX7_propose 69 = .ok (.getfield 20, 3) := by decide +kernel
theorem dX7_propose_72 : decode cX7_propose 72 = .ok (.iload 4, 2) := by decide +kernel
theorem dX7_propose_74 : decode cX7_propose 74 = .ok (.iaload, 1) := by decide +kernel
theorem dX7_propose_75 : decode cX7_propose 75 = .ok (.iload_n 2, 1) := by decide +kernel
theorem dX7_propose_76 : decode cX7_propose 76 = .ok (.if_icmp .ge 7, 3) := by decide +kernel
theorem dX7_propose_79 : decode cX7_propose 79 = .ok (.iconst 1, 1) := by decide +kernel
theorem dX7_propose_80 : decode cX7_propose 80 = .ok (.goto 4, 3) := by decide +kernel
theorem dX7_propose_83 : decode cX7_propose 83 = .ok (.iconst 0, 1) := by decide +kernel
theorem dX7_propose_84 : decode cX7_propose 84 = .ok (.istore_n 3, 1) := by decide +kernel
theorem dX7_propose_85 : decode cX7_propose 85 = .ok (.iinc 4 1, 3) := by decide +kernel
theorem dX7_propose_88 : decode cX7_propose 88 = .ok (.goto (-44), 3) := by decide +kernel
theorem dX7_propose_91 : decode cX7_propose 91 = .ok (.iload_n 3, 1) := by decide +kernel
theorem dX7_propose_92 : decode cX7_propose 92 = .ok (.ifCond .ne 6, 3) := by decide +kernel
theorem dX7_propose_95 : decode cX7_propose 95 = .ok (.bipush (-3), 2) := by decide +kernel
theorem dX7_propose_97 : decode cX7_propose 97 = .ok (.ireturn, 1) := by decide +kernel
theorem dX7_propose_98 : decode cX7_propose 98 = .ok (.aload_n 0, 1) := by decide +kernel
theorem dX7_propose_99 : decode cX7_propose 99 = .ok (.getfield 23, 3) := by decide +kernel
theorem dX7_propose_102 : decode cX7_propose 102 = .ok (.iload_n 1, 1) := by decide +kernel
theorem dX7_propose_103 : decode cX7_propose 103 = .ok (.iconst 1, 1) := by decide +kernel
theorem dX7_propose_104 : decode cX7_propose 104 = .ok (.iastore, 1) := by decide +kernel
theorem dX7_propose_105 : decode cX7_propose 105 = .ok (.aload_n 0, 1) := by decide +kernel
theorem dX7_propose_106 : decode cX7_propose 106 = .ok (.getfield 20, 3) := by decide +kernel
theorem dX7_propose_109 : decode cX7_propose 109 = .ok (.iload_n 1, 1) := by decide +kernel
theorem dX7_propose_110 : decode cX7_propose 110 = .ok (.iload_n 2, 1) := by decide +kernel
theorem dX7_propose_111 : decode cX7_propose 111 = .ok (.iastore, 1) := by decide +kernel
theorem dX7_propose_112 : decode cX7_propose 112 = .ok (.iconst 1, 1) := by decide +kernel
theorem dX7_propose_113 : decode cX7_propose 113 = .ok (.ireturn, 1) := by decide +kernel
theorem dX7_vote_0 : decode cX7_vote 0 = .ok (.aload_n 0, 1) := by decide +kernel
theorem dX7_vote_1 : decode cX7_vote 1 = .ok (.iload_n 1, 1) := by decide +kernel
theorem dX7_vote_2 : decode cX7_vote 2 = .ok (.invokevirtual 96, 3) := by decide +kernel
theorem dX7_vote_5 : decode cX7_vote 5 = .ok (.ifCond .eq 11, 3) := by decide +kernel
theorem dX7_vote_8 : decode cX7_vote 8 = .ok (.aload_n 0, 1) := by decide +kernel
theorem dX7_vote_9 : decode cX7_vote 9 = .ok (.iload_n 2, 1) := by decide +kernel
theorem dX7_vote_10 : decode cX7_vote 10 = .ok (.invokevirtual 92, 3) := by decide +kernel
theorem dX7_vote_13 : decode cX7_vote 13 = .ok (.ifCond .ne 6, 3) := by decide +kernel
theorem dX7_vote_16 : decode cX7_vote 16 = .ok (.bipush (-2), 2) := by decide +kernel
theorem dX7_vote_18 : decode cX7_vote 18 = .ok (.ireturn, 1) := by decide +kernel
theorem dX7_vote_19 : decode cX7_vote 19 = .ok (.aload_n 0, 1) := by decide +kernel
theorem dX7_vote_20 : decode cX7_vote 20 = .ok (.getfield 23, 3) := by decide +kernel
theorem dX7_vote_23 : decode cX7_vote 23 = .ok (.iload_n 2, 1) := by decide +kernel
theorem dX7_vote_24 : decode cX7_vote 24 = .ok (.iaload, 1) := by decide +kernel
theorem dX7_vote_25 : decode cX7_vote 25 = .ok (.iconst 1, 1) := by decide +kernel
theorem dX7_vote_26 : decode cX7_vote 26 = .ok (.if_icmp .ne 13, 3) := by decide +kernel
theorem dX7_vote_29 : decode cX7_vote 29 = .ok (.aload_n 0, 1) := by decide +kernel
theorem dX7_vote_30 : decode cX7_vote 30 = .ok (.getfield 35, 3) := by decide +kernel
theorem dX7_vote_33 : decode cX7_vote 33 = .ok (.iload_n 1, 1) := by decide +kernel
theorem dX7_vote_34 : decode cX7_vote 34 = .ok (.iaload, 1) := by decide +kernel
theorem dX7_vote_35 : decode cX7_vote 35 = .ok (.iconst (-1), 1) := by decide +kernel
theorem dX7_vote_36 : decode cX7_vote 36 = .ok (.if_icmp .eq 6, 3) := by decide +kernel
theorem dX7_vote_39 : decode cX7_vote 39 = .ok (.bipush (-3), 2) := by decide +kernel
theorem dX7_vote_41 : decode cX7_vote 41 = .ok (.ireturn, 1) := by decide +kernel
theorem dX7_vote_42 : decode cX7_vote 42 = .ok (.aload_n 0, 1) := by decide +kernel
theorem dX7_vote_43 : decode cX7_vote 43 = .ok (.getfield 38, 3) := by decide +kernel
theorem dX7_vote_46 : decode cX7_vote 46 = .ok (.bipush 12, 2) := by decide +kernel
theorem dX7_vote_48 : decode cX7_vote 48 = .ok (.iload_n 2, 1) := by decide +kernel
theorem dX7_vote_49 : decode cX7_vote 49 = .ok (.imul, 1) := by decide +kernel
theorem dX7_vote_50 : decode cX7_vote 50 = .ok (.iload_n 1, 1) := by decide +kernel
theorem dX7_vote_51 : decode cX7_vote 51 = .ok (.iadd, 1) := by decide +kernel
theorem dX7_vote_52 : decode cX7_vote 52 = .ok (.iload_n 3, 1) := by decide +kernel
theorem dX7_vote_53 : decode cX7_vote 53 = .ok (.bastore, 1) := by decide +kernel
theorem dX7_vote_54 : decode cX7_vote 54 = .ok (.iconst 1, 1) := by decide +kernel
theorem dX7_vote_55 : decode cX7_vote 55 = .ok (.ireturn, 1) := by decide +kernel
theorem dX7_agrees_0 : decode cX7_agrees 0 = .ok (.iconst 0, 1) := by decide +kernel
theorem dX7_agrees_1 : decode cX7_agrees 1 = .ok (.istore_n 2, 1) := by decide +kernel
theorem dX7_agrees_2 : decode cX7_agrees 2 = .ok (.iconst 0, 1) := by decide +kernel
theorem dX7_agrees_3 : decode cX7_agrees 3 = .ok (.istore_n 3, 1) := by decide +kernel
theorem dX7_agrees_4 : decode cX7_agrees 4 = .ok (.iconst 0, 1) := by decide +kernel
theorem dX7_agrees_5 : decode cX7_agrees 5 = .ok (.istore 4, 2) := by decide +kernel
theorem dX7_agrees_7 : decode cX7_agrees 7 = .ok (.iload 4, 2) := by decide +kernel
theorem dX7_agrees_9 : decode cX7_agrees 9 = .ok (.aload_n 0, 1) := by decide +kernel
theorem dX7_agrees_10 : decode cX7_agrees 10 = .ok (.getfield 86, 3) := by decide +kernel
theorem dX7_agrees_13 : decode cX7_agrees 13 = .ok (.if_icmp .ge 59, 3) := by decide +kernel
theorem dX7_agrees_16 : decode cX7_agrees 16 = .ok (.iload_n 2, 1) := by decide +kernel
theorem dX7_agrees_17 : decode cX7_agrees 17 = .ok (.aload_n 0, 1) := by decide +kernel
theorem dX7_agrees_18 : decode cX7_agrees 18 = .ok (.getfield 29, 3) := by decide +kernel
theorem dX7_agrees_21 : decode cX7_agrees 21 = .ok (.iload 4, 2) := by decide +kernel
theorem dX7_agrees_23 : decode cX7_agrees 23 = .ok (.iaload, 1) := by decide +kernel
theorem dX7_agrees_24 : decode cX7_agrees 24 = .ok (.iadd, 1) := by decide +kernel
theorem dX7_agrees_25 : decode cX7_agrees 25 = .ok (.istore_n 2, 1) := by decide +kernel
theorem dX7_agrees_26 : decode cX7_agrees 26 = .ok (.iload_n 3, 1) := by decide +kernel
theorem dX7_agrees_27 : decode cX7_agrees 27 = .ok (.aload_n 0, 1) := by decide +kernel
theorem dX7_agrees_28 : decode cX7_agrees 28 = .ok (.getfield 38, 3) := by decide +kernel
theorem dX7_agrees_31 : decode cX7_agrees 31 = .ok (.bipush 12, 2) := by decide +kernel
theorem dX7_agrees_33 : decode cX7_agrees 33 = .ok (.iload_n 1, 1) := by decide +kernel
theorem dX7_agrees_34 : decode cX7_agrees 34 = .ok (.imul, 1) := by decide +kernel
theorem dX7_agrees_35 : decode cX7_agrees 35 = .ok (.iload 4, 2) := by decide +kernel
theorem dX7_agrees_37 : decode cX7_agrees 37 = .ok (.iadd, 1) := by decide +kernel
theorem dX7_agrees_38 : decode cX7_agrees 38 = .ok (.baload, 1) := by decide +kernel
theorem dX7_agrees_39 : decode cX7_agrees 39 = .ok (.ifCond .eq 24, 3) := by decide +kernel
theorem dX7_agrees_42 : decode cX7_agrees 42 = .ok (.aload_n 0, 1) := by decide +kernel
theorem dX7_agrees_43 : decode cX7_agrees 43 = .ok (.getfield 35, 3) := by decide +kernel
theorem dX7_agrees_46 : decode cX7_agrees 46 = .ok (.iload 4, 2) := by decide +kernel
theorem dX7_agrees_48 : decode cX7_agrees 48 = .ok (.iaload, 1) := by decide +kernel
theorem dX7_agrees_49 : decode cX7_agrees 49 = .ok (.iconst (-1), 1) := by decide +kernel
theorem dX7_agrees_50 : decode cX7_agrees 50 = .ok (.if_icmp .ne 13, 3) := by decide +kernel
theorem dX7_agrees_53 : decode cX7_agrees 53 = .ok (.aload_n 0, 1) := by decide +kernel
theorem dX7_agrees_54 : decode cX7_agrees 54 = .ok (.getfield 29, 3) := by decide +kernel
theorem dX7_agrees_57 : decode cX7_agrees 57 = .ok (.iload 4, 2) := by decide +kernel
theorem dX7_agrees_59 : decode cX7_agrees 59 = .ok (.iaload, 1) := by decide +kernel
theorem dX7_agrees_60 : decode cX7_agrees 60 = .ok (.goto 4, 3) := by decide +kernel
theorem dX7_agrees_63 : decode cX7_agrees 63 = .ok (.iconst 0, 1) := by decide +kernel
theorem dX7_agrees_64 : decode cX7_agrees 64 = .ok (.iadd, 1) := by decide +kernel
theorem dX7_agrees_65 : decode cX7_agrees 65 = .ok (.istore_n 3, 1) := by decide +kernel
theorem dX7_agrees_66 : decode cX7_agrees 66 = .ok (.iinc 4 1, 3) := by decide +kernel
theorem dX7_agrees_69 : decode cX7_agrees 69 = .ok (.goto (-62), 3) := by decide +kernel
theorem dX7_agrees_72 : decode cX7_agrees 72 = .ok (.iconst 3, 1) := by decide +kernel
theorem dX7_agrees_73 : decode cX7_agrees 73 = .ok (.iload_n 3, 1) := by decide +kernel
theorem dX7_agrees_74 : decode cX7_agrees 74 = .ok (.imul, 1) := by decide +kernel
theorem dX7_agrees_75 : decode cX7_agrees 75 = .ok (.iconst 2, 1) := by decide +kernel
theorem dX7_agrees_76 : decode cX7_agrees 76 = .ok (.iload_n 2, 1) := by decide +kernel
theorem dX7_agrees_77 : decode cX7_agrees 77 = .ok (.imul, 1) := by decide +kernel
theorem dX7_agrees_78 : decode cX7_agrees 78 = .ok (.if_icmp .lt 7, 3) := by decide +kernel
theorem dX7_agrees_81 : decode cX7_agrees 81 = .ok (.iconst 1, 1) := by decide +kernel
theorem dX7_agrees_82 : decode cX7_agrees 82 = .ok (.goto 4, 3) := by decide +kernel
theorem dX7_agrees_85 : decode cX7_agrees 85 = .ok (.iconst 0, 1) := by decide +kernel
theorem dX7_agrees_86 : decode cX7_agrees 86 = .ok (.istore 4, 2) := by decide +kernel
theorem dX7_agrees_88 : decode cX7_agrees 88 = .ok (.aload_n 0, 1) := by decide +kernel
theorem dX7_agrees_89 : decode cX7_agrees 89 = .ok (.getfield 23, 3) := by decide +kernel
theorem dX7_agrees_92 : decode cX7_agrees 92 = .ok (.iload_n 1, 1) := by decide +kernel
theorem dX7_agrees_93 : decode cX7_agrees 93 = .ok (.iload 4, 2) := by decide +kernel
theorem dX7_agrees_95 : decode cX7_agrees 95 = .ok (.ifCond .eq 7, 3) := by decide +kernel
theorem dX7_agrees_98 : decode cX7_agrees 98 = .ok (.iconst 2, 1) := by decide +kernel
theorem dX7_agrees_99 : decode cX7_agrees 99 = .ok (.goto 4, 3) := by decide +kernel
theorem dX7_agrees_102 : decode cX7_agrees 102 = .ok (.iconst 3, 1) := by decide +kernel
theorem dX7_agrees_103 : decode cX7_agrees 103 = .ok (.iastore, 1) := by decide +kernel
theorem dX7_agrees_104 : decode cX7_agrees 104 = .ok (.aload_n 0, 1) := by decide +kernel
theorem dX7_agrees_105 : decode cX7_agrees 105 = .ok (.getfield 26, 3) := by decide +kernel
theorem dX7_agrees_108 : decode cX7_agrees 108 = .ok (.aload_n 0, 1) := by decide +kernel
theorem dX7_agrees_109 : decode cX7_agrees 109 = .ok (.getfield 99, 3) := by decide +kernel
theorem dX7_agrees_112 : decode cX7_agrees 112 = .ok (.iload 4, 2) := by decide +kernel
theorem dX7_agrees_114 : decode cX7_agrees 114 = .ok (.ifCond .eq 7, 3) := by decide +kernel
theorem dX7_agrees_117 : decode cX7_agrees 117 = .ok (.iload_n 1, 1) := by decide +kernel
theorem dX7_agrees_118 : decode cX7_agrees 118 = .ok (.goto 12, 3) := by decide +kernel
theorem dX7_agrees_121 : decode cX7_agrees 121 = .ok (.aload_n 0, 1) := by decide +kernel
theorem dX7_agrees_122 : decode cX7_agrees 122 = .ok (.getfield 26, 3) := by decide +kernel
theorem dX7_agrees_125 : decode cX7_agrees 125 = .ok (.aload_n 0, 1) := by decide +kernel
theorem dX7_agrees_126 : decode cX7_agrees 126 = .ok (.getfield 99, 3) := by decide +kernel
theorem dX7_agrees_129 : decode cX7_agrees 129 = .ok (.iaload, 1) := by decide +kernel
theorem dX7_agrees_130 : decode cX7_agrees 130 = .ok (.iastore, 1) := by decide +kernel
theorem dX7_agrees_131 : decode cX7_agrees 131 = .ok (.return_, 1) := by decide +kernel
theorem dX7_comes_0 : decode cX7_comes 0 = .ok (.aload_n 0, 1) := by decide +kernel
theorem dX7_comes_1 : decode cX7_comes 1 = .ok (.dup, 1) := by decide +kernel
theorem dX7_comes_2 : decode cX7_comes 2 = .ok (.getfield 99, 3) := by decide +kernel
theorem dX7_comes_5 : decode cX7_comes 5 = .ok (.iconst 1, 1) := by decide +kernel
theorem dX7_comes_6 : decode cX7_comes 6 = .ok (.iadd, 1) := by decide +kernel
theorem dX7_comes_7 : decode cX7_comes 7 = .ok (.putfield 99, 3) := by decide +kernel
theorem dX7_comes_10 : decode cX7_comes 10 = .ok (.aload_n 0, 1) := by decide +kernel
theorem dX7_comes_11 : decode cX7_comes 11 = .ok (.getfield 26, 3) := by decide +kernel
theorem dX7_comes_14 : decode cX7_comes 14 = .ok (.aload_n 0, 1) := by decide +kernel
theorem dX7_comes_15 : decode cX7_comes 15 = .ok (.getfield 99, 3) := by decide +kernel
theorem dX7_comes_18 : decode cX7_comes 18 = .ok (.aload_n 0, 1) := by decide +kernel
theorem dX7_comes_19 : decode cX7_comes 19 = .ok (.getfield 26, 3) := by decide +kernel
theorem dX7_comes_22 : decode cX7_comes 22 = .ok (.aload_n 0, 1) := by decide +kernel
theorem dX7_comes_23 : decode cX7_comes 23 = .ok (.getfield 99, 3) := by decide +kernel
theorem dX7_comes_26 : decode cX7_comes 26 = .ok (.iconst 1, 1) := by decide +kernel
theorem dX7_comes_27 : decode cX7_comes 27 = .ok (.isub, 1) := by decide +kernel
theorem dX7_comes_28 : decode cX7_comes 28 = .ok (.iaload, 1) := by decide +kernel
theorem dX7_comes_29 : decode cX7_comes 29 = .ok (.iastore, 1) := by decide +kernel
theorem dX7_comes_30 : decode cX7_comes 30 = .ok (.iconst 0, 1) := by decide +kernel
theorem dX7_comes_31 : decode cX7_comes 31 = .ok (.istore_n 1, 1) := by decide +kernel
theorem dX7_comes_32 : decode cX7_comes 32 = .ok (.iload_n 1, 1) := by decide +kernel
theorem dX7_comes_33 : decode cX7_comes 33 = .ok (.aload_n 0, 1) := by decide +kernel
theorem dX7_comes_34 : decode cX7_comes 34 = .ok (.getfield 7, 3) := by decide +kernel
theorem dX7_comes_37 : decode cX7_comes 37 = .ok (.if_icmp .ge 37, 3) := by decide +kernel
theorem dX7_comes_40 : decode cX7_comes 40 = .ok (.aload_n 0, 1) := by decide +kernel
theorem dX7_comes_41 : decode cX7_comes 41 = .ok (.getfield 23, 3) := by decide +kernel
theorem dX7_comes_44 : decode cX7_comes 44 = .ok (.iload_n 1, 1) := by decide +kernel
theorem dX7_comes_45 : decode cX7_comes 45 = .ok (.iaload, 1) := by decide +kernel
theorem dX7_comes_46 : decode cX7_comes 46 = .ok (.iconst 1, 1) := by decide +kernel
theorem dX7_comes_47 : decode cX7_comes 47 = .ok (.if_icmp .ne 21, 3) := by decide +kernel
theorem dX7_comes_50 : decode cX7_comes 50 = .ok (.aload_n 0, 1) := by decide +kernel
theorem dX7_comes_51 : decode cX7_comes 51 = .ok (.getfield 20, 3) := by decide +kernel
theorem dX7_comes_54 : decode cX7_comes 54 = .ok (.iload_n 1, 1) := by decide +kernel
theorem dX7_comes_55 : decode cX7_comes 55 = .ok (.iaload, 1) := by decide +kernel
theorem dX7_comes_56 : decode cX7_comes 56 = .ok (.aload_n 0, 1) := by decide +kernel
theorem dX7_comes_57 : decode cX7_comes 57 = .ok (.getfield 99, 3) := by decide +kernel
theorem dX7_comes_60 : decode cX7_comes 60 = .ok (.if_icmp .ne 8, 3) := by decide +kernel
theorem dX7_comes_63 : decode cX7_comes 63 = .ok (.aload_n 0, 1) := by decide +kernel
theorem dX7_comes_64 : decode cX7_comes 64 = .ok (.iload_n 1, 1) := by decide +kernel
theorem dX7_comes_65 : decode cX7_comes 65 = .ok (.invokevirtual 102, 3) := by decide +kernel
theorem dX7_comes_68 : decode cX7_comes 68 = .ok (.iinc 1 1, 3) := by decide +kernel
theorem dX7_comes_71 : decode cX7_comes 71 = .ok (.goto (-39), 3) := by decide +kernel
theorem dX7_comes_74 : decode cX7_comes 74 = .ok (.iconst 0, 1) := by decide +kernel
theorem dX7_comes_75 : decode cX7_comes 75 = .ok (.istore_n 1, 1) := by decide +kernel
theorem dX7_comes_76 : decode cX7_comes 76 = .ok (.iload_n 1, 1) := by decide +kernel
theorem dX7_comes_77 : decode cX7_comes 77 = .ok (.aload_n 0, 1) := by decide +kernel
theorem dX7_comes_78 : decode cX7_comes 78 = .ok (.getfield 86, 3) := by decide +kernel
theorem dX7_comes_81 : decode cX7_comes 81 = .ok (.if_icmp .ge 50, 3) := by decide +kernel
theorem dX7_comes_84 : decode cX7_comes 84 = .ok (.aload_n 0, 1) := by decide +kernel
theorem dX7_comes_85 : decode cX7_comes 85 = .ok (.getfield 35, 3) := by decide +kernel
theorem dX7_comes_88 : decode cX7_comes 88 = .ok (.iload_n 1, 1) := by decide +kernel
theorem dX7_comes_89 : decode cX7_comes 89 = .ok (.iaload, 1) := by decide +kernel
theorem dX7_comes_90 : decode cX7_comes 90 = .ok (.iconst (-1), 1) := by decide +kernel
theorem dX7_comes_91 : decode cX7_comes 91 = .ok (.if_icmp .ne 34, 3) := by decide +kernel
theorem dX7_comes_94 : decode cX7_comes 94 = .ok (.aload_n 0, 1) := by decide +kernel
theorem dX7_comes_95 : decode cX7_comes 95 = .ok (.getfield 32, 3) := by decide +kernel
theorem dX7_comes_98 : decode cX7_comes 98 = .ok (.iload_n 1, 1) := by decide +kernel
theorem dX7_comes_99 : decode cX7_comes 99 = .ok (.iaload, 1) := by decide +kernel
theorem dX7_comes_100 : decode cX7_comes 100 = .ok (.aload_n 0, 1) := by decide +kernel
theorem dX7_comes_101 : decode cX7_comes 101 = .ok (.getfield 26, 3) := by decide +kernel
theorem dX7_comes_104 : decode cX7_comes 104 = .ok (.aload_n 0, 1) := by decide +kernel
theorem dX7_comes_105 : decode cX7_comes 105 = .ok (.getfield 99, 3) := by decide +kernel
theorem dX7_comes_108 : decode cX7_comes 108 = .ok (.iaload, 1) := by decide +kernel
theorem dX7_comes_109 : decode cX7_comes 109 = .ok (.ishr, 1) := by decide +kernel
theorem dX7_comes_110 : decode cX7_comes 110 = .ok (.iconst 1, 1) := by decide +kernel
theorem dX7_comes_111 : decode cX7_comes 111 = .ok (.iand, 1) := by decide +kernel
theorem dX7_comes_112 : decode cX7_comes 112 = .ok (.ifCond .ne 13, 3) := by decide +kernel
theorem dX7_comes_115 : decode cX7_comes 115 = .ok (.aload_n 0, 1) := by decide +kernel
theorem dX7_comes_116 : decode cX7_comes 116 = .ok (.getfield 35, 3) := by decide +kernel
theorem dX7_comes_119 : decode cX7_comes 119 = .ok (.iload_n 1, 1) := by decide +kernel
theorem dX7_comes_120 : decode cX7_comes 120 = .ok (.aload_n 0, 1) := by decide +kernel
theorem dX7_comes_121 : decode cX7_comes 121 = .ok (.getfield 99, 3) := by decide +kernel
theorem dX7_comes_124 : decode cX7_comes 124 = .ok (.iastore, 1) := by decide +kernel
theorem dX7_comes_125 : decode cX7_comes 125 = .ok (.iinc 1 1, 3) := by decide +kernel
theorem dX7_comes_128 : decode cX7_comes 128 = .ok (.goto (-52), 3) := by decide +kernel
theorem dX7_comes_131 : decode cX7_comes 131 = .ok (.return_, 1) := by decide +kernel
theorem dX7_rise_0 : decode cX7_rise 0 = .ok (.iload_n 1, 1) := by decide +kernel
theorem dX7_rise_1 : decode cX7_rise 1 = .ok (.iconst 1, 1) := by decide +kernel
theorem dX7_rise_2 : decode cX7_rise 2 = .ok (.bipush 100, 2) := by decide +kernel
theorem dX7_rise_4 : decode cX7_rise 4 = .ok (.invokestatic 82, 3) := by decide +kernel
theorem dX7_rise_7 : decode cX7_rise 7 = .ok (.ifCond .ne 6, 3) := by decide +kernel
theorem dX7_rise_10 : decode cX7_rise 10 = .ok (.bipush (-2), 2) := by decide +kernel
theorem dX7_rise_12 : decode cX7_rise 12 = .ok (.ireturn, 1) := by decide +kernel
theorem dX7_rise_13 : decode cX7_rise 13 = .ok (.aload_n 0, 1) := by decide +kernel
theorem dX7_rise_14 : decode cX7_rise 14 = .ok (.getfield 99, 3) := by decide +kernel
theorem dX7_rise_17 : decode cX7_rise 17 = .ok (.iload_n 1, 1) := by decide +kernel
theorem dX7_rise_18 : decode cX7_rise 18 = .ok (.iadd, 1) := by decide +kernel
theorem dX7_rise_19 : decode cX7_rise 19 = .ok (.sipush 1000, 3) := by decide +kernel
theorem dX7_rise_22 : decode cX7_rise 22 = .ok (.if_icmp .le 6, 3) := by decide +kernel
theorem dX7_rise_25 : decode cX7_rise 25 = .ok (.bipush (-4), 2) := by decide +kernel
theorem dX7_rise_27 : decode cX7_rise 27 = .ok (.ireturn, 1) := by decide +kernel
theorem dX7_rise_28 : decode cX7_rise 28 = .ok (.iconst 0, 1) := by decide +kernel
theorem dX7_rise_29 : decode cX7_rise 29 = .ok (.istore_n 2, 1) := by decide +kernel
theorem dX7_rise_30 : decode cX7_rise 30 = .ok (.iload_n 2, 1) := by decide +kernel
theorem dX7_rise_31 : decode cX7_rise 31 = .ok (.iload_n 1, 1) := by decide +kernel
theorem dX7_rise_32 : decode cX7_rise 32 = .ok (.if_icmp .ge 13, 3) := by decide +kernel
theorem dX7_rise_35 : decode cX7_rise 35 = .ok (.aload_n 0, 1) := by decide +kernel
theorem dX7_rise_36 : decode cX7_rise 36 = .ok (.invokevirtual 106, 3) := by decide +kernel
theorem dX7_rise_39 : decode cX7_rise 39 = .ok (.iinc 2 1, 3) := by decide +kernel
theorem dX7_rise_42 : decode cX7_rise 42 = .ok (.goto (-12), 3) := by decide +kernel
theorem dX7_rise_45 : decode cX7_rise 45 = .ok (.aload_n 0, 1) := by decide +kernel
theorem dX7_rise_46 : decode cX7_rise 46 = .ok (.getfield 99, 3) := by decide +kernel
theorem dX7_rise_49 : decode cX7_rise 49 = .ok (.ireturn, 1) := by decide +kernel
theorem dX7_force_0 : decode cX7_force 0 = .ok (.iload_n 1, 1) := by decide +kernel
theorem dX7_force_1 : decode cX7_force 1 = .ok (.iconst 0, 1) := by decide +kernel
theorem dX7_force_2 : decode cX7_force 2 = .ok (.aload_n 0, 1) := by decide +kernel
theorem dX7_force_3 : decode cX7_force 3 = .ok (.getfield 99, 3) := by decide +kernel
theorem dX7_force_6 : decode cX7_force 6 = .ok (.invokestatic 82, 3) := by decide +kernel
theorem dX7_force_9 : decode cX7_force 9 = .ok (.ifCond .eq 12, 3) := by decide +kernel
theorem dX7_force_12 : decode cX7_force 12 = .ok (.aload_n 0, 1) := by decide +kernel
theorem dX7_force_13 : decode cX7_force 13 = .ok (.getfield 26, 3) := by decide +kernel
theorem dX7_force_16 : decode cX7_force 16 = .ok (.iload_n 1, 1) := by decide +kernel
theorem dX7_force_17 : decode cX7_force 17 = .ok (.iaload, 1) := by decide +kernel
theorem dX7_force_18 : decode cX7_force 18 = .ok (.goto 5, 3) := by decide +kernel
theorem dX7_force_21 : decode cX7_force 21 = .ok (.bipush (-2), 2) := by decide +kernel
theorem dX7_force_23 : decode cX7_force 23 = .ok (.ireturn, 1) := by decide +kernel
theorem dX7_halted_0 : decode cX7_halted 0 = .ok (.aload_n 0, 1) := by decide +kernel
theorem dX7_halted_1 : decode cX7_halted 1 = .ok (.iload_n 1, 1) := by decide +kernel
theorem dX7_halted_2 : decode cX7_halted 2 = .ok (.invokevirtual 96, 3) := by decide +kernel
theorem dX7_halted_5 : decode cX7_halted 5 = .ok (.ifCond .eq 12, 3) := by decide +kernel
theorem dX7_halted_8 : decode cX7_halted 8 = .ok (.aload_n 0, 1) := by decide +kernel
theorem dX7_halted_9 : decode cX7_halted 9 = .ok (.getfield 35, 3) := by decide +kernel
theorem dX7_halted_12 : decode cX7_halted 12 = .ok (.iload_n 1, 1) := by decide +kernel
theorem dX7_halted_13 : decode cX7_halted 13 = .ok (.iaload, 1) := by decide +kernel
theorem dX7_halted_14 : decode cX7_halted 14 = .ok (.goto 5, 3) := by decide +kernel
theorem dX7_halted_17 : decode cX7_halted 17 = .ok (.bipush (-2), 2) := by decide +kernel
theorem dX7_halted_19 : decode cX7_halted 19 = .ok (.ireturn, 1) := by decide +kernel
theorem dX7_contract_0 : decode cX7_contract 0 = .ok (.aload_n 0, 1) := by decide +kernel
theorem dX7_contract_1 : decode cX7_contract 1 = .ok (.getfield 89, 3) := by decide +kernel
theorem dX7_contract_4 : decode cX7_contract 4 = .ok (.bipush 12, 2) := by decide +kernel
theorem dX7_contract_6 : decode cX7_contract 6 = .ok (.if_icmp .ne 6, 3) := by decide +kernel
theorem dX7_contract_9 : decode cX7_contract 9 = .ok (.bipush (-4), 2) := by decide +kernel
theorem dX7_contract_11 : decode cX7_contract 11 = .ok (.ireturn, 1) := by decide +kernel
theorem dX7_contract_12 : decode cX7_contract 12 = .ok (.aload_n 0, 1) := by decide +kernel
theorem dX7_contract_13 : decode cX7_contract 13 = .ok (.getfield 42, 3) := by decide +kernel
theorem dX7_contract_16 : decode cX7_contract 16 = .ok (.aload_n 0, 1) := by decide +kernel
theorem dX7_contract_17 : decode cX7_contract 17 = .ok (.getfield 89, 3) := by decide +kernel
theorem dX7_contract_20 : decode cX7_contract 20 = .ok (.iconst (-1), 1) := by decide +kernel
theorem dX7_contract_21 : decode cX7_contract 21 = .ok (.iastore, 1) := by decide +kernel
theorem dX7_contract_22 : decode cX7_contract 22 = .ok (.aload_n 0, 1) := by decide +kernel
theorem dX7_contract_23 : decode cX7_contract 23 = .ok (.dup, 1) := by decide +kernel
theorem dX7_contract_24 : decode cX7_contract 24 = .ok (.getfield 89, 3) := by decide +kernel
theorem dX7_contract_27 : decode cX7_contract 27 = .ok (.iconst 1, 1) := by decide +kernel
theorem dX7_contract_28 : decode cX7_contract 28 = .ok (.iadd, 1) := by decide +kernel
theorem dX7_contract_29 : decode cX7_contract 29 = .ok (.putfield 89, 3) := by decide +kernel
theorem dX7_contract_32 : decode cX7_contract 32 = .ok (.aload_n 0, 1) := by decide +kernel
theorem dX7_contract_33 : decode cX7_contract 33 = .ok (.getfield 89, 3) := by decide +kernel
theorem dX7_contract_36 : decode cX7_contract 36 = .ok (.iconst 1, 1) := by decide +kernel
theorem dX7_contract_37 : decode cX7_contract 37 = .ok (.isub, 1) := by decide +kernel
theorem dX7_contract_38 : decode cX7_contract 38 = .ok (.ireturn, 1) := by decide +kernel
theorem dX7_act_0 : decode cX7_act 0 = .ok (.aload_n 0, 1) := by decide +kernel
theorem dX7_act_1 : decode cX7_act 1 = .ok (.iload_n 1, 1) := by decide +kernel
theorem dX7_act_2 : decode cX7_act 2 = .ok (.invokevirtual 109, 3) := by decide +kernel
theorem dX7_act_5 : decode cX7_act 5 = .ok (.ifCond .eq 33, 3) := by decide +kernel
theorem dX7_act_8 : decode cX7_act 8 = .ok (.iload_n 2, 1) := by decide +kernel
theorem dX7_act_9 : decode cX7_act 9 = .ok (.iconst 0, 1) := by decide +kernel
theorem dX7_act_10 : decode cX7_act 10 = .ok (.bipush 8, 2) := by decide +kernel
theorem dX7_act_12 : decode cX7_act 12 = .ok (.invokestatic 82, 3) := by decide +kernel
theorem dX7_act_15 : decode cX7_act 15 = .ok (.ifCond .eq 23, 3) := by decide +kernel
theorem dX7_act_18 : decode cX7_act 18 = .ok (.iload_n 2, 1) := by decide +kernel
theorem dX7_act_19 : decode cX7_act 19 = .ok (.bipush 6, 2) := by decide +kernel
theorem dX7_act_21 : decode cX7_act 21 = .ok (.if_icmp .ne 13, 3) := by decide +kernel
theorem dX7_act_24 : decode cX7_act 24 = .ok (.iload_n 3, 1) := by decide +kernel
theorem dX7_act_25 : decode cX7_act 25 = .ok (.iconst 0, 1) := by decide +kernel
theorem dX7_act_26 : decode cX7_act 26 = .ok (.bipush 7, 2) := by decide +kernel
theorem dX7_act_28 : decode cX7_act 28 = .ok (.invokestatic 82, 3) := by decide +kernel
theorem dX7_act_31 : decode cX7_act 31 = .ok (.ifCond .eq 7, 3) := by decide +kernel
theorem dX7_act_34 : decode cX7_act 34 = .ok (.iconst 1, 1) := by decide +kernel
theorem dX7_act_35 : decode cX7_act 35 = .ok (.goto 4, 3) := by decide +kernel
theorem dX7_act_38 : decode cX7_act 38 = .ok (.iconst 0, 1) := by decide +kernel
theorem dX7_act_39 : decode cX7_act 39 = .ok (.istore 4, 2) := by decide +kernel
theorem dX7_act_41 : decode cX7_act 41 = .ok (.iload 4, 2) := by decide +kernel
theorem dX7_act_43 : decode cX7_act 43 = .ok (.ifCond .eq 24, 3) := by decide +kernel
theorem dX7_act_46 : decode cX7_act 46 = .ok (.iload_n 2, 1) := by decide +kernel
theorem dX7_act_47 : decode cX7_act 47 = .ok (.bipush 7, 2) := by decide +kernel
theorem dX7_act_49 : decode cX7_act 49 = .ok (.if_icmp .eq 9, 3) := by decide +kernel
theorem dX7_act_52 : decode cX7_act 52 = .ok (.iload_n 2, 1) := by decide +kernel
theorem dX7_act_53 : decode cX7_act 53 = .ok (.bipush 8, 2) := by decide +kernel
theorem dX7_act_55 : decode cX7_act 55 = .ok (.if_icmp .ne 15, 3) := by decide +kernel
theorem dX7_act_58 : decode cX7_act 58 = .ok (.iload_n 3, 1) := by decide +kernel
theorem dX7_act_59 : decode cX7_act 59 = .ok (.iconst 0, 1) := by decide +kernel
theorem dX7_act_60 : decode cX7_act 60 = .ok (.iconst 3, 1) := by decide +kernel
theorem dX7_act_61 : decode cX7_act 61 = .ok (.invokestatic 82, 3) := by decide +kernel
theorem dX7_act_64 : decode cX7_act 64 = .ok (.ifCond .ne 6, 3) := by decide +kernel
theorem dX7_act_67 : decode cX7_act 67 = .ok (.bipush (-2), 2) := by decide +kernel
theorem dX7_act_69 : decode cX7_act 69 = .ok (.ireturn, 1) := by decide +kernel
theorem dX7_act_70 : decode cX7_act 70 = .ok (.aload_n 0, 1) := by decide +kernel
theorem dX7_act_71 : decode cX7_act 71 = .ok (.getfield 42, 3) := by decide +kernel
theorem dX7_act_74 : decode cX7_act 74 = .ok (.iload_n 1, 1) := by decide +kernel
theorem dX7_act_75 : decode cX7_act 75 = .ok (.iaload, 1) := by decide +kernel
theorem dX7_act_76 : decode cX7_act 76 = .ok (.iconst (-1), 1) := by decide +kernel
theorem dX7_act_77 : decode cX7_act 77 = .ok (.if_icmp .eq 6, 3) := by decide +kernel
theorem dX7_act_80 : decode cX7_act 80 = .ok (.bipush (-3), 2) := by decide +kernel
theorem dX7_act_82 : decode cX7_act 82 = .ok (.ireturn, 1) := by decide +kernel
theorem dX7_act_83 : decode cX7_act 83 = .ok (.aload_n 0, 1) := by decide +kernel
theorem dX7_act_84 : decode cX7_act 84 = .ok (.getfield 45, 3) := by decide +kernel
theorem dX7_act_87 : decode cX7_act 87 = .ok (.iload_n 1, 1) := by decide +kernel
theorem dX7_act_88 : decode cX7_act 88 = .ok (.iaload, 1) := by decide +kernel
theorem dX7_act_89 : decode cX7_act 89 = .ok (.bipush 24, 2) := by decide +kernel
theorem dX7_act_91 : decode cX7_act 91 = .ok (.if_icmp .ne 6, 3) := by decide +kernel
theorem dX7_act_94 : decode cX7_act 94 = .ok (.bipush (-4), 2) := by decide +kernel
theorem dX7_act_96 : decode cX7_act 96 = .ok (.ireturn, 1) := by decide +kernel
theorem dX7_act_97 : decode cX7_act 97 = .ok (.aload_n 0, 1) := by decide +kernel
theorem dX7_act_98 : decode cX7_act 98 = .ok (.getfield 48, 3) := by decide +kernel
theorem dX7_act_101 : decode cX7_act 101 = .ok (.bipush 24, 2) := by decide +kernel
theorem dX7_act_103 : decode cX7_act 103 = .ok (.iload_n 1, 1) := by decide +kernel
theorem dX7_act_104 : decode cX7_act 104 = .ok (.imul, 1) := by decide +kernel
theorem dX7_act_105 : decode cX7_act 105 = .ok (.aload_n 0, 1) := by decide +kernel
theorem dX7_act_106 : decode cX7_act 106 = .ok (.getfield 45, 3) := by decide +kernel
theorem dX7_act_109 : decode cX7_act 109 = .ok (.iload_n 1, 1) := by decide +kernel
theorem dX7_act_110 : decode cX7_act 110 = .ok (.iaload, 1) := by decide +kernel
theorem dX7_act_111 : decode cX7_act 111 = .ok (.iadd, 1) := by decide +kernel
theorem dX7_act_112 : decode cX7_act 112 = .ok (.iload_n 2, 1) := by decide +kernel
theorem dX7_act_113 : decode cX7_act 113 = .ok (.iastore, 1) := by decide +kernel
theorem dX7_act_114 : decode cX7_act 114 = .ok (.aload_n 0, 1) := by decide +kernel
theorem dX7_act_115 : decode cX7_act 115 = .ok (.getfield 51, 3) := by decide +kernel
theorem dX7_act_118 : decode cX7_act 118 = .ok (.bipush 24, 2) := by decide +kernel
theorem dX7_act_120 : decode cX7_act 120 = .ok (.iload_n 1, 1) := by decide +kernel
theorem dX7_act_121 : decode cX7_act 121 = .ok (.imul, 1) := by decide +kernel
theorem dX7_act_122 : decode cX7_act 122 = .ok (.aload_n 0, 1) := by decide +kernel
theorem dX7_act_123 : decode cX7_act 123 = .ok (.getfield 45, 3) := by decide +kernel
theorem dX7_act_126 : decode cX7_act 126 = .ok (.iload_n 1, 1) := by decide +kernel
theorem dX7_act_127 : decode cX7_act 127 = .ok (.iaload, 1) := by decide +kernel
theorem dX7_act_128 : decode cX7_act 128 = .ok (.iadd, 1) := by decide +kernel
theorem dX7_act_129 : decode cX7_act 129 = .ok (.iload_n 3, 1) := by decide +kernel
theorem dX7_act_130 : decode cX7_act 130 = .ok (.iastore, 1) := by decide +kernel
theorem dX7_act_131 : decode cX7_act 131 = .ok (.aload_n 0, 1) := by decide +kernel
theorem dX7_act_132 : decode cX7_act 132 = .ok (.getfield 45, 3) := by decide +kernel
theorem dX7_act_135 : decode cX7_act 135 = .ok (.iload_n 1, 1) := by decide +kernel
theorem dX7_act_136 : decode cX7_act 136 = .ok (.dup2, 1) := by decide +kernel
theorem dX7_act_137 : decode cX7_act 137 = .ok (.iaload, 1) := by decide +kernel
theorem dX7_act_138 : decode cX7_act 138 = .ok (.iconst 1, 1) := by decide +kernel
theorem dX7_act_139 : decode cX7_act 139 = .ok (.iadd, 1) := by decide +kernel
theorem dX7_act_140 : decode cX7_act 140 = .ok (.iastore, 1) := by decide +kernel
theorem dX7_act_141 : decode cX7_act 141 = .ok (.aload_n 0, 1) := by decide +kernel
theorem dX7_act_142 : decode cX7_act 142 = .ok (.getfield 45, 3) := by decide +kernel
theorem dX7_act_145 : decode cX7_act 145 = .ok (.iload_n 1, 1) := by decide +kernel
theorem dX7_act_146 : decode cX7_act 146 = .ok (.iaload, 1) := by decide +kernel
theorem dX7_act_147 : decode cX7_act 147 = .ok (.ireturn, 1) := by decide +kernel
theorem dX7_deploy_0 : decode cX7_deploy 0 = .ok (.aload_n 0, 1) := by decide +kernel
theorem dX7_deploy_1 : decode cX7_deploy 1 = .ok (.iload_n 1, 1) := by decide +kernel
theorem dX7_deploy_2 : decode cX7_deploy 2 = .ok (.invokevirtual 109, 3) := by decide +kernel
theorem dX7_deploy_5 : decode cX7_deploy 5 = .ok (.ifCond .ne 6, 3) := by decide +kernel
theorem dX7_deploy_8 : decode cX7_deploy 8 = .ok (.bipush (-2), 2) := by decide +kernel
theorem dX7_deploy_10 : decode cX7_deploy 10 = .ok (.ireturn, 1) := by decide +kernel
theorem dX7_deploy_11 : decode cX7_deploy 11 = .ok (.aload_n 0, 1) := by decide +kernel
theorem dX7_deploy_12 : decode cX7_deploy 12 = .ok (.getfield 42, 3) := by decide +kernel
theorem dX7_deploy_15 : decode cX7_deploy 15 = .ok (.iload_n 1, 1) := by decide +kernel
theorem dX7_deploy_16 : decode cX7_deploy 16 = .ok (.iaload, 1) := by decide +kernel
theorem dX7_deploy_17 : decode cX7_deploy 17 = .ok (.iconst (-1), 1) := by decide +kernel
theorem dX7_deploy_18 : decode cX7_deploy 18 = .ok (.if_icmp .ne 12, 3) := by decide +kernel
theorem dX7_deploy_21 : decode cX7_deploy 21 = .ok (.aload_n 0, 1) := by decide +kernel
theorem dX7_deploy_22 : decode cX7_deploy 22 = .ok (.getfield 45, 3) := by decide +kernel
theorem dX7_deploy_25 : decode cX7_deploy 25 = .ok (.iload_n 1, 1) := by decide +kernel
theorem dX7_deploy_26 : decode cX7_deploy 26 = .ok (.iaload, 1) := by decide +kernel
theorem dX7_deploy_27 : decode cX7_deploy 27 = .ok (.ifCond .ne 6, 3) := by decide +kernel
theorem dX7_deploy_30 : decode cX7_deploy 30 = .ok (.bipush (-3), 2) := by decide +kernel
theorem dX7_deploy_32 : decode cX7_deploy 32 = .ok (.ireturn, 1) := by decide +kernel
theorem dX7_deploy_33 : decode cX7_deploy 33 = .ok (.aload_n 0, 1) := by decide +kernel
theorem dX7_deploy_34 : decode cX7_deploy 34 = .ok (.getfield 26, 3) := by decide +kernel
theorem dX7_deploy_37 : decode cX7_deploy 37 = .ok (.aload_n 0, 1) := by decide +kernel
theorem dX7_deploy_38 : decode cX7_deploy 38 = .ok (.getfield 99, 3) := by decide +kernel
theorem dX7_deploy_41 : decode cX7_deploy 41 = .ok (.iaload, 1) := by decide +kernel
theorem dX7_deploy_42 : decode cX7_deploy 42 = .ok (.istore_n 2, 1) := by decide +kernel
theorem dX7_deploy_43 : decode cX7_deploy 43 = .ok (.iconst 0, 1) := by decide +kernel
theorem dX7_deploy_44 : decode cX7_deploy 44 = .ok (.istore_n 3, 1) := by decide +kernel
theorem dX7_deploy_45 : decode cX7_deploy 45 = .ok (.bipush 24, 2) := by decide +kernel
theorem dX7_deploy_47 : decode cX7_deploy 47 = .ok (.iload_n 1, 1) := by decide +kernel
theorem dX7_deploy_48 : decode cX7_deploy 48 = .ok (.imul, 1) := by decide +kernel
theorem dX7_deploy_49 : decode cX7_deploy 49 = .ok (.istore 4, 2) := by decide +kernel
theorem dX7_deploy_51 : decode cX7_deploy 51 = .ok (.iload 4, 2) := by decide +kernel
theorem dX7_deploy_53 : decode cX7_deploy 53 = .ok (.bipush 24, 2) := by decide +kernel
theorem dX7_deploy_55 : decode cX7_deploy 55 = .ok (.iload_n 1, 1) := by decide +kernel
theorem dX7_deploy_56 : decode cX7_deploy 56 = .ok (.imul, 1) := by decide +kernel
theorem dX7_deploy_57 : decode cX7_deploy 57 = .ok (.aload_n 0, 1) := by decide +kernel
theorem dX7_deploy_58 : decode cX7_deploy 58 = .ok (.getfield 45, 3) := by decide +kernel
theorem dX7_deploy_61 : decode cX7_deploy 61 = .ok (.iload_n 1, 1) := by decide +kernel
theorem dX7_deploy_62 : decode cX7_deploy 62 = .ok (.iaload, 1) := by decide +kernel
theorem dX7_deploy_63 : decode cX7_deploy 63 = .ok (.iadd, 1) := by decide +kernel
theorem dX7_deploy_64 : decode cX7_deploy 64 = .ok (.if_icmp .ge 113, 3) := by decide +kernel
theorem dX7_deploy_67 : decode cX7_deploy 67 = .ok (.aload_n 0, 1) := by decide +kernel
theorem dX7_deploy_68 : decode cX7_deploy 68 = .ok (.getfield 48, 3) := by decide +kernel
theorem dX7_deploy_71 : decode cX7_deploy 71 = .ok (.iload 4, 2) := by decide +kernel
theorem dX7_deploy_73 : decode cX7_deploy 73 = .ok (.iaload, 1) := by decide +kernel
theorem dX7_deploy_74 : decode cX7_deploy 74 = .ok (.istore 5, 2) := by decide +kernel
theorem dX7_deploy_76 : decode cX7_deploy 76 = .ok (.iload 5, 2) := by decide +kernel
theorem dX7_deploy_78 : decode cX7_deploy 78 = .ok (.bipush 6, 2) := by decide +kernel
theorem dX7_deploy_80 : decode cX7_deploy 80 = .ok (.if_icmp .ne 27, 3) := by decide +kernel
theorem dX7_deploy_83 : decode cX7_deploy 83 = .ok (.aload_n 0, 1) := by decide +kernel
theorem dX7_deploy_84 : decode cX7_deploy 84 = .ok (.getfield 17, 3) := by decide +kernel
theorem dX7_deploy_87 : decode cX7_deploy 87 = .ok (.bipush 8, 2) := by decide +kernel
theorem dX7_deploy_89 : decode cX7_deploy 89 = .ok (.iload_n 2, 1) := by decide +kernel
theorem dX7_deploy_90 : decode cX7_deploy 90 = .ok (.imul, 1) := by decide +kernel
theorem dX7_deploy_91 : decode cX7_deploy 91 = .ok (.aload_n 0, 1) := by decide +kernel
theorem dX7_deploy_92 : decode cX7_deploy 92 = .ok (.getfield 51, 3) := by decide +kernel
theorem dX7_deploy_95 : decode cX7_deploy 95 = .ok (.iload 4, 2) := by decide +kernel
theorem dX7_deploy_97 : decode cX7_deploy 97 = .ok (.iaload, 1) := by decide +kernel
theorem dX7_deploy_98 : decode cX7_deploy 98 = .ok (.iadd, 1) := by decide +kernel
theorem dX7_deploy_99 : decode cX7_deploy 99 = .ok (.iaload, 1) := by decide +kernel
theorem dX7_deploy_100 : decode cX7_deploy 100 = .ok (.iconst (-1), 1) := by decide +kernel
theorem dX7_deploy_101 : decode cX7_deploy 101 = .ok (.if_icmp .ne 6, 3) := by decide +kernel
theorem dX7_deploy_104 : decode cX7_deploy 104 = .ok (.bipush (-11), 2) := by decide +kernel
theorem dX7_deploy_106 : decode cX7_deploy 106 = .ok (.ireturn, 1) := by decide +kernel
theorem dX7_deploy_107 : decode cX7_deploy 107 = .ok (.iload 5, 2) := by decide +kernel
theorem dX7_deploy_109 : decode cX7_deploy 109 = .ok (.iconst 2, 1) := by decide +kernel
theorem dX7_deploy_110 : decode cX7_deploy 110 = .ok (.if_icmp .lt 13, 3) := by decide +kernel
theorem dX7_deploy_113 : decode cX7_deploy 113 = .ok (.iload 5, 2) := by decide +kernel
theorem dX7_deploy_115 : decode cX7_deploy 115 = .ok (.iconst 5, 1) := by decide +kernel
theorem dX7_deploy_116 : decode cX7_deploy 116 = .ok (.if_icmp .gt 7, 3) := by decide +kernel
theorem dX7_deploy_119 : decode cX7_deploy 119 = .ok (.iconst 2, 1) := by decide +kernel
theorem dX7_deploy_120 : decode cX7_deploy 120 = .ok (.goto 22, 3) := by decide +kernel
theorem dX7_deploy_123 : decode cX7_deploy 123 = .ok (.iload 5, 2) := by decide +kernel
theorem dX7_deploy_125 : decode cX7_deploy 125 = .ok (.bipush 6, 2) := by decide +kernel
theorem dX7_deploy_127 : decode cX7_deploy 127 = .ok (.if_icmp .eq 10, 3) := by decide +kernel
theorem dX7_deploy_130 : decode cX7_deploy 130 = .ok (.iload 5, 2) := by decide +kernel
theorem dX7_deploy_132 : decode cX7_deploy 132 = .ok (.bipush 7, 2) := by decide +kernel
theorem dX7_deploy_134 : decode cX7_deploy 134 = .ok (.if_icmp .ne 7, 3) := by decide +kernel
theorem dX7_deploy_137 : decode cX7_deploy 137 = .ok (.iconst 1, 1) := by decide +kernel
theorem dX7_deploy_138 : decode cX7_deploy 138 = .ok (.goto 4, 3) := by decide +kernel
theorem dX7_deploy_141 : decode cX7_deploy 141 = .ok (.iconst 0, 1) := by decide +kernel
theorem dX7_deploy_142 : decode cX7_deploy 142 = .ok (.istore 6, 2) := by decide +kernel
theorem dX7_deploy_144 : decode cX7_deploy 144 = .ok (.iload_n 3, 1) := by decide +kernel
theorem dX7_deploy_145 : decode cX7_deploy 145 = .ok (.iload 6, 2) := by decide +kernel
theorem dX7_deploy_147 : decode cX7_deploy 147 = .ok (.if_icmp .ge 6, 3) := by decide +kernel
theorem dX7_deploy_150 : decode cX7_deploy 150 = .ok (.bipush (-12), 2) := by decide +kernel
theorem dX7_deploy_152 : decode cX7_deploy 152 = .ok (.ireturn, 1) := by decide +kernel
theorem dX7_deploy_153 : decode cX7_deploy 153 = .ok (.iload_n 3, 1) := by decide +kernel
theorem dX7_deploy_154 : decode cX7_deploy 154 = .ok (.iload 5, 2) := by decide +kernel
theorem dX7_deploy_156 : decode cX7_deploy 156 = .ok (.bipush 7, 2) := by decide +kernel
theorem dX7_deploy_158 : decode cX7_deploy 158 = .ok (.if_icmp .ne 7, 3) := by decide +kernel
theorem dX7_deploy_161 : decode cX7_deploy 161 = .ok (.iconst (-1), 1) := by decide +kernel
theorem dX7_deploy_162 : decode cX7_deploy 162 = .ok (.goto 7, 3) := by decide +kernel
theorem dX7_deploy_165 : decode cX7_deploy 165 = .ok (.iconst 1, 1) := by decide +kernel
theorem dX7_deploy_166 : decode cX7_deploy 166 = .ok (.iload 6, 2) := by decide +kernel
theorem dX7_deploy_168 : decode cX7_deploy 168 = .ok (.isub, 1) := by decide +kernel
theorem dX7_deploy_169 : decode cX7_deploy 169 = .ok (.iadd, 1) := by decide +kernel
theorem dX7_deploy_170 : decode cX7_deploy 170 = .ok (.istore_n 3, 1) := by decide +kernel
theorem dX7_deploy_171 : decode cX7_deploy 171 = .ok (.iinc 4 1, 3) := by decide +kernel
theorem dX7_deploy_174 : decode cX7_deploy 174 = .ok (.goto (-123), 3) := by decide +kernel
theorem dX7_deploy_177 : decode cX7_deploy 177 = .ok (.aload_n 0, 1) := by decide +kernel
theorem dX7_deploy_178 : decode cX7_deploy 178 = .ok (.getfield 42, 3) := by decide +kernel
theorem dX7_deploy_181 : decode cX7_deploy 181 = .ok (.iload_n 1, 1) := by decide +kernel
theorem dX7_deploy_182 : decode cX7_deploy 182 = .ok (.iload_n 2, 1) := by decide +kernel
theorem dX7_deploy_183 : decode cX7_deploy 183 = .ok (.iastore, 1) := by decide +kernel
theorem dX7_deploy_184 : decode cX7_deploy 184 = .ok (.iload_n 2, 1) := by decide +kernel
theorem dX7_deploy_185 : decode cX7_deploy 185 = .ok (.ireturn, 1) := by decide +kernel
theorem dX7_meant_0 : decode cX7_meant 0 = .ok (.iload_n 0, 1) := by decide +kernel
theorem dX7_meant_1 : decode cX7_meant 1 = .ok (.tableswitch 65 0 4 #[35, 48, 51, 55, 61], 35) := by decide +kernel
theorem dX7_meant_36 : decode cX7_meant 36 = .ok (.lload_n 1, 1) := by decide +kernel
theorem dX7_meant_37 : decode cX7_meant 37 = .ok (.lconst 0, 1) := by decide +kernel
theorem dX7_meant_38 : decode cX7_meant 38 = .ok (.lcmp, 1) := by decide +kernel
theorem dX7_meant_39 : decode cX7_meant 39 = .ok (.ifCond .ge 8, 3) := by decide +kernel
theorem dX7_meant_42 : decode cX7_meant 42 = .ok (.lload_n 1, 1) := by decide +kernel
theorem dX7_meant_43 : decode cX7_meant 43 = .ok (.lneg, 1) := by decide +kernel
theorem dX7_meant_44 : decode cX7_meant 44 = .ok (.goto 4, 3) := by decide +kernel
theorem dX7_meant_47 : decode cX7_meant 47 = .ok (.lload_n 1, 1) := by decide +kernel
theorem dX7_meant_48 : decode cX7_meant 48 = .ok (.lreturn, 1) := by decide +kernel
theorem dX7_meant_49 : decode cX7_meant 49 = .ok (.lload_n 1, 1) := by decide +kernel
theorem dX7_meant_50 : decode cX7_meant 50 = .ok (.lneg, 1) := by decide +kernel
theorem dX7_meant_51 : decode cX7_meant 51 = .ok (.lreturn, 1) := by decide +kernel
theorem dX7_meant_52 : decode cX7_meant 52 = .ok (.lload_n 1, 1) := by decide +kernel
theorem dX7_meant_53 : decode cX7_meant 53 = .ok (.lload_n 1, 1) := by decide +kernel
theorem dX7_meant_54 : decode cX7_meant 54 = .ok (.lmul, 1) := by decide +kernel
theorem dX7_meant_55 : decode cX7_meant 55 = .ok (.lreturn, 1) := by decide +kernel
theorem dX7_meant_56 : decode cX7_meant 56 = .ok (.lload_n 1, 1) := by decide +kernel
theorem dX7_meant_57 : decode cX7_meant 57 = .ok (.ldc2_w 112, 3) := by decide +kernel
theorem dX7_meant_60 : decode cX7_meant 60 = .ok (.ldiv, 1) := by decide +kernel
theorem dX7_meant_61 : decode cX7_meant 61 = .ok (.lreturn, 1) := by decide +kernel
theorem dX7_meant_62 : decode cX7_meant 62 = .ok (.lload_n 1, 1) := by decide +kernel
theorem dX7_meant_63 : decode cX7_meant 63 = .ok (.iconst 1, 1) := by decide +kernel
theorem dX7_meant_64 : decode cX7_meant 64 = .ok (.lshr, 1) := by decide +kernel
theorem dX7_meant_65 : decode cX7_meant 65 = .ok (.lreturn, 1) := by decide +kernel
theorem dX7_meant_66 : decode cX7_meant 66 = .ok (.lload_n 1, 1) := by decide +kernel
theorem dX7_meant_67 : decode cX7_meant 67 = .ok (.invokestatic 114, 3) := by decide +kernel
theorem dX7_meant_70 : decode cX7_meant 70 = .ok (.lreturn, 1) := by decide +kernel
theorem dX7_ones_0 : decode cX7_ones 0 = .ok (.lconst 0, 1) := by decide +kernel
theorem dX7_ones_1 : decode cX7_ones 1 = .ok (.lstore_n 2, 1) := by decide +kernel
theorem dX7_ones_2 : decode cX7_ones 2 = .ok (.iconst 0, 1) := by decide +kernel
theorem dX7_ones_3 : decode cX7_ones 3 = .ok (.istore 4, 2) := by decide +kernel
theorem dX7_ones_5 : decode cX7_ones 5 = .ok (.iload 4, 2) := by decide +kernel
theorem dX7_ones_7 : decode cX7_ones 7 = .ok (.bipush 64, 2) := by decide +kernel
theorem dX7_ones_9 : decode cX7_ones 9 = .ok (.if_icmp .ge 18, 3) := by decide +kernel
theorem dX7_ones_12 : decode cX7_ones 12 = .ok (.lload_n 2, 1) := by decide +kernel
theorem dX7_ones_13 : decode cX7_ones 13 = .ok (.lload_n 0, 1) := by decide +kernel
theorem dX7_ones_14 : decode cX7_ones 14 = .ok (.iload 4, 2) := by decide +kernel
theorem dX7_ones_16 : decode cX7_ones 16 = .ok (.lshr, 1) := by decide +kernel
theorem dX7_ones_17 : decode cX7_ones 17 = .ok (.lconst 1, 1) := by decide +kernel
theorem dX7_ones_18 : decode cX7_ones 18 = .ok (.land, 1) := by decide +kernel
theorem dX7_ones_19 : decode cX7_ones 19 = .ok (.ladd, 1) := by decide +kernel
theorem dX7_ones_20 : decode cX7_ones 20 = .ok (.lstore_n 2, 1) := by decide +kernel
theorem dX7_ones_21 : decode cX7_ones 21 = .ok (.iinc 4 1, 3) := by decide +kernel
theorem dX7_ones_24 : decode cX7_ones 24 = .ok (.goto (-19), 3) := by decide +kernel
theorem dX7_ones_27 : decode cX7_ones 27 = .ok (.lload_n 2, 1) := by decide +kernel
theorem dX7_ones_28 : decode cX7_ones 28 = .ok (.lreturn, 1) := by decide +kernel
theorem dX7_worked_0 : decode cX7_worked 0 = .ok (.iload_n 0, 1) := by decide +kernel
theorem dX7_worked_1 : decode cX7_worked 1 = .ok (.iconst 2, 1) := by decide +kernel
theorem dX7_worked_2 : decode cX7_worked 2 = .ok (.if_icmp .ne 9, 3) := by decide +kernel
theorem dX7_worked_5 : decode cX7_worked 5 = .ok (.lload_n 1, 1) := by decide +kernel
theorem dX7_worked_6 : decode cX7_worked 6 = .ok (.lload_n 3, 1) := by decide +kernel
theorem dX7_worked_7 : decode cX7_worked 7 = .ok (.ladd, 1) := by decide +kernel
theorem dX7_worked_8 : decode cX7_worked 8 = .ok (.goto 28, 3) := by decide +kernel
theorem dX7_worked_11 : decode cX7_worked 11 = .ok (.iload_n 0, 1) := by decide +kernel
theorem dX7_worked_12 : decode cX7_worked 12 = .ok (.iconst 3, 1) := by decide +kernel
theorem dX7_worked_13 : decode cX7_worked 13 = .ok (.if_icmp .ne 9, 3) := by decide +kernel
theorem dX7_worked_16 : decode cX7_worked 16 = .ok (.lload_n 1, 1) := by decide +kernel
theorem dX7_worked_17 : decode cX7_worked 17 = .ok (.lload_n 3, 1) := by decide +kernel
theorem dX7_worked_18 : decode cX7_worked 18 = .ok (.lsub, 1) := by decide +kernel
theorem dX7_worked_19 : decode cX7_worked 19 = .ok (.goto 17, 3) := by decide +kernel
theorem dX7_worked_22 : decode cX7_worked 22 = .ok (.iload_n 0, 1) := by decide +kernel
theorem dX7_worked_23 : decode cX7_worked 23 = .ok (.iconst 4, 1) := by decide +kernel
theorem dX7_worked_24 : decode cX7_worked 24 = .ok (.if_icmp .ne 9, 3) := by decide +kernel
theorem dX7_worked_27 : decode cX7_worked 27 = .ok (.lload_n 1, 1) := by decide +kernel
theorem dX7_worked_28 : decode cX7_worked 28 = .ok (.lload_n 3, 1) := by decide +kernel
theorem dX7_worked_29 : decode cX7_worked 29 = .ok (.lmul, 1) := by decide +kernel
theorem dX7_worked_30 : decode cX7_worked 30 = .ok (.goto 6, 3) := by decide +kernel
theorem dX7_worked_33 : decode cX7_worked 33 = .ok (.lload_n 1, 1) := by decide +kernel
theorem dX7_worked_34 : decode cX7_worked 34 = .ok (.lload_n 3, 1) := by decide +kernel
theorem dX7_worked_35 : decode cX7_worked 35 = .ok (.ldiv, 1) := by decide +kernel
theorem dX7_worked_36 : decode cX7_worked 36 = .ok (.lreturn, 1) := by decide +kernel
theorem dX7_runs_0 : decode cX7_runs 0 = .ok (.iconst 0, 1) := by decide +kernel
theorem dX7_runs_1 : decode cX7_runs 1 = .ok (.istore 6, 2) := by decide +kernel
theorem dX7_runs_3 : decode cX7_runs 3 = .ok (.iconst 0, 1) := by decide +kernel
theorem dX7_runs_4 : decode cX7_runs 4 = .ok (.istore 7, 2) := by decide +kernel
theorem dX7_runs_6 : decode cX7_runs 6 = .ok (.iconst 0, 1) := by decide +kernel
theorem dX7_runs_7 : decode cX7_runs 7 = .ok (.istore 8, 2) := by decide +kernel
theorem dX7_runs_9 : decode cX7_runs 9 = .ok (.iload 8, 2) := by decide +kernel
theorem dX7_runs_11 : decode cX7_runs 11 = .ok (.iconst 4, 1) := by decide +kernel
theorem dX7_runs_12 : decode cX7_runs 12 = .ok (.if_icmp .ge 27, 3) := by decide +kernel
theorem dX7_runs_15 : decode cX7_runs 15 = .ok (.aload_n 0, 1) := by decide +kernel
theorem dX7_runs_16 : decode cX7_runs 16 = .ok (.getfield 76, 3) := by decide +kernel
theorem dX7_runs_19 : decode cX7_runs 19 = .ok (.iload 8, 2) := by decide +kernel
theorem dX7_runs_21 : decode cX7_runs 21 = .ok (.aload_n 0, 1) := by decide +kernel
theorem dX7_runs_22 : decode cX7_runs 22 = .ok (.getfield 54, 3) := by decide +kernel
theorem dX7_runs_25 : decode cX7_runs 25 = .ok (.iconst 4, 1) := by decide +kernel
theorem dX7_runs_26 : decode cX7_runs 26 = .ok (.iload_n 1, 1) := by decide +kernel
theorem dX7_runs_27 : decode cX7_runs 27 = .ok (.imul, 1) := by decide +kernel
theorem dX7_runs_28 : decode cX7_runs 28 = .ok (.iload 8, 2) := by decide +kernel
theorem dX7_runs_30 : decode cX7_runs 30 = .ok (.iadd, 1) := by decide +kernel
theorem dX7_runs_31 : decode cX7_runs 31 = .ok (.laload, 1) := by decide +kernel
theorem dX7_runs_32 : decode cX7_runs 32 = .ok (.lastore, 1) := by decide +kernel
theorem dX7_runs_33 : decode cX7_runs 33 = .ok (.iinc 8 1, 3) := by decide +kernel
theorem dX7_runs_36 : decode cX7_runs 36 = .ok (.goto (-27), 3) := by decide +kernel
theorem dX7_runs_39 : decode cX7_runs 39 = .ok (.bipush 24, 2) := by decide +kernel
theorem dX7_runs_41 : decode cX7_runs 41 = .ok (.iload_n 1, 1) := by decide +kernel
theorem dX7_runs_42 : decode cX7_runs 42 = .ok (.imul, 1) := by decide +kernel
theorem dX7_runs_43 : decode cX7_runs 43 = .ok (.istore 8, 2) := by decide +kernel
theorem dX7_runs_45 : decode cX7_runs 45 = .ok (.iload 8, 2) := by decide +kernel
theorem dX7_runs_47 : decode cX7_runs 47 = .ok (.bipush 24, 2) := by decide +kernel
theorem dX7_runs_49 : decode cX7_runs 49 = .ok (.iload_n 1, 1) := by decide +kernel
theorem dX7_runs_50 : decode cX7_runs 50 = .ok (.imul, 1) := by decide +kernel
theorem dX7_runs_51 : decode cX7_runs 51 = .ok (.aload_n 0, 1) := by decide +kernel
theorem dX7_runs_52 : decode cX7_runs 52 = .ok (.getfield 45, 3) := by decide +kernel
theorem dX7_runs_55 : decode cX7_runs 55 = .ok (.iload_n 1, 1) := by decide +kernel
theorem dX7_runs_56 : decode cX7_runs 56 = .ok (.iaload, 1) := by decide +kernel
theorem dX7_runs_57 : decode cX7_runs 57 = .ok (.iadd, 1) := by decide +kernel
theorem dX7_runs_58 : decode cX7_runs 58 = .ok (.if_icmp .ge 273, 3) := by decide +kernel
theorem dX7_runs_61 : decode cX7_runs 61 = .ok (.aload_n 0, 1) := by decide +kernel
theorem dX7_runs_62 : decode cX7_runs 62 = .ok (.getfield 48, 3) := by decide +kernel
theorem dX7_runs_65 : decode cX7_runs 65 = .ok (.iload 8, 2) := by decide +kernel
theorem dX7_runs_67 : decode cX7_runs 67 = .ok (.iaload, 1) := by decide +kernel
theorem dX7_runs_68 : decode cX7_runs 68 = .ok (.istore 9, 2) := by decide +kernel
theorem dX7_runs_70 : decode cX7_runs 70 = .ok (.aload_n 0, 1) := by decide +kernel
theorem dX7_runs_71 : decode cX7_runs 71 = .ok (.getfield 51, 3) := by decide +kernel
theorem dX7_runs_74 : decode cX7_runs 74 = .ok (.iload 8, 2) := by decide +kernel
theorem dX7_runs_76 : decode cX7_runs 76 = .ok (.iaload, 1) := by decide +kernel
theorem dX7_runs_77 : decode cX7_runs 77 = .ok (.istore 10, 2) := by decide +kernel
theorem dX7_runs_79 : decode cX7_runs 79 = .ok (.iload 6, 2) := by decide +kernel
theorem dX7_runs_81 : decode cX7_runs 81 = .ok (.aload_n 0, 1) := by decide +kernel
theorem dX7_runs_82 : decode cX7_runs 82 = .ok (.getfield 13, 3) := by decide +kernel
theorem dX7_runs_85 : decode cX7_runs 85 = .ok (.bipush 9, 2) := by decide +kernel
theorem dX7_runs_87 : decode cX7_runs 87 = .ok (.iload 5, 2) := by decide +kernel
theorem dX7_runs_89 : decode cX7_runs 89 = .ok (.imul, 1) := by decide +kernel
theorem dX7_runs_90 : decode cX7_runs 90 = .ok (.iload 9, 2) := by decide +kernel
theorem dX7_runs_92 : decode cX7_runs 92 = .ok (.iadd, 1) := by decide +kernel
theorem dX7_runs_93 : decode cX7_runs 93 = .ok (.iaload, 1) := by decide +kernel
theorem dX7_runs_94 : decode cX7_runs 94 = .ok (.iadd, 1) := by decide +kernel
theorem dX7_runs_95 : decode cX7_runs 95 = .ok (.istore 6, 2) := by decide +kernel
theorem dX7_runs_97 : decode cX7_runs 97 = .ok (.iload 6, 2) := by decide +kernel
theorem dX7_runs_99 : decode cX7_runs 99 = .ok (.iload 4, 2) := by decide +kernel
theorem dX7_runs_101 : decode cX7_runs 101 = .ok (.if_icmp .le 6, 3) := by decide +kernel
theorem dX7_runs_104 : decode cX7_runs 104 = .ok (.bipush (-13), 2) := by decide +kernel
theorem dX7_runs_106 : decode cX7_runs 106 = .ok (.ireturn, 1) := by decide +kernel
theorem dX7_runs_107 : decode cX7_runs 107 = .ok (.iload 9, 2) := by decide +kernel
theorem dX7_runs_109 : decode cX7_runs 109 = .ok (.tableswitch 162 0 8 #[51, 67, 162, 162, 162, 162, 81, 122, 142], 51) := by decide +kernel
theorem dX7_runs_160 : decode cX7_runs 160 = .ok (.aload_n 0, 1) := by decide +kernel
theorem dX7_runs_161 : decode cX7_runs 161 = .ok (.getfield 73, 3) := by decide +kernel
theorem dX7_runs_164 : decode cX7_runs 164 = .ok (.iload 7, 2) := by decide +kernel
theorem dX7_runs_166 : decode cX7_runs 166 = .ok (.iload 10, 2) := by decide +kernel
theorem dX7_runs_168 : decode cX7_runs 168 = .ok (.i2l, 1) := by decide +kernel
theorem dX7_runs_169 : decode cX7_runs 169 = .ok (.lastore, 1) := by decide +kernel
theorem dX7_runs_170 : decode cX7_runs 170 = .ok (.iinc 7 1, 3) := by decide +kernel
theorem dX7_runs_173 : decode cX7_runs 173 = .ok (.goto 152, 3) := by decide +kernel
theorem dX7_runs_176 : decode cX7_runs 176 = .ok (.aload_n 0, 1) := by decide +kernel
theorem dX7_runs_177 : decode cX7_runs 177 = .ok (.getfield 73, 3) := by decide +kernel
theorem dX7_runs_180 : decode cX7_runs 180 = .ok (.iload 7, 2) := by decide +kernel
theorem dX7_runs_182 : decode cX7_runs 182 = .ok (.lload_n 2, 1) := by decide +kernel
theorem dX7_runs_183 : decode cX7_runs 183 = .ok (.lastore, 1) := by decide +kernel
theorem dX7_runs_184 : decode cX7_runs 184 = .ok (.iinc 7 1, 3) := by decide +kernel
theorem dX7_runs_187 : decode cX7_runs 187 = .ok (.goto 138, 3) := by decide +kernel
theorem dX7_runs_190 : decode cX7_runs 190 = .ok (.aload_n 0, 1) := by decide +kernel
theorem dX7_runs_191 : decode cX7_runs 191 = .ok (.getfield 73, 3) := by decide +kernel
theorem dX7_runs_194 : decode cX7_runs 194 = .ok (.iload 7, 2) := by decide +kernel
theorem dX7_runs_196 : decode cX7_runs 196 = .ok (.iconst 1, 1) := by decide +kernel
theorem dX7_runs_197 : decode cX7_runs 197 = .ok (.isub, 1) := by decide +kernel
theorem dX7_runs_198 : decode cX7_runs 198 = .ok (.aload_n 0, 1) := by decide +kernel
theorem dX7_runs_199 : decode cX7_runs 199 = .ok (.getfield 17, 3) := by decide +kernel
theorem dX7_runs_202 : decode cX7_runs 202 = .ok (.bipush 8, 2) := by decide +kernel
theorem dX7_runs_204 : decode cX7_runs 204 = .ok (.aload_n 0, 1) := by decide +kernel
theorem dX7_runs_205 : decode cX7_runs 205 = .ok (.getfield 42, 3) := by decide +kernel
theorem dX7_runs_208 : decode cX7_runs 208 = .ok (.iload_n 1, 1) := by decide +kernel
theorem dX7_runs_209 : decode cX7_runs 209 = .ok (.iaload, 1) := by decide +kernel
theorem dX7_runs_210 : decode cX7_runs 210 = .ok (.imul, 1) := by decide +kernel
theorem dX7_runs_211 : decode cX7_runs 211 = .ok (.iload 10, 2) := by decide +kernel
theorem dX7_runs_213 : decode cX7_runs 213 = .ok (.iadd, 1) := by decide +kernel
theorem dX7_runs_214 : decode cX7_runs 214 = .ok (.iaload, 1) := by decide +kernel
theorem dX7_runs_215 : decode cX7_runs 215 = .ok (.aload_n 0, 1) := by decide +kernel
theorem dX7_runs_216 : decode cX7_runs 216 = .ok (.getfield 73, 3) := by decide +kernel
theorem dX7_runs_219 : decode cX7_runs 219 = .ok (.iload 7, 2) := by decide +kernel
theorem dX7_runs_221 : decode cX7_runs 221 = .ok (.iconst 1, 1) := by decide +kernel
theorem dX7_runs_222 : decode cX7_runs 222 = .ok (.isub, 1) := by decide +kernel
theorem dX7_runs_223 : decode cX7_runs 223 = .ok (.laload, 1) := by decide +kernel
theorem dX7_runs_224 : decode cX7_runs 224 = .ok (.invokestatic 118, 3) := by decide +kernel
theorem dX7_runs_227 : decode cX7_runs 227 = .ok (.lastore, 1) := by decide +kernel
theorem dX7_runs_228 : decode cX7_runs 228 = .ok (.goto 97, 3) := by decide +kernel
theorem dX7_runs_231 : decode cX7_runs 231 = .ok (.iinc 7 (-1), 3) := by decide +kernel
theorem dX7_runs_234 : decode cX7_runs 234 = .ok (.aload_n 0, 1) := by decide +kernel
theorem dX7_runs_235 : decode cX7_runs 235 = .ok (.getfield 76, 3) := by decide +kernel
theorem dX7_runs_238 : decode cX7_runs 238 = .ok (.iload 10, 2) := by decide +kernel
theorem dX7_runs_240 : decode cX7_runs 240 = .ok (.aload_n 0, 1) := by decide +kernel
theorem dX7_runs_241 : decode cX7_runs 241 = .ok (.getfield 73, 3) := by decide +kernel
theorem dX7_runs_244 : decode cX7_runs 244 = .ok (.iload 7, 2) := by decide +kernel
theorem dX7_runs_246 : decode cX7_runs 246 = .ok (.laload, 1) := by decide +kernel
theorem dX7_runs_247 : decode cX7_runs 247 = .ok (.lastore, 1) := by decide +kernel
theorem dX7_runs_248 : decode cX7_runs 248 = .ok (.goto 77, 3) := by decide +kernel
theorem dX7_runs_251 : decode cX7_runs 251 = .ok (.aload_n 0, 1) := by decide +kernel
theorem dX7_runs_252 : decode cX7_runs 252 = .ok (.getfield 73, 3) := by decide +kernel
theorem dX7_runs_255 : decode cX7_runs 255 = .ok (.iload 7, 2) := by decide +kernel
theorem dX7_runs_257 : decode cX7_runs 257 = .ok (.aload_n 0, 1) := by decide +kernel
theorem dX7_runs_258 : decode cX7_runs 258 = .ok (.getfield 76, 3) := by decide +kernel
theorem dX7_runs_261 : decode cX7_runs 261 = .ok (.iload 10, 2) := by decide +kernel
theorem dX7_runs_263 : decode cX7_runs 263 = .ok (.laload, 1) := by decide +kernel
theorem dX7_runs_264 : decode cX7_runs 264 = .ok (.lastore, 1) := by decide +kernel
theorem dX7_runs_265 : decode cX7_runs 265 = .ok (.iinc 7 1, 3) := by decide +kernel
theorem dX7_runs_268 : decode cX7_runs 268 = .ok (.goto 57, 3) := by decide +kernel
theorem dX7_runs_271 : decode cX7_runs 271 = .ok (.iinc 7 (-1), 3) := by decide +kernel
theorem dX7_runs_274 : decode cX7_runs 274 = .ok (.iload 9, 2) := by decide +kernel
theorem dX7_runs_276 : decode cX7_runs 276 = .ok (.iconst 5, 1) := by decide +kernel
theorem dX7_runs_277 : decode cX7_runs 277 = .ok (.if_icmp .ne 18, 3) := by decide +kernel
theorem dX7_runs_280 : decode cX7_runs 280 = .ok (.aload_n 0, 1) := by decide +kernel
theorem dX7_runs_281 : decode cX7_runs 281 = .ok (.getfield 73, 3) := by decide +kernel
theorem dX7_runs_284 : decode cX7_runs 284 = .ok (.iload 7, 2) := by decide +kernel
theorem dX7_runs_286 : decode cX7_runs 286 = .ok (.laload, 1) := by decide +kernel
theorem dX7_runs_287 : decode cX7_runs 287 = .ok (.lconst 0, 1) := by decide +kernel
theorem dX7_runs_288 : decode cX7_runs 288 = .ok (.lcmp, 1) := by decide +kernel
theorem dX7_runs_289 : decode cX7_runs 289 = .ok (.ifCond .ne 6, 3) := by decide +kernel
theorem dX7_runs_292 : decode cX7_runs 292 = .ok (.bipush (-14), 2) := by decide +kernel
theorem dX7_runs_294 : decode cX7_runs 294 = .ok (.ireturn, 1) := by decide +kernel
theorem dX7_runs_295 : decode cX7_runs 295 = .ok (.aload_n 0, 1) := by decide +kernel
theorem dX7_runs_296 : decode cX7_runs 296 = .ok (.getfield 73, 3) := by decide +kernel
theorem dX7_runs_299 : decode cX7_runs 299 = .ok (.iload 7, 2) := by decide +kernel
theorem dX7_runs_301 : decode cX7_runs 301 = .ok (.iconst 1, 1) := by decide +kernel
theorem dX7_runs_302 : decode cX7_runs 302 = .ok (.isub, 1) := by decide +kernel
theorem dX7_runs_303 : decode cX7_runs 303 = .ok (.iload 9, 2) := by decide +kernel
theorem dX7_runs_305 : decode cX7_runs 305 = .ok (.aload_n 0, 1) := by decide +kernel
theorem dX7_runs_306 : decode cX7_runs 306 = .ok (.getfield 73, 3) := by decide +kernel
theorem dX7_runs_309 : decode cX7_runs 309 = .ok (.iload 7, 2) := by decide +kernel
theorem dX7_runs_311 : decode cX7_runs 311 = .ok (.iconst 1, 1) := by decide +kernel
theorem dX7_runs_312 : decode cX7_runs 312 = .ok (.isub, 1) := by decide +kernel
theorem dX7_runs_313 : decode cX7_runs 313 = .ok (.laload, 1) := by decide +kernel
theorem dX7_runs_314 : decode cX7_runs 314 = .ok (.aload_n 0, 1) := by decide +kernel
theorem dX7_runs_315 : decode cX7_runs 315 = .ok (.getfield 73, 3) := by decide +kernel
theorem dX7_runs_318 : decode cX7_runs 318 = .ok (.iload 7, 2) := by decide +kernel
theorem dX7_runs_320 : decode cX7_runs 320 = .ok (.laload, 1) := by decide +kernel
theorem dX7_runs_321 : decode cX7_runs 321 = .ok (.invokestatic 122, 3) := by decide +kernel
theorem dX7_runs_324 : decode cX7_runs 324 = .ok (.lastore, 1) := by decide +kernel
theorem dX7_runs_325 : decode cX7_runs 325 = .ok (.iinc 8 1, 3) := by decide +kernel
theorem dX7_runs_328 : decode cX7_runs 328 = .ok (.goto (-283), 3) := by decide +kernel
theorem dX7_runs_331 : decode cX7_runs 331 = .ok (.iconst 0, 1) := by decide +kernel
theorem dX7_runs_332 : decode cX7_runs 332 = .ok (.istore 8, 2) := by decide +kernel
theorem dX7_runs_334 : decode cX7_runs 334 = .ok (.iload 8, 2) := by decide +kernel
theorem dX7_runs_336 : decode cX7_runs 336 = .ok (.iconst 4, 1) := by decide +kernel
theorem dX7_runs_337 : decode cX7_runs 337 = .ok (.if_icmp .ge 27, 3) := by decide +kernel
theorem dX7_runs_340 : decode cX7_runs 340 = .ok (.aload_n 0, 1) := by decide +kernel
theorem dX7_runs_341 : decode cX7_runs 341 = .ok (.getfield 54, 3) := by decide +kernel
theorem dX7_runs_344 : decode cX7_runs 344 = .ok (.iconst 4, 1) := by decide +kernel
theorem dX7_runs_345 : decode cX7_runs 345 = .ok (.iload_n 1, 1) := by decide +kernel
theorem dX7_runs_346 : decode cX7_runs 346 = .ok (.imul, 1) := by decide +kernel
theorem dX7_runs_347 : decode cX7_runs 347 = .ok (.iload 8, 2) := by decide +kernel
theorem dX7_runs_349 : decode cX7_runs 349 = .ok (.iadd, 1) := by decide +kernel
theorem dX7_runs_350 : decode cX7_runs 350 = .ok (.aload_n 0, 1) := by decide +kernel
theorem dX7_runs_351 : decode cX7_runs 351 = .ok (.getfield 76, 3) := by decide +kernel
theorem dX7_runs_354 : decode cX7_runs 354 = .ok (.iload 8, 2) := by decide +kernel
theorem dX7_runs_356 : decode cX7_runs 356 = .ok (.laload, 1) := by decide +kernel
theorem dX7_runs_357 : decode cX7_runs 357 = .ok (.lastore, 1) := by decide +kernel
theorem dX7_runs_358 : decode cX7_runs 358 = .ok (.iinc 8 1, 3) := by decide +kernel
theorem dX7_runs_361 : decode cX7_runs 361 = .ok (.goto (-27), 3) := by decide +kernel
theorem dX7_runs_364 : decode cX7_runs 364 = .ok (.iload 6, 2) := by decide +kernel
theorem dX7_runs_366 : decode cX7_runs 366 = .ok (.ireturn, 1) := by decide +kernel
theorem dX7_digested_0 : decode cX7_digested 0 = .ok (.bipush 31, 2) := by decide +kernel
theorem dX7_digested_2 : decode cX7_digested 2 = .ok (.iload_n 1, 1) := by decide +kernel
theorem dX7_digested_3 : decode cX7_digested 3 = .ok (.imul, 1) := by decide +kernel
theorem dX7_digested_4 : decode cX7_digested 4 = .ok (.iload_n 2, 1) := by decide +kernel
theorem dX7_digested_5 : decode cX7_digested 5 = .ok (.iadd, 1) := by decide +kernel
theorem dX7_digested_6 : decode cX7_digested 6 = .ok (.istore 4, 2) := by decide +kernel
theorem dX7_digested_8 : decode cX7_digested 8 = .ok (.iconst 0, 1) := by decide +kernel
theorem dX7_digested_9 : decode cX7_digested 9 = .ok (.istore 5, 2) := by decide +kernel
theorem dX7_digested_11 : decode cX7_digested 11 = .ok (.iload 5, 2) := by decide +kernel
theorem dX7_digested_13 : decode cX7_digested 13 = .ok (.iconst 4, 1) := by decide +kernel
theorem dX7_digested_14 : decode cX7_digested 14 = .ok (.if_icmp .ge 47, 3) := by decide +kernel
theorem dX7_digested_17 : decode cX7_digested 17 = .ok (.aload_n 0, 1) := by decide +kernel
theorem dX7_digested_18 : decode cX7_digested 18 = .ok (.getfield 54, 3) := by decide +kernel
theorem dX7_digested_21 : decode cX7_digested 21 = .ok (.iconst 4, 1) := by decide +kernel
theorem dX7_digested_22 : decode cX7_digested 22 = .ok (.iload_n 3, 1) := by decide +kernel
theorem dX7_digested_23 : decode cX7_digested 23 = .ok (.imul, 1) := by decide +kernel
theorem dX7_digested_24 : decode cX7_digested 24 = .ok (.iload 5, 2) := by decide +kernel
theorem dX7_digested_26 : decode cX7_digested 26 = .ok (.iadd, 1) := by decide +kernel
theorem dX7_digested_27 : decode cX7_digested 27 = .ok (.laload, 1) := by decide +kernel
theorem dX7_digested_28 : decode cX7_digested 28 = .ok (.lstore 6, 2) := by decide +kernel
theorem dX7_digested_30 : decode cX7_digested 30 = .ok (.bipush 31, 2) := by decide +kernel
theorem dX7_digested_32 : decode cX7_digested 32 = .ok (.iload 4, 2) := by decide +kernel
theorem dX7_digested_34 : decode cX7_digested 34 = .ok (.imul, 1) := by decide +kernel
theorem dX7_digested_35 : decode cX7_digested 35 = .ok (.lload 6, 2) := by decide +kernel
theorem dX7_digested_37 : decode cX7_digested 37 = .ok (.bipush 32, 2) := by decide +kernel
theorem dX7_digested_39 : decode cX7_digested 39 = .ok (.lshr, 1) := by decide +kernel
theorem dX7_digested_40 : decode cX7_digested 40 = .ok (.l2i, 1) := by decide +kernel
theorem dX7_digested_41 : decode cX7_digested 41 = .ok (.iadd, 1) := by decide +kernel
theorem dX7_digested_42 : decode cX7_digested 42 = .ok (.istore 4, 2) := by decide +kernel
theorem dX7_digested_44 : decode cX7_digested 44 = .ok (.bipush 31, 2) := by decide +kernel
theorem dX7_digested_46 : decode cX7_digested 46 = .ok (.iload 4, 2) := by decide +kernel
theorem dX7_digested_48 : decode cX7_digested 48 = .ok (.imul, 1) := by decide +kernel
theorem dX7_digested_49 : decode cX7_digested 49 = .ok (.lload 6, 2) := by decide +kernel
theorem dX7_digested_51 : decode cX7_digested 51 = .ok (.l2i, 1) := by decide +kernel
theorem dX7_digested_52 : decode cX7_digested 52 = .ok (.iadd, 1) := by decide +kernel
theorem dX7_digested_53 : decode cX7_digested 53 = .ok (.istore 4, 2) := by decide +kernel
theorem dX7_digested_55 : decode cX7_digested 55 = .ok (.iinc 5 1, 3) := by decide +kernel
theorem dX7_digested_58 : decode cX7_digested 58 = .ok (.goto (-47), 3) := by decide +kernel
theorem dX7_digested_61 : decode cX7_digested 61 = .ok (.iload 4, 2) := by decide +kernel
theorem dX7_digested_63 : decode cX7_digested 63 = .ok (.ireturn, 1) := by decide +kernel
theorem dX7_run_0 : decode cX7_run 0 = .ok (.aload_n 0, 1) := by decide +kernel
theorem dX7_run_1 : decode cX7_run 1 = .ok (.iload_n 1, 1) := by decide +kernel
theorem dX7_run_2 : decode cX7_run 2 = .ok (.invokevirtual 109, 3) := by decide +kernel
theorem dX7_run_5 : decode cX7_run 5 = .ok (.ifCond .eq 8, 3) := by decide +kernel
theorem dX7_run_8 : decode cX7_run 8 = .ok (.iload 4, 2) := by decide +kernel
theorem dX7_run_10 : decode cX7_run 10 = .ok (.ifCond .ge 6, 3) := by decide +kernel
theorem dX7_run_13 : decode cX7_run 13 = .ok (.bipush (-2), 2) := by decide +kernel
theorem dX7_run_15 : decode cX7_run 15 = .ok (.ireturn, 1) := by decide +kernel
theorem dX7_run_16 : decode cX7_run 16 = .ok (.aload_n 0, 1) := by decide +kernel
theorem dX7_run_17 : decode cX7_run 17 = .ok (.getfield 42, 3) := by decide +kernel
theorem dX7_run_20 : decode cX7_run 20 = .ok (.iload_n 1, 1) := by decide +kernel
theorem dX7_run_21 : decode cX7_run 21 = .ok (.iaload, 1) := by decide +kernel
theorem dX7_run_22 : decode cX7_run 22 = .ok (.iconst (-1), 1) := by decide +kernel
theorem dX7_run_23 : decode cX7_run 23 = .ok (.if_icmp .ne 6, 3) := by decide +kernel
theorem dX7_run_26 : decode cX7_run 26 = .ok (.bipush (-3), 2) := by decide +kernel
theorem dX7_run_28 : decode cX7_run 28 = .ok (.ireturn, 1) := by decide +kernel
theorem dX7_run_29 : decode cX7_run 29 = .ok (.aload_n 0, 1) := by decide +kernel
theorem dX7_run_30 : decode cX7_run 30 = .ok (.getfield 126, 3) := by decide +kernel
theorem dX7_run_33 : decode cX7_run 33 = .ok (.bipush 64, 2) := by decide +kernel
theorem dX7_run_35 : decode cX7_run 35 = .ok (.if_icmp .ne 6, 3) := by decide +kernel
theorem dX7_run_38 : decode cX7_run 38 = .ok (.bipush (-4), 2) := by decide +kernel
theorem dX7_run_40 : decode cX7_run 40 = .ok (.ireturn, 1) := by decide +kernel
theorem dX7_run_41 : decode cX7_run 41 = .ok (.aload_n 0, 1) := by decide +kernel
theorem dX7_run_42 : decode cX7_run 42 = .ok (.iload_n 1, 1) := by decide +kernel
theorem dX7_run_43 : decode cX7_run 43 = .ok (.lload_n 2, 1) := by decide +kernel
theorem dX7_run_44 : decode cX7_run 44 = .ok (.iload 4, 2) := by decide +kernel
theorem dX7_run_46 : decode cX7_run 46 = .ok (.aload_n 0, 1) := by decide +kernel
theorem dX7_run_47 : decode cX7_run 47 = .ok (.getfield 26, 3) := by decide +kernel
theorem dX7_run_50 : decode cX7_run 50 = .ok (.aload_n 0, 1) := by decide +kernel
theorem dX7_run_51 : decode cX7_run 51 = .ok (.getfield 99, 3) := by decide +kernel
theorem dX7_run_54 : decode cX7_run 54 = .ok (.iaload, 1) := by decide +kernel
theorem dX7_run_55 : decode cX7_run 55 = .ok (.invokevirtual 129, 3) := by decide +kernel
theorem dX7_run_58 : decode cX7_run 58 = .ok (.istore 5, 2) := by decide +kernel
theorem dX7_run_60 : decode cX7_run 60 = .ok (.aload_n 0, 1) := by decide +kernel
theorem dX7_run_61 : decode cX7_run 61 = .ok (.getfield 58, 3) := by decide +kernel
theorem dX7_run_64 : decode cX7_run 64 = .ok (.aload_n 0, 1) := by decide +kernel
theorem dX7_run_65 : decode cX7_run 65 = .ok (.getfield 126, 3) := by decide +kernel
theorem dX7_run_68 : decode cX7_run 68 = .ok (.iload_n 1, 1) := by decide +kernel
theorem dX7_run_69 : decode cX7_run 69 = .ok (.iastore, 1) := by decide +kernel
theorem dX7_run_70 : decode cX7_run 70 = .ok (.aload_n 0, 1) := by decide +kernel
theorem dX7_run_71 : decode cX7_run 71 = .ok (.getfield 61, 3) := by decide +kernel
theorem dX7_run_74 : decode cX7_run 74 = .ok (.aload_n 0, 1) := by decide +kernel
theorem dX7_run_75 : decode cX7_run 75 = .ok (.getfield 126, 3) := by decide +kernel
theorem dX7_run_78 : decode cX7_run 78 = .ok (.aload_n 0, 1) := by decide +kernel
theorem dX7_run_79 : decode cX7_run 79 = .ok (.getfield 99, 3) := by decide +kernel
theorem dX7_run_82 : decode cX7_run 82 = .ok (.iastore, 1) := by decide +kernel
theorem dX7_run_83 : decode cX7_run 83 = .ok (.aload_n 0, 1) := by decide +kernel
theorem dX7_run_84 : decode cX7_run 84 = .ok (.getfield 64, 3) := by decide +kernel
theorem dX7_run_87 : decode cX7_run 87 = .ok (.aload_n 0, 1) := by decide +kernel
theorem dX7_run_88 : decode cX7_run 88 = .ok (.getfield 126, 3) := by decide +kernel
theorem dX7_run_91 : decode cX7_run 91 = .ok (.lload_n 2, 1) := by decide +kernel
theorem dX7_run_92 : decode cX7_run 92 = .ok (.lastore, 1) := by decide +kernel
theorem dX7_run_93 : decode cX7_run 93 = .ok (.aload_n 0, 1) := by decide +kernel
theorem dX7_run_94 : decode cX7_run 94 = .ok (.getfield 67, 3) := by decide +kernel
theorem dX7_run_97 : decode cX7_run 97 = .ok (.aload_n 0, 1) := by decide +kernel
theorem dX7_run_98 : decode cX7_run 98 = .ok (.getfield 126, 3) := by decide +kernel
theorem dX7_run_101 : decode cX7_run 101 = .ok (.iload 4, 2) := by decide +kernel
theorem dX7_run_103 : decode cX7_run 103 = .ok (.iastore, 1) := by decide +kernel
theorem dX7_run_104 : decode cX7_run 104 = .ok (.aload_n 0, 1) := by decide +kernel
theorem dX7_run_105 : decode cX7_run 105 = .ok (.getfield 70, 3) := by decide +kernel
theorem dX7_run_108 : decode cX7_run 108 = .ok (.aload_n 0, 1) := by decide +kernel
theorem dX7_run_109 : decode cX7_run 109 = .ok (.getfield 126, 3) := by decide +kernel
theorem dX7_run_112 : decode cX7_run 112 = .ok (.iload 5, 2) := by decide +kernel
theorem dX7_run_114 : decode cX7_run 114 = .ok (.iastore, 1) := by decide +kernel
theorem dX7_run_115 : decode cX7_run 115 = .ok (.aload_n 0, 1) := by decide +kernel
theorem dX7_run_116 : decode cX7_run 116 = .ok (.dup, 1) := by decide +kernel
theorem dX7_run_117 : decode cX7_run 117 = .ok (.getfield 126, 3) := by decide +kernel
theorem dX7_run_120 : decode cX7_run 120 = .ok (.iconst 1, 1) := by decide +kernel
theorem dX7_run_121 : decode cX7_run 121 = .ok (.iadd, 1) := by decide +kernel
theorem dX7_run_122 : decode cX7_run 122 = .ok (.putfield 126, 3) := by decide +kernel
theorem dX7_run_125 : decode cX7_run 125 = .ok (.aload_n 0, 1) := by decide +kernel
theorem dX7_run_126 : decode cX7_run 126 = .ok (.aload_n 0, 1) := by decide +kernel
theorem dX7_run_127 : decode cX7_run 127 = .ok (.aload_n 0, 1) := by decide +kernel
theorem dX7_run_128 : decode cX7_run 128 = .ok (.getfield 133, 3) := by decide +kernel
theorem dX7_run_131 : decode cX7_run 131 = .ok (.iload 5, 2) := by decide +kernel
theorem dX7_run_133 : decode cX7_run 133 = .ok (.iload_n 1, 1) := by decide +kernel
theorem dX7_run_134 : decode cX7_run 134 = .ok (.invokevirtual 136, 3) := by decide +kernel
theorem dX7_run_137 : decode cX7_run 137 = .ok (.putfield 133, 3) := by decide +kernel
theorem dX7_run_140 : decode cX7_run 140 = .ok (.iload 5, 2) := by decide +kernel
theorem dX7_run_142 : decode cX7_run 142 = .ok (.ireturn, 1) := by decide +kernel
theorem dX7_cell_0 : decode cX7_cell 0 = .ok (.aload_n 0, 1) := by decide +kernel
theorem dX7_cell_1 : decode cX7_cell 1 = .ok (.iload_n 1, 1) := by decide +kernel
theorem dX7_cell_2 : decode cX7_cell 2 = .ok (.invokevirtual 109, 3) := by decide +kernel
theorem dX7_cell_5 : decode cX7_cell 5 = .ok (.ifCond .eq 25, 3) := by decide +kernel
theorem dX7_cell_8 : decode cX7_cell 8 = .ok (.iload_n 2, 1) := by decide +kernel
theorem dX7_cell_9 : decode cX7_cell 9 = .ok (.iconst 0, 1) := by decide +kernel
theorem dX7_cell_10 : decode cX7_cell 10 = .ok (.iconst 3, 1) := by decide +kernel
theorem dX7_cell_11 : decode cX7_cell 11 = .ok (.invokestatic 82, 3) := by decide +kernel
theorem dX7_cell_14 : decode cX7_cell 14 = .ok (.ifCond .eq 16, 3) := by decide +kernel
theorem dX7_cell_17 : decode cX7_cell 17 = .ok (.aload_n 0, 1) := by decide +kernel
theorem dX7_cell_18 : decode cX7_cell 18 = .ok (.getfield 54, 3) := by decide +kernel
theorem dX7_cell_21 : decode cX7_cell 21 = .ok (.iconst 4, 1) := by decide +kernel
theorem dX7_cell_22 : decode cX7_cell 22 = .ok (.iload_n 1, 1) := by decide +kernel
theorem dX7_cell_23 : decode cX7_cell 23 = .ok (.imul, 1) := by decide +kernel
theorem dX7_cell_24 : decode cX7_cell 24 = .ok (.iload_n 2, 1) := by decide +kernel
theorem dX7_cell_25 : decode cX7_cell 25 = .ok (.iadd, 1) := by decide +kernel
theorem dX7_cell_26 : decode cX7_cell 26 = .ok (.laload, 1) := by decide +kernel
theorem dX7_cell_27 : decode cX7_cell 27 = .ok (.goto 4, 3) := by decide +kernel
theorem dX7_cell_30 : decode cX7_cell 30 = .ok (.lconst 0, 1) := by decide +kernel
theorem dX7_cell_31 : decode cX7_cell 31 = .ok (.lreturn, 1) := by decide +kernel
theorem dX7_logged_0 : decode cX7_logged 0 = .ok (.iload_n 1, 1) := by decide +kernel
theorem dX7_logged_1 : decode cX7_logged 1 = .ok (.iconst 0, 1) := by decide +kernel
theorem dX7_logged_2 : decode cX7_logged 2 = .ok (.aload_n 0, 1) := by decide +kernel
theorem dX7_logged_3 : decode cX7_logged 3 = .ok (.getfield 126, 3) := by decide +kernel
theorem dX7_logged_6 : decode cX7_logged 6 = .ok (.iconst 1, 1) := by decide +kernel
theorem dX7_logged_7 : decode cX7_logged 7 = .ok (.isub, 1) := by decide +kernel
theorem dX7_logged_8 : decode cX7_logged 8 = .ok (.invokestatic 82, 3) := by decide +kernel
theorem dX7_logged_11 : decode cX7_logged 11 = .ok (.ifCond .eq 12, 3) := by decide +kernel
theorem dX7_logged_14 : decode cX7_logged 14 = .ok (.iload_n 2, 1) := by decide +kernel
theorem dX7_logged_15 : decode cX7_logged 15 = .ok (.iconst 0, 1) := by decide +kernel
theorem dX7_logged_16 : decode cX7_logged 16 = .ok (.iconst 2, 1) := by decide +kernel
theorem dX7_logged_17 : decode cX7_logged 17 = .ok (.invokestatic 82, 3) := by decide +kernel
theorem dX7_logged_20 : decode cX7_logged 20 = .ok (.ifCond .ne 6, 3) := by decide +kernel
theorem dX7_logged_23 : decode cX7_logged 23 = .ok (.bipush (-2), 2) := by decide +kernel
theorem dX7_logged_25 : decode cX7_logged 25 = .ok (.ireturn, 1) := by decide +kernel
theorem dX7_logged_26 : decode cX7_logged 26 = .ok (.iload_n 2, 1) := by decide +kernel
theorem dX7_logged_27 : decode cX7_logged 27 = .ok (.ifCond .ne 12, 3) := by decide +kernel
theorem dX7_logged_30 : decode cX7_logged 30 = .ok (.aload_n 0, 1) := by decide +kernel
theorem dX7_logged_31 : decode cX7_logged 31 = .ok (.getfield 58, 3) := by decide +kernel
theorem dX7_logged_34 : decode cX7_logged 34 = .ok (.iload_n 1, 1) := by decide +kernel
theorem dX7_logged_35 : decode cX7_logged 35 = .ok (.iaload, 1) := by decide +kernel
theorem dX7_logged_36 : decode cX7_logged 36 = .ok (.goto 23, 3) := by decide +kernel
theorem dX7_logged_39 : decode cX7_logged 39 = .ok (.iload_n 2, 1) := by decide +kernel
theorem dX7_logged_40 : decode cX7_logged 40 = .ok (.iconst 1, 1) := by decide +kernel
theorem dX7_logged_41 : decode cX7_logged 41 = .ok (.if_icmp .ne 12, 3) := by decide +kernel
theorem dX7_logged_44 : decode cX7_logged 44 = .ok (.aload_n 0, 1) := by decide +kernel
theorem dX7_logged_45 : decode cX7_logged 45 = .ok (.getfield 61, 3) := by decide +kernel
theorem dX7_logged_48 : decode cX7_logged 48 = .ok (.iload_n 1, 1) := by decide +kernel
theorem dX7_logged_49 : decode cX7_logged 49 = .ok (.iaload, 1) := by decide +kernel
theorem dX7_logged_50 : decode cX7_logged 50 = .ok (.goto 9, 3) := by decide +kernel
theorem dX7_logged_53 : decode cX7_logged 53 = .ok (.aload_n 0, 1) := by decide +kernel
theorem dX7_logged_54 : decode cX7_logged 54 = .ok (.getfield 70, 3) := by decide +kernel
theorem dX7_logged_57 : decode cX7_logged 57 = .ok (.iload_n 1, 1) := by decide +kernel
theorem dX7_logged_58 : decode cX7_logged 58 = .ok (.iaload, 1) := by decide +kernel
theorem dX7_logged_59 : decode cX7_logged 59 = .ok (.ireturn, 1) := by decide +kernel
theorem dX7_digest_0 : decode cX7_digest 0 = .ok (.aload_n 0, 1) := by decide +kernel
theorem dX7_digest_1 : decode cX7_digest 1 = .ok (.getfield 133, 3) := by decide +kernel
theorem dX7_digest_4 : decode cX7_digest 4 = .ok (.ireturn, 1) := by decide +kernel
theorem dX7_replay_0 : decode cX7_replay 0 = .ok (.iload_n 1, 1) := by decide +kernel
theorem dX7_replay_1 : decode cX7_replay 1 = .ok (.iconst 0, 1) := by decide +kernel
theorem dX7_replay_2 : decode cX7_replay 2 = .ok (.aload_n 0, 1) := by decide +kernel
theorem dX7_replay_3 : decode cX7_replay 3 = .ok (.getfield 126, 3) := by decide +kernel
theorem dX7_replay_6 : decode cX7_replay 6 = .ok (.invokestatic 82, 3) := by decide +kernel
theorem dX7_replay_9 : decode cX7_replay 9 = .ok (.ifCond .ne 5, 3) := by decide +kernel
theorem dX7_replay_12 : decode cX7_replay 12 = .ok (.iconst 0, 1) := by decide +kernel
theorem dX7_replay_13 : decode cX7_replay 13 = .ok (.ireturn, 1) := by decide +kernel
theorem dX7_replay_14 : decode cX7_replay 14 = .ok (.iconst 0, 1) := by decide +kernel
theorem dX7_replay_15 : decode cX7_replay 15 = .ok (.istore_n 2, 1) := by decide +kernel
theorem dX7_replay_16 : decode cX7_replay 16 = .ok (.iload_n 2, 1) := by decide +kernel
theorem dX7_replay_17 : decode cX7_replay 17 = .ok (.bipush 48, 2) := by decide +kernel
theorem dX7_replay_19 : decode cX7_replay 19 = .ok (.if_icmp .ge 28, 3) := by decide +kernel
theorem dX7_replay_22 : decode cX7_replay 22 = .ok (.aload_n 0, 1) := by decide +kernel
theorem dX7_replay_23 : decode cX7_replay 23 = .ok (.getfield 79, 3) := by decide +kernel
theorem dX7_replay_26 : decode cX7_replay 26 = .ok (.iload_n 2, 1) := by decide +kernel
theorem dX7_replay_27 : decode cX7_replay 27 = .ok (.aload_n 0, 1) := by decide +kernel
theorem dX7_replay_28 : decode cX7_replay 28 = .ok (.getfield 54, 3) := by decide +kernel
theorem dX7_replay_31 : decode cX7_replay 31 = .ok (.iload_n 2, 1) := by decide +kernel
theorem dX7_replay_32 : decode cX7_replay 32 = .ok (.laload, 1) := by decide +kernel
theorem dX7_replay_33 : decode cX7_replay 33 = .ok (.lastore, 1) := by decide +kernel
theorem dX7_replay_34 : decode cX7_replay 34 = .ok (.aload_n 0, 1) := by decide +kernel
theorem dX7_replay_35 : decode cX7_replay 35 = .ok (.getfield 54, 3) := by decide +kernel
theorem dX7_replay_38 : decode cX7_replay 38 = .ok (.iload_n 2, 1) := by decide +kernel
theorem dX7_replay_39 : decode cX7_replay 39 = .ok (.lconst 0, 1) := by decide +kernel
theorem dX7_replay_40 : decode cX7_replay 40 = .ok (.lastore, 1) := by decide +kernel
theorem dX7_replay_41 : decode cX7_replay 41 = .ok (.iinc 2 1, 3) := by decide +kernel
theorem dX7_replay_44 : decode cX7_replay 44 = .ok (.goto (-28), 3) := by decide +kernel
theorem dX7_replay_47 : decode cX7_replay 47 = .ok (.iconst 0, 1) := by decide +kernel
theorem dX7_replay_48 : decode cX7_replay 48 = .ok (.istore_n 2, 1) := by decide +kernel
theorem dX7_replay_49 : decode cX7_replay 49 = .ok (.iconst 0, 1) := by decide +kernel
theorem dX7_replay_50 : decode cX7_replay 50 = .ok (.istore_n 3, 1) := by decide +kernel
theorem dX7_replay_51 : decode cX7_replay 51 = .ok (.iload_n 3, 1) := by decide +kernel
theorem dX7_replay_52 : decode cX7_replay 52 = .ok (.iload_n 1, 1) := by decide +kernel
theorem dX7_replay_53 : decode cX7_replay 53 = .ok (.if_icmp .ge 58, 3) := by decide +kernel
theorem dX7_replay_56 : decode cX7_replay 56 = .ok (.aload_n 0, 1) := by decide +kernel
theorem dX7_replay_57 : decode cX7_replay 57 = .ok (.getfield 58, 3) := by decide +kernel
theorem dX7_replay_60 : decode cX7_replay 60 = .ok (.iload_n 3, 1) := by decide +kernel
theorem dX7_replay_61 : decode cX7_replay 61 = .ok (.iaload, 1) := by decide +kernel
theorem dX7_replay_62 : decode cX7_replay 62 = .ok (.istore 4, 2) := by decide +kernel
theorem dX7_replay_64 : decode cX7_replay 64 = .ok (.aload_n 0, 1) := by decide +kernel
theorem dX7_replay_65 : decode cX7_replay 65 = .ok (.iload 4, 2) := by decide +kernel
theorem dX7_replay_67 : decode cX7_replay 67 = .ok (.aload_n 0, 1) := by decide +kernel
theorem dX7_replay_68 : decode cX7_replay 68 = .ok (.getfield 64, 3) := by decide +kernel
theorem dX7_replay_71 : decode cX7_replay 71 = .ok (.iload_n 3, 1) := by decide +kernel
theorem dX7_replay_72 : decode cX7_replay 72 = .ok (.laload, 1) := by decide +kernel
theorem dX7_replay_73 : decode cX7_replay 73 = .ok (.aload_n 0, 1) := by decide +kernel
theorem dX7_replay_74 : decode cX7_replay 74 = .ok (.getfield 67, 3) := by decide +kernel
theorem dX7_replay_77 : decode cX7_replay 77 = .ok (.iload_n 3, 1) := by decide +kernel
theorem dX7_replay_78 : decode cX7_replay 78 = .ok (.iaload, 1) := by decide +kernel
theorem dX7_replay_79 : decode cX7_replay 79 = .ok (.aload_n 0, 1) := by decide +kernel
theorem dX7_replay_80 : decode cX7_replay 80 = .ok (.getfield 26, 3) := by decide +kernel
theorem dX7_replay_83 : decode cX7_replay 83 = .ok (.aload_n 0, 1) := by decide +kernel
theorem dX7_replay_84 : decode cX7_replay 84 = .ok (.getfield 61, 3) := by decide +kernel
theorem dX7_replay_87 : decode cX7_replay 87 = .ok (.iload_n 3, 1) := by decide +kernel
theorem dX7_replay_88 : decode cX7_replay 88 = .ok (.iaload, 1) := by decide +kernel
theorem dX7_replay_89 : decode cX7_replay 89 = .ok (.iaload, 1) := by decide +kernel
theorem dX7_replay_90 : decode cX7_replay 90 = .ok (.invokevirtual 129, 3) := by decide +kernel
theorem dX7_replay_93 : decode cX7_replay 93 = .ok (.istore 5, 2) := by decide +kernel
theorem dX7_replay_95 : decode cX7_replay 95 = .ok (.aload_n 0, 1) := by decide +kernel
theorem dX7_replay_96 : decode cX7_replay 96 = .ok (.iload_n 2, 1) := by decide +kernel
theorem dX7_replay_97 : decode cX7_replay 97 = .ok (.iload 5, 2) := by decide +kernel
theorem dX7_replay_99 : decode cX7_replay 99 = .ok (.iload 4, 2) := by decide +kernel
theorem dX7_replay_101 : decode cX7_replay 101 = .ok (.invokevirtual 136, 3) := by decide +kernel
theorem dX7_replay_104 : decode cX7_replay 104 = .ok (.istore_n 2, 1) := by decide +kernel
theorem dX7_replay_105 : decode cX7_replay 105 = .ok (.iinc 3 1, 3) := by decide +kernel
theorem dX7_replay_108 : decode cX7_replay 108 = .ok (.goto (-57), 3) := by decide +kernel
theorem dX7_replay_111 : decode cX7_replay 111 = .ok (.iconst 0, 1) := by decide +kernel
theorem dX7_replay_112 : decode cX7_replay 112 = .ok (.istore_n 3, 1) := by decide +kernel
theorem dX7_replay_113 : decode cX7_replay 113 = .ok (.iload_n 3, 1) := by decide +kernel
theorem dX7_replay_114 : decode cX7_replay 114 = .ok (.bipush 48, 2) := by decide +kernel
theorem dX7_replay_116 : decode cX7_replay 116 = .ok (.if_icmp .ge 21, 3) := by decide +kernel
theorem dX7_replay_119 : decode cX7_replay 119 = .ok (.aload_n 0, 1) := by decide +kernel
theorem dX7_replay_120 : decode cX7_replay 120 = .ok (.getfield 54, 3) := by decide +kernel
theorem dX7_replay_123 : decode cX7_replay 123 = .ok (.iload_n 3, 1) := by decide +kernel
theorem dX7_replay_124 : decode cX7_replay 124 = .ok (.aload_n 0, 1) := by decide +kernel
theorem dX7_replay_125 : decode cX7_replay 125 = .ok (.getfield 79, 3) := by decide +kernel
theorem dX7_replay_128 : decode cX7_replay 128 = .ok (.iload_n 3, 1) := by decide +kernel
theorem dX7_replay_129 : decode cX7_replay 129 = .ok (.laload, 1) := by decide +kernel
theorem dX7_replay_130 : decode cX7_replay 130 = .ok (.lastore, 1) := by decide +kernel
theorem dX7_replay_131 : decode cX7_replay 131 = .ok (.iinc 3 1, 3) := by decide +kernel
theorem dX7_replay_134 : decode cX7_replay 134 = .ok (.goto (-21), 3) := by decide +kernel
theorem dX7_replay_137 : decode cX7_replay 137 = .ok (.iload_n 2, 1) := by decide +kernel
theorem dX7_replay_138 : decode cX7_replay 138 = .ok (.ireturn, 1) := by decide +kernel
theorem dX7_count_0 : decode cX7_count 0 = .ok (.iload_n 1, 1) := by decide +kernel
theorem dX7_count_1 : decode cX7_count 1 = .ok (.tableswitch 60 0 4 #[35, 40, 45, 50, 55], 35) := by decide +kernel
theorem dX7_count_36 : decode cX7_count 36 = .ok (.aload_n 0, 1) := by decide +kernel
theorem dX7_count_37 : decode cX7_count 37 = .ok (.getfield 7, 3) := by decide +kernel
theorem dX7_count_40 : decode cX7_count 40 = .ok (.ireturn, 1) := by decide +kernel
theorem dX7_count_41 : decode cX7_count 41 = .ok (.aload_n 0, 1) := by decide +kernel
theorem dX7_count_42 : decode cX7_count 42 = .ok (.getfield 86, 3) := by decide +kernel
theorem dX7_count_45 : decode cX7_count 45 = .ok (.ireturn, 1) := by decide +kernel
theorem dX7_count_46 : decode cX7_count 46 = .ok (.aload_n 0, 1) := by decide +kernel
theorem dX7_count_47 : decode cX7_count 47 = .ok (.getfield 89, 3) := by decide +kernel
theorem dX7_count_50 : decode cX7_count 50 = .ok (.ireturn, 1) := by decide +kernel
theorem dX7_count_51 : decode cX7_count 51 = .ok (.aload_n 0, 1) := by decide +kernel
theorem dX7_count_52 : decode cX7_count 52 = .ok (.getfield 126, 3) := by decide +kernel
theorem dX7_count_55 : decode cX7_count 55 = .ok (.ireturn, 1) := by decide +kernel
theorem dX7_count_56 : decode cX7_count 56 = .ok (.aload_n 0, 1) := by decide +kernel
theorem dX7_count_57 : decode cX7_count 57 = .ok (.getfield 99, 3) := by decide +kernel
theorem dX7_count_60 : decode cX7_count 60 = .ok (.ireturn, 1) := by decide +kernel
theorem dX7_count_61 : decode cX7_count 61 = .ok (.bipush (-2), 2) := by decide +kernel
theorem dX7_count_63 : decode cX7_count 63 = .ok (.ireturn, 1) := by decide +kernel
end
section
theorem dL_law_0 : decode cL_law 0 = .ok (.new 7, 3) := by decide +kernel
theorem dL_law_3 : decode cL_law 3 = .ok (.dup, 1) := by decide +kernel
theorem dL_law_4 : decode cL_law 4 = .ok (.invokespecial 9, 3) := by decide +kernel
theorem dL_law_7 : decode cL_law 7 = .ok (.astore_n 1, 1) := by decide +kernel
theorem dL_law_8 : decode cL_law 8 = .ok (.new 10, 3) := by decide +kernel
theorem dL_law_11 : decode cL_law 11 = .ok (.dup, 1) := by decide +kernel
theorem dL_law_12 : decode cL_law 12 = .ok (.invokespecial 12, 3) := by decide +kernel
theorem dL_law_15 : decode cL_law 15 = .ok (.astore_n 2, 1) := by decide +kernel
theorem dL_law_16 : decode cL_law 16 = .ok (.iconst 0, 1) := by decide +kernel
theorem dL_law_17 : decode cL_law 17 = .ok (.istore_n 3, 1) := by decide +kernel
theorem dL_law_18 : decode cL_law 18 = .ok (.iload_n 3, 1) := by decide +kernel
theorem dL_law_19 : decode cL_law 19 = .ok (.aload_n 0, 1) := by decide +kernel
theorem dL_law_20 : decode cL_law 20 = .ok (.arraylength, 1) := by decide +kernel
theorem dL_law_21 : decode cL_law 21 = .ok (.iconst 5, 1) := by decide +kernel
theorem dL_law_22 : decode cL_law 22 = .ok (.isub, 1) := by decide +kernel
theorem dL_law_23 : decode cL_law 23 = .ok (.if_icmp .gt 815, 3) := by decide +kernel
theorem dL_law_26 : decode cL_law 26 = .ok (.aload_n 0, 1) := by decide +kernel
theorem dL_law_27 : decode cL_law 27 = .ok (.iload_n 3, 1) := by decide +kernel
theorem dL_law_28 : decode cL_law 28 = .ok (.iaload, 1) := by decide +kernel
theorem dL_law_29 : decode cL_law 29 = .ok (.bipush 31, 2) := by decide +kernel
theorem dL_law_31 : decode cL_law 31 = .ok (.iand, 1) := by decide +kernel
theorem dL_law_32 : decode cL_law 32 = .ok (.tableswitch 800 0 20 #[100, 123, 166, 209, 252, 295, 328, 361, 394, 453, 476, 499, 522, 535, 578, 601, 674, 708, 741, 754, 777], 100) := by decide +kernel
theorem dL_law_132 : decode cL_law 132 = .ok (.aload_n 1, 1) := by decide +kernel
theorem dL_law_133 : decode cL_law 133 = .ok (.aload_n 0, 1) := by decide +kernel
theorem dL_law_134 : decode cL_law 134 = .ok (.iload_n 3, 1) := by decide +kernel
theorem dL_law_135 : decode cL_law 135 = .ok (.iconst 1, 1) := by decide +kernel
theorem dL_law_136 : decode cL_law 136 = .ok (.iadd, 1) := by decide +kernel
theorem dL_law_137 : decode cL_law 137 = .ok (.iaload, 1) := by decide +kernel
theorem dL_law_138 : decode cL_law 138 = .ok (.invokevirtual 13, 3) := by decide +kernel
theorem dL_law_141 : decode cL_law 141 = .ok (.aload_n 2, 1) := by decide +kernel
theorem dL_law_142 : decode cL_law 142 = .ok (.aload_n 0, 1) := by decide +kernel
theorem dL_law_143 : decode cL_law 143 = .ok (.iload_n 3, 1) := by decide +kernel
theorem dL_law_144 : decode cL_law 144 = .ok (.iconst 1, 1) := by decide +kernel
theorem dL_law_145 : decode cL_law 145 = .ok (.iadd, 1) := by decide +kernel
theorem dL_law_146 : decode cL_law 146 = .ok (.iaload, 1) := by decide +kernel
theorem dL_law_147 : decode cL_law 147 = .ok (.invokevirtual 17, 3) := by decide +kernel
theorem dL_law_150 : decode cL_law 150 = .ok (.if_icmp .eq 682, 3) := by decide +kernel
theorem dL_law_153 : decode cL_law 153 = .ok (.iconst 0, 1) := by decide +kernel
theorem dL_law_154 : decode cL_law 154 = .ok (.ireturn, 1) := by decide +kernel
theorem dL_law_155 : decode cL_law 155 = .ok (.aload_n 1, 1) := by decide +kernel
theorem dL_law_156 : decode cL_law 156 = .ok (.aload_n 0, 1) := by decide +kernel
theorem dL_law_157 : decode cL_law 157 = .ok (.iload_n 3, 1) := by decide +kernel
theorem dL_law_158 : decode cL_law 158 = .ok (.iconst 1, 1) := by decide +kernel
theorem dL_law_159 : decode cL_law 159 = .ok (.iadd, 1) := by decide +kernel
theorem dL_law_160 : decode cL_law 160 = .ok (.iaload, 1) := by decide +kernel
theorem dL_law_161 : decode cL_law 161 = .ok (.aload_n 0, 1) := by decide +kernel
theorem dL_law_162 : decode cL_law 162 = .ok (.iload_n 3, 1) := by decide +kernel
theorem dL_law_163 : decode cL_law 163 = .ok (.iconst 2, 1) := by decide +kernel
theorem dL_law_164 : decode cL_law 164 = .ok (.iadd, 1) := by decide +kernel
theorem dL_law_165 : decode cL_law 165 = .ok (.iaload, 1) := by decide +kernel
theorem dL_law_166 : decode cL_law 166 = .ok (.aload_n 0, 1) := by decide +kernel
theorem dL_law_167 : decode cL_law 167 = .ok (.iload_n 3, 1) := by decide +kernel
theorem dL_law_168 : decode cL_law 168 = .ok (.iconst 3, 1) := by decide +kernel
theorem dL_law_169 : decode cL_law 169 = .ok (.iadd, 1) := by decide +kernel
theorem dL_law_170 : decode cL_law 170 = .ok (.iaload, 1) := by decide +kernel
theorem dL_law_171 : decode cL_law 171 = .ok (.invokevirtual 18, 3) := by decide +kernel
theorem dL_law_174 : decode cL_law 174 = .ok (.aload_n 2, 1) := by decide +kernel
theorem dL_law_175 : decode cL_law 175 = .ok (.aload_n 0, 1) := by decide +kernel
theorem dL_law_176 : decode cL_law 176 = .ok (.iload_n 3, 1) := by decide +kernel
theorem dL_law_177 : decode cL_law 177 = .ok (.iconst 1, 1) := by decide +kernel
theorem dL_law_178 : decode cL_law 178 = .ok (.iadd, 1) := by decide +kernel
theorem dL_law_179 : decode cL_law 179 = .ok (.iaload, 1) := by decide +kernel
theorem dL_law_180 : decode cL_law 180 = .ok (.aload_n 0, 1) := by decide +kernel
theorem dL_law_181 : decode cL_law 181 = .ok (.iload_n 3, 1) := by decide +kernel
theorem dL_law_182 : decode cL_law 182 = .ok (.iconst 2, 1) := by decide +kernel
theorem dL_law_183 : decode cL_law 183 = .ok (.iadd, 1) := by decide +kernel
theorem dL_law_184 : decode cL_law 184 = .ok (.iaload, 1) := by decide +kernel
theorem dL_law_185 : decode cL_law 185 = .ok (.aload_n 0, 1) := by decide +kernel
theorem dL_law_186 : decode cL_law 186 = .ok (.iload_n 3, 1) := by decide +kernel
theorem dL_law_187 : decode cL_law 187 = .ok (.iconst 3, 1) := by decide +kernel
theorem dL_law_188 : decode cL_law 188 = .ok (.iadd, 1) := by decide +kernel
theorem dL_law_189 : decode cL_law 189 = .ok (.iaload, 1) := by decide +kernel
theorem dL_law_190 : decode cL_law 190 = .ok (.invokevirtual 22, 3) := by decide +kernel
theorem dL_law_193 : decode cL_law 193 = .ok (.if_icmp .eq 639, 3) := by decide +kernel
theorem dL_law_196 : decode cL_law 196 = .ok (.iconst 0, 1) := by decide +kernel
theorem dL_law_197 : decode cL_law 197 = .ok (.ireturn, 1) := by decide +kernel
theorem dL_law_198 : decode cL_law 198 = .ok (.aload_n 1, 1) := by decide +kernel
theorem dL_law_199 : decode cL_law 199 = .ok (.aload_n 0, 1) := by decide +kernel
theorem dL_law_200 : decode cL_law 200 = .ok (.iload_n 3, 1) := by decide +kernel
theorem dL_law_201 : decode cL_law 201 = .ok (.iconst 1, 1) := by decide +kernel
theorem dL_law_202 : decode cL_law 202 = .ok (.iadd, 1) := by decide +kernel
theorem dL_law_203 : decode cL_law 203 = .ok (.iaload, 1) := by decide +kernel
theorem dL_law_204 : decode cL_law 204 = .ok (.aload_n 0, 1) := by decide +kernel
theorem dL_law_205 : decode cL_law 205 = .ok (.iload_n 3, 1) := by decide +kernel
theorem dL_law_206 : decode cL_law 206 = .ok (.iconst 2, 1) := by decide +kernel
theorem dL_law_207 : decode cL_law 207 = .ok (.iadd, 1) := by decide +kernel
theorem dL_law_208 : decode cL_law 208 = .ok (.iaload, 1) := by decide +kernel
theorem dL_law_209 : decode cL_law 209 = .ok (.aload_n 0, 1) := by decide +kernel
theorem dL_law_210 : decode cL_law 210 = .ok (.iload_n 3, 1) := by decide +kernel
theorem dL_law_211 : decode cL_law 211 = .ok (.iconst 3, 1) := by decide +kernel
theorem dL_law_212 : decode cL_law 212 = .ok (.iadd, 1) := by decide +kernel
theorem dL_law_213 : decode cL_law 213 = .ok (.iaload, 1) := by decide +kernel
theorem dL_law_214 : decode cL_law 214 = .ok (.invokevirtual 23, 3) := by decide +kernel
theorem dL_law_217 : decode cL_law 217 = .ok (.aload_n 2, 1) := by decide +kernel
theorem dL_law_218 : decode cL_law 218 = .ok (.aload_n 0, 1) := by decide +kernel
theorem dL_law_219 : decode cL_law 219 = .ok (.iload_n 3, 1) := by decide +kernel
theorem dL_law_220 : decode cL_law 220 = .ok (.iconst 1, 1) := by decide +kernel
theorem dL_law_221 : decode cL_law 221 = .ok (.iadd, 1) := by decide +kernel
theorem dL_law_222 : decode cL_law 222 = .ok (.iaload, 1) := by decide +kernel
theorem dL_law_223 : decode cL_law 223 = .ok (.aload_n 0, 1) := by decide +kernel
theorem dL_law_224 : decode cL_law 224 = .ok (.iload_n 3, 1) := by decide +kernel
theorem dL_law_225 : decode cL_law 225 = .ok (.iconst 2, 1) := by decide +kernel
theorem dL_law_226 : decode cL_law 226 = .ok (.iadd, 1) := by decide +kernel
theorem dL_law_227 : decode cL_law 227 = .ok (.iaload, 1) := by decide +kernel
theorem dL_law_228 : decode cL_law 228 = .ok (.aload_n 0, 1) := by decide +kernel
theorem dL_law_229 : decode cL_law 229 = .ok (.iload_n 3, 1) := by decide +kernel
theorem dL_law_230 : decode cL_law 230 = .ok (.iconst 3, 1) := by decide +kernel
theorem dL_law_231 : decode cL_law 231 = .ok (.iadd, 1) := by decide +kernel
theorem dL_law_232 : decode cL_law 232 = .ok (.iaload, 1) := by decide +kernel
theorem dL_law_233 : decode cL_law 233 = .ok (.invokevirtual 26, 3) := by decide +kernel
theorem dL_law_236 : decode cL_law 236 = .ok (.if_icmp .eq 596, 3) := by decide +kernel
theorem dL_law_239 : decode cL_law 239 = .ok (.iconst 0, 1) := by decide +kernel
theorem dL_law_240 : decode cL_law 240 = .ok (.ireturn, 1) := by decide +kernel
theorem dL_law_241 : decode cL_law 241 = .ok (.aload_n 1, 1) := by decide +kernel
theorem dL_law_242 : decode cL_law 242 = .ok (.aload_n 0, 1) := by decide +kernel
theorem dL_law_243 : decode cL_law 243 = .ok (.iload_n 3, 1) := by decide +kernel
theorem dL_law_244 : decode cL_law 244 = .ok (.iconst 1, 1) := by decide +kernel
theorem dL_law_245 : decode cL_law 245 = .ok (.iadd, 1) := by decide +kernel
theorem dL_law_246 : decode cL_law 246 = .ok (.iaload, 1) := by decide +kernel
theorem dL_law_247 : decode cL_law 247 = .ok (.aload_n 0, 1) := by decide +kernel
theorem dL_law_248 : decode cL_law 248 = .ok (.iload_n 3, 1) := by decide +kernel
theorem dL_law_249 : decode cL_law 249 = .ok (.iconst 2, 1) := by decide +kernel
theorem dL_law_250 : decode cL_law 250 = .ok (.iadd, 1) := by decide +kernel
theorem dL_law_251 : decode cL_law 251 = .ok (.iaload, 1) := by decide +kernel
theorem dL_law_252 : decode cL_law 252 = .ok (.aload_n 0, 1) := by decide +kernel
theorem dL_law_253 : decode cL_law 253 = .ok (.iload_n 3, 1) := by decide +kernel
theorem dL_law_254 : decode cL_law 254 = .ok (.iconst 3, 1) := by decide +kernel
theorem dL_law_255 : decode cL_law 255 = .ok (.iadd, 1) := by decide +kernel
theorem dL_law_256 : decode cL_law 256 = .ok (.iaload, 1) := by decide +kernel
theorem dL_law_257 : decode cL_law 257 = .ok (.invokevirtual 27, 3) := by decide +kernel
theorem dL_law_260 : decode cL_law 260 = .ok (.aload_n 2, 1) := by decide +kernel
theorem dL_law_261 : decode cL_law 261 = .ok (.aload_n 0, 1) := by decide +kernel
theorem dL_law_262 : decode cL_law 262 = .ok (.iload_n 3, 1) := by decide +kernel
theorem dL_law_263 : decode cL_law 263 = .ok (.iconst 1, 1) := by decide +kernel
theorem dL_law_264 : decode cL_law 264 = .ok (.iadd, 1) := by decide +kernel
theorem dL_law_265 : decode cL_law 265 = .ok (.iaload, 1) := by decide +kernel
theorem dL_law_266 : decode cL_law 266 = .ok (.aload_n 0, 1) := by decide +kernel
theorem dL_law_267 : decode cL_law 267 = .ok (.iload_n 3, 1) := by decide +kernel
theorem dL_law_268 : decode cL_law 268 = .ok (.iconst 2, 1) := by decide +kernel
theorem dL_law_269 : decode cL_law 269 = .ok (.iadd, 1) := by decide +kernel
theorem dL_law_270 : decode cL_law 270 = .ok (.iaload, 1) := by decide +kernel
theorem dL_law_271 : decode cL_law 271 = .ok (.aload_n 0, 1) := by decide +kernel
theorem dL_law_272 : decode cL_law 272 = .ok (.iload_n 3, 1) := by decide +kernel
theorem dL_law_273 : decode cL_law 273 = .ok (.iconst 3, 1) := by decide +kernel
theorem dL_law_274 : decode cL_law 274 = .ok (.iadd, 1) := by decide +kernel
theorem dL_law_275 : decode cL_law 275 = .ok (.iaload, 1) := by decide +kernel
theorem dL_law_276 : decode cL_law 276 = .ok (.invokevirtual 30, 3) := by decide +kernel
theorem dL_law_279 : decode cL_law 279 = .ok (.if_icmp .eq 553, 3) := by decide +kernel
theorem dL_law_282 : decode cL_law 282 = .ok (.iconst 0, 1) := by decide +kernel
theorem dL_law_283 : decode cL_law 283 = .ok (.ireturn, 1) := by decide +kernel
theorem dL_law_284 : decode cL_law 284 = .ok (.aload_n 1, 1) := by decide +kernel
theorem dL_law_285 : decode cL_law 285 = .ok (.aload_n 0, 1) := by decide +kernel
theorem dL_law_286 : decode cL_law 286 = .ok (.iload_n 3, 1) := by decide +kernel
theorem dL_law_287 : decode cL_law 287 = .ok (.iconst 1, 1) := by decide +kernel
theorem dL_law_288 : decode cL_law 288 = .ok (.iadd, 1) := by decide +kernel
theorem dL_law_289 : decode cL_law 289 = .ok (.iaload, 1) := by decide +kernel
theorem dL_law_290 : decode cL_law 290 = .ok (.aload_n 0, 1) := by decide +kernel
theorem dL_law_291 : decode cL_law 291 = .ok (.iload_n 3, 1) := by decide +kernel
theorem dL_law_292 : decode cL_law 292 = .ok (.iconst 2, 1) := by decide +kernel
theorem dL_law_293 : decode cL_law 293 = .ok (.iadd, 1) := by decide +kernel
theorem dL_law_294 : decode cL_law 294 = .ok (.iaload, 1) := by decide +kernel
theorem dL_law_295 : decode cL_law 295 = .ok (.aload_n 0, 1) := by decide +kernel
theorem dL_law_296 : decode cL_law 296 = .ok (.iload_n 3, 1) := by decide +kernel
theorem dL_law_297 : decode cL_law 297 = .ok (.iconst 3, 1) := by decide +kernel
theorem dL_law_298 : decode cL_law 298 = .ok (.iadd, 1) := by decide +kernel
theorem dL_law_299 : decode cL_law 299 = .ok (.iaload, 1) := by decide +kernel
theorem dL_law_300 : decode cL_law 300 = .ok (.invokevirtual 31, 3) := by decide +kernel
theorem dL_law_303 : decode cL_law 303 = .ok (.aload_n 2, 1) := by decide +kernel
theorem dL_law_304 : decode cL_law 304 = .ok (.aload_n 0, 1) := by decide +kernel
theorem dL_law_305 : decode cL_law 305 = .ok (.iload_n 3, 1) := by decide +kernel
theorem dL_law_306 : decode cL_law 306 = .ok (.iconst 1, 1) := by decide +kernel
theorem dL_law_307 : decode cL_law 307 = .ok (.iadd, 1) := by decide +kernel
theorem dL_law_308 : decode cL_law 308 = .ok (.iaload, 1) := by decide +kernel
theorem dL_law_309 : decode cL_law 309 = .ok (.aload_n 0, 1) := by decide +kernel
theorem dL_law_310 : decode cL_law 310 = .ok (.iload_n 3, 1) := by decide +kernel
theorem dL_law_311 : decode cL_law 311 = .ok (.iconst 2, 1) := by decide +kernel
theorem dL_law_312 : decode cL_law 312 = .ok (.iadd, 1) := by decide +kernel
theorem dL_law_313 : decode cL_law 313 = .ok (.iaload, 1) := by decide +kernel
theorem dL_law_314 : decode cL_law 314 = .ok (.aload_n 0, 1) := by decide +kernel
theorem dL_law_315 : decode cL_law 315 = .ok (.iload_n 3, 1) := by decide +kernel
theorem dL_law_316 : decode cL_law 316 = .ok (.iconst 3, 1) := by decide +kernel
theorem dL_law_317 : decode cL_law 317 = .ok (.iadd, 1) := by decide +kernel
theorem dL_law_318 : decode cL_law 318 = .ok (.iaload, 1) := by decide +kernel
theorem dL_law_319 : decode cL_law 319 = .ok (.invokevirtual 34, 3) := by decide +kernel
theorem dL_law_322 : decode cL_law 322 = .ok (.if_icmp .eq 510, 3) := by decide +kernel
theorem dL_law_325 : decode cL_law 325 = .ok (.iconst 0, 1) := by decide +kernel
theorem dL_law_326 : decode cL_law 326 = .ok (.ireturn, 1) := by decide +kernel
theorem dL_law_327 : decode cL_law 327 = .ok (.aload_n 1, 1) := by decide +kernel
theorem dL_law_328 : decode cL_law 328 = .ok (.aload_n 0, 1) := by decide +kernel
theorem dL_law_329 : decode cL_law 329 = .ok (.iload_n 3, 1) := by decide +kernel
theorem dL_law_330 : decode cL_law 330 = .ok (.iconst 1, 1) := by decide +kernel
theorem dL_law_331 : decode cL_law 331 = .ok (.iadd, 1) := by decide +kernel
theorem dL_law_332 : decode cL_law 332 = .ok (.iaload, 1) := by decide +kernel
theorem dL_law_333 : decode cL_law 333 = .ok (.aload_n 0, 1) := by decide +kernel
theorem dL_law_334 : decode cL_law 334 = .ok (.iload_n 3, 1) := by decide +kernel
theorem dL_law_335 : decode cL_law 335 = .ok (.iconst 2, 1) := by decide +kernel
theorem dL_law_336 : decode cL_law 336 = .ok (.iadd, 1) := by decide +kernel
theorem dL_law_337 : decode cL_law 337 = .ok (.iaload, 1) := by decide +kernel
theorem dL_law_338 : decode cL_law 338 = .ok (.invokevirtual 35, 3) := by decide +kernel
theorem dL_law_341 : decode cL_law 341 = .ok (.aload_n 2, 1) := by decide +kernel
theorem dL_law_342 : decode cL_law 342 = .ok (.aload_n 0, 1) := by decide +kernel
theorem dL_law_343 : decode cL_law 343 = .ok (.iload_n 3, 1) := by decide +kernel
theorem dL_law_344 : decode cL_law 344 = .ok (.iconst 1, 1) := by decide +kernel
theorem dL_law_345 : decode cL_law 345 = .ok (.iadd, 1) := by decide +kernel
theorem dL_law_346 : decode cL_law 346 = .ok (.iaload, 1) := by decide +kernel
theorem dL_law_347 : decode cL_law 347 = .ok (.aload_n 0, 1) := by decide +kernel
theorem dL_law_348 : decode cL_law 348 = .ok (.iload_n 3, 1) := by decide +kernel
theorem dL_law_349 : decode cL_law 349 = .ok (.iconst 2, 1) := by decide +kernel
theorem dL_law_350 : decode cL_law 350 = .ok (.iadd, 1) := by decide +kernel
theorem dL_law_351 : decode cL_law 351 = .ok (.iaload, 1) := by decide +kernel
theorem dL_law_352 : decode cL_law 352 = .ok (.invokevirtual 39, 3) := by decide +kernel
theorem dL_law_355 : decode cL_law 355 = .ok (.if_icmp .eq 477, 3) := by decide +kernel
theorem dL_law_358 : decode cL_law 358 = .ok (.iconst 0, 1) := by decide +kernel
theorem dL_law_359 : decode cL_law 359 = .ok (.ireturn, 1) := by decide +kernel
theorem dL_law_360 : decode cL_law 360 = .ok (.aload_n 1, 1) := by decide +kernel
theorem dL_law_361 : decode cL_law 361 = .ok (.aload_n 0, 1) := by decide +kernel
theorem dL_law_362 : decode cL_law 362 = .ok (.iload_n 3, 1) := by decide +kernel
theorem dL_law_363 : decode cL_law 363 = .ok (.iconst 1, 1) := by decide +kernel
theorem dL_law_364 : decode cL_law 364 = .ok (.iadd, 1) := by decide +kernel
theorem dL_law_365 : decode cL_law 365 = .ok (.iaload, 1) := by decide +kernel
theorem dL_law_366 : decode cL_law 366 = .ok (.aload_n 0, 1) := by decide +kernel
theorem dL_law_367 : decode cL_law 367 = .ok (.iload_n 3, 1) := by decide +kernel
theorem dL_law_368 : decode cL_law 368 = .ok (.iconst 2, 1) := by decide +kernel
theorem dL_law_369 : decode cL_law 369 = .ok (.iadd, 1) := by decide +kernel
theorem dL_law_370 : decode cL_law 370 = .ok (.iaload, 1) := by decide +kernel
theorem dL_law_371 : decode cL_law 371 = .ok (.invokevirtual 40, 3) := by decide +kernel
theorem dL_law_374 : decode cL_law 374 = .ok (.aload_n 2, 1) := by decide +kernel
theorem dL_law_375 : decode cL_law 375 = .ok (.aload_n 0, 1) := by decide +kernel
theorem dL_law_376 : decode cL_law 376 = .ok (.iload_n 3, 1) := by decide +kernel
theorem dL_law_377 : decode cL_law 377 = .ok (.iconst 1, 1) := by decide +kernel
theorem dL_law_378 : decode cL_law 378 = .ok (.iadd, 1) := by decide +kernel
theorem dL_law_379 : decode cL_law 379 = .ok (.iaload, 1) := by decide +kernel
theorem dL_law_380 : decode cL_law 380 = .ok (.aload_n 0, 1) := by decide +kernel
theorem dL_law_381 : decode cL_law 381 = .ok (.iload_n 3, 1) := by decide +kernel
theorem dL_law_382 : decode cL_law 382 = .ok (.iconst 2, 1) := by decide +kernel
theorem dL_law_383 : decode cL_law 383 = .ok (.iadd, 1) := by decide +kernel
theorem dL_law_384 : decode cL_law 384 = .ok (.iaload, 1) := by decide +kernel
theorem dL_law_385 : decode cL_law 385 = .ok (.invokevirtual 43, 3) := by decide +kernel
theorem dL_law_388 : decode cL_law 388 = .ok (.if_icmp .eq 444, 3) := by decide +kernel
theorem dL_law_391 : decode cL_law 391 = .ok (.iconst 0, 1) := by decide +kernel
theorem dL_law_392 : decode cL_law 392 = .ok (.ireturn, 1) := by decide +kernel
theorem dL_law_393 : decode cL_law 393 = .ok (.aload_n 1, 1) := by decide +kernel
theorem dL_law_394 : decode cL_law 394 = .ok (.aload_n 0, 1) := by decide +kernel
theorem dL_law_395 : decode cL_law 395 = .ok (.iload_n 3, 1) := by decide +kernel
theorem dL_law_396 : decode cL_law 396 = .ok (.iconst 1, 1) := by decide +kernel
theorem dL_law_397 : decode cL_law 397 = .ok (.iadd, 1) := by decide +kernel
theorem dL_law_398 : decode cL_law 398 = .ok (.iaload, 1) := by decide +kernel
theorem dL_law_399 : decode cL_law 399 = .ok (.aload_n 0, 1) := by decide +kernel
theorem dL_law_400 : decode cL_law 400 = .ok (.iload_n 3, 1) := by decide +kernel
theorem dL_law_401 : decode cL_law 401 = .ok (.iconst 2, 1) := by decide +kernel
theorem dL_law_402 : decode cL_law 402 = .ok (.iadd, 1) := by decide +kernel
theorem dL_law_403 : decode cL_law 403 = .ok (.iaload, 1) := by decide +kernel
theorem dL_law_404 : decode cL_law 404 = .ok (.invokevirtual 44, 3) := by decide +kernel
theorem dL_law_407 : decode cL_law 407 = .ok (.aload_n 2, 1) := by decide +kernel
theorem dL_law_408 : decode cL_law 408 = .ok (.aload_n 0, 1) := by decide +kernel
theorem dL_law_409 : decode cL_law 409 = .ok (.iload_n 3, 1) := by decide +kernel
theorem dL_law_410 : decode cL_law 410 = .ok (.iconst 1, 1) := by decide +kernel
theorem dL_law_411 : decode cL_law 411 = .ok (.iadd, 1) := by decide +kernel
theorem dL_law_412 : decode cL_law 412 = .ok (.iaload, 1) := by decide +kernel
theorem dL_law_413 : decode cL_law 413 = .ok (.aload_n 0, 1) := by decide +kernel
theorem dL_law_414 : decode cL_law 414 = .ok (.iload_n 3, 1) := by decide +kernel
theorem dL_law_415 : decode cL_law 415 = .ok (.iconst 2, 1) := by decide +kernel
theorem dL_law_416 : decode cL_law 416 = .ok (.iadd, 1) := by decide +kernel
theorem dL_law_417 : decode cL_law 417 = .ok (.iaload, 1) := by decide +kernel
theorem dL_law_418 : decode cL_law 418 = .ok (.invokevirtual 47, 3) := by decide +kernel
theorem dL_law_421 : decode cL_law 421 = .ok (.if_icmp .eq 411, 3) := by decide +kernel
theorem dL_law_424 : decode cL_law 424 = .ok (.iconst 0, 1) := by decide +kernel
theorem dL_law_425 : decode cL_law 425 = .ok (.ireturn, 1) := by decide +kernel
theorem dL_law_426 : decode cL_law 426 = .ok (.aload_n 1, 1) := by decide +kernel
theorem dL_law_427 : decode cL_law 427 = .ok (.aload_n 0, 1) := by decide +kernel
theorem dL_law_428 : decode cL_law 428 = .ok (.iload_n 3, 1) := by decide +kernel
theorem dL_law_429 : decode cL_law 429 = .ok (.iconst 1, 1) := by decide +kernel
theorem dL_law_430 : decode cL_law 430 = .ok (.iadd, 1) := by decide +kernel
theorem dL_law_431 : decode cL_law 431 = .ok (.iaload, 1) := by decide +kernel
theorem dL_law_432 : decode cL_law 432 = .ok (.aload_n 0, 1) := by decide +kernel
theorem dL_law_433 : decode cL_law 433 = .ok (.iload_n 3, 1) := by decide +kernel
theorem dL_law_434 : decode cL_law 434 = .ok (.iconst 2, 1) := by decide +kernel
theorem dL_law_435 : decode cL_law 435 = .ok (.iadd, 1) := by decide +kernel
theorem dL_law_436 : decode cL_law 436 = .ok (.iaload, 1) := by decide +kernel
theorem dL_law_437 : decode cL_law 437 = .ok (.aload_n 0, 1) := by decide +kernel
theorem dL_law_438 : decode cL_law 438 = .ok (.iload_n 3, 1) := by decide +kernel
theorem dL_law_439 : decode cL_law 439 = .ok (.iconst 3, 1) := by decide +kernel
theorem dL_law_440 : decode cL_law 440 = .ok (.iadd, 1) := by decide +kernel
theorem dL_law_441 : decode cL_law 441 = .ok (.iaload, 1) := by decide +kernel
theorem dL_law_442 : decode cL_law 442 = .ok (.ifCond .eq 7, 3) := by decide +kernel
theorem dL_law_445 : decode cL_law 445 = .ok (.iconst 1, 1) := by decide +kernel
theorem dL_law_446 : decode cL_law 446 = .ok (.goto 4, 3) := by decide +kernel
theorem dL_law_449 : decode cL_law 449 = .ok (.iconst 0, 1) := by decide +kernel
theorem dL_law_450 : decode cL_law 450 = .ok (.invokevirtual 48, 3) := by decide +kernel
theorem dL_law_453 : decode cL_law 453 = .ok (.aload_n 2, 1) := by decide +kernel
theorem dL_law_454 : decode cL_law 454 = .ok (.aload_n 0, 1) := by decide +kernel
theorem dL_law_455 : decode cL_law 455 = .ok (.iload_n 3, 1) := by decide +kernel
theorem dL_law_456 : decode cL_law 456 = .ok (.iconst 1, 1) := by decide +kernel
theorem dL_law_457 : decode cL_law 457 = .ok (.iadd, 1) := by decide +kernel
theorem dL_law_458 : decode cL_law 458 = .ok (.iaload, 1) := by decide +kernel
theorem dL_law_459 : decode cL_law 459 = .ok (.aload_n 0, 1) := by decide +kernel
theorem dL_law_460 : decode cL_law 460 = .ok (.iload_n 3, 1) := by decide +kernel
theorem dL_law_461 : decode cL_law 461 = .ok (.iconst 2, 1) := by decide +kernel
theorem dL_law_462 : decode cL_law 462 = .ok (.iadd, 1) := by decide +kernel
theorem dL_law_463 : decode cL_law 463 = .ok (.iaload, 1) := by decide +kernel
theorem dL_law_464 : decode cL_law 464 = .ok (.aload_n 0, 1) := by decide +kernel
theorem dL_law_465 : decode cL_law 465 = .ok (.iload_n 3, 1) := by decide +kernel
theorem dL_law_466 : decode cL_law 466 = .ok (.iconst 3, 1) := by decide +kernel
theorem dL_law_467 : decode cL_law 467 = .ok (.iadd, 1) := by decide +kernel
theorem dL_law_468 : decode cL_law 468 = .ok (.iaload, 1) := by decide +kernel
theorem dL_law_469 : decode cL_law 469 = .ok (.ifCond .eq 7, 3) := by decide +kernel
theorem dL_law_472 : decode cL_law 472 = .ok (.iconst 1, 1) := by decide +kernel
theorem dL_law_473 : decode cL_law 473 = .ok (.goto 4, 3) := by decide +kernel
theorem dL_law_476 : decode cL_law 476 = .ok (.iconst 0, 1) := by decide +kernel
theorem dL_law_477 : decode cL_law 477 = .ok (.invokevirtual 52, 3) := by decide +kernel
theorem dL_law_480 : decode cL_law 480 = .ok (.if_icmp .eq 352, 3) := by decide +kernel
theorem dL_law_483 : decode cL_law 483 = .ok (.iconst 0, 1) := by decide +kernel
theorem dL_law_484 : decode cL_law 484 = .ok (.ireturn, 1) := by decide +kernel
theorem dL_law_485 : decode cL_law 485 = .ok (.aload_n 1, 1) := by decide +kernel
theorem dL_law_486 : decode cL_law 486 = .ok (.aload_n 0, 1) := by decide +kernel
theorem dL_law_487 : decode cL_law 487 = .ok (.iload_n 3, 1) := by decide +kernel
theorem dL_law_488 : decode cL_law 488 = .ok (.iconst 1, 1) := by decide +kernel
theorem dL_law_489 : decode cL_law 489 = .ok (.iadd, 1) := by decide +kernel
theorem dL_law_490 : decode cL_law 490 = .ok (.iaload, 1) := by decide +kernel
theorem dL_law_491 : decode cL_law 491 = .ok (.invokevirtual 53, 3) := by decide +kernel
theorem dL_law_494 : decode cL_law 494 = .ok (.aload_n 2, 1) := by decide +kernel
theorem dL_law_495 : decode cL_law 495 = .ok (.aload_n 0, 1) := by decide +kernel
theorem dL_law_496 : decode cL_law 496 = .ok (.iload_n 3, 1) := by decide +kernel
theorem dL_law_497 : decode cL_law 497 = .ok (.iconst 1, 1) := by decide +kernel
theorem dL_law_498 : decode cL_law 498 = .ok (.iadd, 1) := by decide +kernel
theorem dL_law_499 : decode cL_law 499 = .ok (.iaload, 1) := by decide +kernel
theorem dL_law_500 : decode cL_law 500 = .ok (.invokevirtual 56, 3) := by decide +kernel
theorem dL_law_503 : decode cL_law 503 = .ok (.if_icmp .eq 329, 3) := by decide +kernel
theorem dL_law_506 : decode cL_law 506 = .ok (.iconst 0, 1) := by decide +kernel
theorem dL_law_507 : decode cL_law 507 = .ok (.ireturn, 1) := by decide +kernel
theorem dL_law_508 : decode cL_law 508 = .ok (.aload_n 1, 1) := by decide +kernel
theorem dL_law_509 : decode cL_law 509 = .ok (.aload_n 0, 1) := by decide +kernel
theorem dL_law_510 : decode cL_law 510 = .ok (.iload_n 3, 1) := by decide +kernel
theorem dL_law_511 : decode cL_law 511 = .ok (.iconst 1, 1) := by decide +kernel
theorem dL_law_512 : decode cL_law 512 = .ok (.iadd, 1) := by decide +kernel
theorem dL_law_513 : decode cL_law 513 = .ok (.iaload, 1) := by decide +kernel
theorem dL_law_514 : decode cL_law 514 = .ok (.invokevirtual 57, 3) := by decide +kernel
theorem dL_law_517 : decode cL_law 517 = .ok (.aload_n 2, 1) := by decide +kernel
theorem dL_law_518 : decode cL_law 518 = .ok (.aload_n 0, 1) := by decide +kernel
theorem dL_law_519 : decode cL_law 519 = .ok (.iload_n 3, 1) := by decide +kernel
theorem dL_law_520 : decode cL_law 520 = .ok (.iconst 1, 1) := by decide +kernel
theorem dL_law_521 : decode cL_law 521 = .ok (.iadd, 1) := by decide +kernel
theorem dL_law_522 : decode cL_law 522 = .ok (.iaload, 1) := by decide +kernel
theorem dL_law_523 : decode cL_law 523 = .ok (.invokevirtual 60, 3) := by decide +kernel
theorem dL_law_526 : decode cL_law 526 = .ok (.if_icmp .eq 306, 3) := by decide +kernel
theorem dL_law_529 : decode cL_law 529 = .ok (.iconst 0, 1) := by decide +kernel
theorem dL_law_530 : decode cL_law 530 = .ok (.ireturn, 1) := by decide +kernel
theorem dL_law_531 : decode cL_law 531 = .ok (.aload_n 1, 1) := by decide +kernel
theorem dL_law_532 : decode cL_law 532 = .ok (.aload_n 0, 1) := by decide +kernel
theorem dL_law_533 : decode cL_law 533 = .ok (.iload_n 3, 1) := by decide +kernel
theorem dL_law_534 : decode cL_law 534 = .ok (.iconst 1, 1) := by decide +kernel
theorem dL_law_535 : decode cL_law 535 = .ok (.iadd, 1) := by decide +kernel
theorem dL_law_536 : decode cL_law 536 = .ok (.iaload, 1) := by decide +kernel
theorem dL_law_537 : decode cL_law 537 = .ok (.invokevirtual 61, 3) := by decide +kernel
theorem dL_law_540 : decode cL_law 540 = .ok (.aload_n 2, 1) := by decide +kernel
theorem dL_law_541 : decode cL_law 541 = .ok (.aload_n 0, 1) := by decide +kernel
theorem dL_law_542 : decode cL_law 542 = .ok (.iload_n 3, 1) := by decide +kernel
theorem dL_law_543 : decode cL_law 543 = .ok (.iconst 1, 1) := by decide +kernel
theorem dL_law_544 : decode cL_law 544 = .ok (.iadd, 1) := by decide +kernel
theorem dL_law_545 : decode cL_law 545 = .ok (.iaload, 1) := by decide +kernel
theorem dL_law_546 : decode cL_law 546 = .ok (.invokevirtual 64, 3) := by decide +kernel
theorem dL_law_549 : decode cL_law 549 = .ok (.if_icmp .eq 283, 3) := by decide +kernel
theorem dL_law_552 : decode cL_law 552 = .ok (.iconst 0, 1) := by decide +kernel
theorem dL_law_553 : decode cL_law 553 = .ok (.ireturn, 1) := by decide +kernel
theorem dL_law_554 : decode cL_law 554 = .ok (.aload_n 1, 1) := by decide +kernel
theorem dL_law_555 : decode cL_law 555 = .ok (.invokevirtual 65, 3) := by decide +kernel
theorem dL_law_558 : decode cL_law 558 = .ok (.aload_n 2, 1) := by decide +kernel
theorem dL_law_559 : decode cL_law 559 = .ok (.invokevirtual 69, 3) := by decide +kernel
theorem dL_law_562 : decode cL_law 562 = .ok (.if_icmp .eq 270, 3) := by decide +kernel
theorem dL_law_565 : decode cL_law 565 = .ok (.iconst 0, 1) := by decide +kernel
theorem dL_law_566 : decode cL_law 566 = .ok (.ireturn, 1) := by decide +kernel
theorem dL_law_567 : decode cL_law 567 = .ok (.aload_n 1, 1) := by decide +kernel
theorem dL_law_568 : decode cL_law 568 = .ok (.aload_n 0, 1) := by decide +kernel
theorem dL_law_569 : decode cL_law 569 = .ok (.iload_n 3, 1) := by decide +kernel
theorem dL_law_570 : decode cL_law 570 = .ok (.iconst 1, 1) := by decide +kernel
theorem dL_law_571 : decode cL_law 571 = .ok (.iadd, 1) := by decide +kernel
theorem dL_law_572 : decode cL_law 572 = .ok (.iaload, 1) := by decide +kernel
theorem dL_law_573 : decode cL_law 573 = .ok (.aload_n 0, 1) := by decide +kernel
theorem dL_law_574 : decode cL_law 574 = .ok (.iload_n 3, 1) := by decide +kernel
theorem dL_law_575 : decode cL_law 575 = .ok (.iconst 2, 1) := by decide +kernel
theorem dL_law_576 : decode cL_law 576 = .ok (.iadd, 1) := by decide +kernel
theorem dL_law_577 : decode cL_law 577 = .ok (.iaload, 1) := by decide +kernel
theorem dL_law_578 : decode cL_law 578 = .ok (.aload_n 0, 1) := by decide +kernel
theorem dL_law_579 : decode cL_law 579 = .ok (.iload_n 3, 1) := by decide +kernel
theorem dL_law_580 : decode cL_law 580 = .ok (.iconst 3, 1) := by decide +kernel
theorem dL_law_581 : decode cL_law 581 = .ok (.iadd, 1) := by decide +kernel
theorem dL_law_582 : decode cL_law 582 = .ok (.iaload, 1) := by decide +kernel
theorem dL_law_583 : decode cL_law 583 = .ok (.invokevirtual 70, 3) := by decide +kernel
theorem dL_law_586 : decode cL_law 586 = .ok (.aload_n 2, 1) := by decide +kernel
theorem dL_law_587 : decode cL_law 587 = .ok (.aload_n 0, 1) := by decide +kernel
theorem dL_law_588 : decode cL_law 588 = .ok (.iload_n 3, 1) := by decide +kernel
theorem dL_law_589 : decode cL_law 589 = .ok (.iconst 1, 1) := by decide +kernel
theorem dL_law_590 : decode cL_law 590 = .ok (.iadd, 1) := by decide +kernel
theorem dL_law_591 : decode cL_law 591 = .ok (.iaload, 1) := by decide +kernel
theorem dL_law_592 : decode cL_law 592 = .ok (.aload_n 0, 1) := by decide +kernel
theorem dL_law_593 : decode cL_law 593 = .ok (.iload_n 3, 1) := by decide +kernel
theorem dL_law_594 : decode cL_law 594 = .ok (.iconst 2, 1) := by decide +kernel
theorem dL_law_595 : decode cL_law 595 = .ok (.iadd, 1) := by decide +kernel
theorem dL_law_596 : decode cL_law 596 = .ok (.iaload, 1) := by decide +kernel
theorem dL_law_597 : decode cL_law 597 = .ok (.aload_n 0, 1) := by decide +kernel
theorem dL_law_598 : decode cL_law 598 = .ok (.iload_n 3, 1) := by decide +kernel
theorem dL_law_599 : decode cL_law 599 = .ok (.iconst 3, 1) := by decide +kernel
theorem dL_law_600 : decode cL_law 600 = .ok (.iadd, 1) := by decide +kernel
theorem dL_law_601 : decode cL_law 601 = .ok (.iaload, 1) := by decide +kernel
theorem dL_law_602 : decode cL_law 602 = .ok (.invokevirtual 73, 3) := by decide +kernel
theorem dL_law_605 : decode cL_law 605 = .ok (.if_icmp .eq 227, 3) := by decide +kernel
theorem dL_law_608 : decode cL_law 608 = .ok (.iconst 0, 1) := by decide +kernel
theorem dL_law_609 : decode cL_law 609 = .ok (.ireturn, 1) := by decide +kernel
theorem dL_law_610 : decode cL_law 610 = .ok (.aload_n 1, 1) := by decide +kernel
theorem dL_law_611 : decode cL_law 611 = .ok (.aload_n 0, 1) := by decide +kernel
theorem dL_law_612 : decode cL_law 612 = .ok (.iload_n 3, 1) := by decide +kernel
theorem dL_law_613 : decode cL_law 613 = .ok (.iconst 1, 1) := by decide +kernel
theorem dL_law_614 : decode cL_law 614 = .ok (.iadd, 1) := by decide +kernel
theorem dL_law_615 : decode cL_law 615 = .ok (.iaload, 1) := by decide +kernel
theorem dL_law_616 : decode cL_law 616 = .ok (.invokevirtual 74, 3) := by decide +kernel
theorem dL_law_619 : decode cL_law 619 = .ok (.aload_n 2, 1) := by decide +kernel
theorem dL_law_620 : decode cL_law 620 = .ok (.aload_n 0, 1) := by decide +kernel
theorem dL_law_621 : decode cL_law 621 = .ok (.iload_n 3, 1) := by decide +kernel
theorem dL_law_622 : decode cL_law 622 = .ok (.iconst 1, 1) := by decide +kernel
theorem dL_law_623 : decode cL_law 623 = .ok (.iadd, 1) := by decide +kernel
theorem dL_law_624 : decode cL_law 624 = .ok (.iaload, 1) := by decide +kernel
theorem dL_law_625 : decode cL_law 625 = .ok (.invokevirtual 77, 3) := by decide +kernel
theorem dL_law_628 : decode cL_law 628 = .ok (.if_icmp .eq 204, 3) := by decide +kernel
theorem dL_law_631 : decode cL_law 631 = .ok (.iconst 0, 1) := by decide +kernel
theorem dL_law_632 : decode cL_law 632 = .ok (.ireturn, 1) := by decide +kernel
theorem dL_law_633 : decode cL_law 633 = .ok (.aload_n 1, 1) := by decide +kernel
theorem dL_law_634 : decode cL_law 634 = .ok (.aload_n 0, 1) := by decide +kernel
theorem dL_law_635 : decode cL_law 635 = .ok (.iload_n 3, 1) := by decide +kernel
theorem dL_law_636 : decode cL_law 636 = .ok (.iconst 1, 1) := by decide +kernel
theorem dL_law_637 : decode cL_law 637 = .ok (.iadd, 1) := by decide +kernel
theorem dL_law_638 : decode cL_law 638 = .ok (.iaload, 1) := by decide +kernel
theorem dL_law_639 : decode cL_law 639 = .ok (.aload_n 0, 1) := by decide +kernel
theorem dL_law_640 : decode cL_law 640 = .ok (.iload_n 3, 1) := by decide +kernel
theorem dL_law_641 : decode cL_law 641 = .ok (.iconst 2, 1) := by decide +kernel
theorem dL_law_642 : decode cL_law 642 = .ok (.iadd, 1) := by decide +kernel
theorem dL_law_643 : decode cL_law 643 = .ok (.iaload, 1) := by decide +kernel
theorem dL_law_644 : decode cL_law 644 = .ok (.i2l, 1) := by decide +kernel
theorem dL_law_645 : decode cL_law 645 = .ok (.bipush 32, 2) := by decide +kernel
theorem dL_law_647 : decode cL_law 647 = .ok (.lshl, 1) := by decide +kernel
theorem dL_law_648 : decode cL_law 648 = .ok (.aload_n 0, 1) := by decide +kernel
theorem dL_law_649 : decode cL_law 649 = .ok (.iload_n 3, 1) := by decide +kernel
theorem dL_law_650 : decode cL_law 650 = .ok (.iconst 3, 1) := by decide +kernel
theorem dL_law_651 : decode cL_law 651 = .ok (.iadd, 1) := by decide +kernel
theorem dL_law_652 : decode cL_law 652 = .ok (.iaload, 1) := by decide +kernel
theorem dL_law_653 : decode cL_law 653 = .ok (.i2l, 1) := by decide +kernel
theorem dL_law_654 : decode cL_law 654 = .ok (.ldc2_w 78, 3) := by decide +kernel
theorem dL_law_657 : decode cL_law 657 = .ok (.land, 1) := by decide +kernel
theorem dL_law_658 : decode cL_law 658 = .ok (.lor, 1) := by decide +kernel
theorem dL_law_659 : decode cL_law 659 = .ok (.aload_n 0, 1) := by decide +kernel
theorem dL_law_660 : decode cL_law 660 = .ok (.iload_n 3, 1) := by decide +kernel
theorem dL_law_661 : decode cL_law 661 = .ok (.iconst 4, 1) := by decide +kernel
theorem dL_law_662 : decode cL_law 662 = .ok (.iadd, 1) := by decide +kernel
theorem dL_law_663 : decode cL_law 663 = .ok (.iaload, 1) := by decide +kernel
theorem dL_law_664 : decode cL_law 664 = .ok (.invokevirtual 80, 3) := by decide +kernel
theorem dL_law_667 : decode cL_law 667 = .ok (.aload_n 2, 1) := by decide +kernel
theorem dL_law_668 : decode cL_law 668 = .ok (.aload_n 0, 1) := by decide +kernel
theorem dL_law_669 : decode cL_law 669 = .ok (.iload_n 3, 1) := by decide +kernel
theorem dL_law_670 : decode cL_law 670 = .ok (.iconst 1, 1) := by decide +kernel
theorem dL_law_671 : decode cL_law 671 = .ok (.iadd, 1) := by decide +kernel
theorem dL_law_672 : decode cL_law 672 = .ok (.iaload, 1) := by decide +kernel
theorem dL_law_673 : decode cL_law 673 = .ok (.aload_n 0, 1) := by decide +kernel
theorem dL_law_674 : decode cL_law 674 = .ok (.iload_n 3, 1) := by decide +kernel
theorem dL_law_675 : decode cL_law 675 = .ok (.iconst 2, 1) := by decide +kernel
theorem dL_law_676 : decode cL_law 676 = .ok (.iadd, 1) := by decide +kernel
theorem dL_law_677 : decode cL_law 677 = .ok (.iaload, 1) := by decide +kernel
theorem dL_law_678 : decode cL_law 678 = .ok (.i2l, 1) := by decide +kernel
theorem dL_law_679 : decode cL_law 679 = .ok (.bipush 32, 2) := by decide +kernel
theorem dL_law_681 : decode cL_law 681 = .ok (.lshl, 1) := by decide +kernel
theorem dL_law_682 : decode cL_law 682 = .ok (.aload_n 0, 1) := by decide +kernel
theorem dL_law_683 : decode cL_law 683 = .ok (.iload_n 3, 1) := by decide +kernel
theorem dL_law_684 : decode cL_law 684 = .ok (.iconst 3, 1) := by decide +kernel
theorem dL_law_685 : decode cL_law 685 = .ok (.iadd, 1) := by decide +kernel
theorem dL_law_686 : decode cL_law 686 = .ok (.iaload, 1) := by decide +kernel
theorem dL_law_687 : decode cL_law 687 = .ok (.i2l, 1) := by decide +kernel
theorem dL_law_688 : decode cL_law 688 = .ok (.ldc2_w 78, 3) := by decide +kernel
theorem dL_law_691 : decode cL_law 691 = .ok (.land, 1) := by decide +kernel
theorem dL_law_692 : decode cL_law 692 = .ok (.lor, 1) := by decide +kernel
theorem dL_law_693 : decode cL_law 693 = .ok (.aload_n 0, 1) := by decide +kernel
theorem dL_law_694 : decode cL_law 694 = .ok (.iload_n 3, 1) := by decide +kernel
theorem dL_law_695 : decode cL_law 695 = .ok (.iconst 4, 1) := by decide +kernel
theorem dL_law_696 : decode cL_law 696 = .ok (.iadd, 1) := by decide +kernel
theorem dL_law_697 : decode cL_law 697 = .ok (.iaload, 1) := by decide +kernel
theorem dL_law_698 : decode cL_law 698 = .ok (.invokevirtual 84, 3) := by decide +kernel
theorem dL_law_701 : decode cL_law 701 = .ok (.if_icmp .eq 131, 3) := by decide +kernel
theorem dL_law_704 : decode cL_law 704 = .ok (.iconst 0, 1) := by decide +kernel
theorem dL_law_705 : decode cL_law 705 = .ok (.ireturn, 1) := by decide +kernel
theorem dL_law_706 : decode cL_law 706 = .ok (.aload_n 1, 1) := by decide +kernel
theorem dL_law_707 : decode cL_law 707 = .ok (.aload_n 0, 1) := by decide +kernel
theorem dL_law_708 : decode cL_law 708 = .ok (.iload_n 3, 1) := by decide +kernel
theorem dL_law_709 : decode cL_law 709 = .ok (.iconst 1, 1) := by decide +kernel
theorem dL_law_710 : decode cL_law 710 = .ok (.iadd, 1) := by decide +kernel
theorem dL_law_711 : decode cL_law 711 = .ok (.iaload, 1) := by decide +kernel
theorem dL_law_712 : decode cL_law 712 = .ok (.aload_n 0, 1) := by decide +kernel
theorem dL_law_713 : decode cL_law 713 = .ok (.iload_n 3, 1) := by decide +kernel
theorem dL_law_714 : decode cL_law 714 = .ok (.iconst 2, 1) := by decide +kernel
theorem dL_law_715 : decode cL_law 715 = .ok (.iadd, 1) := by decide +kernel
theorem dL_law_716 : decode cL_law 716 = .ok (.iaload, 1) := by decide +kernel
theorem dL_law_717 : decode cL_law 717 = .ok (.invokevirtual 85, 3) := by decide +kernel
theorem dL_law_720 : decode cL_law 720 = .ok (.aload_n 2, 1) := by decide +kernel
theorem dL_law_721 : decode cL_law 721 = .ok (.aload_n 0, 1) := by decide +kernel
theorem dL_law_722 : decode cL_law 722 = .ok (.iload_n 3, 1) := by decide +kernel
theorem dL_law_723 : decode cL_law 723 = .ok (.iconst 1, 1) := by decide +kernel
theorem dL_law_724 : decode cL_law 724 = .ok (.iadd, 1) := by decide +kernel
theorem dL_law_725 : decode cL_law 725 = .ok (.iaload, 1) := by decide +kernel
theorem dL_law_726 : decode cL_law 726 = .ok (.aload_n 0, 1) := by decide +kernel
theorem dL_law_727 : decode cL_law 727 = .ok (.iload_n 3, 1) := by decide +kernel
theorem dL_law_728 : decode cL_law 728 = .ok (.iconst 2, 1) := by decide +kernel
theorem dL_law_729 : decode cL_law 729 = .ok (.iadd, 1) := by decide +kernel
theorem dL_law_730 : decode cL_law 730 = .ok (.iaload, 1) := by decide +kernel
theorem dL_law_731 : decode cL_law 731 = .ok (.invokevirtual 89, 3) := by decide +kernel
theorem dL_law_734 : decode cL_law 734 = .ok (.lcmp, 1) := by decide +kernel
theorem dL_law_735 : decode cL_law 735 = .ok (.ifCond .eq 97, 3) := by decide +kernel
theorem dL_law_738 : decode cL_law 738 = .ok (.iconst 0, 1) := by decide +kernel
theorem dL_law_739 : decode cL_law 739 = .ok (.ireturn, 1) := by decide +kernel
theorem dL_law_740 : decode cL_law 740 = .ok (.aload_n 1, 1) := by decide +kernel
theorem dL_law_741 : decode cL_law 741 = .ok (.aload_n 0, 1) := by decide +kernel
theorem dL_law_742 : decode cL_law 742 = .ok (.iload_n 3, 1) := by decide +kernel
theorem dL_law_743 : decode cL_law 743 = .ok (.iconst 1, 1) := by decide +kernel
theorem dL_law_744 : decode cL_law 744 = .ok (.iadd, 1) := by decide +kernel
theorem dL_law_745 : decode cL_law 745 = .ok (.iaload, 1) := by decide +kernel
theorem dL_law_746 : decode cL_law 746 = .ok (.aload_n 0, 1) := by decide +kernel
theorem dL_law_747 : decode cL_law 747 = .ok (.iload_n 3, 1) := by decide +kernel
theorem dL_law_748 : decode cL_law 748 = .ok (.iconst 2, 1) := by decide +kernel
theorem dL_law_749 : decode cL_law 749 = .ok (.iadd, 1) := by decide +kernel
theorem dL_law_750 : decode cL_law 750 = .ok (.iaload, 1) := by decide +kernel
theorem dL_law_751 : decode cL_law 751 = .ok (.invokevirtual 90, 3) := by decide +kernel
theorem dL_law_754 : decode cL_law 754 = .ok (.aload_n 2, 1) := by decide +kernel
theorem dL_law_755 : decode cL_law 755 = .ok (.aload_n 0, 1) := by decide +kernel
theorem dL_law_756 : decode cL_law 756 = .ok (.iload_n 3, 1) := by decide +kernel
theorem dL_law_757 : decode cL_law 757 = .ok (.iconst 1, 1) := by decide +kernel
theorem dL_law_758 : decode cL_law 758 = .ok (.iadd, 1) := by decide +kernel
theorem dL_law_759 : decode cL_law 759 = .ok (.iaload, 1) := by decide +kernel
theorem dL_law_760 : decode cL_law 760 = .ok (.aload_n 0, 1) := by decide +kernel
theorem dL_law_761 : decode cL_law 761 = .ok (.iload_n 3, 1) := by decide +kernel
theorem dL_law_762 : decode cL_law 762 = .ok (.iconst 2, 1) := by decide +kernel
theorem dL_law_763 : decode cL_law 763 = .ok (.iadd, 1) := by decide +kernel
theorem dL_law_764 : decode cL_law 764 = .ok (.iaload, 1) := by decide +kernel
theorem dL_law_765 : decode cL_law 765 = .ok (.invokevirtual 93, 3) := by decide +kernel
theorem dL_law_768 : decode cL_law 768 = .ok (.if_icmp .eq 64, 3) := by decide +kernel
theorem dL_law_771 : decode cL_law 771 = .ok (.iconst 0, 1) := by decide +kernel
theorem dL_law_772 : decode cL_law 772 = .ok (.ireturn, 1) := by decide +kernel
theorem dL_law_773 : decode cL_law 773 = .ok (.aload_n 1, 1) := by decide +kernel
theorem dL_law_774 : decode cL_law 774 = .ok (.invokevirtual 94, 3) := by decide +kernel
theorem dL_law_777 : decode cL_law 777 = .ok (.aload_n 2, 1) := by decide +kernel
theorem dL_law_778 : decode cL_law 778 = .ok (.invokevirtual 97, 3) := by decide +kernel
theorem dL_law_781 : decode cL_law 781 = .ok (.if_icmp .eq 51, 3) := by decide +kernel
theorem dL_law_784 : decode cL_law 784 = .ok (.iconst 0, 1) := by decide +kernel
theorem dL_law_785 : decode cL_law 785 = .ok (.ireturn, 1) := by decide +kernel
theorem dL_law_786 : decode cL_law 786 = .ok (.aload_n 1, 1) := by decide +kernel
theorem dL_law_787 : decode cL_law 787 = .ok (.aload_n 0, 1) := by decide +kernel
theorem dL_law_788 : decode cL_law 788 = .ok (.iload_n 3, 1) := by decide +kernel
theorem dL_law_789 : decode cL_law 789 = .ok (.iconst 1, 1) := by decide +kernel
theorem dL_law_790 : decode cL_law 790 = .ok (.iadd, 1) := by decide +kernel
theorem dL_law_791 : decode cL_law 791 = .ok (.iaload, 1) := by decide +kernel
theorem dL_law_792 : decode cL_law 792 = .ok (.invokevirtual 98, 3) := by decide +kernel
theorem dL_law_795 : decode cL_law 795 = .ok (.aload_n 2, 1) := by decide +kernel
theorem dL_law_796 : decode cL_law 796 = .ok (.aload_n 0, 1) := by decide +kernel
theorem dL_law_797 : decode cL_law 797 = .ok (.iload_n 3, 1) := by decide +kernel
theorem dL_law_798 : decode cL_law 798 = .ok (.iconst 1, 1) := by decide +kernel
theorem dL_law_799 : decode cL_law 799 = .ok (.iadd, 1) := by decide +kernel
theorem dL_law_800 : decode cL_law 800 = .ok (.iaload, 1) := by decide +kernel
theorem dL_law_801 : decode cL_law 801 = .ok (.invokevirtual 101, 3) := by decide +kernel
theorem dL_law_804 : decode cL_law 804 = .ok (.if_icmp .eq 28, 3) := by decide +kernel
theorem dL_law_807 : decode cL_law 807 = .ok (.iconst 0, 1) := by decide +kernel
theorem dL_law_808 : decode cL_law 808 = .ok (.ireturn, 1) := by decide +kernel
theorem dL_law_809 : decode cL_law 809 = .ok (.aload_n 1, 1) := by decide +kernel
theorem dL_law_810 : decode cL_law 810 = .ok (.aload_n 0, 1) := by decide +kernel
theorem dL_law_811 : decode cL_law 811 = .ok (.iload_n 3, 1) := by decide +kernel
theorem dL_law_812 : decode cL_law 812 = .ok (.iconst 1, 1) := by decide +kernel
theorem dL_law_813 : decode cL_law 813 = .ok (.iadd, 1) := by decide +kernel
theorem dL_law_814 : decode cL_law 814 = .ok (.iaload, 1) := by decide +kernel
theorem dL_law_815 : decode cL_law 815 = .ok (.invokevirtual 102, 3) := by decide +kernel
theorem dL_law_818 : decode cL_law 818 = .ok (.aload_n 2, 1) := by decide +kernel
theorem dL_law_819 : decode cL_law 819 = .ok (.aload_n 0, 1) := by decide +kernel
theorem dL_law_820 : decode cL_law 820 = .ok (.iload_n 3, 1) := by decide +kernel
theorem dL_law_821 : decode cL_law 821 = .ok (.iconst 1, 1) := by decide +kernel
theorem dL_law_822 : decode cL_law 822 = .ok (.iadd, 1) := by decide +kernel
theorem dL_law_823 : decode cL_law 823 = .ok (.iaload, 1) := by decide +kernel
theorem dL_law_824 : decode cL_law 824 = .ok (.invokevirtual 105, 3) := by decide +kernel
theorem dL_law_827 : decode cL_law 827 = .ok (.if_icmp .eq 5, 3) := by decide +kernel
theorem dL_law_830 : decode cL_law 830 = .ok (.iconst 0, 1) := by decide +kernel
theorem dL_law_831 : decode cL_law 831 = .ok (.ireturn, 1) := by decide +kernel
theorem dL_law_832 : decode cL_law 832 = .ok (.iinc 3 5, 3) := by decide +kernel
theorem dL_law_835 : decode cL_law 835 = .ok (.goto (-817), 3) := by decide +kernel
theorem dL_law_838 : decode cL_law 838 = .ok (.iconst 1, 1) := by decide +kernel
theorem dL_law_839 : decode cL_law 839 = .ok (.ireturn, 1) := by decide +kernel
end
section
/-! The layer: a world is a map from addresses to cells; contracts over maps; one row an instruction. -/
abbrev mM : Type := Nat → Option va_E
def mm_up (M : mM) (a : Nat) (x : va_E) : mM := fun q => if q = a then some x else M q
theorem mm_up_s (M : mM) (a : Nat) (x : va_E) : mm_up M a x a = some x := by simp [mm_up]
theorem mm_up_n (M : mM) {a q : Nat} (x : va_E) (h : q ≠ a) : mm_up M a x q = M q := by simp [mm_up, h]
def mm_H (D : va_G) (cl : List vw_C) (M : mM) (H : Heap) : Prop := ∀ (q : Nat) (x : va_E), M q = some x → va_at D cl (q, x) H
/-- the walk's world: M is held, what changed since H0 lies in A, M lies in A, new cells lie in A -/
def mm_W (D : va_G) (cl : List vw_C) (A : Nat → Prop) (H0 : Heap) (M : mM) (H : Heap) (locs : List Loc) : Prop := mm_H D cl M H ∧ va_S A H0 H locs ∧ (∀ (q : Nat) (x : va_E), M q = some x → A q) ∧ ∀ q : Nat, H0.size ≤ q → A q
theorem mm_H.one {D : va_G} {cl : List vw_C} {M : mM} {H : Heap} {a : Nat} {x : va_E} (h : mm_H D cl M H) (ha : M a = some x) : va_P D cl [(a, x)] H := by
  intro k q hk
  have hz : k < 1 := (List.getElem?_eq_some_iff.mp hk).1
  rw [show k = 0 by omega] at hk
  cases hk
  exact h a x ha
theorem mm_H.new {D : va_G} {cl : List vw_C} {M : mM} {H : Heap} (h : mm_H D cl M H) {q : Nat} (hq : H.size ≤ q) : M q = none := by
  cases hc : M q with
  | none => rfl
  | some x => exact absurd (h q x hc).lt (by simpa using hq)
theorem mm_W.set {D : va_G} {cl : List vw_C} {A : Nat → Prop} {H0 H H1 : Heap} {M : mM} {locs : List Loc} {a : Nat} {x0 x1 : va_E} (hw : mm_W D cl A H0 M H locs) (ha : M a = some x0) (h1 : va_at D cl (a, x1) H1) (z : H1.size = H.size) (oq : ∀ q : Nat, q ≠ a → H1[q]? = H[q]?) (k : Nat) : mm_W D cl A H0 (mm_up M a x1) H1 (locs ++ [⟨a, k⟩]) := by
  refine ⟨fun q x hq => ?_, hw.2.1.put z oq (hw.2.2.1 a _ ha), fun q x hq => ?_, hw.2.2.2⟩
  · by_cases e : q = a
    · subst e
      rw [mm_up_s] at hq
      cases hq
      exact h1
    · rw [mm_up_n M x1 e] at hq
      exact (hw.1 q x hq).kept (oq q e)
  · by_cases e : q = a
    · subst e
      exact hw.2.2.1 q _ ha
    · rw [mm_up_n M x1 e] at hq
      exact hw.2.2.1 q x hq
theorem mm_W.push {D : va_G} {cl : List vw_C} {A : Nat → Prop} {H0 H H1 : Heap} {M : mM} {locs : List Loc} {x1 : va_E} (hw : mm_W D cl A H0 M H locs) (h1 : va_at D cl (H.size, x1) H1) (z : H1.size = H.size + 1) (oq : ∀ q : Nat, q < H.size → H1[q]? = H[q]?) : mm_W D cl A H0 (mm_up M H.size x1) H1 locs := by
  have hS := hw.2.1
  refine ⟨fun q x hq => ?_, ⟨Nat.le_trans hS.1 (by omega), fun q h1 h2 => (oq q (Nat.lt_of_lt_of_le h1 hS.1)).trans (hS.2.1 q h1 h2), hS.2.2⟩, fun q x hq => ?_, hw.2.2.2⟩
  · by_cases e : q = H.size
    · subst e
      rw [mm_up_s] at hq
      cases hq
      exact h1
    · rw [mm_up_n M x1 e] at hq
      exact (hw.1 q x hq).kept (oq q (hw.1 q x hq).lt)
  · by_cases e : q = H.size
    · subst e
      exact hw.2.2.2 _ hS.1
    · rw [mm_up_n M x1 e] at hq
      exact hw.2.2.1 q x hq
section MMI
variable {p : Program} {l : Launch} {e : Env} {R : Room} {s : State} {m : MethodId} {args : Array Value} {below : List Frame} {meth : Method} {c : Code} {H : Heap} {locs : List Loc} {cells slots : Nat} {Q : State → Prop}
variable {cc : ByteArray} {pc : Nat} {ls : Array Slot} {rest : List Value} {D : va_G} {cl : List vw_C} {A : Nat → Prop} {a : Nat} {tys : List (ClassId × FieldType)} {H0 : Heap} {M : mM}
theorem mm_get (hexec : p.tables.exec = Jvm.exec) (hb : c.code = cc) {own C : String} {T : u_T} {N ci index : Nat} {Ts : List Cond} (hts : ∀ w ∈ Ts, w.before args s = true) (hin : ∀ w ∈ u_ws C T N, w ∈ Ts) (hown : s.vm.findClass own = some m.cls) (hK : va_K D cl tys s) (hw : mm_W D cl A H0 M H locs) {fs : List Value} (he : M a = some (.inr (ci, fs))) (hc : cl[ci]? = some (C, T, N)) (k : Nat) (hk : k < N) (hlink : (Cond.fieldLink own index (T k).1 (T k).2.1 (T k).2.2.1).before args s = true) {v : Value} (hv : fs[k]? = some v) (hdg : decode cc pc = .ok (.getfield index, 3))
    (kk : W p l e R s m args below meth c H locs cells slots Q (F0 m (pc + 3) ls (v :: rest))) : W p l e R s m args below meth c H locs cells slots Q (F0 m pc ls (.ref a :: rest)) :=
  va_get (ws := [(a, .inr (ci, fs))]) hexec hb hts hin hown hK (hw.1.one he) 0 rfl hc k hk hlink (fun _ h => h) hv hdg kk
theorem mm_put (hexec : p.tables.exec = Jvm.exec) (hb : c.code = cc) {own C : String} {T : u_T} {N ci index : Nat} {Ts : List Cond} (hts : ∀ w ∈ Ts, w.before args s = true) (hin : ∀ w ∈ u_ws C T N, w ∈ Ts) (ty0 : Nat → FieldType) (hty : ∀ k, k < N → parseFieldDescriptor (T k).2.2.1 = some (ty0 k)) (hnm : ∀ a, a < N → ∀ b, b < N → a ≠ b → (T a).2.1 ≠ (T b).2.1) (hown : s.vm.findClass own = some m.cls) (hK : va_K D cl tys s) (hw : mm_W D cl A H0 M H locs) {fs : List Value} (he : M a = some (.inr (ci, fs))) (hc : cl[ci]? = some (C, T, N)) (k : Nat) (hk : k < N) (hlink : (Cond.fieldLink own index (T k).1 (T k).2.1 (T k).2.2.1).before args s = true) (hfin : (T k).2.2.2 = false) {v : Value} (hn : narrow (ty0 k) v = v) (hfit : fits (ty0 k) v = true) (hl : k < fs.length)
    (hdg : decode cc pc = .ok (.putfield index, 3)) (kk : ∀ (H1 : Heap) (locs1 : List Loc), mm_W D cl A H0 (mm_up M a (.inr (ci, fs.set k v))) H1 locs1 → W p l e R s m args below meth c H1 locs1 cells slots Q (F0 m (pc + 3) ls rest)) : W p l e R s m args below meth c H locs cells slots Q (F0 m pc ls (v :: .ref a :: rest)) := by
  have hap := va_apart (own := own) hts hin ty0 hty hnm hK hc
  obtain ⟨r, h1, cell, q1, q2, q3, q4⟩ := hw.1 a _ he
  have hr : r = (C, T, N) := Option.some.inj (h1.symm.trans hc)
  subst hr
  obtain ⟨hS, hfc, kC, hkC, hkind⟩ := hK.1 ci _ hc
  obtain ⟨cf, kf, fi, f, hi, hsl⟩ := hS k hk
  have hlay := hts _ (hin _ (u_in_lay hk))
  unfold u_lay at hlay
  rw [if_neg (by rw [hfin]; decide)] at hlay
  have hst := (u_facts hfc hkC (u_lays hts hin hk) hi).1
  have h6 := u_store hfc hkC hkind hlay hi (hty k hk) hn hfit
  refine W.putK hexec hb (f := f) ⟨hown, hlink, ⟨_, _, _, hi⟩, hst⟩ (by rw [q2]; exact h6) q1 q3 (by rw [hsl]; exact k2_hasslot (q4 k hk)) rfl rfl hdg fun H' e1 e2 e3 => ?_
  rw [hsl] at e1 ⊢
  exact kk H' _ (hw.set (x1 := .inr (ci, fs.set k v)) he ⟨_, hc, t_OB.to (V := updV (vp_V fs) k v) ⟨_, e1, q2, q3, t_set q4 hap hk v⟩ (fun j _ => vp_updV_set hl v j)⟩ e2 e3 _)
theorem mm_putF (hexec : p.tables.exec = Jvm.exec) (hb : c.code = cc) {own C : String} {T : u_T} {N ci index : Nat} {Ts : List Cond} (hts : ∀ w ∈ Ts, w.before args s = true) (hin : ∀ w ∈ u_ws C T N, w ∈ Ts) (ty0 : Nat → FieldType) (hty : ∀ k, k < N → parseFieldDescriptor (T k).2.2.1 = some (ty0 k)) (hnm : ∀ a, a < N → ∀ b, b < N → a ≠ b → (T a).2.1 ≠ (T b).2.1) (hown : s.vm.findClass own = some m.cls) (hK : va_K D cl tys s) (hw : mm_W D cl A H0 M H locs) {fs : List Value} (he : M a = some (.inr (ci, fs))) (hc : cl[ci]? = some (C, T, N)) (k : Nat) (hk : k < N) (hlink : (Cond.fieldLink own index (T k).1 (T k).2.1 (T k).2.2.1).before args s = true) (hfin : (T k).2.2.2 = true) (hin2 : meth.name = "<init>") (hdecl : (T k).1 = own) {v : Value} (hn : narrow (ty0 k) v = v) (hfit : fits (ty0 k) v = true) (hl : k < fs.length)
    (hdg : decode cc pc = .ok (.putfield index, 3)) (kk : ∀ (H1 : Heap) (locs1 : List Loc), mm_W D cl A H0 (mm_up M a (.inr (ci, fs.set k v))) H1 locs1 → W p l e R s m args below meth c H1 locs1 cells slots Q (F0 m (pc + 3) ls rest)) : W p l e R s m args below meth c H locs cells slots Q (F0 m pc ls (v :: .ref a :: rest)) := by
  have hap := va_apart (own := own) hts hin ty0 hty hnm hK hc
  obtain ⟨r, h1, cell, q1, q2, q3, q4⟩ := hw.1 a _ he
  have hr : r = (C, T, N) := Option.some.inj (h1.symm.trans hc)
  subst hr
  obtain ⟨hS, hfc, kC, hkC, hkind⟩ := hK.1 ci _ hc
  obtain ⟨cf, kf, fi, f, hi, hsl⟩ := hS k hk
  have hlay := hts _ (hin _ (u_in_lay hk))
  unfold u_lay at hlay
  rw [if_pos hfin] at hlay
  have hst := (u_facts hfc hkC (u_lays hts hin hk) hi).1
  have hcf : m.cls = cf := by
    obtain ⟨_, _, c', _, _, _, -, -, hf', -, -, -, hown2, -⟩ := Cond.laysFinal_spec hlay
    have e1 : c' = cf := by have := hi.symm.trans hf'; simp at this; exact this.1.symm
    rw [hdecl] at hown2
    rw [← e1]; exact Option.some.inj (hown.symm.trans hown2)
  have h6 := u_fits hfc hkC hkind (Or.inr hlay) hi (hty k hk) hn hfit
  refine W.putFinK hexec hb hown hlink hi hst hcf hin2 (by rw [q2]; exact h6) q1 q3 (by rw [hsl]; exact k2_hasslot (q4 k hk)) rfl rfl hdg fun H' e1 e2 e3 => ?_
  rw [hsl] at e1 ⊢
  exact kk H' _ (hw.set (x1 := .inr (ci, fs.set k v)) he ⟨_, hc, t_OB.to (V := updV (vp_V fs) k v) ⟨_, e1, q2, q3, t_set q4 hap hk v⟩ (fun j _ => vp_updV_set hl v j)⟩ e2 e3 _)
theorem mm_iald (hexec : p.tables.exec = Jvm.exec) (hb : c.code = cc) (hK : va_K D cl tys s) (hw : mm_W D cl A H0 M H locs) (t0 : Nat) {cA : ClassId} {n : Nat} {f : Nat → Int32} (ha : M a = some (.inl (cA, n, .inl f))) (ht : tys[t0]? = some (cA, .int)) {i : Int32} (hin : vp_in i n) (hdg : decode cc pc = .ok (.iaload, 1))
    (kk : W p l e R s m args below meth c H locs cells slots Q (F0 m (pc + 1) ls (.int (f i.toNatClampNeg) :: rest))) : W p l e R s m args below meth c H locs cells slots Q (F0 m pc ls (.int i :: .ref a :: rest)) :=
  va_iald (ws := [(a, _)]) hexec hb hK (hw.1.one ha) 0 t0 rfl ht hin hdg kk
theorem mm_zald (hexec : p.tables.exec = Jvm.exec) (hb : c.code = cc) (hK : va_K D cl tys s) (hw : mm_W D cl A H0 M H locs) (t0 : Nat) {cA : ClassId} {n : Nat} {f : Nat → Int32} (ha : M a = some (.inl (cA, n, .inl f))) (ht : tys[t0]? = some (cA, .boolean)) {i : Int32} (hin : vp_in i n) (hdg : decode cc pc = .ok (.baload, 1))
    (kk : W p l e R s m args below meth c H locs cells slots Q (F0 m (pc + 1) ls (.int (f i.toNatClampNeg) :: rest))) : W p l e R s m args below meth c H locs cells slots Q (F0 m pc ls (.int i :: .ref a :: rest)) :=
  va_zald (ws := [(a, _)]) hexec hb hK (hw.1.one ha) 0 t0 rfl ht hin hdg kk
theorem mm_lald (hexec : p.tables.exec = Jvm.exec) (hb : c.code = cc) (hK : va_K D cl tys s) (hw : mm_W D cl A H0 M H locs) (t0 : Nat) {cA : ClassId} {n : Nat} {f : Nat → Int64} (ha : M a = some (.inl (cA, n, .inr (.inl f)))) (ht : tys[t0]? = some (cA, .long)) {i : Int32} (hin : vp_in i n) (hdg : decode cc pc = .ok (.laload, 1))
    (kk : W p l e R s m args below meth c H locs cells slots Q (F0 m (pc + 1) ls (.long (f i.toNatClampNeg) :: rest))) : W p l e R s m args below meth c H locs cells slots Q (F0 m pc ls (.int i :: .ref a :: rest)) :=
  va_lald (ws := [(a, _)]) hexec hb hK (hw.1.one ha) 0 t0 rfl ht hin hdg kk
theorem mm_aald (hexec : p.tables.exec = Jvm.exec) (hb : c.code = cc) (hK : va_K D cl tys s) (hw : mm_W D cl A H0 M H locs) (t0 : Nat) {cA : ClassId} {C : String} {n : Nat} {f : Nat → Option Nat} (ha : M a = some (.inl (cA, n, .inr (.inr (.inr (.inr f)))))) (ht : tys[t0]? = some (cA, .object C)) {i : Int32} (hin : vp_in i n) (hdg : decode cc pc = .ok (.aaload, 1))
    (kk : W p l e R s m args below meth c H locs cells slots Q (F0 m (pc + 1) ls (va_rf (f i.toNatClampNeg) :: rest))) : W p l e R s m args below meth c H locs cells slots Q (F0 m pc ls (.int i :: .ref a :: rest)) :=
  va_aldq (ws := [(a, _)]) hexec hb hK (hw.1.one ha) 0 t0 rfl ht hin hdg kk
theorem mm_alen (hexec : p.tables.exec = Jvm.exec) (hb : c.code = cc) (hK : va_K D cl tys s) (hw : mm_W D cl A H0 M H locs) (t0 : Nat) {cA : ClassId} {x : vp_A} (ha : M a = some (.inl (cA, x))) {ty : FieldType} (ht : tys[t0]? = some (cA, ty)) {v : Int32} (hv : Int32.ofNat x.1 = v) (hdg : decode cc pc = .ok (.arraylength, 1))
    (kk : W p l e R s m args below meth c H locs cells slots Q (F0 m (pc + 1) ls (.int v :: rest))) : W p l e R s m args below meth c H locs cells slots Q (F0 m pc ls (.ref a :: rest)) :=
  va_alen (ws := [(a, _)]) hexec hb hK (hw.1.one ha) 0 t0 rfl ht hv hdg kk
theorem mm_iast (hexec : p.tables.exec = Jvm.exec) (hb : c.code = cc) (hK : va_K D cl tys s) (hw : mm_W D cl A H0 M H locs) (t0 : Nat) {cA : ClassId} {n : Nat} {f : Nat → Int32} (ha : M a = some (.inl (cA, n, .inl f))) (ht : tys[t0]? = some (cA, .int)) {i x : Int32} (hin : vp_in i n) (hdg : decode cc pc = .ok (.iastore, 1))
    (kk : ∀ (H1 : Heap) (locs1 : List Loc), mm_W D cl A H0 (mm_up M a (.inl (cA, n, .inl (upd f i.toNatClampNeg x)))) H1 locs1 → W p l e R s m args below meth c H1 locs1 cells slots Q (F0 m (pc + 1) ls rest)) : W p l e R s m args below meth c H locs cells slots Q (F0 m pc ls (.int x :: .int i :: .ref a :: rest)) := by
  refine W.iast hexec hb (hw.1 a _ ha) ((hK.2 t0 _ ht).1 n (fun j => .int (f j))) (fun q => by cases q) (by show ¬ (i < 0 ∨ (arrV _ _ _).slots.size ≤ _); rw [arrV_size]; exact hin) rfl rfl hdg fun H1 e z oq => ?_
  refine kk H1 _ (hw.set ha ?_ z oq _)
  show H1[a]? = some (vp_cell cA (n, .inl (upd f i.toNatClampNeg x)))
  rw [e]
  show some ((vp_cell cA (n, .inl f)).setSlot _ _) = _
  rw [vp_cell_i, vp_cell_i, arrV_store]
  congr 2
  funext q
  by_cases hq : q = i.toNatClampNeg
  · subst hq
    simp [updV, upd]
  · simp [updV, upd, hq]
theorem mm_last (hexec : p.tables.exec = Jvm.exec) (hb : c.code = cc) (hK : va_K D cl tys s) (hw : mm_W D cl A H0 M H locs) (t0 : Nat) {cA : ClassId} {n : Nat} {f : Nat → Int64} (ha : M a = some (.inl (cA, n, .inr (.inl f)))) (ht : tys[t0]? = some (cA, .long)) {i : Int32} {x : Int64} (hin : vp_in i n) (hdg : decode cc pc = .ok (.lastore, 1))
    (kk : ∀ (H1 : Heap) (locs1 : List Loc), mm_W D cl A H0 (mm_up M a (.inl (cA, n, .inr (.inl (vp_updL f i.toNatClampNeg x))))) H1 locs1 → W p l e R s m args below meth c H1 locs1 cells slots Q (F0 m (pc + 1) ls rest)) : W p l e R s m args below meth c H locs cells slots Q (F0 m pc ls (.long x :: .int i :: .ref a :: rest)) := by
  refine W.last hexec hb (hw.1 a _ ha) ((hK.2 t0 _ ht).1 n (fun j => .long (f j))) (fun q => by cases q) (by show ¬ (i < 0 ∨ (arrV _ _ _).slots.size ≤ _); rw [arrV_size]; exact hin) rfl rfl hdg fun H1 e z oq => ?_
  refine kk H1 _ (hw.set ha ?_ z oq _)
  show H1[a]? = some (vp_cell cA (n, .inr (.inl (vp_updL f i.toNatClampNeg x))))
  rw [e]
  show some ((vp_cell cA (n, .inr (.inl f))).setSlot _ _) = _
  rw [vp_cell_l, vp_cell_l, arrV_store]
  congr 2
  funext q
  by_cases hq : q = i.toNatClampNeg
  · subst hq
    simp [updV, vp_updL]
  · simp [updV, vp_updL, hq]
theorem mm_aast (hexec : p.tables.exec = Jvm.exec) (hb : c.code = cc) (hK : va_K D cl tys s) (hw : mm_W D cl A H0 M H locs) (t0 ci : Nat) {cA : ClassId} {r : vw_C} {n v : Nat} {vs : List Value} {f : Nat → Option Nat} (ha : M a = some (.inl (cA, n, .inr (.inr (.inr (.inr f)))))) (ht : tys[t0]? = some (cA, .object r.1)) (hv : M v = some (.inr (ci, vs))) (hc : cl[ci]? = some r) {i : Int32} (hin : vp_in i n) (hdg : decode cc pc = .ok (.aastore, 1))
    (kk : ∀ (H1 : Heap) (locs1 : List Loc), mm_W D cl A H0 (mm_up M a (.inl (cA, n, .inr (.inr (.inr (.inr (va_up f i.toNatClampNeg (some v)))))))) H1 locs1 → W p l e R s m args below meth c H1 locs1 cells slots Q (F0 m (pc + 1) ls rest)) : W p l e R s m args below meth c H locs cells slots Q (F0 m pc ls (.ref v :: .int i :: .ref a :: rest)) := by
  have hlt : i.toNatClampNeg < n := Nat.not_le.mp fun q => hin (Or.inr q)
  have h0 : ¬ i < 0 := fun q => hin (Or.inl q)
  obtain ⟨r', hr', cellV, g1, g2, g3, -⟩ := hw.1 v _ hv
  have hcls := (hK.1 ci r hc).2
  obtain ⟨kA, comp, k1, k2, k3, -⟩ := (hK.2 t0 _ ht).2
  have hcomp : comp = D.1 ci := Option.some.inj (k3.symm.trans hcls.1)
  subst hcomp
  obtain ⟨kC, hkC, -⟩ := hcls.2
  refine W.aast hexec hb (hw.1 a _ ha) (fun q h => by cases h) (fun h => by cases h) k1 k2 rfl hkC ⟨h0, by show _ < (arrV _ _ _).slots.size; rw [arrV_size]; exact hlt⟩ g1 (fun q h => by rw [g3] at h; cases h) (by rw [g2]; exact hkC) (by rw [g2]; exact va_assign hcls) rfl rfl hdg fun H1 e z oq => ?_
  refine kk H1 _ (hw.set ha ?_ z oq _)
  show H1[a]? = some (vp_cell cA (n, .inr (.inr (.inr (.inr (va_up f i.toNatClampNeg (some v)))))))
  rw [e]
  show some ((vp_cell cA (n, .inr (.inr (.inr (.inr f))))).setSlot _ _) = _
  rw [vp_cell_q, vp_cell_q, arrV_store]
  congr 2
  funext q
  by_cases hq : q = i.toNatClampNeg
  · subst hq
    simp [updV, va_up, va_rf]
  · simp [updV, va_up, hq]
theorem mm_new {c0 : Code} (hexec : p.tables.exec = Jvm.exec) (hb : c0.code = cc) {own C : String} {T : u_T} {N ci index : Nat} {Ts : List Cond} (hts : ∀ w ∈ Ts, w.before args s = true) (hin : ∀ w ∈ u_ws C T N, w ∈ Ts) (ty : Nat → FieldType) (hty : ∀ k, k < N → parseFieldDescriptor (T k).2.2.1 = some (ty k)) (hown : s.vm.findClass own = some m.cls) (hcl : (Cond.classLink own index C).before args s = true) (hinst : (Cond.instantiable C N).before args s = true) (hini : (Cond.initialized C).before args s = true)
    (hK : va_K D cl tys s) (hw : mm_W D cl A H0 M H locs) (hc : cl[ci]? = some (C, T, N)) {fs : List Value} (hfs : ∀ j, j < N → defaultValue (ty j) = vp_V fs j) (hcells : cells + 1 ≤ R.cells) (hslots : slots + N ≤ R.slots) (hdg : decode cc pc = .ok (.new index, 3))
    (kk : ∀ (q : Nat) (H1 : Heap), M q = none → mm_W D cl A H0 (mm_up M q (.inr (ci, fs))) H1 locs →
      W p l e R s m args below meth c0 H1 locs (cells + 1) (slots + N) Q (F0 m (pc + 3) ls (.ref q :: rest))) : W p l e R s m args below meth c0 H locs cells slots Q (F0 m pc ls rest) := by
  have hKn := hK.1 ci _ hc
  refine W.newcK hexec hb hown hcl hinst hini rfl hdg hcells hslots hKn.2.1 rfl fun H1 kC hkC e1 z1 o1 => ?_
  exact kk H.size H1 (hw.1.new (Nat.le_refl _)) (hw.push ⟨_, hc, (u_born ty hts hin hKn hkC e1 hty).to hfs⟩ z1 o1)
theorem mm_newa (hexec : p.tables.exec = Jvm.exec) (hb : c.code = cc) {atype : ArrayType} (harr : (Cond.arrayClass (newarray.typeOf atype)).before args s = true) {ty : FieldType} (hty : newarray.typeOf atype = ty) (hprim : ∀ C, ty ≠ .object C) (hK : va_K D cl tys s) (hw : mm_W D cl A H0 M H locs) (t0 : Nat) {cA : ClassId} (ht : tys[t0]? = some (cA, ty))
    {n : Int32} {N' : Nat} {a0 : vp_A} (ha : vp_cell cA a0 = arrV cA N' (fun _ => defaultValue ty)) (hn : ¬ n < 0) (hN : n.toNatClampNeg = N') (hbytes : N' * componentBytes ty ≤ 536870912) (hcells : cells + 1 ≤ R.cells) (hslots : slots + N' ≤ R.slots) (hdg : decode cc pc = .ok (.newarray atype, 2))
    (kk : ∀ (q : Nat) (H1 : Heap), M q = none → mm_W D cl A H0 (mm_up M q (.inl (cA, a0))) H1 locs →
      W p l e R s m args below meth c H1 locs (cells + 1) (slots + N') Q (F0 m (pc + 2) ls (.ref q :: rest))) : W p l e R s m args below meth c H locs cells slots Q (F0 m pc ls (.int n :: rest)) := by
  subst hty
  refine va_newaK hexec hb harr rfl hdg rfl hn hN hbytes hcells hslots rfl fun H1 cA' e1 z1 o1 hAr hNm => ?_
  have hRA := (hK.2 t0 _ ht).2
  have hcA : cA' = cA := by
    have h2 : s.vm.findClass ("[" ++ (newarray.typeOf atype).toString) = some cA := by cases atype <;> exact hRA
    exact Option.some.inj (hNm.symm.trans h2)
  subst hcA
  refine kk H.size H1 (hw.1.new (Nat.le_refl _)) (hw.push ?_ z1 o1)
  show H1[H.size]? = some (vp_cell _ _)
  rw [ha]
  exact e1
theorem mm_newq (hexec : p.tables.exec = Jvm.exec) (hb : c.code = cc) {own C : String} {index : Nat} (hown : s.vm.findClass own = some m.cls) (hclink : (Cond.classLink own index C).before args s = true) (hover : va_AO C s) (hK : va_K D cl tys s) (hw : mm_W D cl A H0 M H locs) (t0 : Nat) {cA : ClassId} (ht : tys[t0]? = some (cA, .object C))
    {n : Int32} {N' : Nat} (hn : ¬ n < 0) (hN : n.toNatClampNeg = N') (hbytes : N' * 4 ≤ 536870912) (hcells : cells + 1 ≤ R.cells) (hslots : slots + N' ≤ R.slots) (hdg : decode cc pc = .ok (.anewarray index, 3))
    (kk : ∀ (q : Nat) (H1 : Heap), M q = none → mm_W D cl A H0 (mm_up M q (.inl (cA, N', .inr (.inr (.inr (.inr (fun _ => none))))))) H1 locs →
      W p l e R s m args below meth c H1 locs (cells + 1) (slots + N') Q (F0 m (pc + 3) ls (.ref q :: rest))) : W p l e R s m args below meth c H locs cells slots Q (F0 m pc ls (.int n :: rest)) := by
  subst hN
  refine W.anew hexec hb hown hclink (va_AO.use hover) rfl hdg rfl hn hbytes hcells hslots fun cA' kA comp f1 f2 f3 f4 => ?_
  obtain ⟨kA', comp', k1, k2, k3, k4⟩ := (hK.2 t0 _ ht).2
  have hcA : cA' = cA := Option.some.inj (f1.symm.trans k4)
  subst hcA
  generalize hH1 : H.push ({ cls := cA', slots := Array.replicate n.toNatClampNeg .null, vm := .none } : Cell) = H1
  have z1 : H1.size = H.size + 1 := by rw [← hH1, Array.size_push]
  have e1 : H1[H.size]? = some (arrV cA' n.toNatClampNeg (fun _ => .null)) := by rw [← hH1, Array.getElem?_push_size, ← arrV_new]
  have o1 : ∀ q : Nat, q < H.size → H1[q]? = H[q]? := fun q hq => by rw [← hH1, Array.getElem?_push, if_neg (Nat.ne_of_lt hq)]
  exact kk H.size H1 (hw.1.new (Nat.le_refl _)) (hw.push (show H1[H.size]? = some (vp_cell _ _) from by rw [vp_cell_q]; exact e1) z1 o1)
end MMI
/-! contracts over maps -/
def ct_A (M : mM) (sz : Nat) : Nat → Prop := fun q => M q ≠ none ∨ sz ≤ q
def mm_nest (w : Cond) : Prop := (∃ a i b n d h, w = .fieldLinkNest a i b n d h) ∨ ∃ a i x h, w = .methodLinkNest a i x h
abbrev mG : Type := va_G × (Nat → ClassId)
/-- the array classes: int, long, boolean, Edition, Node, Contract, Entry -/
abbrev mm_ty (G : mG) : List (ClassId × FieldType) := [(G.2 0, .int), (G.2 1, .long), (G.2 2, .boolean), (G.2 3, .object RX2), (G.2 4, .object RX5), (G.2 5, .object RX1), (G.2 6, .object RX3)]
theorem mm_NW_ok : ∀ w ∈ mm_NW, mm_nest w := by
  intro w h
  simp only [mm_NW, List.mem_cons, List.not_mem_nil, or_false] at h
  rcases h with rfl | rfl | rfl | rfl | rfl | rfl | rfl | rfl | rfl <;> exact Or.inr ⟨_, _, _, _, rfl⟩
theorem mm_nest.warm {w : Cond} (h : mm_nest w) {s U : State} (hW : s.WarmedH U.vm) (hz : va_Nw w s) : va_Nw w U := by
  rcases h with ⟨a, i, b, n, d, h, rfl⟩ | ⟨a, i, x, h, rfl⟩
  · exact va_Nw.warmF hW hz
  · exact va_Nw.warmM hW hz
theorem mm_nest.same {w : Cond} (h : mm_nest w) {u U : State} (e : u.vm = U.vm) (hz : va_Nw w u) : va_Nw w U := by
  rcases h with ⟨a, i, b, n, d, h, rfl⟩ | ⟨a, i, x, h, rfl⟩
  · exact va_Nw.same rfl e hz
  · exact va_Nw.same rfl e hz
/-- what is known of the tables: classes, array classes, nest links, arrays over classes -/
def mm_K (G : mG) (U : State) : Prop := va_K G.1 vwCl (mm_ty G) U ∧ (∀ w ∈ mm_NW, va_Nw w U) ∧ ∀ C ∈ mm_AO, va_AO C U
theorem mm_K.moved {G : mG} {s U : State} (hW : s.WarmedH U.vm) (h : mm_K G s) : mm_K G U := ⟨va_K.moved hW.alike h.1, fun w hw => (mm_NW_ok w hw).warm hW (h.2.1 w hw), fun C hC => va_AO.moved hW.alike (h.2.2 C hC)⟩
theorem mm_K.same {G : mG} {u U : State} (e : u.vm = U.vm) (h : mm_K G u) : mm_K G U := ⟨va_K.moved (by rw [e]; exact Vm.Alike.refl _) h.1, fun w hw => (mm_NW_ok w hw).same e (h.2.1 w hw), fun C hC => va_AO.moved (by rw [e]; exact Vm.Alike.refl _) (h.2.2 C hC)⟩
def ct_P (G : mG) (M : mM) (sz : Nat) (av : List Value) : Array Value → State → Prop := va_Pc av (fun U => U.heap.size = sz ∧ mm_H G.1 vwCl M U.heap ∧ mm_K G U)
def ct_Q (G : mG) (M : mM) (sz : Nat) (post : Option Value → mM → Prop) : Array Value → State → Outcome → State → Prop := fun _ st oc t => (∃ (v : Option Value) (M1 : mM), oc = .returned v ∧ post v M1 ∧ mm_H G.1 vwCl M1 t.heap ∧ ∀ (q : Nat) (x : va_E), M1 q = some x → ct_A M sz q) ∧ va_F (ct_A M sz) st t
/-- method y's contract: from a heap that holds M it returns, with 'post answer M1', and the heap holds M1 -/
def Ct (l : Launch) (y : MethodName) (bytes : ByteArray) (maxL : Nat) (ret : Option FieldType) (rm : Room) (G : mG) (av : List Value) (M : mM) (post : Option Value → mM → Prop) : Prop :=
  ∀ sz : Nat, Met l y (Cond.code y bytes maxL ret :: mT) rm (ct_P G M sz av) (ct_Q G M sz post) rm.cells rm.slots (ct_A M sz)
theorem ct_blind (G : mG) (M : mM) (sz : Nat) (av : List Value) : FrameBlind (ct_P G M sz av) := fun a U g mk q => by
  obtain ⟨q0, q1, q2, q3⟩ := q
  exact ⟨q0, q1, q2, mm_K.same (u := U) (U := U.calling g mk a) rfl q3⟩
/-- where a walk stands: the machine, the method's bytes, the tables' words, what is known of the tables -/
def mm_Cx (p : Program) (s : State) (m : MethodId) (args : Array Value) (meth : Method) (c : Code) (G : mG) (own : String) (cc : ByteArray) (nL : Nat) (ret : Option FieldType) : Prop :=
  p.tables.exec = Jvm.exec ∧ c.code = cc ∧ c.maxLocals = nL ∧ s.vm.findClass own = some m.cls ∧ (∀ w ∈ mT, w.before args s = true) ∧ mm_K G s ∧ meth.sig.returnType = ret ∧ meth.locks = false
def mm_Q (G : mG) (M : mM) (s : State) (below : List Frame) (args : Array Value) (mc ms : Nat) (post : Option Value → mM → Prop) : State → Prop := MQ below (ct_Q G M s.heap.size post) args s mc ms (ct_A M s.heap.size)
theorem Ct.of {l : Launch} {y : MethodName} {bytes : ByteArray} {maxL : Nat} {ret : Option FieldType} {rm : Room} {G : mG} {av : List Value} {M : mM} {post : Option Value → mM → Prop} (hy : plainName y.cls = true) (hlen : (lg_sl av).length ≤ maxL)
    (body : ∀ (p : Program) (e : Env) (s : State) (m : MethodId) (args : Array Value) (below : List Frame) (meth : Method) (c : Code) (ls : Array Slot) (Q : State → Prop), mm_Cx p s m args meth c G y.cls bytes maxL ret → meth.name = y.name → lv_has ls maxL (lv_args 0 av) → mm_W G.1 vwCl (ct_A M s.heap.size) s.heap M s.heap [] → mm_Q G M s below args rm.cells rm.slots post = Q →
      W p l e rm s m args below meth c s.heap [] 0 0 Q (F0 m 0 ls [])) : Ct l y bytes maxL ret rm G av M post := by
  intro sz
  refine Met.ofW (cc := bytes) (maxL := maxL) (ret := ret) hy rfl ?_
  intro p e s m args below meth c s₁ B hml hv
  obtain ⟨rfl, hsz, hH, hK⟩ := hv
  subst hsz
  have hts := atoms_spec (ws := Cond.code y bytes maxL ret :: mT) B.pre
  have hl := lv_entry av (n := maxL) hlen
  rw [lg_entry_eq]
  exact body p e s m _ below meth c _ _ ⟨B.exec, B.bytes, hml, findClass_of_methodNamed B.named, fun w hw => hts w (List.mem_cons_of_mem _ hw), hK, B.returns, B.notSynchronized⟩ (name_of_methodNamed B.named B.method).1 hl ⟨hH, va_S.rf, fun q x h => Or.inl (by rw [h]; exact fun z => by cases z), fun q h => Or.inr h⟩ rfl
/-- a room: n frames below, mc cells of ms slots -/
def mm_r (n mc ms : Nat) : Room := { frames := n, cells := mc, slots := ms, locals := 40 * n }
def bI (P : Prop) [Decidable P] : Int32 := if P then 1 else 0
theorem bI_t {P : Prop} [Decidable P] (h : P) : bI P = 1 := if_pos h
theorem bI_f {P : Prop} [Decidable P] (h : ¬ P) : bI P = 0 := if_neg h
theorem bI_n (P : Prop) [Decidable P] : narrow .boolean (.int (bI P)) = .int (bI P) := by
  by_cases h : P
  · rw [bI_t h]; rfl
  · rw [bI_f h]; rfl
theorem bI_e {P P' : Prop} [Decidable P] [Decidable P'] (h : P ↔ P') : bI P = bI P' := by
  by_cases hp : P
  · rw [bI_t hp, bI_t (h.mp hp)]
  · rw [bI_f hp, bI_f (fun q => hp (h.mpr q))]
section MMC
variable {p : Program} {l : Launch} {e : Env} {R : Room} {s : State} {m : MethodId} {args : Array Value} {below : List Frame} {meth : Method} {c : Code} {H : Heap} {locs : List Loc} {cells slots : Nat} {Q : State → Prop}
variable {cc : ByteArray} {pc : Nat} {ls : Array Slot} {rest st0 : List Value} {G : mG} {A : Nat → Prop} {H0 : Heap} {M M0 : mM} {own : String} {nL mc ms : Nat} {post : Option Value → mM → Prop}
theorem mm_iret {v : Int32} (hQ : mm_Q G M0 s below args mc ms post = Q) (X : mm_Cx p s m args meth c G own cc nL (some .int)) (hw : mm_W G.1 vwCl (ct_A M0 s.heap.size) s.heap M H locs) (hp : post (some (.int v)) M) (hc : cells ≤ mc) (hs : slots ≤ ms) (hdg : decode cc pc = .ok (.ireturn, 1)) : W p l e R s m args below meth c H locs cells slots Q (F0 m pc ls [.int v]) := by
  subst hQ
  refine W.widen hc hs ?_
  exact W.iret X.1 X.2.1 X.2.2.2.2.2.2.1 (fun t ht hW => ⟨⟨_, M, rfl, hp, by rw [ht]; exact hw.1, hw.2.2.1⟩, hw.2.1.F ht⟩) hw.2.1.2.2 hdg X.2.2.2.2.2.2.2
theorem mm_zret {v : Int32} (hQ : mm_Q G M0 s below args mc ms post = Q) (X : mm_Cx p s m args meth c G own cc nL (some .boolean)) (hw : mm_W G.1 vwCl (ct_A M0 s.heap.size) s.heap M H locs) (hn : narrow .boolean (.int v) = .int v) (hp : post (some (.int v)) M) (hc : cells ≤ mc) (hs : slots ≤ ms) (hdg : decode cc pc = .ok (.ireturn, 1)) : W p l e R s m args below meth c H locs cells slots Q (F0 m pc ls [.int v]) := by
  subst hQ
  refine W.widen hc hs ?_
  exact W.zret X.1 X.2.1 X.2.2.2.2.2.2.1 hn (fun t ht hW => ⟨⟨_, M, rfl, hp, by rw [ht]; exact hw.1, hw.2.2.1⟩, hw.2.1.F ht⟩) hw.2.1.2.2 hdg X.2.2.2.2.2.2.2
theorem mm_lret {v : Int64} (hQ : mm_Q G M0 s below args mc ms post = Q) (X : mm_Cx p s m args meth c G own cc nL (some .long)) (hw : mm_W G.1 vwCl (ct_A M0 s.heap.size) s.heap M H locs) (hp : post (some (.long v)) M) (hc : cells ≤ mc) (hs : slots ≤ ms) (hdg : decode cc pc = .ok (.lreturn, 1)) : W p l e R s m args below meth c H locs cells slots Q (F0 m pc ls [.long v]) := by
  subst hQ
  refine W.widen hc hs ?_
  exact W.lret X.1 X.2.1 X.2.2.2.2.2.2.1 (fun t ht hW => ⟨⟨_, M, rfl, hp, by rw [ht]; exact hw.1, hw.2.2.1⟩, hw.2.1.F ht⟩) hw.2.1.2.2 hdg X.2.2.2.2.2.2.2
theorem mm_vret (hQ : mm_Q G M0 s below args mc ms post = Q) (X : mm_Cx p s m args meth c G own cc nL none) (hw : mm_W G.1 vwCl (ct_A M0 s.heap.size) s.heap M H locs) (hp : post none M) (hc : cells ≤ mc) (hs : slots ≤ ms) (hdg : decode cc pc = .ok (.return_, 1)) : W p l e R s m args below meth c H locs cells slots Q (F0 m pc ls []) := by
  subst hQ
  refine W.widen hc hs ?_
  exact W.vret X.1 X.2.1 X.2.2.2.2.2.2.1 (fun t ht hW => ⟨⟨_, M, rfl, hp, by rw [ht]; exact hw.1, hw.2.2.1⟩, hw.2.1.F ht⟩) hw.2.1.2.2 hdg X.2.2.2.2.2.2.2
theorem mm_aret {r : Option Nat} {C : String} (hQ : mm_Q G M0 s below args mc ms post = Q) (X : mm_Cx p s m args meth c G own cc nL (some (.object C))) (hw : mm_W G.1 vwCl (ct_A M0 s.heap.size) s.heap M H locs) (hp : post (some (va_rf r)) M) (hc : cells ≤ mc) (hs : slots ≤ ms) (hdg : decode cc pc = .ok (.areturn, 1)) : W p l e R s m args below meth c H locs cells slots Q (F0 m pc ls [va_rf r]) := by
  subst hQ
  refine W.widen hc hs ?_
  exact W.aret X.1 X.2.1 X.2.2.2.2.2.2.1 (Or.inl ⟨_, rfl⟩) (by cases r with | none => exact Or.inl rfl | some q => exact Or.inr ⟨q, rfl⟩) (fun t ht hW => ⟨⟨_, M, rfl, hp, by rw [ht]; exact hw.1, hw.2.2.1⟩, hw.2.1.F ht⟩) hw.2.1.2.2 hdg X.2.2.2.2.2.2.2
theorem mm_ifeqB {P : Prop} [Decidable P] (hexec : p.tables.exec = Jvm.exec) (hb : c.code = cc) {off : Int} {tgt : Nat} (hdg : decode cc pc = .ok (.ifCond .eq off, 3)) (ht : (pc : Int) + off = (tgt : Int))
    (kt : ¬ P → W p l e R s m args below meth c H locs cells slots Q (F0 m tgt ls rest)) (kf : P → W p l e R s m args below meth c H locs cells slots Q (F0 m (pc + 3) ls rest)) : W p l e R s m args below meth c H locs cells slots Q (F0 m pc ls (.int (bI P) :: rest)) :=
  lv_if_eq hexec hb hdg ht (fun h => kt (fun q => by rw [bI_t q] at h; exact absurd h (by decide))) (fun h => kf (Decidable.byContradiction fun q => h (bI_f q)))
theorem mm_ifneB {P : Prop} [Decidable P] (hexec : p.tables.exec = Jvm.exec) (hb : c.code = cc) {off : Int} {tgt : Nat} (hdg : decode cc pc = .ok (.ifCond .ne off, 3)) (ht : (pc : Int) + off = (tgt : Int))
    (kt : P → W p l e R s m args below meth c H locs cells slots Q (F0 m tgt ls rest)) (kf : ¬ P → W p l e R s m args below meth c H locs cells slots Q (F0 m (pc + 3) ls rest)) : W p l e R s m args below meth c H locs cells slots Q (F0 m pc ls (.int (bI P) :: rest)) :=
  lv_if_ne hexec hb hdg ht (fun h => kt (Decidable.byContradiction fun q => h (bI_f q))) (fun h => kf (fun q => by rw [bI_t q] at h; exact absurd h (by decide)))
/-- a value that is null or a cell: by cases -/
theorem mm_rf {r : Option Nat} (kn : r = none → W p l e R s m args below meth c H locs cells slots Q (F0 m pc ls (.null :: rest))) (ks : ∀ q : Nat, r = some q → W p l e R s m args below meth c H locs cells slots Q (F0 m pc ls (.ref q :: rest))) : W p l e R s m args below meth c H locs cells slots Q (F0 m pc ls (va_rf r :: rest)) := by
  cases r with
  | none => exact kn rfl
  | some q => exact ks q rfl
theorem mm_call {a : Array Value} (hr : va_Run p l e R s m args below meth c H locs cells slots mc ms (F0 m pc ls st0) rest (ct_Q G M H.size post a) (ct_A M H.size)) (hw : mm_W G.1 vwCl A H0 M H locs)
    (kk : ∀ (v : Option Value) (M1 : mM) (H1 : Heap) (locs1 : List Loc), post v M1 → mm_W G.1 vwCl A H0 M1 H1 locs1 → W p l e R s m args below meth c H1 locs1 (cells + mc) (slots + ms) Q (F0 m (pc + 3) ls (v.toList ++ rest))) : W p l e R s m args below meth c H locs cells slots Q (F0 m pc ls st0) := by
  intro T hT X
  obtain ⟨v, st₀, t, T', L, h0, X', hL, e1, e2, ⟨⟨v', M1, hv, hp, hm1, ha1⟩, hz, hk⟩, st⟩ := hr T hT X
  cases hv
  rw [h0] at hz hk
  have hS := hw.2.1
  have hsub : ∀ q, ct_A M H.size q → A q := by
    intro q hq
    rcases hq with hq | hq
    · cases hc : M q with
      | none => exact absurd hc hq
      | some x => exact hw.2.2.1 q x hc
    · exact hw.2.2.2 q (Nat.le_trans hS.1 hq)
  obtain ⟨t2, a1, b1⟩ := kk v M1 T'.heap (locs ++ L) hp ⟨by rw [e1]; exact hm1, ⟨Nat.le_trans hS.1 (by rw [e1]; exact hz), fun q h1 h2 => by rw [e1, hk q (Nat.lt_of_lt_of_le h1 hS.1) (fun z => h2 (hsub q z))]; exact hS.2.1 q h1 h2, fun q hq => by
      rcases List.mem_append.mp hq with h | h
      · exact hS.2.2 q h
      · exact hsub _ (hL q h)⟩, fun q x hx => hsub q (ha1 q x hx), hw.2.2.2⟩ T' rfl X'
  exact ⟨t2, st t2 a1, b1⟩
variable {y : MethodName} {bytes : ByteArray} {maxL index n ci : Nat} {ret rt : Option FieldType} {rm : Room} {b : Nat} {As fs : List Value} {C host : String} {r : vw_C}
/-- a callee's words -/
def mm_wB (y : MethodName) (bytes : ByteArray) (maxL : Nat) (ret : Option FieldType) (n : Nat) : Prop := Cond.code y bytes maxL ret ∈ mT ∧ Cond.initialized y.cls ∈ mT ∧ (y.cls ≠ "java/lang/invoke/MethodHandle" ∧ y.cls ≠ "java/lang/invoke/VarHandle") ∧ (parseMethodDescriptor y.desc).map (fun d => d.parameters.length) = some n
theorem mm_arity {d : String} {n : Nat} (h : (parseMethodDescriptor d).map (fun d => d.parameters.length) = some n) : ∀ sig, parseMethodDescriptor d = some sig → n = sig.parameters.length := fun sig h1 => by
  rw [h1] at h
  exact (Option.some.inj h).symm
theorem mm_pays (hts : ∀ w ∈ mT, w.before args s = true) (hc : Cond.code y bytes maxL ret ∈ mT) : ∀ w ∈ Cond.code y bytes maxL ret :: mT, ∀ (a' : Array Value) (U : State), s.WarmedH U.vm → w.before a' U = true :=
  pay_in hts (fun w hw => by
    rcases List.mem_cons.mp hw with h | h
    · rw [h]; exact ⟨hc, mT_ok _ hc⟩
    · exact ⟨h, mT_ok _ h⟩)
theorem mm_B (X : mm_Cx p s m args meth c G own cc nL rt) (hb : mm_wB y bytes maxL ret n) (hl : Cond.methodLink own index y ∈ mT) (hR : rm.frames + 1 ≤ R.frames ∧ 8 + (maxL + 11) + rm.locals ≤ R.locals) : CallB R s args own index y bytes maxL ret (Cond.code y bytes maxL ret :: mT) rm rm.cells rm.slots n :=
  ⟨rfl, rfl, hR.1, hR.2, mm_pays X.2.2.2.2.1 hb.1, List.mem_cons_self, X.2.2.2.2.1 _ hb.1, X.2.2.2.2.1 _ hb.2.1, hb.2.2.1, mm_arity hb.2.2.2, X.2.2.2.2.1 _ hl⟩
theorem mm_BN (X : mm_Cx p s m args meth c G own cc nL rt) (hb : mm_wB y bytes maxL ret n) (hl : Cond.methodLinkNest own index y host ∈ mm_NW) (hR : rm.frames + 1 ≤ R.frames ∧ 8 + (maxL + 11) + rm.locals ≤ R.locals) : va_CN R s args own index y host bytes maxL ret (Cond.code y bytes maxL ret :: mT) rm rm.cells rm.slots n :=
  ⟨⟨rfl, rfl, hR.1, hR.2, mm_pays X.2.2.2.2.1 hb.1, List.mem_cons_self⟩, X.2.2.2.2.1 _ hb.1, X.2.2.2.2.1 _ hb.2.1, hb.2.2.1, mm_arity hb.2.2.2, va_Nw.use rfl (X.2.2.2.2.2.1.2.1 _ hl)⟩
theorem mm_fix (X : mm_Cx p s m args meth c G own cc nL rt) : CallFix p m c cc nL s args mT own := ⟨X.1, X.2.1, X.2.2.1, X.2.2.2.1, X.2.2.2.2.1⟩
theorem mm_pS (X : mm_Cx p s m args meth c G own cc nL rt) (hw : mm_W G.1 vwCl A H0 M H locs) : PreS s H (ct_P G M H.size As) As := ⟨ct_blind G M H.size As, fun U hU hW => ⟨rfl, by rw [hU], by rw [hU]; exact hw.1, X.2.2.2.2.2.1.moved hW⟩⟩
theorem mm_pV (X : mm_Cx p s m args meth c G own cc nL rt) (hw : mm_W G.1 vwCl A H0 M H locs) (he : M b = some (.inr (ci, fs))) (hc : vwCl[ci]? = some r) : PreV s H r.1 b (ct_P G M H.size (.ref b :: As)) As := ⟨ct_blind G M H.size (.ref b :: As), va_recv (ws := [(b, .inr (ci, fs))]) X.2.2.2.2.2.1.1 (hw.1.one he) hc (q0 := 0) rfl, fun U hU hW => ⟨rfl, by rw [hU], by rw [hU]; exact hw.1, X.2.2.2.2.2.1.moved hW⟩⟩
theorem mm_callV (X : mm_Cx p s m args meth c G own cc nL rt) (hw : mm_W G.1 vwCl A H0 M H locs) (hC : Ct l y bytes maxL ret rm G (.ref b :: As) M post) (he : M b = some (.inr (ci, fs))) (hc : vwCl[ci]? = some r) (hwd : mm_wB y bytes maxL ret n ∧ Cond.methodLink own index y ∈ mT ∧ Cond.instanceMethod y ∈ mT ∧ Cond.selects r.1 y y ∈ mT)
    (hR : rm.frames + 1 ≤ R.frames ∧ 8 + (maxL + 11) + rm.locals ≤ R.locals) (hf : cells + rm.cells ≤ R.cells ∧ slots + rm.slots ≤ R.slots) (hn : As.length = n) (hst : st0 = As.reverse ++ .ref b :: rest) (hcat : (rest.map fun v => v.category).sum ≤ 8) (hls : ls.size = nL) (hdg : decode cc pc = .ok (.invokevirtual index, 3))
    (kk : ∀ (v : Option Value) (M1 : mM) (H1 : Heap) (locs1 : List Loc), post v M1 → mm_W G.1 vwCl A H0 M1 H1 locs1 → W p l e R s m args below meth c H1 locs1 (cells + rm.cells) (slots + rm.slots) Q (F0 m (pc + 3) ls (v.toList ++ rest))) : W p l e R s m args below meth c H locs cells slots Q (F0 m pc ls st0) :=
  mm_call (va_runV (mm_fix X) (hC H.size) ⟨mm_B X hwd.1 hwd.2.1 hR, X.2.2.2.2.1 _ hwd.2.2.1, X.2.2.2.2.1 _ hwd.2.2.2⟩ (mm_pV X hw he hc) rfl hn hls hst (lv_room hcat) hdg hf) hw kk
theorem mm_callVN (X : mm_Cx p s m args meth c G own cc nL rt) (hw : mm_W G.1 vwCl A H0 M H locs) (hC : Ct l y bytes maxL ret rm G (.ref b :: As) M post) (he : M b = some (.inr (ci, fs))) (hc : vwCl[ci]? = some r) (hwd : mm_wB y bytes maxL ret n ∧ Cond.methodLinkNest own index y host ∈ mm_NW ∧ Cond.instanceMethod y ∈ mT ∧ Cond.selects r.1 y y ∈ mT)
    (hR : rm.frames + 1 ≤ R.frames ∧ 8 + (maxL + 11) + rm.locals ≤ R.locals) (hf : cells + rm.cells ≤ R.cells ∧ slots + rm.slots ≤ R.slots) (hn : As.length = n) (hst : st0 = As.reverse ++ .ref b :: rest) (hcat : (rest.map fun v => v.category).sum ≤ 8) (hls : ls.size = nL) (hdg : decode cc pc = .ok (.invokevirtual index, 3))
    (kk : ∀ (v : Option Value) (M1 : mM) (H1 : Heap) (locs1 : List Loc), post v M1 → mm_W G.1 vwCl A H0 M1 H1 locs1 → W p l e R s m args below meth c H1 locs1 (cells + rm.cells) (slots + rm.slots) Q (F0 m (pc + 3) ls (v.toList ++ rest))) : W p l e R s m args below meth c H locs cells slots Q (F0 m pc ls st0) :=
  mm_call (va_runVN (mm_fix X) (hC H.size) ⟨mm_BN X hwd.1 hwd.2.1 hR, X.2.2.2.2.1 _ hwd.2.2.1, X.2.2.2.2.1 _ hwd.2.2.2⟩ (mm_pV X hw he hc) rfl hn hls hst (lv_room hcat) hdg hf) hw kk
theorem mm_callS (X : mm_Cx p s m args meth c G own cc nL rt) (hw : mm_W G.1 vwCl A H0 M H locs) (hC : Ct l y bytes maxL ret rm G As M post) (hwd : mm_wB y bytes maxL ret n ∧ Cond.methodLink own index y ∈ mT ∧ Cond.static y ∈ mT)
    (hR : rm.frames + 1 ≤ R.frames ∧ 8 + (maxL + 11) + rm.locals ≤ R.locals) (hf : cells + rm.cells ≤ R.cells ∧ slots + rm.slots ≤ R.slots) (hn : As.length = n) (hst : st0 = As.reverse ++ rest) (hcat : (rest.map fun v => v.category).sum ≤ 8) (hls : ls.size = nL) (hdg : decode cc pc = .ok (.invokestatic index, 3))
    (kk : ∀ (v : Option Value) (M1 : mM) (H1 : Heap) (locs1 : List Loc), post v M1 → mm_W G.1 vwCl A H0 M1 H1 locs1 → W p l e R s m args below meth c H1 locs1 (cells + rm.cells) (slots + rm.slots) Q (F0 m (pc + 3) ls (v.toList ++ rest))) : W p l e R s m args below meth c H locs cells slots Q (F0 m pc ls st0) :=
  mm_call (va_runS (mm_fix X) (hC H.size) ⟨mm_B X hwd.1 hwd.2.1 hR, X.2.2.2.2.1 _ hwd.2.2⟩ (mm_pS X hw) rfl hn hls hst (lv_room hcat) hdg hf) hw kk
theorem mm_callSN (X : mm_Cx p s m args meth c G own cc nL rt) (hw : mm_W G.1 vwCl A H0 M H locs) (hC : Ct l y bytes maxL ret rm G As M post) (hwd : mm_wB y bytes maxL ret n ∧ Cond.methodLinkNest own index y host ∈ mm_NW ∧ Cond.static y ∈ mT)
    (hR : rm.frames + 1 ≤ R.frames ∧ 8 + (maxL + 11) + rm.locals ≤ R.locals) (hf : cells + rm.cells ≤ R.cells ∧ slots + rm.slots ≤ R.slots) (hn : As.length = n) (hst : st0 = As.reverse ++ rest) (hcat : (rest.map fun v => v.category).sum ≤ 8) (hls : ls.size = nL) (hdg : decode cc pc = .ok (.invokestatic index, 3))
    (kk : ∀ (v : Option Value) (M1 : mM) (H1 : Heap) (locs1 : List Loc), post v M1 → mm_W G.1 vwCl A H0 M1 H1 locs1 → W p l e R s m args below meth c H1 locs1 (cells + rm.cells) (slots + rm.slots) Q (F0 m (pc + 3) ls (v.toList ++ rest))) : W p l e R s m args below meth c H locs cells slots Q (F0 m pc ls st0) :=
  mm_call (va_runSN (mm_fix X) (hC H.size) ⟨mm_BN X hwd.1 hwd.2.1 hR, X.2.2.2.2.1 _ hwd.2.2, trivial⟩ (mm_pS X hw) rfl hn hls hst (lv_room hcat) hdg hf) hw kk
theorem mm_callI (X : mm_Cx p s m args meth c G own cc nL rt) (hw : mm_W G.1 vwCl A H0 M H locs) (hC : Ct l y bytes maxL none rm G (.ref b :: As) M post) (hwd : mm_wB y bytes maxL none n ∧ Cond.methodLink own index y ∈ mT ∧ y.name = "<init>" ∧ Cond.instanceMethod y ∈ mT)
    (hR : rm.frames + 1 ≤ R.frames ∧ 8 + (maxL + 11) + rm.locals ≤ R.locals) (hf : cells + rm.cells ≤ R.cells ∧ slots + rm.slots ≤ R.slots) (hn : As.length = n) (hst : st0 = As.reverse ++ .ref b :: rest) (hcat : (rest.map fun v => v.category).sum ≤ 8) (hls : ls.size = nL) (hdg : decode cc pc = .ok (.invokespecial index, 3))
    (kk : ∀ (v : Option Value) (M1 : mM) (H1 : Heap) (locs1 : List Loc), post v M1 → mm_W G.1 vwCl A H0 M1 H1 locs1 → W p l e R s m args below meth c H1 locs1 (cells + rm.cells) (slots + rm.slots) Q (F0 m (pc + 3) ls (v.toList ++ rest))) : W p l e R s m args below meth c H locs cells slots Q (F0 m pc ls st0) :=
  mm_call (va_runI (mm_fix X) (hC H.size) ⟨mm_B X hwd.1 hwd.2.1 hR, hwd.2.2.1, X.2.2.2.2.1 _ hwd.2.2.2⟩ (mm_pS X hw) rfl hn hls hst (lv_room hcat) hdg hf) hw kk
end MMC
end
section
section MMX
variable {p : Program} {l : Launch} {e : Env} {R : Room} {s : State} {m : MethodId} {args : Array Value} {below : List Frame} {meth : Method} {c : Code} {H : Heap} {locs : List Loc} {cells slots : Nat} {Q : State → Prop}
variable {cc : ByteArray} {pc : Nat} {ls : Array Slot} {rest : List Value} {G : mG} {A : Nat → Prop} {H0 : Heap} {M : mM} {own : String} {nL a : Nat} {rt : Option FieldType}
theorem gf_X2_25 (X : mm_Cx p s m args meth c G RX2 cc nL rt) (hw : mm_W G.1 vwCl A H0 M H locs) {fs : List Value} (he : M a = some (.inr (2, fs))) {v : Value} (hv : fs[0]? = some v) (hdg : decode cc pc = .ok (.getfield 25, 3)) (kk : W p l e R s m args below meth c H locs cells slots Q (F0 m (pc + 3) ls (v :: rest))) : W p l e R s m args below meth c H locs cells slots Q (F0 m pc ls (.ref a :: rest)) := mm_get X.1 X.2.1 X.2.2.2.2.1 hin_X2 X.2.2.2.1 X.2.2.2.2.2.1.1 hw he rfl 0 (by decide) (X.2.2.2.2.1 _ fl_X2_25) hv hdg kk
theorem pf_X2_25 (X : mm_Cx p s m args meth c G RX2 cc nL rt) (hin : meth.name = "<init>") (hw : mm_W G.1 vwCl A H0 M H locs) {fs : List Value} (he : M a = some (.inr (2, fs))) {x : Int32} (hl : 0 < fs.length) (hdg : decode cc pc = .ok (.putfield 25, 3)) (kk : ∀ (H1 : Heap) (locs1 : List Loc), mm_W G.1 vwCl A H0 (mm_up M a (.inr (2, fs.set 0 (.int x)))) H1 locs1 → W p l e R s m args below meth c H1 locs1 cells slots Q (F0 m (pc + 3) ls rest)) : W p l e R s m args below meth c H locs cells slots Q (F0 m pc ls (.int x :: .ref a :: rest)) := mm_putF X.1 X.2.1 X.2.2.2.2.1 hin_X2 tyX2 tyX2_ok nmX2 X.2.2.2.1 X.2.2.2.2.2.1.1 hw he rfl 0 (by decide) (X.2.2.2.2.1 _ fl_X2_25) rfl hin rfl rfl rfl hl hdg kk
theorem gf_X6_85 (X : mm_Cx p s m args meth c G RX6 cc nL rt) (hw : mm_W G.1 vwCl A H0 M H locs) {fs : List Value} (he : M a = some (.inr (2, fs))) {v : Value} (hv : fs[0]? = some v) (hdg : decode cc pc = .ok (.getfield 85, 3)) (kk : W p l e R s m args below meth c H locs cells slots Q (F0 m (pc + 3) ls (v :: rest))) : W p l e R s m args below meth c H locs cells slots Q (F0 m pc ls (.ref a :: rest)) := mm_get X.1 X.2.1 X.2.2.2.2.1 hin_X2 X.2.2.2.1 X.2.2.2.2.2.1.1 hw he rfl 0 (by decide) (X.2.2.2.2.1 _ fl_X6_85) hv hdg kk
theorem gf_X2_9 (X : mm_Cx p s m args meth c G RX2 cc nL rt) (hw : mm_W G.1 vwCl A H0 M H locs) {fs : List Value} (he : M a = some (.inr (2, fs))) {v : Value} (hv : fs[1]? = some v) (hdg : decode cc pc = .ok (.getfield 9, 3)) (kk : W p l e R s m args below meth c H locs cells slots Q (F0 m (pc + 3) ls (v :: rest))) : W p l e R s m args below meth c H locs cells slots Q (F0 m pc ls (.ref a :: rest)) := mm_get X.1 X.2.1 X.2.2.2.2.1 hin_X2 X.2.2.2.1 X.2.2.2.2.2.1.1 hw he rfl 1 (by decide) (X.2.2.2.2.1 _ fl_X2_9) hv hdg kk
theorem pf_X2_9 (X : mm_Cx p s m args meth c G RX2 cc nL rt) (hin : meth.name = "<init>") (hw : mm_W G.1 vwCl A H0 M H locs) {fs : List Value} (he : M a = some (.inr (2, fs))) {x : Nat} (hl : 1 < fs.length) (hdg : decode cc pc = .ok (.putfield 9, 3)) (kk : ∀ (H1 : Heap) (locs1 : List Loc), mm_W G.1 vwCl A H0 (mm_up M a (.inr (2, fs.set 1 (.ref x)))) H1 locs1 → W p l e R s m args below meth c H1 locs1 cells slots Q (F0 m (pc + 3) ls rest)) : W p l e R s m args below meth c H locs cells slots Q (F0 m pc ls (.ref x :: .ref a :: rest)) := mm_putF X.1 X.2.1 X.2.2.2.2.1 hin_X2 tyX2 tyX2_ok nmX2 X.2.2.2.1 X.2.2.2.2.2.1.1 hw he rfl 1 (by decide) (X.2.2.2.2.1 _ fl_X2_9) rfl hin rfl rfl rfl hl hdg kk
theorem gf_X6_66 (X : mm_Cx p s m args meth c G RX6 cc nL rt) (hw : mm_W G.1 vwCl A H0 M H locs) {fs : List Value} (he : M a = some (.inr (2, fs))) {v : Value} (hv : fs[1]? = some v) (hdg : decode cc pc = .ok (.getfield 66, 3)) (kk : W p l e R s m args below meth c H locs cells slots Q (F0 m (pc + 3) ls (v :: rest))) : W p l e R s m args below meth c H locs cells slots Q (F0 m pc ls (.ref a :: rest)) := mm_get X.1 X.2.1 X.2.2.2.2.1 hin_X2 X.2.2.2.1 X.2.2.2.2.2.1.1 hw he rfl 1 (by decide) (X.2.2.2.2.1 _ fl_X6_66) hv hdg kk
theorem gf_X2_15 (X : mm_Cx p s m args meth c G RX2 cc nL rt) (hw : mm_W G.1 vwCl A H0 M H locs) {fs : List Value} (he : M a = some (.inr (2, fs))) {v : Value} (hv : fs[2]? = some v) (hdg : decode cc pc = .ok (.getfield 15, 3)) (kk : W p l e R s m args below meth c H locs cells slots Q (F0 m (pc + 3) ls (v :: rest))) : W p l e R s m args below meth c H locs cells slots Q (F0 m pc ls (.ref a :: rest)) := mm_get X.1 X.2.1 X.2.2.2.2.1 hin_X2 X.2.2.2.1 X.2.2.2.2.2.1.1 hw he rfl 2 (by decide) (X.2.2.2.2.1 _ fl_X2_15) hv hdg kk
theorem pf_X2_15 (X : mm_Cx p s m args meth c G RX2 cc nL rt) (hin : meth.name = "<init>") (hw : mm_W G.1 vwCl A H0 M H locs) {fs : List Value} (he : M a = some (.inr (2, fs))) {x : Nat} (hl : 2 < fs.length) (hdg : decode cc pc = .ok (.putfield 15, 3)) (kk : ∀ (H1 : Heap) (locs1 : List Loc), mm_W G.1 vwCl A H0 (mm_up M a (.inr (2, fs.set 2 (.ref x)))) H1 locs1 → W p l e R s m args below meth c H1 locs1 cells slots Q (F0 m (pc + 3) ls rest)) : W p l e R s m args below meth c H locs cells slots Q (F0 m pc ls (.ref x :: .ref a :: rest)) := mm_putF X.1 X.2.1 X.2.2.2.2.1 hin_X2 tyX2 tyX2_ok nmX2 X.2.2.2.1 X.2.2.2.2.2.1.1 hw he rfl 2 (by decide) (X.2.2.2.2.1 _ fl_X2_15) rfl hin rfl rfl rfl hl hdg kk
theorem gf_X6_70 (X : mm_Cx p s m args meth c G RX6 cc nL rt) (hw : mm_W G.1 vwCl A H0 M H locs) {fs : List Value} (he : M a = some (.inr (2, fs))) {v : Value} (hv : fs[2]? = some v) (hdg : decode cc pc = .ok (.getfield 70, 3)) (kk : W p l e R s m args below meth c H locs cells slots Q (F0 m (pc + 3) ls (v :: rest))) : W p l e R s m args below meth c H locs cells slots Q (F0 m pc ls (.ref a :: rest)) := mm_get X.1 X.2.1 X.2.2.2.2.1 hin_X2 X.2.2.2.1 X.2.2.2.2.2.1.1 hw he rfl 2 (by decide) (X.2.2.2.2.1 _ fl_X6_70) hv hdg kk
theorem gf_X2_18 (X : mm_Cx p s m args meth c G RX2 cc nL rt) (hw : mm_W G.1 vwCl A H0 M H locs) {fs : List Value} (he : M a = some (.inr (2, fs))) {v : Value} (hv : fs[3]? = some v) (hdg : decode cc pc = .ok (.getfield 18, 3)) (kk : W p l e R s m args below meth c H locs cells slots Q (F0 m (pc + 3) ls (v :: rest))) : W p l e R s m args below meth c H locs cells slots Q (F0 m pc ls (.ref a :: rest)) := mm_get X.1 X.2.1 X.2.2.2.2.1 hin_X2 X.2.2.2.1 X.2.2.2.2.2.1.1 hw he rfl 3 (by decide) (X.2.2.2.2.1 _ fl_X2_18) hv hdg kk
theorem pf_X2_18 (X : mm_Cx p s m args meth c G RX2 cc nL rt) (hw : mm_W G.1 vwCl A H0 M H locs) {fs : List Value} (he : M a = some (.inr (2, fs))) {x : Int32} (hl : 3 < fs.length) (hdg : decode cc pc = .ok (.putfield 18, 3)) (kk : ∀ (H1 : Heap) (locs1 : List Loc), mm_W G.1 vwCl A H0 (mm_up M a (.inr (2, fs.set 3 (.int x)))) H1 locs1 → W p l e R s m args below meth c H1 locs1 cells slots Q (F0 m (pc + 3) ls rest)) : W p l e R s m args below meth c H locs cells slots Q (F0 m pc ls (.int x :: .ref a :: rest)) := mm_put X.1 X.2.1 X.2.2.2.2.1 hin_X2 tyX2 tyX2_ok nmX2 X.2.2.2.1 X.2.2.2.2.2.1.1 hw he rfl 3 (by decide) (X.2.2.2.2.1 _ fl_X2_18) rfl rfl rfl hl hdg kk
theorem gf_X6_73 (X : mm_Cx p s m args meth c G RX6 cc nL rt) (hw : mm_W G.1 vwCl A H0 M H locs) {fs : List Value} (he : M a = some (.inr (2, fs))) {v : Value} (hv : fs[3]? = some v) (hdg : decode cc pc = .ok (.getfield 73, 3)) (kk : W p l e R s m args below meth c H locs cells slots Q (F0 m (pc + 3) ls (v :: rest))) : W p l e R s m args below meth c H locs cells slots Q (F0 m pc ls (.ref a :: rest)) := mm_get X.1 X.2.1 X.2.2.2.2.1 hin_X2 X.2.2.2.1 X.2.2.2.2.2.1.1 hw he rfl 3 (by decide) (X.2.2.2.2.1 _ fl_X6_73) hv hdg kk
theorem pf_X6_73 (X : mm_Cx p s m args meth c G RX6 cc nL rt) (hw : mm_W G.1 vwCl A H0 M H locs) {fs : List Value} (he : M a = some (.inr (2, fs))) {x : Int32} (hl : 3 < fs.length) (hdg : decode cc pc = .ok (.putfield 73, 3)) (kk : ∀ (H1 : Heap) (locs1 : List Loc), mm_W G.1 vwCl A H0 (mm_up M a (.inr (2, fs.set 3 (.int x)))) H1 locs1 → W p l e R s m args below meth c H1 locs1 cells slots Q (F0 m (pc + 3) ls rest)) : W p l e R s m args below meth c H locs cells slots Q (F0 m pc ls (.int x :: .ref a :: rest)) := mm_put X.1 X.2.1 X.2.2.2.2.1 hin_X2 tyX2 tyX2_ok nmX2 X.2.2.2.1 X.2.2.2.2.2.1.1 hw he rfl 3 (by decide) (X.2.2.2.2.1 _ fl_X6_73) rfl rfl rfl hl hdg kk
theorem gf_X2_22 (X : mm_Cx p s m args meth c G RX2 cc nL rt) (hw : mm_W G.1 vwCl A H0 M H locs) {fs : List Value} (he : M a = some (.inr (2, fs))) {v : Value} (hv : fs[4]? = some v) (hdg : decode cc pc = .ok (.getfield 22, 3)) (kk : W p l e R s m args below meth c H locs cells slots Q (F0 m (pc + 3) ls (v :: rest))) : W p l e R s m args below meth c H locs cells slots Q (F0 m pc ls (.ref a :: rest)) := mm_get X.1 X.2.1 X.2.2.2.2.1 hin_X2 X.2.2.2.1 X.2.2.2.2.2.1.1 hw he rfl 4 (by decide) (X.2.2.2.2.1 _ fl_X2_22) hv hdg kk
theorem pf_X2_22 (X : mm_Cx p s m args meth c G RX2 cc nL rt) (hw : mm_W G.1 vwCl A H0 M H locs) {fs : List Value} (he : M a = some (.inr (2, fs))) {x : Int32} (hl : 4 < fs.length) (hdg : decode cc pc = .ok (.putfield 22, 3)) (kk : ∀ (H1 : Heap) (locs1 : List Loc), mm_W G.1 vwCl A H0 (mm_up M a (.inr (2, fs.set 4 (.int x)))) H1 locs1 → W p l e R s m args below meth c H1 locs1 cells slots Q (F0 m (pc + 3) ls rest)) : W p l e R s m args below meth c H locs cells slots Q (F0 m pc ls (.int x :: .ref a :: rest)) := mm_put X.1 X.2.1 X.2.2.2.2.1 hin_X2 tyX2 tyX2_ok nmX2 X.2.2.2.1 X.2.2.2.2.2.1.1 hw he rfl 4 (by decide) (X.2.2.2.2.1 _ fl_X2_22) rfl rfl rfl hl hdg kk
theorem gf_X6_74 (X : mm_Cx p s m args meth c G RX6 cc nL rt) (hw : mm_W G.1 vwCl A H0 M H locs) {fs : List Value} (he : M a = some (.inr (2, fs))) {v : Value} (hv : fs[4]? = some v) (hdg : decode cc pc = .ok (.getfield 74, 3)) (kk : W p l e R s m args below meth c H locs cells slots Q (F0 m (pc + 3) ls (v :: rest))) : W p l e R s m args below meth c H locs cells slots Q (F0 m pc ls (.ref a :: rest)) := mm_get X.1 X.2.1 X.2.2.2.2.1 hin_X2 X.2.2.2.1 X.2.2.2.2.2.1.1 hw he rfl 4 (by decide) (X.2.2.2.2.1 _ fl_X6_74) hv hdg kk
theorem pf_X6_74 (X : mm_Cx p s m args meth c G RX6 cc nL rt) (hw : mm_W G.1 vwCl A H0 M H locs) {fs : List Value} (he : M a = some (.inr (2, fs))) {x : Int32} (hl : 4 < fs.length) (hdg : decode cc pc = .ok (.putfield 74, 3)) (kk : ∀ (H1 : Heap) (locs1 : List Loc), mm_W G.1 vwCl A H0 (mm_up M a (.inr (2, fs.set 4 (.int x)))) H1 locs1 → W p l e R s m args below meth c H1 locs1 cells slots Q (F0 m (pc + 3) ls rest)) : W p l e R s m args below meth c H locs cells slots Q (F0 m pc ls (.int x :: .ref a :: rest)) := mm_put X.1 X.2.1 X.2.2.2.2.1 hin_X2 tyX2 tyX2_ok nmX2 X.2.2.2.1 X.2.2.2.2.2.1.1 hw he rfl 4 (by decide) (X.2.2.2.2.1 _ fl_X6_74) rfl rfl rfl hl hdg kk
theorem gf_X0_9 (X : mm_Cx p s m args meth c G RX0 cc nL rt) (hw : mm_W G.1 vwCl A H0 M H locs) {fs : List Value} (he : M a = some (.inr (0, fs))) {v : Value} (hv : fs[0]? = some v) (hdg : decode cc pc = .ok (.getfield 9, 3)) (kk : W p l e R s m args below meth c H locs cells slots Q (F0 m (pc + 3) ls (v :: rest))) : W p l e R s m args below meth c H locs cells slots Q (F0 m pc ls (.ref a :: rest)) := mm_get X.1 X.2.1 X.2.2.2.2.1 hin_X0 X.2.2.2.1 X.2.2.2.2.2.1.1 hw he rfl 0 (by decide) (X.2.2.2.2.1 _ fl_X0_9) hv hdg kk
theorem pf_X0_9 (X : mm_Cx p s m args meth c G RX0 cc nL rt) (hin : meth.name = "<init>") (hw : mm_W G.1 vwCl A H0 M H locs) {fs : List Value} (he : M a = some (.inr (0, fs))) {x : Nat} (hl : 0 < fs.length) (hdg : decode cc pc = .ok (.putfield 9, 3)) (kk : ∀ (H1 : Heap) (locs1 : List Loc), mm_W G.1 vwCl A H0 (mm_up M a (.inr (0, fs.set 0 (.ref x)))) H1 locs1 → W p l e R s m args below meth c H1 locs1 cells slots Q (F0 m (pc + 3) ls rest)) : W p l e R s m args below meth c H locs cells slots Q (F0 m pc ls (.ref x :: .ref a :: rest)) := mm_putF X.1 X.2.1 X.2.2.2.2.1 hin_X0 tyX0 tyX0_ok nmX0 X.2.2.2.1 X.2.2.2.2.2.1.1 hw he rfl 0 (by decide) (X.2.2.2.2.1 _ fl_X0_9) rfl hin rfl rfl rfl hl hdg kk
theorem gf_X4_9 (X : mm_Cx p s m args meth c G RX4 cc nL rt) (hw : mm_W G.1 vwCl A H0 M H locs) {fs : List Value} (he : M a = some (.inr (4, fs))) {v : Value} (hv : fs[0]? = some v) (hdg : decode cc pc = .ok (.getfield 9, 3)) (kk : W p l e R s m args below meth c H locs cells slots Q (F0 m (pc + 3) ls (v :: rest))) : W p l e R s m args below meth c H locs cells slots Q (F0 m pc ls (.ref a :: rest)) := mm_get X.1 X.2.1 X.2.2.2.2.1 hin_X4 X.2.2.2.1 X.2.2.2.2.2.1.1 hw he rfl 0 (by decide) (X.2.2.2.2.1 _ fl_X4_9) hv hdg kk
theorem pf_X4_9 (X : mm_Cx p s m args meth c G RX4 cc nL rt) (hin : meth.name = "<init>") (hw : mm_W G.1 vwCl A H0 M H locs) {fs : List Value} (he : M a = some (.inr (4, fs))) {x : Nat} (hl : 0 < fs.length) (hdg : decode cc pc = .ok (.putfield 9, 3)) (kk : ∀ (H1 : Heap) (locs1 : List Loc), mm_W G.1 vwCl A H0 (mm_up M a (.inr (4, fs.set 0 (.ref x)))) H1 locs1 → W p l e R s m args below meth c H1 locs1 cells slots Q (F0 m (pc + 3) ls rest)) : W p l e R s m args below meth c H locs cells slots Q (F0 m pc ls (.ref x :: .ref a :: rest)) := mm_putF X.1 X.2.1 X.2.2.2.2.1 hin_X4 tyX4 tyX4_ok nmX4 X.2.2.2.1 X.2.2.2.2.2.1.1 hw he rfl 0 (by decide) (X.2.2.2.2.1 _ fl_X4_9) rfl hin rfl rfl rfl hl hdg kk
theorem gf_X4_18 (X : mm_Cx p s m args meth c G RX4 cc nL rt) (hw : mm_W G.1 vwCl A H0 M H locs) {fs : List Value} (he : M a = some (.inr (4, fs))) {v : Value} (hv : fs[1]? = some v) (hdg : decode cc pc = .ok (.getfield 18, 3)) (kk : W p l e R s m args below meth c H locs cells slots Q (F0 m (pc + 3) ls (v :: rest))) : W p l e R s m args below meth c H locs cells slots Q (F0 m pc ls (.ref a :: rest)) := mm_get X.1 X.2.1 X.2.2.2.2.1 hin_X4 X.2.2.2.1 X.2.2.2.2.2.1.1 hw he rfl 1 (by decide) (X.2.2.2.2.1 _ fl_X4_18) hv hdg kk
theorem pf_X4_18 (X : mm_Cx p s m args meth c G RX4 cc nL rt) (hin : meth.name = "<init>") (hw : mm_W G.1 vwCl A H0 M H locs) {fs : List Value} (he : M a = some (.inr (4, fs))) {x : Nat} (hl : 1 < fs.length) (hdg : decode cc pc = .ok (.putfield 18, 3)) (kk : ∀ (H1 : Heap) (locs1 : List Loc), mm_W G.1 vwCl A H0 (mm_up M a (.inr (4, fs.set 1 (.ref x)))) H1 locs1 → W p l e R s m args below meth c H1 locs1 cells slots Q (F0 m (pc + 3) ls rest)) : W p l e R s m args below meth c H locs cells slots Q (F0 m pc ls (.ref x :: .ref a :: rest)) := mm_putF X.1 X.2.1 X.2.2.2.2.1 hin_X4 tyX4 tyX4_ok nmX4 X.2.2.2.1 X.2.2.2.2.2.1.1 hw he rfl 1 (by decide) (X.2.2.2.2.1 _ fl_X4_18) rfl hin rfl rfl rfl hl hdg kk
theorem gf_X4_22 (X : mm_Cx p s m args meth c G RX4 cc nL rt) (hw : mm_W G.1 vwCl A H0 M H locs) {fs : List Value} (he : M a = some (.inr (4, fs))) {v : Value} (hv : fs[2]? = some v) (hdg : decode cc pc = .ok (.getfield 22, 3)) (kk : W p l e R s m args below meth c H locs cells slots Q (F0 m (pc + 3) ls (v :: rest))) : W p l e R s m args below meth c H locs cells slots Q (F0 m pc ls (.ref a :: rest)) := mm_get X.1 X.2.1 X.2.2.2.2.1 hin_X4 X.2.2.2.1 X.2.2.2.2.2.1.1 hw he rfl 2 (by decide) (X.2.2.2.2.1 _ fl_X4_22) hv hdg kk
theorem pf_X4_22 (X : mm_Cx p s m args meth c G RX4 cc nL rt) (hw : mm_W G.1 vwCl A H0 M H locs) {fs : List Value} (he : M a = some (.inr (4, fs))) {x : Int32} (hl : 2 < fs.length) (hdg : decode cc pc = .ok (.putfield 22, 3)) (kk : ∀ (H1 : Heap) (locs1 : List Loc), mm_W G.1 vwCl A H0 (mm_up M a (.inr (4, fs.set 2 (.int x)))) H1 locs1 → W p l e R s m args below meth c H1 locs1 cells slots Q (F0 m (pc + 3) ls rest)) : W p l e R s m args below meth c H locs cells slots Q (F0 m pc ls (.int x :: .ref a :: rest)) := mm_put X.1 X.2.1 X.2.2.2.2.1 hin_X4 tyX4 tyX4_ok nmX4 X.2.2.2.1 X.2.2.2.2.2.1.1 hw he rfl 2 (by decide) (X.2.2.2.2.1 _ fl_X4_22) rfl rfl rfl hl hdg kk
theorem gf_X6_11 (X : mm_Cx p s m args meth c G RX6 cc nL rt) (hw : mm_W G.1 vwCl A H0 M H locs) {fs : List Value} (he : M a = some (.inr (6, fs))) {v : Value} (hv : fs[0]? = some v) (hdg : decode cc pc = .ok (.getfield 11, 3)) (kk : W p l e R s m args below meth c H locs cells slots Q (F0 m (pc + 3) ls (v :: rest))) : W p l e R s m args below meth c H locs cells slots Q (F0 m pc ls (.ref a :: rest)) := mm_get X.1 X.2.1 X.2.2.2.2.1 hin_X6 X.2.2.2.1 X.2.2.2.2.2.1.1 hw he rfl 0 (by decide) (X.2.2.2.2.1 _ fl_X6_11) hv hdg kk
theorem pf_X6_11 (X : mm_Cx p s m args meth c G RX6 cc nL rt) (hin : meth.name = "<init>") (hw : mm_W G.1 vwCl A H0 M H locs) {fs : List Value} (he : M a = some (.inr (6, fs))) {x : Nat} (hl : 0 < fs.length) (hdg : decode cc pc = .ok (.putfield 11, 3)) (kk : ∀ (H1 : Heap) (locs1 : List Loc), mm_W G.1 vwCl A H0 (mm_up M a (.inr (6, fs.set 0 (.ref x)))) H1 locs1 → W p l e R s m args below meth c H1 locs1 cells slots Q (F0 m (pc + 3) ls rest)) : W p l e R s m args below meth c H locs cells slots Q (F0 m pc ls (.ref x :: .ref a :: rest)) := mm_putF X.1 X.2.1 X.2.2.2.2.1 hin_X6 tyX6 tyX6_ok nmX6 X.2.2.2.1 X.2.2.2.2.2.1.1 hw he rfl 0 (by decide) (X.2.2.2.2.1 _ fl_X6_11) rfl hin rfl rfl rfl hl hdg kk
theorem gf_X6_17 (X : mm_Cx p s m args meth c G RX6 cc nL rt) (hw : mm_W G.1 vwCl A H0 M H locs) {fs : List Value} (he : M a = some (.inr (6, fs))) {v : Value} (hv : fs[1]? = some v) (hdg : decode cc pc = .ok (.getfield 17, 3)) (kk : W p l e R s m args below meth c H locs cells slots Q (F0 m (pc + 3) ls (v :: rest))) : W p l e R s m args below meth c H locs cells slots Q (F0 m pc ls (.ref a :: rest)) := mm_get X.1 X.2.1 X.2.2.2.2.1 hin_X6 X.2.2.2.1 X.2.2.2.2.2.1.1 hw he rfl 1 (by decide) (X.2.2.2.2.1 _ fl_X6_17) hv hdg kk
theorem pf_X6_17 (X : mm_Cx p s m args meth c G RX6 cc nL rt) (hin : meth.name = "<init>") (hw : mm_W G.1 vwCl A H0 M H locs) {fs : List Value} (he : M a = some (.inr (6, fs))) {x : Nat} (hl : 1 < fs.length) (hdg : decode cc pc = .ok (.putfield 17, 3)) (kk : ∀ (H1 : Heap) (locs1 : List Loc), mm_W G.1 vwCl A H0 (mm_up M a (.inr (6, fs.set 1 (.ref x)))) H1 locs1 → W p l e R s m args below meth c H1 locs1 cells slots Q (F0 m (pc + 3) ls rest)) : W p l e R s m args below meth c H locs cells slots Q (F0 m pc ls (.ref x :: .ref a :: rest)) := mm_putF X.1 X.2.1 X.2.2.2.2.1 hin_X6 tyX6 tyX6_ok nmX6 X.2.2.2.1 X.2.2.2.2.2.1.1 hw he rfl 1 (by decide) (X.2.2.2.2.1 _ fl_X6_17) rfl hin rfl rfl rfl hl hdg kk
theorem gf_X6_23 (X : mm_Cx p s m args meth c G RX6 cc nL rt) (hw : mm_W G.1 vwCl A H0 M H locs) {fs : List Value} (he : M a = some (.inr (6, fs))) {v : Value} (hv : fs[2]? = some v) (hdg : decode cc pc = .ok (.getfield 23, 3)) (kk : W p l e R s m args below meth c H locs cells slots Q (F0 m (pc + 3) ls (v :: rest))) : W p l e R s m args below meth c H locs cells slots Q (F0 m pc ls (.ref a :: rest)) := mm_get X.1 X.2.1 X.2.2.2.2.1 hin_X6 X.2.2.2.1 X.2.2.2.2.2.1.1 hw he rfl 2 (by decide) (X.2.2.2.2.1 _ fl_X6_23) hv hdg kk
theorem pf_X6_23 (X : mm_Cx p s m args meth c G RX6 cc nL rt) (hin : meth.name = "<init>") (hw : mm_W G.1 vwCl A H0 M H locs) {fs : List Value} (he : M a = some (.inr (6, fs))) {x : Nat} (hl : 2 < fs.length) (hdg : decode cc pc = .ok (.putfield 23, 3)) (kk : ∀ (H1 : Heap) (locs1 : List Loc), mm_W G.1 vwCl A H0 (mm_up M a (.inr (6, fs.set 2 (.ref x)))) H1 locs1 → W p l e R s m args below meth c H1 locs1 cells slots Q (F0 m (pc + 3) ls rest)) : W p l e R s m args below meth c H locs cells slots Q (F0 m pc ls (.ref x :: .ref a :: rest)) := mm_putF X.1 X.2.1 X.2.2.2.2.1 hin_X6 tyX6 tyX6_ok nmX6 X.2.2.2.1 X.2.2.2.2.2.1.1 hw he rfl 2 (by decide) (X.2.2.2.2.1 _ fl_X6_23) rfl hin rfl rfl rfl hl hdg kk
theorem gf_X6_29 (X : mm_Cx p s m args meth c G RX6 cc nL rt) (hw : mm_W G.1 vwCl A H0 M H locs) {fs : List Value} (he : M a = some (.inr (6, fs))) {v : Value} (hv : fs[3]? = some v) (hdg : decode cc pc = .ok (.getfield 29, 3)) (kk : W p l e R s m args below meth c H locs cells slots Q (F0 m (pc + 3) ls (v :: rest))) : W p l e R s m args below meth c H locs cells slots Q (F0 m pc ls (.ref a :: rest)) := mm_get X.1 X.2.1 X.2.2.2.2.1 hin_X6 X.2.2.2.1 X.2.2.2.2.2.1.1 hw he rfl 3 (by decide) (X.2.2.2.2.1 _ fl_X6_29) hv hdg kk
theorem pf_X6_29 (X : mm_Cx p s m args meth c G RX6 cc nL rt) (hin : meth.name = "<init>") (hw : mm_W G.1 vwCl A H0 M H locs) {fs : List Value} (he : M a = some (.inr (6, fs))) {x : Nat} (hl : 3 < fs.length) (hdg : decode cc pc = .ok (.putfield 29, 3)) (kk : ∀ (H1 : Heap) (locs1 : List Loc), mm_W G.1 vwCl A H0 (mm_up M a (.inr (6, fs.set 3 (.ref x)))) H1 locs1 → W p l e R s m args below meth c H1 locs1 cells slots Q (F0 m (pc + 3) ls rest)) : W p l e R s m args below meth c H locs cells slots Q (F0 m pc ls (.ref x :: .ref a :: rest)) := mm_putF X.1 X.2.1 X.2.2.2.2.1 hin_X6 tyX6 tyX6_ok nmX6 X.2.2.2.1 X.2.2.2.2.2.1.1 hw he rfl 3 (by decide) (X.2.2.2.2.1 _ fl_X6_29) rfl hin rfl rfl rfl hl hdg kk
theorem gf_X6_36 (X : mm_Cx p s m args meth c G RX6 cc nL rt) (hw : mm_W G.1 vwCl A H0 M H locs) {fs : List Value} (he : M a = some (.inr (6, fs))) {v : Value} (hv : fs[4]? = some v) (hdg : decode cc pc = .ok (.getfield 36, 3)) (kk : W p l e R s m args below meth c H locs cells slots Q (F0 m (pc + 3) ls (v :: rest))) : W p l e R s m args below meth c H locs cells slots Q (F0 m pc ls (.ref a :: rest)) := mm_get X.1 X.2.1 X.2.2.2.2.1 hin_X6 X.2.2.2.1 X.2.2.2.2.2.1.1 hw he rfl 4 (by decide) (X.2.2.2.2.1 _ fl_X6_36) hv hdg kk
theorem pf_X6_36 (X : mm_Cx p s m args meth c G RX6 cc nL rt) (hin : meth.name = "<init>") (hw : mm_W G.1 vwCl A H0 M H locs) {fs : List Value} (he : M a = some (.inr (6, fs))) {x : Nat} (hl : 4 < fs.length) (hdg : decode cc pc = .ok (.putfield 36, 3)) (kk : ∀ (H1 : Heap) (locs1 : List Loc), mm_W G.1 vwCl A H0 (mm_up M a (.inr (6, fs.set 4 (.ref x)))) H1 locs1 → W p l e R s m args below meth c H1 locs1 cells slots Q (F0 m (pc + 3) ls rest)) : W p l e R s m args below meth c H locs cells slots Q (F0 m pc ls (.ref x :: .ref a :: rest)) := mm_putF X.1 X.2.1 X.2.2.2.2.1 hin_X6 tyX6 tyX6_ok nmX6 X.2.2.2.1 X.2.2.2.2.2.1.1 hw he rfl 4 (by decide) (X.2.2.2.2.1 _ fl_X6_36) rfl hin rfl rfl rfl hl hdg kk
theorem gf_X6_43 (X : mm_Cx p s m args meth c G RX6 cc nL rt) (hw : mm_W G.1 vwCl A H0 M H locs) {fs : List Value} (he : M a = some (.inr (6, fs))) {v : Value} (hv : fs[5]? = some v) (hdg : decode cc pc = .ok (.getfield 43, 3)) (kk : W p l e R s m args below meth c H locs cells slots Q (F0 m (pc + 3) ls (v :: rest))) : W p l e R s m args below meth c H locs cells slots Q (F0 m pc ls (.ref a :: rest)) := mm_get X.1 X.2.1 X.2.2.2.2.1 hin_X6 X.2.2.2.1 X.2.2.2.2.2.1.1 hw he rfl 5 (by decide) (X.2.2.2.2.1 _ fl_X6_43) hv hdg kk
theorem pf_X6_43 (X : mm_Cx p s m args meth c G RX6 cc nL rt) (hin : meth.name = "<init>") (hw : mm_W G.1 vwCl A H0 M H locs) {fs : List Value} (he : M a = some (.inr (6, fs))) {x : Nat} (hl : 5 < fs.length) (hdg : decode cc pc = .ok (.putfield 43, 3)) (kk : ∀ (H1 : Heap) (locs1 : List Loc), mm_W G.1 vwCl A H0 (mm_up M a (.inr (6, fs.set 5 (.ref x)))) H1 locs1 → W p l e R s m args below meth c H1 locs1 cells slots Q (F0 m (pc + 3) ls rest)) : W p l e R s m args below meth c H locs cells slots Q (F0 m pc ls (.ref x :: .ref a :: rest)) := mm_putF X.1 X.2.1 X.2.2.2.2.1 hin_X6 tyX6 tyX6_ok nmX6 X.2.2.2.1 X.2.2.2.2.2.1.1 hw he rfl 5 (by decide) (X.2.2.2.2.1 _ fl_X6_43) rfl hin rfl rfl rfl hl hdg kk
theorem gf_X6_47 (X : mm_Cx p s m args meth c G RX6 cc nL rt) (hw : mm_W G.1 vwCl A H0 M H locs) {fs : List Value} (he : M a = some (.inr (6, fs))) {v : Value} (hv : fs[6]? = some v) (hdg : decode cc pc = .ok (.getfield 47, 3)) (kk : W p l e R s m args below meth c H locs cells slots Q (F0 m (pc + 3) ls (v :: rest))) : W p l e R s m args below meth c H locs cells slots Q (F0 m pc ls (.ref a :: rest)) := mm_get X.1 X.2.1 X.2.2.2.2.1 hin_X6 X.2.2.2.1 X.2.2.2.2.2.1.1 hw he rfl 6 (by decide) (X.2.2.2.2.1 _ fl_X6_47) hv hdg kk
theorem pf_X6_47 (X : mm_Cx p s m args meth c G RX6 cc nL rt) (hw : mm_W G.1 vwCl A H0 M H locs) {fs : List Value} (he : M a = some (.inr (6, fs))) {x : Int32} (hl : 6 < fs.length) (hdg : decode cc pc = .ok (.putfield 47, 3)) (kk : ∀ (H1 : Heap) (locs1 : List Loc), mm_W G.1 vwCl A H0 (mm_up M a (.inr (6, fs.set 6 (.int x)))) H1 locs1 → W p l e R s m args below meth c H1 locs1 cells slots Q (F0 m (pc + 3) ls rest)) : W p l e R s m args below meth c H locs cells slots Q (F0 m pc ls (.int x :: .ref a :: rest)) := mm_put X.1 X.2.1 X.2.2.2.2.1 hin_X6 tyX6 tyX6_ok nmX6 X.2.2.2.1 X.2.2.2.2.2.1.1 hw he rfl 6 (by decide) (X.2.2.2.2.1 _ fl_X6_47) rfl rfl rfl hl hdg kk
theorem gf_X6_51 (X : mm_Cx p s m args meth c G RX6 cc nL rt) (hw : mm_W G.1 vwCl A H0 M H locs) {fs : List Value} (he : M a = some (.inr (6, fs))) {v : Value} (hv : fs[7]? = some v) (hdg : decode cc pc = .ok (.getfield 51, 3)) (kk : W p l e R s m args below meth c H locs cells slots Q (F0 m (pc + 3) ls (v :: rest))) : W p l e R s m args below meth c H locs cells slots Q (F0 m pc ls (.ref a :: rest)) := mm_get X.1 X.2.1 X.2.2.2.2.1 hin_X6 X.2.2.2.1 X.2.2.2.2.2.1.1 hw he rfl 7 (by decide) (X.2.2.2.2.1 _ fl_X6_51) hv hdg kk
theorem pf_X6_51 (X : mm_Cx p s m args meth c G RX6 cc nL rt) (hw : mm_W G.1 vwCl A H0 M H locs) {fs : List Value} (he : M a = some (.inr (6, fs))) {x : Int32} (hl : 7 < fs.length) (hdg : decode cc pc = .ok (.putfield 51, 3)) (kk : ∀ (H1 : Heap) (locs1 : List Loc), mm_W G.1 vwCl A H0 (mm_up M a (.inr (6, fs.set 7 (.int x)))) H1 locs1 → W p l e R s m args below meth c H1 locs1 cells slots Q (F0 m (pc + 3) ls rest)) : W p l e R s m args below meth c H locs cells slots Q (F0 m pc ls (.int x :: .ref a :: rest)) := mm_put X.1 X.2.1 X.2.2.2.2.1 hin_X6 tyX6 tyX6_ok nmX6 X.2.2.2.1 X.2.2.2.2.2.1.1 hw he rfl 7 (by decide) (X.2.2.2.2.1 _ fl_X6_51) rfl rfl rfl hl hdg kk
theorem gf_X6_54 (X : mm_Cx p s m args meth c G RX6 cc nL rt) (hw : mm_W G.1 vwCl A H0 M H locs) {fs : List Value} (he : M a = some (.inr (6, fs))) {v : Value} (hv : fs[8]? = some v) (hdg : decode cc pc = .ok (.getfield 54, 3)) (kk : W p l e R s m args below meth c H locs cells slots Q (F0 m (pc + 3) ls (v :: rest))) : W p l e R s m args below meth c H locs cells slots Q (F0 m pc ls (.ref a :: rest)) := mm_get X.1 X.2.1 X.2.2.2.2.1 hin_X6 X.2.2.2.1 X.2.2.2.2.2.1.1 hw he rfl 8 (by decide) (X.2.2.2.2.1 _ fl_X6_54) hv hdg kk
theorem pf_X6_54 (X : mm_Cx p s m args meth c G RX6 cc nL rt) (hw : mm_W G.1 vwCl A H0 M H locs) {fs : List Value} (he : M a = some (.inr (6, fs))) {x : Int32} (hl : 8 < fs.length) (hdg : decode cc pc = .ok (.putfield 54, 3)) (kk : ∀ (H1 : Heap) (locs1 : List Loc), mm_W G.1 vwCl A H0 (mm_up M a (.inr (6, fs.set 8 (.int x)))) H1 locs1 → W p l e R s m args below meth c H1 locs1 cells slots Q (F0 m (pc + 3) ls rest)) : W p l e R s m args below meth c H locs cells slots Q (F0 m pc ls (.int x :: .ref a :: rest)) := mm_put X.1 X.2.1 X.2.2.2.2.1 hin_X6 tyX6 tyX6_ok nmX6 X.2.2.2.1 X.2.2.2.2.2.1.1 hw he rfl 8 (by decide) (X.2.2.2.2.1 _ fl_X6_54) rfl rfl rfl hl hdg kk
theorem gf_X6_57 (X : mm_Cx p s m args meth c G RX6 cc nL rt) (hw : mm_W G.1 vwCl A H0 M H locs) {fs : List Value} (he : M a = some (.inr (6, fs))) {v : Value} (hv : fs[9]? = some v) (hdg : decode cc pc = .ok (.getfield 57, 3)) (kk : W p l e R s m args below meth c H locs cells slots Q (F0 m (pc + 3) ls (v :: rest))) : W p l e R s m args below meth c H locs cells slots Q (F0 m pc ls (.ref a :: rest)) := mm_get X.1 X.2.1 X.2.2.2.2.1 hin_X6 X.2.2.2.1 X.2.2.2.2.2.1.1 hw he rfl 9 (by decide) (X.2.2.2.2.1 _ fl_X6_57) hv hdg kk
theorem pf_X6_57 (X : mm_Cx p s m args meth c G RX6 cc nL rt) (hw : mm_W G.1 vwCl A H0 M H locs) {fs : List Value} (he : M a = some (.inr (6, fs))) {x : Int32} (hl : 9 < fs.length) (hdg : decode cc pc = .ok (.putfield 57, 3)) (kk : ∀ (H1 : Heap) (locs1 : List Loc), mm_W G.1 vwCl A H0 (mm_up M a (.inr (6, fs.set 9 (.int x)))) H1 locs1 → W p l e R s m args below meth c H1 locs1 cells slots Q (F0 m (pc + 3) ls rest)) : W p l e R s m args below meth c H locs cells slots Q (F0 m pc ls (.int x :: .ref a :: rest)) := mm_put X.1 X.2.1 X.2.2.2.2.1 hin_X6 tyX6 tyX6_ok nmX6 X.2.2.2.1 X.2.2.2.2.2.1.1 hw he rfl 9 (by decide) (X.2.2.2.2.1 _ fl_X6_57) rfl rfl rfl hl hdg kk
theorem gf_X6_60 (X : mm_Cx p s m args meth c G RX6 cc nL rt) (hw : mm_W G.1 vwCl A H0 M H locs) {fs : List Value} (he : M a = some (.inr (6, fs))) {v : Value} (hv : fs[10]? = some v) (hdg : decode cc pc = .ok (.getfield 60, 3)) (kk : W p l e R s m args below meth c H locs cells slots Q (F0 m (pc + 3) ls (v :: rest))) : W p l e R s m args below meth c H locs cells slots Q (F0 m pc ls (.ref a :: rest)) := mm_get X.1 X.2.1 X.2.2.2.2.1 hin_X6 X.2.2.2.1 X.2.2.2.2.2.1.1 hw he rfl 10 (by decide) (X.2.2.2.2.1 _ fl_X6_60) hv hdg kk
theorem pf_X6_60 (X : mm_Cx p s m args meth c G RX6 cc nL rt) (hw : mm_W G.1 vwCl A H0 M H locs) {fs : List Value} (he : M a = some (.inr (6, fs))) {x : Int32} (hl : 10 < fs.length) (hdg : decode cc pc = .ok (.putfield 60, 3)) (kk : ∀ (H1 : Heap) (locs1 : List Loc), mm_W G.1 vwCl A H0 (mm_up M a (.inr (6, fs.set 10 (.int x)))) H1 locs1 → W p l e R s m args below meth c H1 locs1 cells slots Q (F0 m (pc + 3) ls rest)) : W p l e R s m args below meth c H locs cells slots Q (F0 m pc ls (.int x :: .ref a :: rest)) := mm_put X.1 X.2.1 X.2.2.2.2.1 hin_X6 tyX6 tyX6_ok nmX6 X.2.2.2.1 X.2.2.2.2.2.1.1 hw he rfl 10 (by decide) (X.2.2.2.2.1 _ fl_X6_60) rfl rfl rfl hl hdg kk
theorem gf_X6_63 (X : mm_Cx p s m args meth c G RX6 cc nL rt) (hw : mm_W G.1 vwCl A H0 M H locs) {fs : List Value} (he : M a = some (.inr (6, fs))) {v : Value} (hv : fs[11]? = some v) (hdg : decode cc pc = .ok (.getfield 63, 3)) (kk : W p l e R s m args below meth c H locs cells slots Q (F0 m (pc + 3) ls (v :: rest))) : W p l e R s m args below meth c H locs cells slots Q (F0 m pc ls (.ref a :: rest)) := mm_get X.1 X.2.1 X.2.2.2.2.1 hin_X6 X.2.2.2.1 X.2.2.2.2.2.1.1 hw he rfl 11 (by decide) (X.2.2.2.2.1 _ fl_X6_63) hv hdg kk
theorem pf_X6_63 (X : mm_Cx p s m args meth c G RX6 cc nL rt) (hw : mm_W G.1 vwCl A H0 M H locs) {fs : List Value} (he : M a = some (.inr (6, fs))) {x : Int32} (hl : 11 < fs.length) (hdg : decode cc pc = .ok (.putfield 63, 3)) (kk : ∀ (H1 : Heap) (locs1 : List Loc), mm_W G.1 vwCl A H0 (mm_up M a (.inr (6, fs.set 11 (.int x)))) H1 locs1 → W p l e R s m args below meth c H1 locs1 cells slots Q (F0 m (pc + 3) ls rest)) : W p l e R s m args below meth c H locs cells slots Q (F0 m pc ls (.int x :: .ref a :: rest)) := mm_put X.1 X.2.1 X.2.2.2.2.1 hin_X6 tyX6 tyX6_ok nmX6 X.2.2.2.1 X.2.2.2.2.2.1.1 hw he rfl 11 (by decide) (X.2.2.2.2.1 _ fl_X6_63) rfl rfl rfl hl hdg kk
theorem gf_X5_18 (X : mm_Cx p s m args meth c G RX5 cc nL rt) (hw : mm_W G.1 vwCl A H0 M H locs) {fs : List Value} (he : M a = some (.inr (5, fs))) {v : Value} (hv : fs[0]? = some v) (hdg : decode cc pc = .ok (.getfield 18, 3)) (kk : W p l e R s m args below meth c H locs cells slots Q (F0 m (pc + 3) ls (v :: rest))) : W p l e R s m args below meth c H locs cells slots Q (F0 m pc ls (.ref a :: rest)) := mm_get X.1 X.2.1 X.2.2.2.2.1 hin_X5 X.2.2.2.1 X.2.2.2.2.2.1.1 hw he rfl 0 (by decide) (X.2.2.2.2.1 _ fl_X5_18) hv hdg kk
theorem pf_X5_18 (X : mm_Cx p s m args meth c G RX5 cc nL rt) (hin : meth.name = "<init>") (hw : mm_W G.1 vwCl A H0 M H locs) {fs : List Value} (he : M a = some (.inr (5, fs))) {x : Int32} (hl : 0 < fs.length) (hdg : decode cc pc = .ok (.putfield 18, 3)) (kk : ∀ (H1 : Heap) (locs1 : List Loc), mm_W G.1 vwCl A H0 (mm_up M a (.inr (5, fs.set 0 (.int x)))) H1 locs1 → W p l e R s m args below meth c H1 locs1 cells slots Q (F0 m (pc + 3) ls rest)) : W p l e R s m args below meth c H locs cells slots Q (F0 m pc ls (.int x :: .ref a :: rest)) := mm_putF X.1 X.2.1 X.2.2.2.2.1 hin_X5 tyX5 tyX5_ok nmX5 X.2.2.2.1 X.2.2.2.2.2.1.1 hw he rfl 0 (by decide) (X.2.2.2.2.1 _ fl_X5_18) rfl hin rfl rfl rfl hl hdg kk
theorem gf_X6_211 (X : mm_Cx p s m args meth c G RX6 cc nL rt) (hw : mm_W G.1 vwCl A H0 M H locs) {fs : List Value} (he : M a = some (.inr (5, fs))) {v : Value} (hv : fs[0]? = some v) (hdg : decode cc pc = .ok (.getfield 211, 3)) (kk : W p l e R s m args below meth c H locs cells slots Q (F0 m (pc + 3) ls (v :: rest))) : W p l e R s m args below meth c H locs cells slots Q (F0 m pc ls (.ref a :: rest)) := mm_get X.1 X.2.1 X.2.2.2.2.1 hin_X5 X.2.2.2.1 X.2.2.2.2.2.1.1 hw he rfl 0 (by decide) (X.2.2.2.2.1 _ fl_X6_211) hv hdg kk
theorem gf_X5_21 (X : mm_Cx p s m args meth c G RX5 cc nL rt) (hw : mm_W G.1 vwCl A H0 M H locs) {fs : List Value} (he : M a = some (.inr (5, fs))) {v : Value} (hv : fs[1]? = some v) (hdg : decode cc pc = .ok (.getfield 21, 3)) (kk : W p l e R s m args below meth c H locs cells slots Q (F0 m (pc + 3) ls (v :: rest))) : W p l e R s m args below meth c H locs cells slots Q (F0 m pc ls (.ref a :: rest)) := mm_get X.1 X.2.1 X.2.2.2.2.1 hin_X5 X.2.2.2.1 X.2.2.2.2.2.1.1 hw he rfl 1 (by decide) (X.2.2.2.2.1 _ fl_X5_21) hv hdg kk
theorem pf_X5_21 (X : mm_Cx p s m args meth c G RX5 cc nL rt) (hw : mm_W G.1 vwCl A H0 M H locs) {fs : List Value} (he : M a = some (.inr (5, fs))) {x : Int32} (hl : 1 < fs.length) (hdg : decode cc pc = .ok (.putfield 21, 3)) (kk : ∀ (H1 : Heap) (locs1 : List Loc), mm_W G.1 vwCl A H0 (mm_up M a (.inr (5, fs.set 1 (.int x)))) H1 locs1 → W p l e R s m args below meth c H1 locs1 cells slots Q (F0 m (pc + 3) ls rest)) : W p l e R s m args below meth c H locs cells slots Q (F0 m pc ls (.int x :: .ref a :: rest)) := mm_put X.1 X.2.1 X.2.2.2.2.1 hin_X5 tyX5 tyX5_ok nmX5 X.2.2.2.1 X.2.2.2.2.2.1.1 hw he rfl 1 (by decide) (X.2.2.2.2.1 _ fl_X5_21) rfl rfl rfl hl hdg kk
theorem gf_X6_117 (X : mm_Cx p s m args meth c G RX6 cc nL rt) (hw : mm_W G.1 vwCl A H0 M H locs) {fs : List Value} (he : M a = some (.inr (5, fs))) {v : Value} (hv : fs[1]? = some v) (hdg : decode cc pc = .ok (.getfield 117, 3)) (kk : W p l e R s m args below meth c H locs cells slots Q (F0 m (pc + 3) ls (v :: rest))) : W p l e R s m args below meth c H locs cells slots Q (F0 m pc ls (.ref a :: rest)) := mm_get X.1 X.2.1 X.2.2.2.2.1 hin_X5 X.2.2.2.1 X.2.2.2.2.2.1.1 hw he rfl 1 (by decide) (X.2.2.2.2.1 _ fl_X6_117) hv hdg kk
theorem pf_X6_117 (X : mm_Cx p s m args meth c G RX6 cc nL rt) (hw : mm_W G.1 vwCl A H0 M H locs) {fs : List Value} (he : M a = some (.inr (5, fs))) {x : Int32} (hl : 1 < fs.length) (hdg : decode cc pc = .ok (.putfield 117, 3)) (kk : ∀ (H1 : Heap) (locs1 : List Loc), mm_W G.1 vwCl A H0 (mm_up M a (.inr (5, fs.set 1 (.int x)))) H1 locs1 → W p l e R s m args below meth c H1 locs1 cells slots Q (F0 m (pc + 3) ls rest)) : W p l e R s m args below meth c H locs cells slots Q (F0 m pc ls (.int x :: .ref a :: rest)) := mm_put X.1 X.2.1 X.2.2.2.2.1 hin_X5 tyX5 tyX5_ok nmX5 X.2.2.2.1 X.2.2.2.2.2.1.1 hw he rfl 1 (by decide) (X.2.2.2.2.1 _ fl_X6_117) rfl rfl rfl hl hdg kk
theorem gf_X5_9 (X : mm_Cx p s m args meth c G RX5 cc nL rt) (hw : mm_W G.1 vwCl A H0 M H locs) {fs : List Value} (he : M a = some (.inr (5, fs))) {v : Value} (hv : fs[2]? = some v) (hdg : decode cc pc = .ok (.getfield 9, 3)) (kk : W p l e R s m args below meth c H locs cells slots Q (F0 m (pc + 3) ls (v :: rest))) : W p l e R s m args below meth c H locs cells slots Q (F0 m pc ls (.ref a :: rest)) := mm_get X.1 X.2.1 X.2.2.2.2.1 hin_X5 X.2.2.2.1 X.2.2.2.2.2.1.1 hw he rfl 2 (by decide) (X.2.2.2.2.1 _ fl_X5_9) hv hdg kk
theorem pf_X5_9 (X : mm_Cx p s m args meth c G RX5 cc nL rt) (hw : mm_W G.1 vwCl A H0 M H locs) {fs : List Value} (he : M a = some (.inr (5, fs))) {x : Int32} (hl : 2 < fs.length) (hdg : decode cc pc = .ok (.putfield 9, 3)) (kk : ∀ (H1 : Heap) (locs1 : List Loc), mm_W G.1 vwCl A H0 (mm_up M a (.inr (5, fs.set 2 (.int x)))) H1 locs1 → W p l e R s m args below meth c H1 locs1 cells slots Q (F0 m (pc + 3) ls rest)) : W p l e R s m args below meth c H locs cells slots Q (F0 m pc ls (.int x :: .ref a :: rest)) := mm_put X.1 X.2.1 X.2.2.2.2.1 hin_X5 tyX5 tyX5_ok nmX5 X.2.2.2.1 X.2.2.2.2.2.1.1 hw he rfl 2 (by decide) (X.2.2.2.2.1 _ fl_X5_9) rfl rfl rfl hl hdg kk
theorem gf_X5_15 (X : mm_Cx p s m args meth c G RX5 cc nL rt) (hw : mm_W G.1 vwCl A H0 M H locs) {fs : List Value} (he : M a = some (.inr (5, fs))) {v : Value} (hv : fs[3]? = some v) (hdg : decode cc pc = .ok (.getfield 15, 3)) (kk : W p l e R s m args below meth c H locs cells slots Q (F0 m (pc + 3) ls (v :: rest))) : W p l e R s m args below meth c H locs cells slots Q (F0 m pc ls (.ref a :: rest)) := mm_get X.1 X.2.1 X.2.2.2.2.1 hin_X5 X.2.2.2.1 X.2.2.2.2.2.1.1 hw he rfl 3 (by decide) (X.2.2.2.2.1 _ fl_X5_15) hv hdg kk
theorem pf_X5_15 (X : mm_Cx p s m args meth c G RX5 cc nL rt) (hw : mm_W G.1 vwCl A H0 M H locs) {fs : List Value} (he : M a = some (.inr (5, fs))) {x : Int32} (hl : 3 < fs.length) (hdg : decode cc pc = .ok (.putfield 15, 3)) (kk : ∀ (H1 : Heap) (locs1 : List Loc), mm_W G.1 vwCl A H0 (mm_up M a (.inr (5, fs.set 3 (.int x)))) H1 locs1 → W p l e R s m args below meth c H1 locs1 cells slots Q (F0 m (pc + 3) ls rest)) : W p l e R s m args below meth c H locs cells slots Q (F0 m pc ls (.int x :: .ref a :: rest)) := mm_put X.1 X.2.1 X.2.2.2.2.1 hin_X5 tyX5 tyX5_ok nmX5 X.2.2.2.1 X.2.2.2.2.2.1.1 hw he rfl 3 (by decide) (X.2.2.2.2.1 _ fl_X5_15) rfl rfl rfl hl hdg kk
theorem gf_X6_137 (X : mm_Cx p s m args meth c G RX6 cc nL rt) (hw : mm_W G.1 vwCl A H0 M H locs) {fs : List Value} (he : M a = some (.inr (5, fs))) {v : Value} (hv : fs[3]? = some v) (hdg : decode cc pc = .ok (.getfield 137, 3)) (kk : W p l e R s m args below meth c H locs cells slots Q (F0 m (pc + 3) ls (v :: rest))) : W p l e R s m args below meth c H locs cells slots Q (F0 m pc ls (.ref a :: rest)) := mm_get X.1 X.2.1 X.2.2.2.2.1 hin_X5 X.2.2.2.1 X.2.2.2.2.2.1.1 hw he rfl 3 (by decide) (X.2.2.2.2.1 _ fl_X6_137) hv hdg kk
theorem pf_X6_137 (X : mm_Cx p s m args meth c G RX6 cc nL rt) (hw : mm_W G.1 vwCl A H0 M H locs) {fs : List Value} (he : M a = some (.inr (5, fs))) {x : Int32} (hl : 3 < fs.length) (hdg : decode cc pc = .ok (.putfield 137, 3)) (kk : ∀ (H1 : Heap) (locs1 : List Loc), mm_W G.1 vwCl A H0 (mm_up M a (.inr (5, fs.set 3 (.int x)))) H1 locs1 → W p l e R s m args below meth c H1 locs1 cells slots Q (F0 m (pc + 3) ls rest)) : W p l e R s m args below meth c H locs cells slots Q (F0 m pc ls (.int x :: .ref a :: rest)) := mm_put X.1 X.2.1 X.2.2.2.2.1 hin_X5 tyX5 tyX5_ok nmX5 X.2.2.2.1 X.2.2.2.2.2.1.1 hw he rfl 3 (by decide) (X.2.2.2.2.1 _ fl_X6_137) rfl rfl rfl hl hdg kk
theorem gf_X1_9 (X : mm_Cx p s m args meth c G RX1 cc nL rt) (hw : mm_W G.1 vwCl A H0 M H locs) {fs : List Value} (he : M a = some (.inr (1, fs))) {v : Value} (hv : fs[0]? = some v) (hdg : decode cc pc = .ok (.getfield 9, 3)) (kk : W p l e R s m args below meth c H locs cells slots Q (F0 m (pc + 3) ls (v :: rest))) : W p l e R s m args below meth c H locs cells slots Q (F0 m pc ls (.ref a :: rest)) := mm_get X.1 X.2.1 X.2.2.2.2.1 hin_X1 X.2.2.2.1 X.2.2.2.2.2.1.1 hw he rfl 0 (by decide) (X.2.2.2.2.1 _ fl_X1_9) hv hdg kk
theorem pf_X1_9 (X : mm_Cx p s m args meth c G RX1 cc nL rt) (hin : meth.name = "<init>") (hw : mm_W G.1 vwCl A H0 M H locs) {fs : List Value} (he : M a = some (.inr (1, fs))) {x : Nat} (hl : 0 < fs.length) (hdg : decode cc pc = .ok (.putfield 9, 3)) (kk : ∀ (H1 : Heap) (locs1 : List Loc), mm_W G.1 vwCl A H0 (mm_up M a (.inr (1, fs.set 0 (.ref x)))) H1 locs1 → W p l e R s m args below meth c H1 locs1 cells slots Q (F0 m (pc + 3) ls rest)) : W p l e R s m args below meth c H locs cells slots Q (F0 m pc ls (.ref x :: .ref a :: rest)) := mm_putF X.1 X.2.1 X.2.2.2.2.1 hin_X1 tyX1 tyX1_ok nmX1 X.2.2.2.1 X.2.2.2.2.2.1.1 hw he rfl 0 (by decide) (X.2.2.2.2.1 _ fl_X1_9) rfl hin rfl rfl rfl hl hdg kk
theorem gf_X4_35 (X : mm_Cx p s m args meth c G RX4 cc nL rt) (hw : mm_W G.1 vwCl A H0 M H locs) {fs : List Value} (he : M a = some (.inr (1, fs))) {v : Value} (hv : fs[0]? = some v) (hdg : decode cc pc = .ok (.getfield 35, 3)) (kk : W p l e R s m args below meth c H locs cells slots Q (F0 m (pc + 3) ls (v :: rest))) : W p l e R s m args below meth c H locs cells slots Q (F0 m pc ls (.ref a :: rest)) := mm_get X.1 X.2.1 X.2.2.2.2.1 hin_X1 X.2.2.2.1 X.2.2.2.2.2.1.1 hw he rfl 0 (by decide) (X.2.2.2.2.1 _ fl_X4_35) hv hdg kk
theorem gf_X1_15 (X : mm_Cx p s m args meth c G RX1 cc nL rt) (hw : mm_W G.1 vwCl A H0 M H locs) {fs : List Value} (he : M a = some (.inr (1, fs))) {v : Value} (hv : fs[1]? = some v) (hdg : decode cc pc = .ok (.getfield 15, 3)) (kk : W p l e R s m args below meth c H locs cells slots Q (F0 m (pc + 3) ls (v :: rest))) : W p l e R s m args below meth c H locs cells slots Q (F0 m pc ls (.ref a :: rest)) := mm_get X.1 X.2.1 X.2.2.2.2.1 hin_X1 X.2.2.2.1 X.2.2.2.2.2.1.1 hw he rfl 1 (by decide) (X.2.2.2.2.1 _ fl_X1_15) hv hdg kk
theorem pf_X1_15 (X : mm_Cx p s m args meth c G RX1 cc nL rt) (hin : meth.name = "<init>") (hw : mm_W G.1 vwCl A H0 M H locs) {fs : List Value} (he : M a = some (.inr (1, fs))) {x : Nat} (hl : 1 < fs.length) (hdg : decode cc pc = .ok (.putfield 15, 3)) (kk : ∀ (H1 : Heap) (locs1 : List Loc), mm_W G.1 vwCl A H0 (mm_up M a (.inr (1, fs.set 1 (.ref x)))) H1 locs1 → W p l e R s m args below meth c H1 locs1 cells slots Q (F0 m (pc + 3) ls rest)) : W p l e R s m args below meth c H locs cells slots Q (F0 m pc ls (.ref x :: .ref a :: rest)) := mm_putF X.1 X.2.1 X.2.2.2.2.1 hin_X1 tyX1 tyX1_ok nmX1 X.2.2.2.1 X.2.2.2.2.2.1.1 hw he rfl 1 (by decide) (X.2.2.2.2.1 _ fl_X1_15) rfl hin rfl rfl rfl hl hdg kk
theorem gf_X4_52 (X : mm_Cx p s m args meth c G RX4 cc nL rt) (hw : mm_W G.1 vwCl A H0 M H locs) {fs : List Value} (he : M a = some (.inr (1, fs))) {v : Value} (hv : fs[1]? = some v) (hdg : decode cc pc = .ok (.getfield 52, 3)) (kk : W p l e R s m args below meth c H locs cells slots Q (F0 m (pc + 3) ls (v :: rest))) : W p l e R s m args below meth c H locs cells slots Q (F0 m pc ls (.ref a :: rest)) := mm_get X.1 X.2.1 X.2.2.2.2.1 hin_X1 X.2.2.2.1 X.2.2.2.2.2.1.1 hw he rfl 1 (by decide) (X.2.2.2.2.1 _ fl_X4_52) hv hdg kk
theorem gf_X1_21 (X : mm_Cx p s m args meth c G RX1 cc nL rt) (hw : mm_W G.1 vwCl A H0 M H locs) {fs : List Value} (he : M a = some (.inr (1, fs))) {v : Value} (hv : fs[2]? = some v) (hdg : decode cc pc = .ok (.getfield 21, 3)) (kk : W p l e R s m args below meth c H locs cells slots Q (F0 m (pc + 3) ls (v :: rest))) : W p l e R s m args below meth c H locs cells slots Q (F0 m pc ls (.ref a :: rest)) := mm_get X.1 X.2.1 X.2.2.2.2.1 hin_X1 X.2.2.2.1 X.2.2.2.2.2.1.1 hw he rfl 2 (by decide) (X.2.2.2.2.1 _ fl_X1_21) hv hdg kk
theorem pf_X1_21 (X : mm_Cx p s m args meth c G RX1 cc nL rt) (hin : meth.name = "<init>") (hw : mm_W G.1 vwCl A H0 M H locs) {fs : List Value} (he : M a = some (.inr (1, fs))) {x : Nat} (hl : 2 < fs.length) (hdg : decode cc pc = .ok (.putfield 21, 3)) (kk : ∀ (H1 : Heap) (locs1 : List Loc), mm_W G.1 vwCl A H0 (mm_up M a (.inr (1, fs.set 2 (.ref x)))) H1 locs1 → W p l e R s m args below meth c H1 locs1 cells slots Q (F0 m (pc + 3) ls rest)) : W p l e R s m args below meth c H locs cells slots Q (F0 m pc ls (.ref x :: .ref a :: rest)) := mm_putF X.1 X.2.1 X.2.2.2.2.1 hin_X1 tyX1 tyX1_ok nmX1 X.2.2.2.1 X.2.2.2.2.2.1.1 hw he rfl 2 (by decide) (X.2.2.2.2.1 _ fl_X1_21) rfl hin rfl rfl rfl hl hdg kk
theorem gf_X6_167 (X : mm_Cx p s m args meth c G RX6 cc nL rt) (hw : mm_W G.1 vwCl A H0 M H locs) {fs : List Value} (he : M a = some (.inr (1, fs))) {v : Value} (hv : fs[2]? = some v) (hdg : decode cc pc = .ok (.getfield 167, 3)) (kk : W p l e R s m args below meth c H locs cells slots Q (F0 m (pc + 3) ls (v :: rest))) : W p l e R s m args below meth c H locs cells slots Q (F0 m pc ls (.ref a :: rest)) := mm_get X.1 X.2.1 X.2.2.2.2.1 hin_X1 X.2.2.2.1 X.2.2.2.2.2.1.1 hw he rfl 2 (by decide) (X.2.2.2.2.1 _ fl_X6_167) hv hdg kk
theorem gf_X1_25 (X : mm_Cx p s m args meth c G RX1 cc nL rt) (hw : mm_W G.1 vwCl A H0 M H locs) {fs : List Value} (he : M a = some (.inr (1, fs))) {v : Value} (hv : fs[3]? = some v) (hdg : decode cc pc = .ok (.getfield 25, 3)) (kk : W p l e R s m args below meth c H locs cells slots Q (F0 m (pc + 3) ls (v :: rest))) : W p l e R s m args below meth c H locs cells slots Q (F0 m pc ls (.ref a :: rest)) := mm_get X.1 X.2.1 X.2.2.2.2.1 hin_X1 X.2.2.2.1 X.2.2.2.2.2.1.1 hw he rfl 3 (by decide) (X.2.2.2.2.1 _ fl_X1_25) hv hdg kk
theorem pf_X1_25 (X : mm_Cx p s m args meth c G RX1 cc nL rt) (hin : meth.name = "<init>") (hw : mm_W G.1 vwCl A H0 M H locs) {fs : List Value} (he : M a = some (.inr (1, fs))) {x : Nat} (hl : 3 < fs.length) (hdg : decode cc pc = .ok (.putfield 25, 3)) (kk : ∀ (H1 : Heap) (locs1 : List Loc), mm_W G.1 vwCl A H0 (mm_up M a (.inr (1, fs.set 3 (.ref x)))) H1 locs1 → W p l e R s m args below meth c H1 locs1 cells slots Q (F0 m (pc + 3) ls rest)) : W p l e R s m args below meth c H locs cells slots Q (F0 m pc ls (.ref x :: .ref a :: rest)) := mm_putF X.1 X.2.1 X.2.2.2.2.1 hin_X1 tyX1 tyX1_ok nmX1 X.2.2.2.1 X.2.2.2.2.2.1.1 hw he rfl 3 (by decide) (X.2.2.2.2.1 _ fl_X1_25) rfl hin rfl rfl rfl hl hdg kk
theorem gf_X6_220 (X : mm_Cx p s m args meth c G RX6 cc nL rt) (hw : mm_W G.1 vwCl A H0 M H locs) {fs : List Value} (he : M a = some (.inr (1, fs))) {v : Value} (hv : fs[3]? = some v) (hdg : decode cc pc = .ok (.getfield 220, 3)) (kk : W p l e R s m args below meth c H locs cells slots Q (F0 m (pc + 3) ls (v :: rest))) : W p l e R s m args below meth c H locs cells slots Q (F0 m pc ls (.ref a :: rest)) := mm_get X.1 X.2.1 X.2.2.2.2.1 hin_X1 X.2.2.2.1 X.2.2.2.2.2.1.1 hw he rfl 3 (by decide) (X.2.2.2.2.1 _ fl_X6_220) hv hdg kk
theorem gf_X1_28 (X : mm_Cx p s m args meth c G RX1 cc nL rt) (hw : mm_W G.1 vwCl A H0 M H locs) {fs : List Value} (he : M a = some (.inr (1, fs))) {v : Value} (hv : fs[4]? = some v) (hdg : decode cc pc = .ok (.getfield 28, 3)) (kk : W p l e R s m args below meth c H locs cells slots Q (F0 m (pc + 3) ls (v :: rest))) : W p l e R s m args below meth c H locs cells slots Q (F0 m pc ls (.ref a :: rest)) := mm_get X.1 X.2.1 X.2.2.2.2.1 hin_X1 X.2.2.2.1 X.2.2.2.2.2.1.1 hw he rfl 4 (by decide) (X.2.2.2.2.1 _ fl_X1_28) hv hdg kk
theorem pf_X1_28 (X : mm_Cx p s m args meth c G RX1 cc nL rt) (hw : mm_W G.1 vwCl A H0 M H locs) {fs : List Value} (he : M a = some (.inr (1, fs))) {x : Int32} (hl : 4 < fs.length) (hdg : decode cc pc = .ok (.putfield 28, 3)) (kk : ∀ (H1 : Heap) (locs1 : List Loc), mm_W G.1 vwCl A H0 (mm_up M a (.inr (1, fs.set 4 (.int x)))) H1 locs1 → W p l e R s m args below meth c H1 locs1 cells slots Q (F0 m (pc + 3) ls rest)) : W p l e R s m args below meth c H locs cells slots Q (F0 m pc ls (.int x :: .ref a :: rest)) := mm_put X.1 X.2.1 X.2.2.2.2.1 hin_X1 tyX1 tyX1_ok nmX1 X.2.2.2.1 X.2.2.2.2.2.1.1 hw he rfl 4 (by decide) (X.2.2.2.2.1 _ fl_X1_28) rfl rfl rfl hl hdg kk
theorem gf_X4_30 (X : mm_Cx p s m args meth c G RX4 cc nL rt) (hw : mm_W G.1 vwCl A H0 M H locs) {fs : List Value} (he : M a = some (.inr (1, fs))) {v : Value} (hv : fs[4]? = some v) (hdg : decode cc pc = .ok (.getfield 30, 3)) (kk : W p l e R s m args below meth c H locs cells slots Q (F0 m (pc + 3) ls (v :: rest))) : W p l e R s m args below meth c H locs cells slots Q (F0 m pc ls (.ref a :: rest)) := mm_get X.1 X.2.1 X.2.2.2.2.1 hin_X1 X.2.2.2.1 X.2.2.2.2.2.1.1 hw he rfl 4 (by decide) (X.2.2.2.2.1 _ fl_X4_30) hv hdg kk
theorem pf_X4_30 (X : mm_Cx p s m args meth c G RX4 cc nL rt) (hw : mm_W G.1 vwCl A H0 M H locs) {fs : List Value} (he : M a = some (.inr (1, fs))) {x : Int32} (hl : 4 < fs.length) (hdg : decode cc pc = .ok (.putfield 30, 3)) (kk : ∀ (H1 : Heap) (locs1 : List Loc), mm_W G.1 vwCl A H0 (mm_up M a (.inr (1, fs.set 4 (.int x)))) H1 locs1 → W p l e R s m args below meth c H1 locs1 cells slots Q (F0 m (pc + 3) ls rest)) : W p l e R s m args below meth c H locs cells slots Q (F0 m pc ls (.int x :: .ref a :: rest)) := mm_put X.1 X.2.1 X.2.2.2.2.1 hin_X1 tyX1 tyX1_ok nmX1 X.2.2.2.1 X.2.2.2.2.2.1.1 hw he rfl 4 (by decide) (X.2.2.2.2.1 _ fl_X4_30) rfl rfl rfl hl hdg kk
theorem gf_X6_151 (X : mm_Cx p s m args meth c G RX6 cc nL rt) (hw : mm_W G.1 vwCl A H0 M H locs) {fs : List Value} (he : M a = some (.inr (1, fs))) {v : Value} (hv : fs[4]? = some v) (hdg : decode cc pc = .ok (.getfield 151, 3)) (kk : W p l e R s m args below meth c H locs cells slots Q (F0 m (pc + 3) ls (v :: rest))) : W p l e R s m args below meth c H locs cells slots Q (F0 m pc ls (.ref a :: rest)) := mm_get X.1 X.2.1 X.2.2.2.2.1 hin_X1 X.2.2.2.1 X.2.2.2.2.2.1.1 hw he rfl 4 (by decide) (X.2.2.2.2.1 _ fl_X6_151) hv hdg kk
theorem pf_X6_151 (X : mm_Cx p s m args meth c G RX6 cc nL rt) (hw : mm_W G.1 vwCl A H0 M H locs) {fs : List Value} (he : M a = some (.inr (1, fs))) {x : Int32} (hl : 4 < fs.length) (hdg : decode cc pc = .ok (.putfield 151, 3)) (kk : ∀ (H1 : Heap) (locs1 : List Loc), mm_W G.1 vwCl A H0 (mm_up M a (.inr (1, fs.set 4 (.int x)))) H1 locs1 → W p l e R s m args below meth c H1 locs1 cells slots Q (F0 m (pc + 3) ls rest)) : W p l e R s m args below meth c H locs cells slots Q (F0 m pc ls (.int x :: .ref a :: rest)) := mm_put X.1 X.2.1 X.2.2.2.2.1 hin_X1 tyX1 tyX1_ok nmX1 X.2.2.2.1 X.2.2.2.2.2.1.1 hw he rfl 4 (by decide) (X.2.2.2.2.1 _ fl_X6_151) rfl rfl rfl hl hdg kk
theorem gf_X1_32 (X : mm_Cx p s m args meth c G RX1 cc nL rt) (hw : mm_W G.1 vwCl A H0 M H locs) {fs : List Value} (he : M a = some (.inr (1, fs))) {v : Value} (hv : fs[5]? = some v) (hdg : decode cc pc = .ok (.getfield 32, 3)) (kk : W p l e R s m args below meth c H locs cells slots Q (F0 m (pc + 3) ls (v :: rest))) : W p l e R s m args below meth c H locs cells slots Q (F0 m pc ls (.ref a :: rest)) := mm_get X.1 X.2.1 X.2.2.2.2.1 hin_X1 X.2.2.2.1 X.2.2.2.2.2.1.1 hw he rfl 5 (by decide) (X.2.2.2.2.1 _ fl_X1_32) hv hdg kk
theorem pf_X1_32 (X : mm_Cx p s m args meth c G RX1 cc nL rt) (hw : mm_W G.1 vwCl A H0 M H locs) {fs : List Value} (he : M a = some (.inr (1, fs))) {x : Nat} (hl : 5 < fs.length) (hdg : decode cc pc = .ok (.putfield 32, 3)) (kk : ∀ (H1 : Heap) (locs1 : List Loc), mm_W G.1 vwCl A H0 (mm_up M a (.inr (1, fs.set 5 (.ref x)))) H1 locs1 → W p l e R s m args below meth c H1 locs1 cells slots Q (F0 m (pc + 3) ls rest)) : W p l e R s m args below meth c H locs cells slots Q (F0 m pc ls (.ref x :: .ref a :: rest)) := mm_put X.1 X.2.1 X.2.2.2.2.1 hin_X1 tyX1 tyX1_ok nmX1 X.2.2.2.1 X.2.2.2.2.2.1.1 hw he rfl 5 (by decide) (X.2.2.2.2.1 _ fl_X1_32) rfl rfl rfl hl hdg kk
theorem pn_X1_32 (X : mm_Cx p s m args meth c G RX1 cc nL rt) (hw : mm_W G.1 vwCl A H0 M H locs) {fs : List Value} (he : M a = some (.inr (1, fs))) (hl : 5 < fs.length) (hdg : decode cc pc = .ok (.putfield 32, 3)) (kk : ∀ (H1 : Heap) (locs1 : List Loc), mm_W G.1 vwCl A H0 (mm_up M a (.inr (1, fs.set 5 .null))) H1 locs1 → W p l e R s m args below meth c H1 locs1 cells slots Q (F0 m (pc + 3) ls rest)) : W p l e R s m args below meth c H locs cells slots Q (F0 m pc ls (.null :: .ref a :: rest)) := mm_put X.1 X.2.1 X.2.2.2.2.1 hin_X1 tyX1 tyX1_ok nmX1 X.2.2.2.1 X.2.2.2.2.2.1.1 hw he rfl 5 (by decide) (X.2.2.2.2.1 _ fl_X1_32) rfl rfl rfl hl hdg kk
theorem gf_X4_55 (X : mm_Cx p s m args meth c G RX4 cc nL rt) (hw : mm_W G.1 vwCl A H0 M H locs) {fs : List Value} (he : M a = some (.inr (1, fs))) {v : Value} (hv : fs[5]? = some v) (hdg : decode cc pc = .ok (.getfield 55, 3)) (kk : W p l e R s m args below meth c H locs cells slots Q (F0 m (pc + 3) ls (v :: rest))) : W p l e R s m args below meth c H locs cells slots Q (F0 m pc ls (.ref a :: rest)) := mm_get X.1 X.2.1 X.2.2.2.2.1 hin_X1 X.2.2.2.1 X.2.2.2.2.2.1.1 hw he rfl 5 (by decide) (X.2.2.2.2.1 _ fl_X4_55) hv hdg kk
theorem pf_X4_55 (X : mm_Cx p s m args meth c G RX4 cc nL rt) (hw : mm_W G.1 vwCl A H0 M H locs) {fs : List Value} (he : M a = some (.inr (1, fs))) {x : Nat} (hl : 5 < fs.length) (hdg : decode cc pc = .ok (.putfield 55, 3)) (kk : ∀ (H1 : Heap) (locs1 : List Loc), mm_W G.1 vwCl A H0 (mm_up M a (.inr (1, fs.set 5 (.ref x)))) H1 locs1 → W p l e R s m args below meth c H1 locs1 cells slots Q (F0 m (pc + 3) ls rest)) : W p l e R s m args below meth c H locs cells slots Q (F0 m pc ls (.ref x :: .ref a :: rest)) := mm_put X.1 X.2.1 X.2.2.2.2.1 hin_X1 tyX1 tyX1_ok nmX1 X.2.2.2.1 X.2.2.2.2.2.1.1 hw he rfl 5 (by decide) (X.2.2.2.2.1 _ fl_X4_55) rfl rfl rfl hl hdg kk
theorem pn_X4_55 (X : mm_Cx p s m args meth c G RX4 cc nL rt) (hw : mm_W G.1 vwCl A H0 M H locs) {fs : List Value} (he : M a = some (.inr (1, fs))) (hl : 5 < fs.length) (hdg : decode cc pc = .ok (.putfield 55, 3)) (kk : ∀ (H1 : Heap) (locs1 : List Loc), mm_W G.1 vwCl A H0 (mm_up M a (.inr (1, fs.set 5 .null))) H1 locs1 → W p l e R s m args below meth c H1 locs1 cells slots Q (F0 m (pc + 3) ls rest)) : W p l e R s m args below meth c H locs cells slots Q (F0 m pc ls (.null :: .ref a :: rest)) := mm_put X.1 X.2.1 X.2.2.2.2.1 hin_X1 tyX1 tyX1_ok nmX1 X.2.2.2.1 X.2.2.2.2.2.1.1 hw he rfl 5 (by decide) (X.2.2.2.2.1 _ fl_X4_55) rfl rfl rfl hl hdg kk
theorem gf_X6_148 (X : mm_Cx p s m args meth c G RX6 cc nL rt) (hw : mm_W G.1 vwCl A H0 M H locs) {fs : List Value} (he : M a = some (.inr (1, fs))) {v : Value} (hv : fs[5]? = some v) (hdg : decode cc pc = .ok (.getfield 148, 3)) (kk : W p l e R s m args below meth c H locs cells slots Q (F0 m (pc + 3) ls (v :: rest))) : W p l e R s m args below meth c H locs cells slots Q (F0 m pc ls (.ref a :: rest)) := mm_get X.1 X.2.1 X.2.2.2.2.1 hin_X1 X.2.2.2.1 X.2.2.2.2.2.1.1 hw he rfl 5 (by decide) (X.2.2.2.2.1 _ fl_X6_148) hv hdg kk
theorem pf_X6_148 (X : mm_Cx p s m args meth c G RX6 cc nL rt) (hw : mm_W G.1 vwCl A H0 M H locs) {fs : List Value} (he : M a = some (.inr (1, fs))) {x : Nat} (hl : 5 < fs.length) (hdg : decode cc pc = .ok (.putfield 148, 3)) (kk : ∀ (H1 : Heap) (locs1 : List Loc), mm_W G.1 vwCl A H0 (mm_up M a (.inr (1, fs.set 5 (.ref x)))) H1 locs1 → W p l e R s m args below meth c H1 locs1 cells slots Q (F0 m (pc + 3) ls rest)) : W p l e R s m args below meth c H locs cells slots Q (F0 m pc ls (.ref x :: .ref a :: rest)) := mm_put X.1 X.2.1 X.2.2.2.2.1 hin_X1 tyX1 tyX1_ok nmX1 X.2.2.2.1 X.2.2.2.2.2.1.1 hw he rfl 5 (by decide) (X.2.2.2.2.1 _ fl_X6_148) rfl rfl rfl hl hdg kk
theorem pn_X6_148 (X : mm_Cx p s m args meth c G RX6 cc nL rt) (hw : mm_W G.1 vwCl A H0 M H locs) {fs : List Value} (he : M a = some (.inr (1, fs))) (hl : 5 < fs.length) (hdg : decode cc pc = .ok (.putfield 148, 3)) (kk : ∀ (H1 : Heap) (locs1 : List Loc), mm_W G.1 vwCl A H0 (mm_up M a (.inr (1, fs.set 5 .null))) H1 locs1 → W p l e R s m args below meth c H1 locs1 cells slots Q (F0 m (pc + 3) ls rest)) : W p l e R s m args below meth c H locs cells slots Q (F0 m pc ls (.null :: .ref a :: rest)) := mm_put X.1 X.2.1 X.2.2.2.2.1 hin_X1 tyX1 tyX1_ok nmX1 X.2.2.2.1 X.2.2.2.2.2.1.1 hw he rfl 5 (by decide) (X.2.2.2.2.1 _ fl_X6_148) rfl rfl rfl hl hdg kk
theorem gf_X3_13 (X : mm_Cx p s m args meth c G RX3 cc nL rt) (hw : mm_W G.1 vwCl A H0 M H locs) {fs : List Value} (he : M a = some (.inr (3, fs))) {v : Value} (hv : fs[0]? = some v) (hdg : decode cc pc = .ok (.getfield 13, 3)) (kk : W p l e R s m args below meth c H locs cells slots Q (F0 m (pc + 3) ls (v :: rest))) : W p l e R s m args below meth c H locs cells slots Q (F0 m pc ls (.ref a :: rest)) := mm_get X.1 X.2.1 X.2.2.2.2.1 hin_X3 X.2.2.2.1 X.2.2.2.2.2.1.1 hw he rfl 0 (by decide) (X.2.2.2.2.1 _ fl_X3_13) hv hdg kk
theorem pf_X3_13 (X : mm_Cx p s m args meth c G RX3 cc nL rt) (hin : meth.name = "<init>") (hw : mm_W G.1 vwCl A H0 M H locs) {fs : List Value} (he : M a = some (.inr (3, fs))) {x : Int32} (hl : 0 < fs.length) (hdg : decode cc pc = .ok (.putfield 13, 3)) (kk : ∀ (H1 : Heap) (locs1 : List Loc), mm_W G.1 vwCl A H0 (mm_up M a (.inr (3, fs.set 0 (.int x)))) H1 locs1 → W p l e R s m args below meth c H1 locs1 cells slots Q (F0 m (pc + 3) ls rest)) : W p l e R s m args below meth c H locs cells slots Q (F0 m pc ls (.int x :: .ref a :: rest)) := mm_putF X.1 X.2.1 X.2.2.2.2.1 hin_X3 tyX3 tyX3_ok nmX3 X.2.2.2.1 X.2.2.2.2.2.1.1 hw he rfl 0 (by decide) (X.2.2.2.2.1 _ fl_X3_13) rfl hin rfl rfl rfl hl hdg kk
theorem gf_X6_192 (X : mm_Cx p s m args meth c G RX6 cc nL rt) (hw : mm_W G.1 vwCl A H0 M H locs) {fs : List Value} (he : M a = some (.inr (3, fs))) {v : Value} (hv : fs[0]? = some v) (hdg : decode cc pc = .ok (.getfield 192, 3)) (kk : W p l e R s m args below meth c H locs cells slots Q (F0 m (pc + 3) ls (v :: rest))) : W p l e R s m args below meth c H locs cells slots Q (F0 m pc ls (.ref a :: rest)) := mm_get X.1 X.2.1 X.2.2.2.2.1 hin_X3 X.2.2.2.1 X.2.2.2.2.2.1.1 hw he rfl 0 (by decide) (X.2.2.2.2.1 _ fl_X6_192) hv hdg kk
theorem gf_X3_16 (X : mm_Cx p s m args meth c G RX3 cc nL rt) (hw : mm_W G.1 vwCl A H0 M H locs) {fs : List Value} (he : M a = some (.inr (3, fs))) {v : Value} (hv : fs[1]? = some v) (hdg : decode cc pc = .ok (.getfield 16, 3)) (kk : W p l e R s m args below meth c H locs cells slots Q (F0 m (pc + 3) ls (v :: rest))) : W p l e R s m args below meth c H locs cells slots Q (F0 m pc ls (.ref a :: rest)) := mm_get X.1 X.2.1 X.2.2.2.2.1 hin_X3 X.2.2.2.1 X.2.2.2.2.2.1.1 hw he rfl 1 (by decide) (X.2.2.2.2.1 _ fl_X3_16) hv hdg kk
theorem pf_X3_16 (X : mm_Cx p s m args meth c G RX3 cc nL rt) (hin : meth.name = "<init>") (hw : mm_W G.1 vwCl A H0 M H locs) {fs : List Value} (he : M a = some (.inr (3, fs))) {x : Int64} (hl : 1 < fs.length) (hdg : decode cc pc = .ok (.putfield 16, 3)) (kk : ∀ (H1 : Heap) (locs1 : List Loc), mm_W G.1 vwCl A H0 (mm_up M a (.inr (3, fs.set 1 (.long x)))) H1 locs1 → W p l e R s m args below meth c H1 locs1 cells slots Q (F0 m (pc + 3) ls rest)) : W p l e R s m args below meth c H locs cells slots Q (F0 m pc ls (.long x :: .ref a :: rest)) := mm_putF X.1 X.2.1 X.2.2.2.2.1 hin_X3 tyX3 tyX3_ok nmX3 X.2.2.2.1 X.2.2.2.2.2.1.1 hw he rfl 1 (by decide) (X.2.2.2.2.1 _ fl_X3_16) rfl hin rfl rfl rfl hl hdg kk
theorem gf_X6_226 (X : mm_Cx p s m args meth c G RX6 cc nL rt) (hw : mm_W G.1 vwCl A H0 M H locs) {fs : List Value} (he : M a = some (.inr (3, fs))) {v : Value} (hv : fs[1]? = some v) (hdg : decode cc pc = .ok (.getfield 226, 3)) (kk : W p l e R s m args below meth c H locs cells slots Q (F0 m (pc + 3) ls (v :: rest))) : W p l e R s m args below meth c H locs cells slots Q (F0 m pc ls (.ref a :: rest)) := mm_get X.1 X.2.1 X.2.2.2.2.1 hin_X3 X.2.2.2.1 X.2.2.2.2.2.1.1 hw he rfl 1 (by decide) (X.2.2.2.2.1 _ fl_X6_226) hv hdg kk
theorem gf_X3_20 (X : mm_Cx p s m args meth c G RX3 cc nL rt) (hw : mm_W G.1 vwCl A H0 M H locs) {fs : List Value} (he : M a = some (.inr (3, fs))) {v : Value} (hv : fs[2]? = some v) (hdg : decode cc pc = .ok (.getfield 20, 3)) (kk : W p l e R s m args below meth c H locs cells slots Q (F0 m (pc + 3) ls (v :: rest))) : W p l e R s m args below meth c H locs cells slots Q (F0 m pc ls (.ref a :: rest)) := mm_get X.1 X.2.1 X.2.2.2.2.1 hin_X3 X.2.2.2.1 X.2.2.2.2.2.1.1 hw he rfl 2 (by decide) (X.2.2.2.2.1 _ fl_X3_20) hv hdg kk
theorem pf_X3_20 (X : mm_Cx p s m args meth c G RX3 cc nL rt) (hin : meth.name = "<init>") (hw : mm_W G.1 vwCl A H0 M H locs) {fs : List Value} (he : M a = some (.inr (3, fs))) {x : Int32} (hl : 2 < fs.length) (hdg : decode cc pc = .ok (.putfield 20, 3)) (kk : ∀ (H1 : Heap) (locs1 : List Loc), mm_W G.1 vwCl A H0 (mm_up M a (.inr (3, fs.set 2 (.int x)))) H1 locs1 → W p l e R s m args below meth c H1 locs1 cells slots Q (F0 m (pc + 3) ls rest)) : W p l e R s m args below meth c H locs cells slots Q (F0 m pc ls (.int x :: .ref a :: rest)) := mm_putF X.1 X.2.1 X.2.2.2.2.1 hin_X3 tyX3 tyX3_ok nmX3 X.2.2.2.1 X.2.2.2.2.2.1.1 hw he rfl 2 (by decide) (X.2.2.2.2.1 _ fl_X3_20) rfl hin rfl rfl rfl hl hdg kk
theorem gf_X6_230 (X : mm_Cx p s m args meth c G RX6 cc nL rt) (hw : mm_W G.1 vwCl A H0 M H locs) {fs : List Value} (he : M a = some (.inr (3, fs))) {v : Value} (hv : fs[2]? = some v) (hdg : decode cc pc = .ok (.getfield 230, 3)) (kk : W p l e R s m args below meth c H locs cells slots Q (F0 m (pc + 3) ls (v :: rest))) : W p l e R s m args below meth c H locs cells slots Q (F0 m pc ls (.ref a :: rest)) := mm_get X.1 X.2.1 X.2.2.2.2.1 hin_X3 X.2.2.2.1 X.2.2.2.2.2.1.1 hw he rfl 2 (by decide) (X.2.2.2.2.1 _ fl_X6_230) hv hdg kk
theorem gf_X3_23 (X : mm_Cx p s m args meth c G RX3 cc nL rt) (hw : mm_W G.1 vwCl A H0 M H locs) {fs : List Value} (he : M a = some (.inr (3, fs))) {v : Value} (hv : fs[3]? = some v) (hdg : decode cc pc = .ok (.getfield 23, 3)) (kk : W p l e R s m args below meth c H locs cells slots Q (F0 m (pc + 3) ls (v :: rest))) : W p l e R s m args below meth c H locs cells slots Q (F0 m pc ls (.ref a :: rest)) := mm_get X.1 X.2.1 X.2.2.2.2.1 hin_X3 X.2.2.2.1 X.2.2.2.2.2.1.1 hw he rfl 3 (by decide) (X.2.2.2.2.1 _ fl_X3_23) hv hdg kk
theorem pf_X3_23 (X : mm_Cx p s m args meth c G RX3 cc nL rt) (hin : meth.name = "<init>") (hw : mm_W G.1 vwCl A H0 M H locs) {fs : List Value} (he : M a = some (.inr (3, fs))) {x : Int32} (hl : 3 < fs.length) (hdg : decode cc pc = .ok (.putfield 23, 3)) (kk : ∀ (H1 : Heap) (locs1 : List Loc), mm_W G.1 vwCl A H0 (mm_up M a (.inr (3, fs.set 3 (.int x)))) H1 locs1 → W p l e R s m args below meth c H1 locs1 cells slots Q (F0 m (pc + 3) ls rest)) : W p l e R s m args below meth c H locs cells slots Q (F0 m pc ls (.int x :: .ref a :: rest)) := mm_putF X.1 X.2.1 X.2.2.2.2.1 hin_X3 tyX3 tyX3_ok nmX3 X.2.2.2.1 X.2.2.2.2.2.1.1 hw he rfl 3 (by decide) (X.2.2.2.2.1 _ fl_X3_23) rfl hin rfl rfl rfl hl hdg kk
theorem gf_X6_195 (X : mm_Cx p s m args meth c G RX6 cc nL rt) (hw : mm_W G.1 vwCl A H0 M H locs) {fs : List Value} (he : M a = some (.inr (3, fs))) {v : Value} (hv : fs[3]? = some v) (hdg : decode cc pc = .ok (.getfield 195, 3)) (kk : W p l e R s m args below meth c H locs cells slots Q (F0 m (pc + 3) ls (v :: rest))) : W p l e R s m args below meth c H locs cells slots Q (F0 m pc ls (.ref a :: rest)) := mm_get X.1 X.2.1 X.2.2.2.2.1 hin_X3 X.2.2.2.1 X.2.2.2.2.2.1.1 hw he rfl 3 (by decide) (X.2.2.2.2.1 _ fl_X6_195) hv hdg kk
theorem gf_X3_7 (X : mm_Cx p s m args meth c G RX3 cc nL rt) (hw : mm_W G.1 vwCl A H0 M H locs) {fs : List Value} (he : M a = some (.inr (3, fs))) {v : Value} (hv : fs[4]? = some v) (hdg : decode cc pc = .ok (.getfield 7, 3)) (kk : W p l e R s m args below meth c H locs cells slots Q (F0 m (pc + 3) ls (v :: rest))) : W p l e R s m args below meth c H locs cells slots Q (F0 m pc ls (.ref a :: rest)) := mm_get X.1 X.2.1 X.2.2.2.2.1 hin_X3 X.2.2.2.1 X.2.2.2.2.2.1.1 hw he rfl 4 (by decide) (X.2.2.2.2.1 _ fl_X3_7) hv hdg kk
theorem pf_X3_7 (X : mm_Cx p s m args meth c G RX3 cc nL rt) (hw : mm_W G.1 vwCl A H0 M H locs) {fs : List Value} (he : M a = some (.inr (3, fs))) {x : Int32} (hl : 4 < fs.length) (hdg : decode cc pc = .ok (.putfield 7, 3)) (kk : ∀ (H1 : Heap) (locs1 : List Loc), mm_W G.1 vwCl A H0 (mm_up M a (.inr (3, fs.set 4 (.int x)))) H1 locs1 → W p l e R s m args below meth c H1 locs1 cells slots Q (F0 m (pc + 3) ls rest)) : W p l e R s m args below meth c H locs cells slots Q (F0 m pc ls (.int x :: .ref a :: rest)) := mm_put X.1 X.2.1 X.2.2.2.2.1 hin_X3 tyX3 tyX3_ok nmX3 X.2.2.2.1 X.2.2.2.2.2.1.1 hw he rfl 4 (by decide) (X.2.2.2.2.1 _ fl_X3_7) rfl rfl rfl hl hdg kk
theorem gf_X6_175 (X : mm_Cx p s m args meth c G RX6 cc nL rt) (hw : mm_W G.1 vwCl A H0 M H locs) {fs : List Value} (he : M a = some (.inr (3, fs))) {v : Value} (hv : fs[4]? = some v) (hdg : decode cc pc = .ok (.getfield 175, 3)) (kk : W p l e R s m args below meth c H locs cells slots Q (F0 m (pc + 3) ls (v :: rest))) : W p l e R s m args below meth c H locs cells slots Q (F0 m pc ls (.ref a :: rest)) := mm_get X.1 X.2.1 X.2.2.2.2.1 hin_X3 X.2.2.2.1 X.2.2.2.2.2.1.1 hw he rfl 4 (by decide) (X.2.2.2.2.1 _ fl_X6_175) hv hdg kk
theorem pf_X6_175 (X : mm_Cx p s m args meth c G RX6 cc nL rt) (hw : mm_W G.1 vwCl A H0 M H locs) {fs : List Value} (he : M a = some (.inr (3, fs))) {x : Int32} (hl : 4 < fs.length) (hdg : decode cc pc = .ok (.putfield 175, 3)) (kk : ∀ (H1 : Heap) (locs1 : List Loc), mm_W G.1 vwCl A H0 (mm_up M a (.inr (3, fs.set 4 (.int x)))) H1 locs1 → W p l e R s m args below meth c H1 locs1 cells slots Q (F0 m (pc + 3) ls rest)) : W p l e R s m args below meth c H locs cells slots Q (F0 m pc ls (.int x :: .ref a :: rest)) := mm_put X.1 X.2.1 X.2.2.2.2.1 hin_X3 tyX3 tyX3_ok nmX3 X.2.2.2.1 X.2.2.2.2.2.1.1 hw he rfl 4 (by decide) (X.2.2.2.2.1 _ fl_X6_175) rfl rfl rfl hl hdg kk
theorem gf_X7_7 (X : mm_Cx p s m args meth c G RX7 cc nL rt) (hw : mm_W G.1 vwCl A H0 M H locs) {fs : List Value} (he : M a = some (.inr (7, fs))) {v : Value} (hv : fs[0]? = some v) (hdg : decode cc pc = .ok (.getfield 7, 3)) (kk : W p l e R s m args below meth c H locs cells slots Q (F0 m (pc + 3) ls (v :: rest))) : W p l e R s m args below meth c H locs cells slots Q (F0 m pc ls (.ref a :: rest)) := mm_get X.1 X.2.1 X.2.2.2.2.1 hin_X7 X.2.2.2.1 X.2.2.2.2.2.1.1 hw he rfl 0 (by decide) (X.2.2.2.2.1 _ fl_X7_7) hv hdg kk
theorem pf_X7_7 (X : mm_Cx p s m args meth c G RX7 cc nL rt) (hw : mm_W G.1 vwCl A H0 M H locs) {fs : List Value} (he : M a = some (.inr (7, fs))) {x : Int32} (hl : 0 < fs.length) (hdg : decode cc pc = .ok (.putfield 7, 3)) (kk : ∀ (H1 : Heap) (locs1 : List Loc), mm_W G.1 vwCl A H0 (mm_up M a (.inr (7, fs.set 0 (.int x)))) H1 locs1 → W p l e R s m args below meth c H1 locs1 cells slots Q (F0 m (pc + 3) ls rest)) : W p l e R s m args below meth c H locs cells slots Q (F0 m pc ls (.int x :: .ref a :: rest)) := mm_put X.1 X.2.1 X.2.2.2.2.1 hin_X7 tyX7 tyX7_ok nmX7 X.2.2.2.1 X.2.2.2.2.2.1.1 hw he rfl 0 (by decide) (X.2.2.2.2.1 _ fl_X7_7) rfl rfl rfl hl hdg kk
theorem gf_X7_13 (X : mm_Cx p s m args meth c G RX7 cc nL rt) (hw : mm_W G.1 vwCl A H0 M H locs) {fs : List Value} (he : M a = some (.inr (7, fs))) {v : Value} (hv : fs[1]? = some v) (hdg : decode cc pc = .ok (.getfield 13, 3)) (kk : W p l e R s m args below meth c H locs cells slots Q (F0 m (pc + 3) ls (v :: rest))) : W p l e R s m args below meth c H locs cells slots Q (F0 m pc ls (.ref a :: rest)) := mm_get X.1 X.2.1 X.2.2.2.2.1 hin_X7 X.2.2.2.1 X.2.2.2.2.2.1.1 hw he rfl 1 (by decide) (X.2.2.2.2.1 _ fl_X7_13) hv hdg kk
theorem pf_X7_13 (X : mm_Cx p s m args meth c G RX7 cc nL rt) (hin : meth.name = "<init>") (hw : mm_W G.1 vwCl A H0 M H locs) {fs : List Value} (he : M a = some (.inr (7, fs))) {x : Nat} (hl : 1 < fs.length) (hdg : decode cc pc = .ok (.putfield 13, 3)) (kk : ∀ (H1 : Heap) (locs1 : List Loc), mm_W G.1 vwCl A H0 (mm_up M a (.inr (7, fs.set 1 (.ref x)))) H1 locs1 → W p l e R s m args below meth c H1 locs1 cells slots Q (F0 m (pc + 3) ls rest)) : W p l e R s m args below meth c H locs cells slots Q (F0 m pc ls (.ref x :: .ref a :: rest)) := mm_putF X.1 X.2.1 X.2.2.2.2.1 hin_X7 tyX7 tyX7_ok nmX7 X.2.2.2.1 X.2.2.2.2.2.1.1 hw he rfl 1 (by decide) (X.2.2.2.2.1 _ fl_X7_13) rfl hin rfl rfl rfl hl hdg kk
theorem gf_X7_17 (X : mm_Cx p s m args meth c G RX7 cc nL rt) (hw : mm_W G.1 vwCl A H0 M H locs) {fs : List Value} (he : M a = some (.inr (7, fs))) {v : Value} (hv : fs[2]? = some v) (hdg : decode cc pc = .ok (.getfield 17, 3)) (kk : W p l e R s m args below meth c H locs cells slots Q (F0 m (pc + 3) ls (v :: rest))) : W p l e R s m args below meth c H locs cells slots Q (F0 m pc ls (.ref a :: rest)) := mm_get X.1 X.2.1 X.2.2.2.2.1 hin_X7 X.2.2.2.1 X.2.2.2.2.2.1.1 hw he rfl 2 (by decide) (X.2.2.2.2.1 _ fl_X7_17) hv hdg kk
theorem pf_X7_17 (X : mm_Cx p s m args meth c G RX7 cc nL rt) (hin : meth.name = "<init>") (hw : mm_W G.1 vwCl A H0 M H locs) {fs : List Value} (he : M a = some (.inr (7, fs))) {x : Nat} (hl : 2 < fs.length) (hdg : decode cc pc = .ok (.putfield 17, 3)) (kk : ∀ (H1 : Heap) (locs1 : List Loc), mm_W G.1 vwCl A H0 (mm_up M a (.inr (7, fs.set 2 (.ref x)))) H1 locs1 → W p l e R s m args below meth c H1 locs1 cells slots Q (F0 m (pc + 3) ls rest)) : W p l e R s m args below meth c H locs cells slots Q (F0 m pc ls (.ref x :: .ref a :: rest)) := mm_putF X.1 X.2.1 X.2.2.2.2.1 hin_X7 tyX7 tyX7_ok nmX7 X.2.2.2.1 X.2.2.2.2.2.1.1 hw he rfl 2 (by decide) (X.2.2.2.2.1 _ fl_X7_17) rfl hin rfl rfl rfl hl hdg kk
theorem gf_X7_20 (X : mm_Cx p s m args meth c G RX7 cc nL rt) (hw : mm_W G.1 vwCl A H0 M H locs) {fs : List Value} (he : M a = some (.inr (7, fs))) {v : Value} (hv : fs[3]? = some v) (hdg : decode cc pc = .ok (.getfield 20, 3)) (kk : W p l e R s m args below meth c H locs cells slots Q (F0 m (pc + 3) ls (v :: rest))) : W p l e R s m args below meth c H locs cells slots Q (F0 m pc ls (.ref a :: rest)) := mm_get X.1 X.2.1 X.2.2.2.2.1 hin_X7 X.2.2.2.1 X.2.2.2.2.2.1.1 hw he rfl 3 (by decide) (X.2.2.2.2.1 _ fl_X7_20) hv hdg kk
theorem pf_X7_20 (X : mm_Cx p s m args meth c G RX7 cc nL rt) (hin : meth.name = "<init>") (hw : mm_W G.1 vwCl A H0 M H locs) {fs : List Value} (he : M a = some (.inr (7, fs))) {x : Nat} (hl : 3 < fs.length) (hdg : decode cc pc = .ok (.putfield 20, 3)) (kk : ∀ (H1 : Heap) (locs1 : List Loc), mm_W G.1 vwCl A H0 (mm_up M a (.inr (7, fs.set 3 (.ref x)))) H1 locs1 → W p l e R s m args below meth c H1 locs1 cells slots Q (F0 m (pc + 3) ls rest)) : W p l e R s m args below meth c H locs cells slots Q (F0 m pc ls (.ref x :: .ref a :: rest)) := mm_putF X.1 X.2.1 X.2.2.2.2.1 hin_X7 tyX7 tyX7_ok nmX7 X.2.2.2.1 X.2.2.2.2.2.1.1 hw he rfl 3 (by decide) (X.2.2.2.2.1 _ fl_X7_20) rfl hin rfl rfl rfl hl hdg kk
theorem gf_X7_23 (X : mm_Cx p s m args meth c G RX7 cc nL rt) (hw : mm_W G.1 vwCl A H0 M H locs) {fs : List Value} (he : M a = some (.inr (7, fs))) {v : Value} (hv : fs[4]? = some v) (hdg : decode cc pc = .ok (.getfield 23, 3)) (kk : W p l e R s m args below meth c H locs cells slots Q (F0 m (pc + 3) ls (v :: rest))) : W p l e R s m args below meth c H locs cells slots Q (F0 m pc ls (.ref a :: rest)) := mm_get X.1 X.2.1 X.2.2.2.2.1 hin_X7 X.2.2.2.1 X.2.2.2.2.2.1.1 hw he rfl 4 (by decide) (X.2.2.2.2.1 _ fl_X7_23) hv hdg kk
theorem pf_X7_23 (X : mm_Cx p s m args meth c G RX7 cc nL rt) (hin : meth.name = "<init>") (hw : mm_W G.1 vwCl A H0 M H locs) {fs : List Value} (he : M a = some (.inr (7, fs))) {x : Nat} (hl : 4 < fs.length) (hdg : decode cc pc = .ok (.putfield 23, 3)) (kk : ∀ (H1 : Heap) (locs1 : List Loc), mm_W G.1 vwCl A H0 (mm_up M a (.inr (7, fs.set 4 (.ref x)))) H1 locs1 → W p l e R s m args below meth c H1 locs1 cells slots Q (F0 m (pc + 3) ls rest)) : W p l e R s m args below meth c H locs cells slots Q (F0 m pc ls (.ref x :: .ref a :: rest)) := mm_putF X.1 X.2.1 X.2.2.2.2.1 hin_X7 tyX7 tyX7_ok nmX7 X.2.2.2.1 X.2.2.2.2.2.1.1 hw he rfl 4 (by decide) (X.2.2.2.2.1 _ fl_X7_23) rfl hin rfl rfl rfl hl hdg kk
theorem gf_X7_99 (X : mm_Cx p s m args meth c G RX7 cc nL rt) (hw : mm_W G.1 vwCl A H0 M H locs) {fs : List Value} (he : M a = some (.inr (7, fs))) {v : Value} (hv : fs[5]? = some v) (hdg : decode cc pc = .ok (.getfield 99, 3)) (kk : W p l e R s m args below meth c H locs cells slots Q (F0 m (pc + 3) ls (v :: rest))) : W p l e R s m args below meth c H locs cells slots Q (F0 m pc ls (.ref a :: rest)) := mm_get X.1 X.2.1 X.2.2.2.2.1 hin_X7 X.2.2.2.1 X.2.2.2.2.2.1.1 hw he rfl 5 (by decide) (X.2.2.2.2.1 _ fl_X7_99) hv hdg kk
theorem pf_X7_99 (X : mm_Cx p s m args meth c G RX7 cc nL rt) (hw : mm_W G.1 vwCl A H0 M H locs) {fs : List Value} (he : M a = some (.inr (7, fs))) {x : Int32} (hl : 5 < fs.length) (hdg : decode cc pc = .ok (.putfield 99, 3)) (kk : ∀ (H1 : Heap) (locs1 : List Loc), mm_W G.1 vwCl A H0 (mm_up M a (.inr (7, fs.set 5 (.int x)))) H1 locs1 → W p l e R s m args below meth c H1 locs1 cells slots Q (F0 m (pc + 3) ls rest)) : W p l e R s m args below meth c H locs cells slots Q (F0 m pc ls (.int x :: .ref a :: rest)) := mm_put X.1 X.2.1 X.2.2.2.2.1 hin_X7 tyX7 tyX7_ok nmX7 X.2.2.2.1 X.2.2.2.2.2.1.1 hw he rfl 5 (by decide) (X.2.2.2.2.1 _ fl_X7_99) rfl rfl rfl hl hdg kk
theorem gf_X7_26 (X : mm_Cx p s m args meth c G RX7 cc nL rt) (hw : mm_W G.1 vwCl A H0 M H locs) {fs : List Value} (he : M a = some (.inr (7, fs))) {v : Value} (hv : fs[6]? = some v) (hdg : decode cc pc = .ok (.getfield 26, 3)) (kk : W p l e R s m args below meth c H locs cells slots Q (F0 m (pc + 3) ls (v :: rest))) : W p l e R s m args below meth c H locs cells slots Q (F0 m pc ls (.ref a :: rest)) := mm_get X.1 X.2.1 X.2.2.2.2.1 hin_X7 X.2.2.2.1 X.2.2.2.2.2.1.1 hw he rfl 6 (by decide) (X.2.2.2.2.1 _ fl_X7_26) hv hdg kk
theorem pf_X7_26 (X : mm_Cx p s m args meth c G RX7 cc nL rt) (hin : meth.name = "<init>") (hw : mm_W G.1 vwCl A H0 M H locs) {fs : List Value} (he : M a = some (.inr (7, fs))) {x : Nat} (hl : 6 < fs.length) (hdg : decode cc pc = .ok (.putfield 26, 3)) (kk : ∀ (H1 : Heap) (locs1 : List Loc), mm_W G.1 vwCl A H0 (mm_up M a (.inr (7, fs.set 6 (.ref x)))) H1 locs1 → W p l e R s m args below meth c H1 locs1 cells slots Q (F0 m (pc + 3) ls rest)) : W p l e R s m args below meth c H locs cells slots Q (F0 m pc ls (.ref x :: .ref a :: rest)) := mm_putF X.1 X.2.1 X.2.2.2.2.1 hin_X7 tyX7 tyX7_ok nmX7 X.2.2.2.1 X.2.2.2.2.2.1.1 hw he rfl 6 (by decide) (X.2.2.2.2.1 _ fl_X7_26) rfl hin rfl rfl rfl hl hdg kk
theorem gf_X7_86 (X : mm_Cx p s m args meth c G RX7 cc nL rt) (hw : mm_W G.1 vwCl A H0 M H locs) {fs : List Value} (he : M a = some (.inr (7, fs))) {v : Value} (hv : fs[7]? = some v) (hdg : decode cc pc = .ok (.getfield 86, 3)) (kk : W p l e R s m args below meth c H locs cells slots Q (F0 m (pc + 3) ls (v :: rest))) : W p l e R s m args below meth c H locs cells slots Q (F0 m pc ls (.ref a :: rest)) := mm_get X.1 X.2.1 X.2.2.2.2.1 hin_X7 X.2.2.2.1 X.2.2.2.2.2.1.1 hw he rfl 7 (by decide) (X.2.2.2.2.1 _ fl_X7_86) hv hdg kk
theorem pf_X7_86 (X : mm_Cx p s m args meth c G RX7 cc nL rt) (hw : mm_W G.1 vwCl A H0 M H locs) {fs : List Value} (he : M a = some (.inr (7, fs))) {x : Int32} (hl : 7 < fs.length) (hdg : decode cc pc = .ok (.putfield 86, 3)) (kk : ∀ (H1 : Heap) (locs1 : List Loc), mm_W G.1 vwCl A H0 (mm_up M a (.inr (7, fs.set 7 (.int x)))) H1 locs1 → W p l e R s m args below meth c H1 locs1 cells slots Q (F0 m (pc + 3) ls rest)) : W p l e R s m args below meth c H locs cells slots Q (F0 m pc ls (.int x :: .ref a :: rest)) := mm_put X.1 X.2.1 X.2.2.2.2.1 hin_X7 tyX7 tyX7_ok nmX7 X.2.2.2.1 X.2.2.2.2.2.1.1 hw he rfl 7 (by decide) (X.2.2.2.2.1 _ fl_X7_86) rfl rfl rfl hl hdg kk
theorem gf_X7_29 (X : mm_Cx p s m args meth c G RX7 cc nL rt) (hw : mm_W G.1 vwCl A H0 M H locs) {fs : List Value} (he : M a = some (.inr (7, fs))) {v : Value} (hv : fs[8]? = some v) (hdg : decode cc pc = .ok (.getfield 29, 3)) (kk : W p l e R s m args below meth c H locs cells slots Q (F0 m (pc + 3) ls (v :: rest))) : W p l e R s m args below meth c H locs cells slots Q (F0 m pc ls (.ref a :: rest)) := mm_get X.1 X.2.1 X.2.2.2.2.1 hin_X7 X.2.2.2.1 X.2.2.2.2.2.1.1 hw he rfl 8 (by decide) (X.2.2.2.2.1 _ fl_X7_29) hv hdg kk
theorem pf_X7_29 (X : mm_Cx p s m args meth c G RX7 cc nL rt) (hin : meth.name = "<init>") (hw : mm_W G.1 vwCl A H0 M H locs) {fs : List Value} (he : M a = some (.inr (7, fs))) {x : Nat} (hl : 8 < fs.length) (hdg : decode cc pc = .ok (.putfield 29, 3)) (kk : ∀ (H1 : Heap) (locs1 : List Loc), mm_W G.1 vwCl A H0 (mm_up M a (.inr (7, fs.set 8 (.ref x)))) H1 locs1 → W p l e R s m args below meth c H1 locs1 cells slots Q (F0 m (pc + 3) ls rest)) : W p l e R s m args below meth c H locs cells slots Q (F0 m pc ls (.ref x :: .ref a :: rest)) := mm_putF X.1 X.2.1 X.2.2.2.2.1 hin_X7 tyX7 tyX7_ok nmX7 X.2.2.2.1 X.2.2.2.2.2.1.1 hw he rfl 8 (by decide) (X.2.2.2.2.1 _ fl_X7_29) rfl hin rfl rfl rfl hl hdg kk
theorem gf_X7_32 (X : mm_Cx p s m args meth c G RX7 cc nL rt) (hw : mm_W G.1 vwCl A H0 M H locs) {fs : List Value} (he : M a = some (.inr (7, fs))) {v : Value} (hv : fs[9]? = some v) (hdg : decode cc pc = .ok (.getfield 32, 3)) (kk : W p l e R s m args below meth c H locs cells slots Q (F0 m (pc + 3) ls (v :: rest))) : W p l e R s m args below meth c H locs cells slots Q (F0 m pc ls (.ref a :: rest)) := mm_get X.1 X.2.1 X.2.2.2.2.1 hin_X7 X.2.2.2.1 X.2.2.2.2.2.1.1 hw he rfl 9 (by decide) (X.2.2.2.2.1 _ fl_X7_32) hv hdg kk
theorem pf_X7_32 (X : mm_Cx p s m args meth c G RX7 cc nL rt) (hin : meth.name = "<init>") (hw : mm_W G.1 vwCl A H0 M H locs) {fs : List Value} (he : M a = some (.inr (7, fs))) {x : Nat} (hl : 9 < fs.length) (hdg : decode cc pc = .ok (.putfield 32, 3)) (kk : ∀ (H1 : Heap) (locs1 : List Loc), mm_W G.1 vwCl A H0 (mm_up M a (.inr (7, fs.set 9 (.ref x)))) H1 locs1 → W p l e R s m args below meth c H1 locs1 cells slots Q (F0 m (pc + 3) ls rest)) : W p l e R s m args below meth c H locs cells slots Q (F0 m pc ls (.ref x :: .ref a :: rest)) := mm_putF X.1 X.2.1 X.2.2.2.2.1 hin_X7 tyX7 tyX7_ok nmX7 X.2.2.2.1 X.2.2.2.2.2.1.1 hw he rfl 9 (by decide) (X.2.2.2.2.1 _ fl_X7_32) rfl hin rfl rfl rfl hl hdg kk
theorem gf_X7_35 (X : mm_Cx p s m args meth c G RX7 cc nL rt) (hw : mm_W G.1 vwCl A H0 M H locs) {fs : List Value} (he : M a = some (.inr (7, fs))) {v : Value} (hv : fs[10]? = some v) (hdg : decode cc pc = .ok (.getfield 35, 3)) (kk : W p l e R s m args below meth c H locs cells slots Q (F0 m (pc + 3) ls (v :: rest))) : W p l e R s m args below meth c H locs cells slots Q (F0 m pc ls (.ref a :: rest)) := mm_get X.1 X.2.1 X.2.2.2.2.1 hin_X7 X.2.2.2.1 X.2.2.2.2.2.1.1 hw he rfl 10 (by decide) (X.2.2.2.2.1 _ fl_X7_35) hv hdg kk
theorem pf_X7_35 (X : mm_Cx p s m args meth c G RX7 cc nL rt) (hin : meth.name = "<init>") (hw : mm_W G.1 vwCl A H0 M H locs) {fs : List Value} (he : M a = some (.inr (7, fs))) {x : Nat} (hl : 10 < fs.length) (hdg : decode cc pc = .ok (.putfield 35, 3)) (kk : ∀ (H1 : Heap) (locs1 : List Loc), mm_W G.1 vwCl A H0 (mm_up M a (.inr (7, fs.set 10 (.ref x)))) H1 locs1 → W p l e R s m args below meth c H1 locs1 cells slots Q (F0 m (pc + 3) ls rest)) : W p l e R s m args below meth c H locs cells slots Q (F0 m pc ls (.ref x :: .ref a :: rest)) := mm_putF X.1 X.2.1 X.2.2.2.2.1 hin_X7 tyX7 tyX7_ok nmX7 X.2.2.2.1 X.2.2.2.2.2.1.1 hw he rfl 10 (by decide) (X.2.2.2.2.1 _ fl_X7_35) rfl hin rfl rfl rfl hl hdg kk
theorem gf_X7_38 (X : mm_Cx p s m args meth c G RX7 cc nL rt) (hw : mm_W G.1 vwCl A H0 M H locs) {fs : List Value} (he : M a = some (.inr (7, fs))) {v : Value} (hv : fs[11]? = some v) (hdg : decode cc pc = .ok (.getfield 38, 3)) (kk : W p l e R s m args below meth c H locs cells slots Q (F0 m (pc + 3) ls (v :: rest))) : W p l e R s m args below meth c H locs cells slots Q (F0 m pc ls (.ref a :: rest)) := mm_get X.1 X.2.1 X.2.2.2.2.1 hin_X7 X.2.2.2.1 X.2.2.2.2.2.1.1 hw he rfl 11 (by decide) (X.2.2.2.2.1 _ fl_X7_38) hv hdg kk
theorem pf_X7_38 (X : mm_Cx p s m args meth c G RX7 cc nL rt) (hin : meth.name = "<init>") (hw : mm_W G.1 vwCl A H0 M H locs) {fs : List Value} (he : M a = some (.inr (7, fs))) {x : Nat} (hl : 11 < fs.length) (hdg : decode cc pc = .ok (.putfield 38, 3)) (kk : ∀ (H1 : Heap) (locs1 : List Loc), mm_W G.1 vwCl A H0 (mm_up M a (.inr (7, fs.set 11 (.ref x)))) H1 locs1 → W p l e R s m args below meth c H1 locs1 cells slots Q (F0 m (pc + 3) ls rest)) : W p l e R s m args below meth c H locs cells slots Q (F0 m pc ls (.ref x :: .ref a :: rest)) := mm_putF X.1 X.2.1 X.2.2.2.2.1 hin_X7 tyX7 tyX7_ok nmX7 X.2.2.2.1 X.2.2.2.2.2.1.1 hw he rfl 11 (by decide) (X.2.2.2.2.1 _ fl_X7_38) rfl hin rfl rfl rfl hl hdg kk
theorem gf_X7_89 (X : mm_Cx p s m args meth c G RX7 cc nL rt) (hw : mm_W G.1 vwCl A H0 M H locs) {fs : List Value} (he : M a = some (.inr (7, fs))) {v : Value} (hv : fs[12]? = some v) (hdg : decode cc pc = .ok (.getfield 89, 3)) (kk : W p l e R s m args below meth c H locs cells slots Q (F0 m (pc + 3) ls (v :: rest))) : W p l e R s m args below meth c H locs cells slots Q (F0 m pc ls (.ref a :: rest)) := mm_get X.1 X.2.1 X.2.2.2.2.1 hin_X7 X.2.2.2.1 X.2.2.2.2.2.1.1 hw he rfl 12 (by decide) (X.2.2.2.2.1 _ fl_X7_89) hv hdg kk
theorem pf_X7_89 (X : mm_Cx p s m args meth c G RX7 cc nL rt) (hw : mm_W G.1 vwCl A H0 M H locs) {fs : List Value} (he : M a = some (.inr (7, fs))) {x : Int32} (hl : 12 < fs.length) (hdg : decode cc pc = .ok (.putfield 89, 3)) (kk : ∀ (H1 : Heap) (locs1 : List Loc), mm_W G.1 vwCl A H0 (mm_up M a (.inr (7, fs.set 12 (.int x)))) H1 locs1 → W p l e R s m args below meth c H1 locs1 cells slots Q (F0 m (pc + 3) ls rest)) : W p l e R s m args below meth c H locs cells slots Q (F0 m pc ls (.int x :: .ref a :: rest)) := mm_put X.1 X.2.1 X.2.2.2.2.1 hin_X7 tyX7 tyX7_ok nmX7 X.2.2.2.1 X.2.2.2.2.2.1.1 hw he rfl 12 (by decide) (X.2.2.2.2.1 _ fl_X7_89) rfl rfl rfl hl hdg kk
theorem gf_X7_42 (X : mm_Cx p s m args meth c G RX7 cc nL rt) (hw : mm_W G.1 vwCl A H0 M H locs) {fs : List Value} (he : M a = some (.inr (7, fs))) {v : Value} (hv : fs[13]? = some v) (hdg : decode cc pc = .ok (.getfield 42, 3)) (kk : W p l e R s m args below meth c H locs cells slots Q (F0 m (pc + 3) ls (v :: rest))) : W p l e R s m args below meth c H locs cells slots Q (F0 m pc ls (.ref a :: rest)) := mm_get X.1 X.2.1 X.2.2.2.2.1 hin_X7 X.2.2.2.1 X.2.2.2.2.2.1.1 hw he rfl 13 (by decide) (X.2.2.2.2.1 _ fl_X7_42) hv hdg kk
theorem pf_X7_42 (X : mm_Cx p s m args meth c G RX7 cc nL rt) (hin : meth.name = "<init>") (hw : mm_W G.1 vwCl A H0 M H locs) {fs : List Value} (he : M a = some (.inr (7, fs))) {x : Nat} (hl : 13 < fs.length) (hdg : decode cc pc = .ok (.putfield 42, 3)) (kk : ∀ (H1 : Heap) (locs1 : List Loc), mm_W G.1 vwCl A H0 (mm_up M a (.inr (7, fs.set 13 (.ref x)))) H1 locs1 → W p l e R s m args below meth c H1 locs1 cells slots Q (F0 m (pc + 3) ls rest)) : W p l e R s m args below meth c H locs cells slots Q (F0 m pc ls (.ref x :: .ref a :: rest)) := mm_putF X.1 X.2.1 X.2.2.2.2.1 hin_X7 tyX7 tyX7_ok nmX7 X.2.2.2.1 X.2.2.2.2.2.1.1 hw he rfl 13 (by decide) (X.2.2.2.2.1 _ fl_X7_42) rfl hin rfl rfl rfl hl hdg kk
theorem gf_X7_45 (X : mm_Cx p s m args meth c G RX7 cc nL rt) (hw : mm_W G.1 vwCl A H0 M H locs) {fs : List Value} (he : M a = some (.inr (7, fs))) {v : Value} (hv : fs[14]? = some v) (hdg : decode cc pc = .ok (.getfield 45, 3)) (kk : W p l e R s m args below meth c H locs cells slots Q (F0 m (pc + 3) ls (v :: rest))) : W p l e R s m args below meth c H locs cells slots Q (F0 m pc ls (.ref a :: rest)) := mm_get X.1 X.2.1 X.2.2.2.2.1 hin_X7 X.2.2.2.1 X.2.2.2.2.2.1.1 hw he rfl 14 (by decide) (X.2.2.2.2.1 _ fl_X7_45) hv hdg kk
theorem pf_X7_45 (X : mm_Cx p s m args meth c G RX7 cc nL rt) (hin : meth.name = "<init>") (hw : mm_W G.1 vwCl A H0 M H locs) {fs : List Value} (he : M a = some (.inr (7, fs))) {x : Nat} (hl : 14 < fs.length) (hdg : decode cc pc = .ok (.putfield 45, 3)) (kk : ∀ (H1 : Heap) (locs1 : List Loc), mm_W G.1 vwCl A H0 (mm_up M a (.inr (7, fs.set 14 (.ref x)))) H1 locs1 → W p l e R s m args below meth c H1 locs1 cells slots Q (F0 m (pc + 3) ls rest)) : W p l e R s m args below meth c H locs cells slots Q (F0 m pc ls (.ref x :: .ref a :: rest)) := mm_putF X.1 X.2.1 X.2.2.2.2.1 hin_X7 tyX7 tyX7_ok nmX7 X.2.2.2.1 X.2.2.2.2.2.1.1 hw he rfl 14 (by decide) (X.2.2.2.2.1 _ fl_X7_45) rfl hin rfl rfl rfl hl hdg kk
theorem gf_X7_48 (X : mm_Cx p s m args meth c G RX7 cc nL rt) (hw : mm_W G.1 vwCl A H0 M H locs) {fs : List Value} (he : M a = some (.inr (7, fs))) {v : Value} (hv : fs[15]? = some v) (hdg : decode cc pc = .ok (.getfield 48, 3)) (kk : W p l e R s m args below meth c H locs cells slots Q (F0 m (pc + 3) ls (v :: rest))) : W p l e R s m args below meth c H locs cells slots Q (F0 m pc ls (.ref a :: rest)) := mm_get X.1 X.2.1 X.2.2.2.2.1 hin_X7 X.2.2.2.1 X.2.2.2.2.2.1.1 hw he rfl 15 (by decide) (X.2.2.2.2.1 _ fl_X7_48) hv hdg kk
theorem pf_X7_48 (X : mm_Cx p s m args meth c G RX7 cc nL rt) (hin : meth.name = "<init>") (hw : mm_W G.1 vwCl A H0 M H locs) {fs : List Value} (he : M a = some (.inr (7, fs))) {x : Nat} (hl : 15 < fs.length) (hdg : decode cc pc = .ok (.putfield 48, 3)) (kk : ∀ (H1 : Heap) (locs1 : List Loc), mm_W G.1 vwCl A H0 (mm_up M a (.inr (7, fs.set 15 (.ref x)))) H1 locs1 → W p l e R s m args below meth c H1 locs1 cells slots Q (F0 m (pc + 3) ls rest)) : W p l e R s m args below meth c H locs cells slots Q (F0 m pc ls (.ref x :: .ref a :: rest)) := mm_putF X.1 X.2.1 X.2.2.2.2.1 hin_X7 tyX7 tyX7_ok nmX7 X.2.2.2.1 X.2.2.2.2.2.1.1 hw he rfl 15 (by decide) (X.2.2.2.2.1 _ fl_X7_48) rfl hin rfl rfl rfl hl hdg kk
theorem gf_X7_51 (X : mm_Cx p s m args meth c G RX7 cc nL rt) (hw : mm_W G.1 vwCl A H0 M H locs) {fs : List Value} (he : M a = some (.inr (7, fs))) {v : Value} (hv : fs[16]? = some v) (hdg : decode cc pc = .ok (.getfield 51, 3)) (kk : W p l e R s m args below meth c H locs cells slots Q (F0 m (pc + 3) ls (v :: rest))) : W p l e R s m args below meth c H locs cells slots Q (F0 m pc ls (.ref a :: rest)) := mm_get X.1 X.2.1 X.2.2.2.2.1 hin_X7 X.2.2.2.1 X.2.2.2.2.2.1.1 hw he rfl 16 (by decide) (X.2.2.2.2.1 _ fl_X7_51) hv hdg kk
theorem pf_X7_51 (X : mm_Cx p s m args meth c G RX7 cc nL rt) (hin : meth.name = "<init>") (hw : mm_W G.1 vwCl A H0 M H locs) {fs : List Value} (he : M a = some (.inr (7, fs))) {x : Nat} (hl : 16 < fs.length) (hdg : decode cc pc = .ok (.putfield 51, 3)) (kk : ∀ (H1 : Heap) (locs1 : List Loc), mm_W G.1 vwCl A H0 (mm_up M a (.inr (7, fs.set 16 (.ref x)))) H1 locs1 → W p l e R s m args below meth c H1 locs1 cells slots Q (F0 m (pc + 3) ls rest)) : W p l e R s m args below meth c H locs cells slots Q (F0 m pc ls (.ref x :: .ref a :: rest)) := mm_putF X.1 X.2.1 X.2.2.2.2.1 hin_X7 tyX7 tyX7_ok nmX7 X.2.2.2.1 X.2.2.2.2.2.1.1 hw he rfl 16 (by decide) (X.2.2.2.2.1 _ fl_X7_51) rfl hin rfl rfl rfl hl hdg kk
theorem gf_X7_54 (X : mm_Cx p s m args meth c G RX7 cc nL rt) (hw : mm_W G.1 vwCl A H0 M H locs) {fs : List Value} (he : M a = some (.inr (7, fs))) {v : Value} (hv : fs[17]? = some v) (hdg : decode cc pc = .ok (.getfield 54, 3)) (kk : W p l e R s m args below meth c H locs cells slots Q (F0 m (pc + 3) ls (v :: rest))) : W p l e R s m args below meth c H locs cells slots Q (F0 m pc ls (.ref a :: rest)) := mm_get X.1 X.2.1 X.2.2.2.2.1 hin_X7 X.2.2.2.1 X.2.2.2.2.2.1.1 hw he rfl 17 (by decide) (X.2.2.2.2.1 _ fl_X7_54) hv hdg kk
theorem pf_X7_54 (X : mm_Cx p s m args meth c G RX7 cc nL rt) (hin : meth.name = "<init>") (hw : mm_W G.1 vwCl A H0 M H locs) {fs : List Value} (he : M a = some (.inr (7, fs))) {x : Nat} (hl : 17 < fs.length) (hdg : decode cc pc = .ok (.putfield 54, 3)) (kk : ∀ (H1 : Heap) (locs1 : List Loc), mm_W G.1 vwCl A H0 (mm_up M a (.inr (7, fs.set 17 (.ref x)))) H1 locs1 → W p l e R s m args below meth c H1 locs1 cells slots Q (F0 m (pc + 3) ls rest)) : W p l e R s m args below meth c H locs cells slots Q (F0 m pc ls (.ref x :: .ref a :: rest)) := mm_putF X.1 X.2.1 X.2.2.2.2.1 hin_X7 tyX7 tyX7_ok nmX7 X.2.2.2.1 X.2.2.2.2.2.1.1 hw he rfl 17 (by decide) (X.2.2.2.2.1 _ fl_X7_54) rfl hin rfl rfl rfl hl hdg kk
theorem gf_X7_126 (X : mm_Cx p s m args meth c G RX7 cc nL rt) (hw : mm_W G.1 vwCl A H0 M H locs) {fs : List Value} (he : M a = some (.inr (7, fs))) {v : Value} (hv : fs[18]? = some v) (hdg : decode cc pc = .ok (.getfield 126, 3)) (kk : W p l e R s m args below meth c H locs cells slots Q (F0 m (pc + 3) ls (v :: rest))) : W p l e R s m args below meth c H locs cells slots Q (F0 m pc ls (.ref a :: rest)) := mm_get X.1 X.2.1 X.2.2.2.2.1 hin_X7 X.2.2.2.1 X.2.2.2.2.2.1.1 hw he rfl 18 (by decide) (X.2.2.2.2.1 _ fl_X7_126) hv hdg kk
theorem pf_X7_126 (X : mm_Cx p s m args meth c G RX7 cc nL rt) (hw : mm_W G.1 vwCl A H0 M H locs) {fs : List Value} (he : M a = some (.inr (7, fs))) {x : Int32} (hl : 18 < fs.length) (hdg : decode cc pc = .ok (.putfield 126, 3)) (kk : ∀ (H1 : Heap) (locs1 : List Loc), mm_W G.1 vwCl A H0 (mm_up M a (.inr (7, fs.set 18 (.int x)))) H1 locs1 → W p l e R s m args below meth c H1 locs1 cells slots Q (F0 m (pc + 3) ls rest)) : W p l e R s m args below meth c H locs cells slots Q (F0 m pc ls (.int x :: .ref a :: rest)) := mm_put X.1 X.2.1 X.2.2.2.2.1 hin_X7 tyX7 tyX7_ok nmX7 X.2.2.2.1 X.2.2.2.2.2.1.1 hw he rfl 18 (by decide) (X.2.2.2.2.1 _ fl_X7_126) rfl rfl rfl hl hdg kk
theorem gf_X7_58 (X : mm_Cx p s m args meth c G RX7 cc nL rt) (hw : mm_W G.1 vwCl A H0 M H locs) {fs : List Value} (he : M a = some (.inr (7, fs))) {v : Value} (hv : fs[19]? = some v) (hdg : decode cc pc = .ok (.getfield 58, 3)) (kk : W p l e R s m args below meth c H locs cells slots Q (F0 m (pc + 3) ls (v :: rest))) : W p l e R s m args below meth c H locs cells slots Q (F0 m pc ls (.ref a :: rest)) := mm_get X.1 X.2.1 X.2.2.2.2.1 hin_X7 X.2.2.2.1 X.2.2.2.2.2.1.1 hw he rfl 19 (by decide) (X.2.2.2.2.1 _ fl_X7_58) hv hdg kk
theorem pf_X7_58 (X : mm_Cx p s m args meth c G RX7 cc nL rt) (hin : meth.name = "<init>") (hw : mm_W G.1 vwCl A H0 M H locs) {fs : List Value} (he : M a = some (.inr (7, fs))) {x : Nat} (hl : 19 < fs.length) (hdg : decode cc pc = .ok (.putfield 58, 3)) (kk : ∀ (H1 : Heap) (locs1 : List Loc), mm_W G.1 vwCl A H0 (mm_up M a (.inr (7, fs.set 19 (.ref x)))) H1 locs1 → W p l e R s m args below meth c H1 locs1 cells slots Q (F0 m (pc + 3) ls rest)) : W p l e R s m args below meth c H locs cells slots Q (F0 m pc ls (.ref x :: .ref a :: rest)) := mm_putF X.1 X.2.1 X.2.2.2.2.1 hin_X7 tyX7 tyX7_ok nmX7 X.2.2.2.1 X.2.2.2.2.2.1.1 hw he rfl 19 (by decide) (X.2.2.2.2.1 _ fl_X7_58) rfl hin rfl rfl rfl hl hdg kk
theorem gf_X7_61 (X : mm_Cx p s m args meth c G RX7 cc nL rt) (hw : mm_W G.1 vwCl A H0 M H locs) {fs : List Value} (he : M a = some (.inr (7, fs))) {v : Value} (hv : fs[20]? = some v) (hdg : decode cc pc = .ok (.getfield 61, 3)) (kk : W p l e R s m args below meth c H locs cells slots Q (F0 m (pc + 3) ls (v :: rest))) : W p l e R s m args below meth c H locs cells slots Q (F0 m pc ls (.ref a :: rest)) := mm_get X.1 X.2.1 X.2.2.2.2.1 hin_X7 X.2.2.2.1 X.2.2.2.2.2.1.1 hw he rfl 20 (by decide) (X.2.2.2.2.1 _ fl_X7_61) hv hdg kk
theorem pf_X7_61 (X : mm_Cx p s m args meth c G RX7 cc nL rt) (hin : meth.name = "<init>") (hw : mm_W G.1 vwCl A H0 M H locs) {fs : List Value} (he : M a = some (.inr (7, fs))) {x : Nat} (hl : 20 < fs.length) (hdg : decode cc pc = .ok (.putfield 61, 3)) (kk : ∀ (H1 : Heap) (locs1 : List Loc), mm_W G.1 vwCl A H0 (mm_up M a (.inr (7, fs.set 20 (.ref x)))) H1 locs1 → W p l e R s m args below meth c H1 locs1 cells slots Q (F0 m (pc + 3) ls rest)) : W p l e R s m args below meth c H locs cells slots Q (F0 m pc ls (.ref x :: .ref a :: rest)) := mm_putF X.1 X.2.1 X.2.2.2.2.1 hin_X7 tyX7 tyX7_ok nmX7 X.2.2.2.1 X.2.2.2.2.2.1.1 hw he rfl 20 (by decide) (X.2.2.2.2.1 _ fl_X7_61) rfl hin rfl rfl rfl hl hdg kk
theorem gf_X7_64 (X : mm_Cx p s m args meth c G RX7 cc nL rt) (hw : mm_W G.1 vwCl A H0 M H locs) {fs : List Value} (he : M a = some (.inr (7, fs))) {v : Value} (hv : fs[21]? = some v) (hdg : decode cc pc = .ok (.getfield 64, 3)) (kk : W p l e R s m args below meth c H locs cells slots Q (F0 m (pc + 3) ls (v :: rest))) : W p l e R s m args below meth c H locs cells slots Q (F0 m pc ls (.ref a :: rest)) := mm_get X.1 X.2.1 X.2.2.2.2.1 hin_X7 X.2.2.2.1 X.2.2.2.2.2.1.1 hw he rfl 21 (by decide) (X.2.2.2.2.1 _ fl_X7_64) hv hdg kk
theorem pf_X7_64 (X : mm_Cx p s m args meth c G RX7 cc nL rt) (hin : meth.name = "<init>") (hw : mm_W G.1 vwCl A H0 M H locs) {fs : List Value} (he : M a = some (.inr (7, fs))) {x : Nat} (hl : 21 < fs.length) (hdg : decode cc pc = .ok (.putfield 64, 3)) (kk : ∀ (H1 : Heap) (locs1 : List Loc), mm_W G.1 vwCl A H0 (mm_up M a (.inr (7, fs.set 21 (.ref x)))) H1 locs1 → W p l e R s m args below meth c H1 locs1 cells slots Q (F0 m (pc + 3) ls rest)) : W p l e R s m args below meth c H locs cells slots Q (F0 m pc ls (.ref x :: .ref a :: rest)) := mm_putF X.1 X.2.1 X.2.2.2.2.1 hin_X7 tyX7 tyX7_ok nmX7 X.2.2.2.1 X.2.2.2.2.2.1.1 hw he rfl 21 (by decide) (X.2.2.2.2.1 _ fl_X7_64) rfl hin rfl rfl rfl hl hdg kk
theorem gf_X7_67 (X : mm_Cx p s m args meth c G RX7 cc nL rt) (hw : mm_W G.1 vwCl A H0 M H locs) {fs : List Value} (he : M a = some (.inr (7, fs))) {v : Value} (hv : fs[22]? = some v) (hdg : decode cc pc = .ok (.getfield 67, 3)) (kk : W p l e R s m args below meth c H locs cells slots Q (F0 m (pc + 3) ls (v :: rest))) : W p l e R s m args below meth c H locs cells slots Q (F0 m pc ls (.ref a :: rest)) := mm_get X.1 X.2.1 X.2.2.2.2.1 hin_X7 X.2.2.2.1 X.2.2.2.2.2.1.1 hw he rfl 22 (by decide) (X.2.2.2.2.1 _ fl_X7_67) hv hdg kk
theorem pf_X7_67 (X : mm_Cx p s m args meth c G RX7 cc nL rt) (hin : meth.name = "<init>") (hw : mm_W G.1 vwCl A H0 M H locs) {fs : List Value} (he : M a = some (.inr (7, fs))) {x : Nat} (hl : 22 < fs.length) (hdg : decode cc pc = .ok (.putfield 67, 3)) (kk : ∀ (H1 : Heap) (locs1 : List Loc), mm_W G.1 vwCl A H0 (mm_up M a (.inr (7, fs.set 22 (.ref x)))) H1 locs1 → W p l e R s m args below meth c H1 locs1 cells slots Q (F0 m (pc + 3) ls rest)) : W p l e R s m args below meth c H locs cells slots Q (F0 m pc ls (.ref x :: .ref a :: rest)) := mm_putF X.1 X.2.1 X.2.2.2.2.1 hin_X7 tyX7 tyX7_ok nmX7 X.2.2.2.1 X.2.2.2.2.2.1.1 hw he rfl 22 (by decide) (X.2.2.2.2.1 _ fl_X7_67) rfl hin rfl rfl rfl hl hdg kk
theorem gf_X7_70 (X : mm_Cx p s m args meth c G RX7 cc nL rt) (hw : mm_W G.1 vwCl A H0 M H locs) {fs : List Value} (he : M a = some (.inr (7, fs))) {v : Value} (hv : fs[23]? = some v) (hdg : decode cc pc = .ok (.getfield 70, 3)) (kk : W p l e R s m args below meth c H locs cells slots Q (F0 m (pc + 3) ls (v :: rest))) : W p l e R s m args below meth c H locs cells slots Q (F0 m pc ls (.ref a :: rest)) := mm_get X.1 X.2.1 X.2.2.2.2.1 hin_X7 X.2.2.2.1 X.2.2.2.2.2.1.1 hw he rfl 23 (by decide) (X.2.2.2.2.1 _ fl_X7_70) hv hdg kk
theorem pf_X7_70 (X : mm_Cx p s m args meth c G RX7 cc nL rt) (hin : meth.name = "<init>") (hw : mm_W G.1 vwCl A H0 M H locs) {fs : List Value} (he : M a = some (.inr (7, fs))) {x : Nat} (hl : 23 < fs.length) (hdg : decode cc pc = .ok (.putfield 70, 3)) (kk : ∀ (H1 : Heap) (locs1 : List Loc), mm_W G.1 vwCl A H0 (mm_up M a (.inr (7, fs.set 23 (.ref x)))) H1 locs1 → W p l e R s m args below meth c H1 locs1 cells slots Q (F0 m (pc + 3) ls rest)) : W p l e R s m args below meth c H locs cells slots Q (F0 m pc ls (.ref x :: .ref a :: rest)) := mm_putF X.1 X.2.1 X.2.2.2.2.1 hin_X7 tyX7 tyX7_ok nmX7 X.2.2.2.1 X.2.2.2.2.2.1.1 hw he rfl 23 (by decide) (X.2.2.2.2.1 _ fl_X7_70) rfl hin rfl rfl rfl hl hdg kk
theorem gf_X7_133 (X : mm_Cx p s m args meth c G RX7 cc nL rt) (hw : mm_W G.1 vwCl A H0 M H locs) {fs : List Value} (he : M a = some (.inr (7, fs))) {v : Value} (hv : fs[24]? = some v) (hdg : decode cc pc = .ok (.getfield 133, 3)) (kk : W p l e R s m args below meth c H locs cells slots Q (F0 m (pc + 3) ls (v :: rest))) : W p l e R s m args below meth c H locs cells slots Q (F0 m pc ls (.ref a :: rest)) := mm_get X.1 X.2.1 X.2.2.2.2.1 hin_X7 X.2.2.2.1 X.2.2.2.2.2.1.1 hw he rfl 24 (by decide) (X.2.2.2.2.1 _ fl_X7_133) hv hdg kk
theorem pf_X7_133 (X : mm_Cx p s m args meth c G RX7 cc nL rt) (hw : mm_W G.1 vwCl A H0 M H locs) {fs : List Value} (he : M a = some (.inr (7, fs))) {x : Int32} (hl : 24 < fs.length) (hdg : decode cc pc = .ok (.putfield 133, 3)) (kk : ∀ (H1 : Heap) (locs1 : List Loc), mm_W G.1 vwCl A H0 (mm_up M a (.inr (7, fs.set 24 (.int x)))) H1 locs1 → W p l e R s m args below meth c H1 locs1 cells slots Q (F0 m (pc + 3) ls rest)) : W p l e R s m args below meth c H locs cells slots Q (F0 m pc ls (.int x :: .ref a :: rest)) := mm_put X.1 X.2.1 X.2.2.2.2.1 hin_X7 tyX7 tyX7_ok nmX7 X.2.2.2.1 X.2.2.2.2.2.1.1 hw he rfl 24 (by decide) (X.2.2.2.2.1 _ fl_X7_133) rfl rfl rfl hl hdg kk
theorem gf_X7_73 (X : mm_Cx p s m args meth c G RX7 cc nL rt) (hw : mm_W G.1 vwCl A H0 M H locs) {fs : List Value} (he : M a = some (.inr (7, fs))) {v : Value} (hv : fs[25]? = some v) (hdg : decode cc pc = .ok (.getfield 73, 3)) (kk : W p l e R s m args below meth c H locs cells slots Q (F0 m (pc + 3) ls (v :: rest))) : W p l e R s m args below meth c H locs cells slots Q (F0 m pc ls (.ref a :: rest)) := mm_get X.1 X.2.1 X.2.2.2.2.1 hin_X7 X.2.2.2.1 X.2.2.2.2.2.1.1 hw he rfl 25 (by decide) (X.2.2.2.2.1 _ fl_X7_73) hv hdg kk
theorem pf_X7_73 (X : mm_Cx p s m args meth c G RX7 cc nL rt) (hin : meth.name = "<init>") (hw : mm_W G.1 vwCl A H0 M H locs) {fs : List Value} (he : M a = some (.inr (7, fs))) {x : Nat} (hl : 25 < fs.length) (hdg : decode cc pc = .ok (.putfield 73, 3)) (kk : ∀ (H1 : Heap) (locs1 : List Loc), mm_W G.1 vwCl A H0 (mm_up M a (.inr (7, fs.set 25 (.ref x)))) H1 locs1 → W p l e R s m args below meth c H1 locs1 cells slots Q (F0 m (pc + 3) ls rest)) : W p l e R s m args below meth c H locs cells slots Q (F0 m pc ls (.ref x :: .ref a :: rest)) := mm_putF X.1 X.2.1 X.2.2.2.2.1 hin_X7 tyX7 tyX7_ok nmX7 X.2.2.2.1 X.2.2.2.2.2.1.1 hw he rfl 25 (by decide) (X.2.2.2.2.1 _ fl_X7_73) rfl hin rfl rfl rfl hl hdg kk
theorem gf_X7_76 (X : mm_Cx p s m args meth c G RX7 cc nL rt) (hw : mm_W G.1 vwCl A H0 M H locs) {fs : List Value} (he : M a = some (.inr (7, fs))) {v : Value} (hv : fs[26]? = some v) (hdg : decode cc pc = .ok (.getfield 76, 3)) (kk : W p l e R s m args below meth c H locs cells slots Q (F0 m (pc + 3) ls (v :: rest))) : W p l e R s m args below meth c H locs cells slots Q (F0 m pc ls (.ref a :: rest)) := mm_get X.1 X.2.1 X.2.2.2.2.1 hin_X7 X.2.2.2.1 X.2.2.2.2.2.1.1 hw he rfl 26 (by decide) (X.2.2.2.2.1 _ fl_X7_76) hv hdg kk
theorem pf_X7_76 (X : mm_Cx p s m args meth c G RX7 cc nL rt) (hin : meth.name = "<init>") (hw : mm_W G.1 vwCl A H0 M H locs) {fs : List Value} (he : M a = some (.inr (7, fs))) {x : Nat} (hl : 26 < fs.length) (hdg : decode cc pc = .ok (.putfield 76, 3)) (kk : ∀ (H1 : Heap) (locs1 : List Loc), mm_W G.1 vwCl A H0 (mm_up M a (.inr (7, fs.set 26 (.ref x)))) H1 locs1 → W p l e R s m args below meth c H1 locs1 cells slots Q (F0 m (pc + 3) ls rest)) : W p l e R s m args below meth c H locs cells slots Q (F0 m pc ls (.ref x :: .ref a :: rest)) := mm_putF X.1 X.2.1 X.2.2.2.2.1 hin_X7 tyX7 tyX7_ok nmX7 X.2.2.2.1 X.2.2.2.2.2.1.1 hw he rfl 26 (by decide) (X.2.2.2.2.1 _ fl_X7_76) rfl hin rfl rfl rfl hl hdg kk
theorem gf_X7_79 (X : mm_Cx p s m args meth c G RX7 cc nL rt) (hw : mm_W G.1 vwCl A H0 M H locs) {fs : List Value} (he : M a = some (.inr (7, fs))) {v : Value} (hv : fs[27]? = some v) (hdg : decode cc pc = .ok (.getfield 79, 3)) (kk : W p l e R s m args below meth c H locs cells slots Q (F0 m (pc + 3) ls (v :: rest))) : W p l e R s m args below meth c H locs cells slots Q (F0 m pc ls (.ref a :: rest)) := mm_get X.1 X.2.1 X.2.2.2.2.1 hin_X7 X.2.2.2.1 X.2.2.2.2.2.1.1 hw he rfl 27 (by decide) (X.2.2.2.2.1 _ fl_X7_79) hv hdg kk
theorem pf_X7_79 (X : mm_Cx p s m args meth c G RX7 cc nL rt) (hin : meth.name = "<init>") (hw : mm_W G.1 vwCl A H0 M H locs) {fs : List Value} (he : M a = some (.inr (7, fs))) {x : Nat} (hl : 27 < fs.length) (hdg : decode cc pc = .ok (.putfield 79, 3)) (kk : ∀ (H1 : Heap) (locs1 : List Loc), mm_W G.1 vwCl A H0 (mm_up M a (.inr (7, fs.set 27 (.ref x)))) H1 locs1 → W p l e R s m args below meth c H1 locs1 cells slots Q (F0 m (pc + 3) ls rest)) : W p l e R s m args below meth c H locs cells slots Q (F0 m pc ls (.ref x :: .ref a :: rest)) := mm_putF X.1 X.2.1 X.2.2.2.2.1 hin_X7 tyX7 tyX7_ok nmX7 X.2.2.2.1 X.2.2.2.2.2.1.1 hw he rfl 27 (by decide) (X.2.2.2.2.1 _ fl_X7_79) rfl hin rfl rfl rfl hl hdg kk
end MMX
theorem wb_yX6_init : mm_wB yX6_init cX6_init 2 none 0 := ⟨co_yX6_init, in_X6, by decide +kernel, by decide +kernel⟩
theorem wb_yX2_init : mm_wB yX2_init cX2_init 2 none 1 := ⟨co_yX2_init, in_X2, by decide +kernel, by decide +kernel⟩
theorem wb_yX4_init : mm_wB yX4_init cX4_init 1 none 0 := ⟨co_yX4_init, in_X4, by decide +kernel, by decide +kernel⟩
theorem wb_yX0_init : mm_wB yX0_init cX0_init 1 none 0 := ⟨co_yX0_init, in_X0, by decide +kernel, by decide +kernel⟩
theorem wb_yX6_edition : mm_wB yX6_edition cX6_edition 4 (some FieldType.int) 1 := ⟨co_yX6_edition, in_X6, by decide +kernel, by decide +kernel⟩
theorem wb_yX6_editionAt : mm_wB yX6_editionAt cX6_editionAt 2 (some (FieldType.object "EngineVersions$Edition")) 1 := ⟨co_yX6_editionAt, in_X6, by decide +kernel, by decide +kernel⟩
theorem wb_yX6_isBelow : mm_wB yX6_isBelow cX6_isBelow 2 (some FieldType.boolean) 2 := ⟨co_yX6_isBelow, in_X6, by decide +kernel, by decide +kernel⟩
theorem wb_yX2_becomeLike : mm_wB yX2_becomeLike cX2_becomeLike 3 none 1 := ⟨co_yX2_becomeLike, in_X2, by decide +kernel, by decide +kernel⟩
theorem wb_yX6_price : mm_wB yX6_price cX6_price 6 (some FieldType.int) 3 := ⟨co_yX6_price, in_X6, by decide +kernel, by decide +kernel⟩
theorem wb_yX6_member : mm_wB yX6_member cX6_member 6 (some FieldType.int) 3 := ⟨co_yX6_member, in_X6, by decide +kernel, by decide +kernel⟩
theorem wb_yX6_about : mm_wB yX6_about cX6_about 5 (some FieldType.int) 3 := ⟨co_yX6_about, in_X6, by decide +kernel, by decide +kernel⟩
theorem wb_yX2_priceOf : mm_wB yX2_priceOf cX2_priceOf 2 (some FieldType.int) 1 := ⟨co_yX2_priceOf, in_X2, by decide +kernel, by decide +kernel⟩
theorem wb_yX2_meaningOf : mm_wB yX2_meaningOf cX2_meaningOf 2 (some FieldType.int) 1 := ⟨co_yX2_meaningOf, in_X2, by decide +kernel, by decide +kernel⟩
theorem wb_yX6_differs : mm_wB yX6_differs cX6_differs 8 (some FieldType.int) 3 := ⟨co_yX6_differs, in_X6, by decide +kernel, by decide +kernel⟩
theorem wb_yX2_traitOf : mm_wB yX2_traitOf cX2_traitOf 2 (some FieldType.int) 1 := ⟨co_yX2_traitOf, in_X2, by decide +kernel, by decide +kernel⟩
theorem wb_yX6_node : mm_wB yX6_node cX6_node 3 (some FieldType.int) 2 := ⟨co_yX6_node, in_X6, by decide +kernel, by decide +kernel⟩
theorem wb_yX6_isBuild : mm_wB yX6_isBuild cX6_isBuild 1 (some FieldType.boolean) 1 := ⟨co_yX6_isBuild, in_X6, by decide +kernel, by decide +kernel⟩
theorem wb_yX5_init : mm_wB yX5_init cX5_init 3 none 2 := ⟨co_yX5_init, in_X5, by decide +kernel, by decide +kernel⟩
theorem wb_yX6_build : mm_wB yX6_build cX6_build 4 (some FieldType.int) 2 := ⟨co_yX6_build, in_X6, by decide +kernel, by decide +kernel⟩
theorem wb_yX6_nodeAt : mm_wB yX6_nodeAt cX6_nodeAt 2 (some (FieldType.object "EngineVersions$Node")) 1 := ⟨co_yX6_nodeAt, in_X6, by decide +kernel, by decide +kernel⟩
theorem wb_yX5_isHalted : mm_wB yX5_isHalted cX5_isHalted 1 (some FieldType.boolean) 0 := ⟨co_yX5_isHalted, in_X5, by decide +kernel, by decide +kernel⟩
theorem wb_yX6_propose : mm_wB yX6_propose cX6_propose 4 (some FieldType.int) 2 := ⟨co_yX6_propose, in_X6, by decide +kernel, by decide +kernel⟩
theorem wb_yX6_highestProposed : mm_wB yX6_highestProposed cX6_highestProposed 6 (some FieldType.int) 0 := ⟨co_yX6_highestProposed, in_X6, by decide +kernel, by decide +kernel⟩
theorem wb_yJ9_max_7cf53 : mm_wB yJ9_max_7cf53 cJ9_max_7cf53 2 (some FieldType.int) 2 := ⟨co_yJ9_max_7cf53, in_J9, by decide +kernel, by decide +kernel⟩
theorem wb_yX6_vote : mm_wB yX6_vote cX6_vote 6 (some FieldType.int) 3 := ⟨co_yX6_vote, in_X6, by decide +kernel, by decide +kernel⟩
theorem wb_yX5_setVote : mm_wB yX5_setVote cX5_setVote 4 none 2 := ⟨co_yX5_setVote, in_X5, by decide +kernel, by decide +kernel⟩
theorem wb_yX6_rise : mm_wB yX6_rise cX6_rise 3 (some FieldType.int) 1 := ⟨co_yX6_rise, in_X6, by decide +kernel, by decide +kernel⟩
theorem wb_yX6_decideProposals : mm_wB yX6_decideProposals cX6_decideProposals 5 none 0 := ⟨co_yX6_decideProposals, in_X6, by decide +kernel, by decide +kernel⟩
theorem wb_yX6_isAgreed : mm_wB yX6_isAgreed cX6_isAgreed 8 (some FieldType.boolean) 1 := ⟨co_yX6_isAgreed, in_X6, by decide +kernel, by decide +kernel⟩
theorem wb_yX5_votedFor : mm_wB yX5_votedFor cX5_votedFor 2 (some FieldType.boolean) 1 := ⟨co_yX5_votedFor, in_X5, by decide +kernel, by decide +kernel⟩
theorem wb_yX6_haltLackingNodes : mm_wB yX6_haltLackingNodes cX6_haltLackingNodes 6 none 0 := ⟨co_yX6_haltLackingNodes, in_X6, by decide +kernel, by decide +kernel⟩
theorem wb_yX6_inForceAt : mm_wB yX6_inForceAt cX6_inForceAt 7 (some (FieldType.object "EngineVersions$Edition")) 1 := ⟨co_yX6_inForceAt, in_X6, by decide +kernel, by decide +kernel⟩
theorem wb_yX5_hasEdition : mm_wB yX5_hasEdition cX5_hasEdition 2 (some FieldType.boolean) 1 := ⟨co_yX5_hasEdition, in_X5, by decide +kernel, by decide +kernel⟩
theorem wb_yX6_force : mm_wB yX6_force cX6_force 2 (some FieldType.int) 1 := ⟨co_yX6_force, in_X6, by decide +kernel, by decide +kernel⟩
theorem wb_yX6_halted : mm_wB yX6_halted cX6_halted 3 (some FieldType.int) 1 := ⟨co_yX6_halted, in_X6, by decide +kernel, by decide +kernel⟩
theorem wb_yX6_contract : mm_wB yX6_contract cX6_contract 1 (some FieldType.int) 0 := ⟨co_yX6_contract, in_X6, by decide +kernel, by decide +kernel⟩
theorem wb_yX1_init : mm_wB yX1_init cX1_init 1 none 0 := ⟨co_yX1_init, in_X1, by decide +kernel, by decide +kernel⟩
theorem wb_yX6_act : mm_wB yX6_act cX6_act 5 (some FieldType.int) 3 := ⟨co_yX6_act, in_X6, by decide +kernel, by decide +kernel⟩
theorem wb_yX6_contractAt : mm_wB yX6_contractAt cX6_contractAt 2 (some (FieldType.object "EngineVersions$Contract")) 1 := ⟨co_yX6_contractAt, in_X6, by decide +kernel, by decide +kernel⟩
theorem wb_yX6_isActWith : mm_wB yX6_isActWith cX6_isActWith 2 (some FieldType.boolean) 2 := ⟨co_yX6_isActWith, in_X6, by decide +kernel, by decide +kernel⟩
theorem wb_yX1_add : mm_wB yX1_add cX1_add 3 none 2 := ⟨co_yX1_add, in_X1, by decide +kernel, by decide +kernel⟩
theorem wb_yX6_deploy : mm_wB yX6_deploy cX6_deploy 5 (some FieldType.int) 1 := ⟨co_yX6_deploy, in_X6, by decide +kernel, by decide +kernel⟩
theorem wb_yX1_ruleBrokenUnder : mm_wB yX1_ruleBrokenUnder cX1_ruleBrokenUnder 5 (some FieldType.int) 1 := ⟨co_yX1_ruleBrokenUnder, in_X1, by decide +kernel, by decide +kernel⟩
theorem wb_yX1_takenBy : mm_wB yX1_takenBy cX1_takenBy 1 (some FieldType.int) 1 := ⟨co_yX1_takenBy, in_X1, by decide +kernel, by decide +kernel⟩
theorem wb_yX1_laidBy : mm_wB yX1_laidBy cX1_laidBy 1 (some FieldType.int) 1 := ⟨co_yX1_laidBy, in_X1, by decide +kernel, by decide +kernel⟩
theorem wb_yX6_answerOfRule : mm_wB yX6_answerOfRule cX6_answerOfRule 1 (some FieldType.int) 1 := ⟨co_yX6_answerOfRule, in_X6, by decide +kernel, by decide +kernel⟩
theorem wb_yX6_run : mm_wB yX6_run cX6_run 7 (some FieldType.int) 3 := ⟨co_yX6_run, in_X6, by decide +kernel, by decide +kernel⟩
theorem wb_yX3_init : mm_wB yX3_init cX3_init 6 none 4 := ⟨co_yX3_init, in_X3, by decide +kernel, by decide +kernel⟩
theorem wb_yX4_execute : mm_wB yX4_execute cX4_execute 10 (some FieldType.int) 5 := ⟨co_yX4_execute, in_X4, by decide +kernel, by decide +kernel⟩
theorem wb_yX0_becomeLike : mm_wB yX0_becomeLike cX0_becomeLike 3 none 1 := ⟨co_yX0_becomeLike, in_X0, by decide +kernel, by decide +kernel⟩
theorem wb_yX4_top : mm_wB yX4_top cX4_top 1 (some FieldType.long) 0 := ⟨co_yX4_top, in_X4, by decide +kernel, by decide +kernel⟩
theorem wb_yX4_perform : mm_wB yX4_perform cX4_perform 10 none 4 := ⟨co_yX4_perform, in_X4, by decide +kernel, by decide +kernel⟩
theorem wb_yX4_lay : mm_wB yX4_lay cX4_lay 3 none 1 := ⟨co_yX4_lay, in_X4, by decide +kernel, by decide +kernel⟩
theorem wb_yX4_take : mm_wB yX4_take cX4_take 3 (some FieldType.long) 0 := ⟨co_yX4_take, in_X4, by decide +kernel, by decide +kernel⟩
theorem wb_yX4_meant : mm_wB yX4_meant cX4_meant 3 (some FieldType.long) 2 := ⟨co_yX4_meant, in_X4, by decide +kernel, by decide +kernel⟩
theorem wb_yJ9_abs_067f4 : mm_wB yJ9_abs_067f4 cJ9_abs_067f4 2 (some FieldType.long) 1 := ⟨co_yJ9_abs_067f4, in_J9, by decide +kernel, by decide +kernel⟩
theorem wb_yJ9_floorDiv_f86c9 : mm_wB yJ9_floorDiv_f86c9 cJ9_floorDiv_f86c9 6 (some FieldType.long) 2 := ⟨co_yJ9_floorDiv_f86c9, in_J9, by decide +kernel, by decide +kernel⟩
theorem wb_yJ13_bitCount_95d88 : mm_wB yJ13_bitCount_95d88 cJ13_bitCount_95d88 2 (some FieldType.int) 1 := ⟨co_yJ13_bitCount_95d88, in_J13, by decide +kernel, by decide +kernel⟩
theorem wb_yX0_store : mm_wB yX0_store cX0_store 4 none 2 := ⟨co_yX0_store, in_X0, by decide +kernel, by decide +kernel⟩
theorem wb_yX0_valueOf : mm_wB yX0_valueOf cX0_valueOf 2 (some FieldType.long) 1 := ⟨co_yX0_valueOf, in_X0, by decide +kernel, by decide +kernel⟩
theorem wb_yX4_joined : mm_wB yX4_joined cX4_joined 5 (some FieldType.long) 3 := ⟨co_yX4_joined, in_X4, by decide +kernel, by decide +kernel⟩
theorem wb_yX0_digestBehind : mm_wB yX0_digestBehind cX0_digestBehind 9 (some FieldType.int) 2 := ⟨co_yX0_digestBehind, in_X0, by decide +kernel, by decide +kernel⟩
theorem wb_yX6_cell : mm_wB yX6_cell cX6_cell 4 (some FieldType.long) 2 := ⟨co_yX6_cell, in_X6, by decide +kernel, by decide +kernel⟩
theorem wb_yX6_logged : mm_wB yX6_logged cX6_logged 4 (some FieldType.int) 2 := ⟨co_yX6_logged, in_X6, by decide +kernel, by decide +kernel⟩
theorem wb_yX6_entryAt : mm_wB yX6_entryAt cX6_entryAt 2 (some (FieldType.object "EngineVersions$Entry")) 1 := ⟨co_yX6_entryAt, in_X6, by decide +kernel, by decide +kernel⟩
theorem wb_yX6_digest : mm_wB yX6_digest cX6_digest 1 (some FieldType.int) 0 := ⟨co_yX6_digest, in_X6, by decide +kernel, by decide +kernel⟩
theorem wb_yX6_replay : mm_wB yX6_replay cX6_replay 4 (some FieldType.int) 1 := ⟨co_yX6_replay, in_X6, by decide +kernel, by decide +kernel⟩
theorem wb_yX6_clearReplayCells : mm_wB yX6_clearReplayCells cX6_clearReplayCells 5 none 0 := ⟨co_yX6_clearReplayCells, in_X6, by decide +kernel, by decide +kernel⟩
theorem wb_yX0_clear : mm_wB yX0_clear cX0_clear 2 none 0 := ⟨co_yX0_clear, in_X0, by decide +kernel, by decide +kernel⟩
theorem wb_yX6_digestBehindReplayOf : mm_wB yX6_digestBehindReplayOf cX6_digestBehindReplayOf 5 (some FieldType.int) 2 := ⟨co_yX6_digestBehindReplayOf, in_X6, by decide +kernel, by decide +kernel⟩
theorem wb_yX6_count : mm_wB yX6_count cX6_count 2 (some FieldType.int) 1 := ⟨co_yX6_count, in_X6, by decide +kernel, by decide +kernel⟩
theorem wb_yX7_init : mm_wB yX7_init cX7_init 2 none 0 := ⟨co_yX7_init, in_X7, by decide +kernel, by decide +kernel⟩
theorem wb_yX7_edition : mm_wB yX7_edition cX7_edition 3 (some FieldType.int) 1 := ⟨co_yX7_edition, in_X7, by decide +kernel, by decide +kernel⟩
theorem wb_yX7_isEdition : mm_wB yX7_isEdition cX7_isEdition 2 (some FieldType.boolean) 1 := ⟨co_yX7_isEdition, in_X7, by decide +kernel, by decide +kernel⟩
theorem wb_yX7_in : mm_wB yX7_in cX7_in 3 (some FieldType.boolean) 3 := ⟨co_yX7_in, in_X7, by decide +kernel, by decide +kernel⟩
theorem wb_yX7_price : mm_wB yX7_price cX7_price 5 (some FieldType.int) 3 := ⟨co_yX7_price, in_X7, by decide +kernel, by decide +kernel⟩
theorem wb_yX7_member : mm_wB yX7_member cX7_member 5 (some FieldType.int) 3 := ⟨co_yX7_member, in_X7, by decide +kernel, by decide +kernel⟩
theorem wb_yX7_about : mm_wB yX7_about cX7_about 4 (some FieldType.int) 3 := ⟨co_yX7_about, in_X7, by decide +kernel, by decide +kernel⟩
theorem wb_yX7_differs : mm_wB yX7_differs cX7_differs 7 (some FieldType.int) 3 := ⟨co_yX7_differs, in_X7, by decide +kernel, by decide +kernel⟩
theorem wb_yX7_node : mm_wB yX7_node cX7_node 3 (some FieldType.int) 2 := ⟨co_yX7_node, in_X7, by decide +kernel, by decide +kernel⟩
theorem wb_yX7_build : mm_wB yX7_build cX7_build 3 (some FieldType.int) 2 := ⟨co_yX7_build, in_X7, by decide +kernel, by decide +kernel⟩
theorem wb_yX7_isNode : mm_wB yX7_isNode cX7_isNode 2 (some FieldType.boolean) 1 := ⟨co_yX7_isNode, in_X7, by decide +kernel, by decide +kernel⟩
theorem wb_yX7_propose : mm_wB yX7_propose cX7_propose 5 (some FieldType.int) 2 := ⟨co_yX7_propose, in_X7, by decide +kernel, by decide +kernel⟩
theorem wb_yX7_vote : mm_wB yX7_vote cX7_vote 4 (some FieldType.int) 3 := ⟨co_yX7_vote, in_X7, by decide +kernel, by decide +kernel⟩
theorem wb_yX7_rise : mm_wB yX7_rise cX7_rise 3 (some FieldType.int) 1 := ⟨co_yX7_rise, in_X7, by decide +kernel, by decide +kernel⟩
theorem wb_yX7_comes : mm_wB yX7_comes cX7_comes 2 none 0 := ⟨co_yX7_comes, in_X7, by decide +kernel, by decide +kernel⟩
theorem wb_yX7_agrees : mm_wB yX7_agrees cX7_agrees 5 none 1 := ⟨co_yX7_agrees, in_X7, by decide +kernel, by decide +kernel⟩
theorem wb_yX7_force : mm_wB yX7_force cX7_force 2 (some FieldType.int) 1 := ⟨co_yX7_force, in_X7, by decide +kernel, by decide +kernel⟩
theorem wb_yX7_halted : mm_wB yX7_halted cX7_halted 2 (some FieldType.int) 1 := ⟨co_yX7_halted, in_X7, by decide +kernel, by decide +kernel⟩
theorem wb_yX7_contract : mm_wB yX7_contract cX7_contract 1 (some FieldType.int) 0 := ⟨co_yX7_contract, in_X7, by decide +kernel, by decide +kernel⟩
theorem wb_yX7_act : mm_wB yX7_act cX7_act 5 (some FieldType.int) 3 := ⟨co_yX7_act, in_X7, by decide +kernel, by decide +kernel⟩
theorem wb_yX7_isContract : mm_wB yX7_isContract cX7_isContract 2 (some FieldType.boolean) 1 := ⟨co_yX7_isContract, in_X7, by decide +kernel, by decide +kernel⟩
theorem wb_yX7_deploy : mm_wB yX7_deploy cX7_deploy 7 (some FieldType.int) 1 := ⟨co_yX7_deploy, in_X7, by decide +kernel, by decide +kernel⟩
theorem wb_yX7_run : mm_wB yX7_run cX7_run 6 (some FieldType.int) 3 := ⟨co_yX7_run, in_X7, by decide +kernel, by decide +kernel⟩
theorem wb_yX7_runs : mm_wB yX7_runs cX7_runs 11 (some FieldType.int) 4 := ⟨co_yX7_runs, in_X7, by decide +kernel, by decide +kernel⟩
theorem wb_yX7_meant : mm_wB yX7_meant cX7_meant 3 (some FieldType.long) 2 := ⟨co_yX7_meant, in_X7, by decide +kernel, by decide +kernel⟩
theorem wb_yX7_ones : mm_wB yX7_ones cX7_ones 5 (some FieldType.long) 1 := ⟨co_yX7_ones, in_X7, by decide +kernel, by decide +kernel⟩
theorem wb_yX7_worked : mm_wB yX7_worked cX7_worked 5 (some FieldType.long) 3 := ⟨co_yX7_worked, in_X7, by decide +kernel, by decide +kernel⟩
theorem wb_yX7_digested : mm_wB yX7_digested cX7_digested 8 (some FieldType.int) 3 := ⟨co_yX7_digested, in_X7, by decide +kernel, by decide +kernel⟩
theorem wb_yX7_cell : mm_wB yX7_cell cX7_cell 3 (some FieldType.long) 2 := ⟨co_yX7_cell, in_X7, by decide +kernel, by decide +kernel⟩
theorem wb_yX7_logged : mm_wB yX7_logged cX7_logged 3 (some FieldType.int) 2 := ⟨co_yX7_logged, in_X7, by decide +kernel, by decide +kernel⟩
theorem wb_yX7_digest : mm_wB yX7_digest cX7_digest 1 (some FieldType.int) 0 := ⟨co_yX7_digest, in_X7, by decide +kernel, by decide +kernel⟩
theorem wb_yX7_replay : mm_wB yX7_replay cX7_replay 6 (some FieldType.int) 1 := ⟨co_yX7_replay, in_X7, by decide +kernel, by decide +kernel⟩
theorem wb_yX7_count : mm_wB yX7_count cX7_count 2 (some FieldType.int) 1 := ⟨co_yX7_count, in_X7, by decide +kernel, by decide +kernel⟩
theorem wd_L_9 : mm_wB yX6_init cX6_init 2 none 0 ∧ Cond.methodLink RL 9 yX6_init ∈ mT ∧ yX6_init.name = "<init>" ∧ Cond.instanceMethod yX6_init ∈ mT := ⟨wb_yX6_init, ml_L_9, rfl, im_yX6_init⟩
theorem wd_X6_33 : mm_wB yX2_init cX2_init 2 none 1 ∧ Cond.methodLink RX6 33 yX2_init ∈ mT ∧ yX2_init.name = "<init>" ∧ Cond.instanceMethod yX2_init ∈ mT := ⟨wb_yX2_init, ml_X6_33, rfl, im_yX2_init⟩
theorem wd_L_13 : mm_wB yX6_edition cX6_edition 4 (some FieldType.int) 1 ∧ Cond.methodLink RL 13 yX6_edition ∈ mT ∧ Cond.instanceMethod yX6_edition ∈ mT ∧ Cond.selects RX6 yX6_edition yX6_edition ∈ mT := ⟨wb_yX6_edition, ml_L_13, im_yX6_edition, se_yX6_edition⟩
theorem wd_X6_77 : mm_wB yX6_editionAt cX6_editionAt 2 (some (FieldType.object "EngineVersions$Edition")) 1 ∧ Cond.methodLink RX6 77 yX6_editionAt ∈ mT ∧ Cond.instanceMethod yX6_editionAt ∈ mT ∧ Cond.selects RX6 yX6_editionAt yX6_editionAt ∈ mT := ⟨wb_yX6_editionAt, ml_X6_77, im_yX6_editionAt, se_yX6_editionAt⟩
theorem wd_X6_88 : mm_wB yX6_isBelow cX6_isBelow 2 (some FieldType.boolean) 2 ∧ Cond.methodLink RX6 88 yX6_isBelow ∈ mT ∧ Cond.static yX6_isBelow ∈ mT := ⟨wb_yX6_isBelow, ml_X6_88, st_yX6_isBelow⟩
theorem wd_X6_81 : mm_wB yX2_becomeLike cX2_becomeLike 3 none 1 ∧ Cond.methodLink RX6 81 yX2_becomeLike ∈ mT ∧ Cond.instanceMethod yX2_becomeLike ∈ mT ∧ Cond.selects RX2 yX2_becomeLike yX2_becomeLike ∈ mT := ⟨wb_yX2_becomeLike, ml_X6_81, im_yX2_becomeLike, se_yX2_becomeLike⟩
theorem wd_L_18 : mm_wB yX6_price cX6_price 6 (some FieldType.int) 3 ∧ Cond.methodLink RL 18 yX6_price ∈ mT ∧ Cond.instanceMethod yX6_price ∈ mT ∧ Cond.selects RX6 yX6_price yX6_price ∈ mT := ⟨wb_yX6_price, ml_L_18, im_yX6_price, se_yX6_price⟩
theorem wd_L_23 : mm_wB yX6_member cX6_member 6 (some FieldType.int) 3 ∧ Cond.methodLink RL 23 yX6_member ∈ mT ∧ Cond.instanceMethod yX6_member ∈ mT ∧ Cond.selects RX6 yX6_member yX6_member ∈ mT := ⟨wb_yX6_member, ml_L_23, im_yX6_member, se_yX6_member⟩
theorem wd_L_27 : mm_wB yX6_about cX6_about 5 (some FieldType.int) 3 ∧ Cond.methodLink RL 27 yX6_about ∈ mT ∧ Cond.instanceMethod yX6_about ∈ mT ∧ Cond.selects RX6 yX6_about yX6_about ∈ mT := ⟨wb_yX6_about, ml_L_27, im_yX6_about, se_yX6_about⟩
theorem wd_X6_92 : mm_wB yX2_priceOf cX2_priceOf 2 (some FieldType.int) 1 ∧ Cond.methodLink RX6 92 yX2_priceOf ∈ mT ∧ Cond.instanceMethod yX2_priceOf ∈ mT ∧ Cond.selects RX2 yX2_priceOf yX2_priceOf ∈ mT := ⟨wb_yX2_priceOf, ml_X6_92, im_yX2_priceOf, se_yX2_priceOf⟩
theorem wd_X6_96 : mm_wB yX2_meaningOf cX2_meaningOf 2 (some FieldType.int) 1 ∧ Cond.methodLink RX6 96 yX2_meaningOf ∈ mT ∧ Cond.instanceMethod yX2_meaningOf ∈ mT ∧ Cond.selects RX2 yX2_meaningOf yX2_meaningOf ∈ mT := ⟨wb_yX2_meaningOf, ml_X6_96, im_yX2_meaningOf, se_yX2_meaningOf⟩
theorem wd_L_31 : mm_wB yX6_differs cX6_differs 8 (some FieldType.int) 3 ∧ Cond.methodLink RL 31 yX6_differs ∈ mT ∧ Cond.instanceMethod yX6_differs ∈ mT ∧ Cond.selects RX6 yX6_differs yX6_differs ∈ mT := ⟨wb_yX6_differs, ml_L_31, im_yX6_differs, se_yX6_differs⟩
theorem wd_X6_99 : mm_wB yX2_traitOf cX2_traitOf 2 (some FieldType.int) 1 ∧ Cond.methodLink RX6 99 yX2_traitOf ∈ mT ∧ Cond.instanceMethod yX2_traitOf ∈ mT ∧ Cond.selects RX2 yX2_traitOf yX2_traitOf ∈ mT := ⟨wb_yX2_traitOf, ml_X6_99, im_yX2_traitOf, se_yX2_traitOf⟩
theorem wd_X2_32 : mm_wB yX2_priceOf cX2_priceOf 2 (some FieldType.int) 1 ∧ Cond.methodLink RX2 32 yX2_priceOf ∈ mT ∧ Cond.instanceMethod yX2_priceOf ∈ mT ∧ Cond.selects RX2 yX2_priceOf yX2_priceOf ∈ mT := ⟨wb_yX2_priceOf, ml_X2_32, im_yX2_priceOf, se_yX2_priceOf⟩
theorem wd_X2_36 : mm_wB yX2_meaningOf cX2_meaningOf 2 (some FieldType.int) 1 ∧ Cond.methodLink RX2 36 yX2_meaningOf ∈ mT ∧ Cond.instanceMethod yX2_meaningOf ∈ mT ∧ Cond.selects RX2 yX2_meaningOf yX2_meaningOf ∈ mT := ⟨wb_yX2_meaningOf, ml_X2_36, im_yX2_meaningOf, se_yX2_meaningOf⟩
theorem wd_L_35 : mm_wB yX6_node cX6_node 3 (some FieldType.int) 2 ∧ Cond.methodLink RL 35 yX6_node ∈ mT ∧ Cond.instanceMethod yX6_node ∈ mT ∧ Cond.selects RX6 yX6_node yX6_node ∈ mT := ⟨wb_yX6_node, ml_L_35, im_yX6_node, se_yX6_node⟩
theorem wd_X6_102 : mm_wB yX6_isBuild cX6_isBuild 1 (some FieldType.boolean) 1 ∧ Cond.methodLink RX6 102 yX6_isBuild ∈ mT ∧ Cond.static yX6_isBuild ∈ mT := ⟨wb_yX6_isBuild, ml_X6_102, st_yX6_isBuild⟩
theorem wd_X6_106 : mm_wB yX5_init cX5_init 3 none 2 ∧ Cond.methodLink RX6 106 yX5_init ∈ mT ∧ yX5_init.name = "<init>" ∧ Cond.instanceMethod yX5_init ∈ mT := ⟨wb_yX5_init, ml_X6_106, rfl, im_yX5_init⟩
theorem wd_L_40 : mm_wB yX6_build cX6_build 4 (some FieldType.int) 2 ∧ Cond.methodLink RL 40 yX6_build ∈ mT ∧ Cond.instanceMethod yX6_build ∈ mT ∧ Cond.selects RX6 yX6_build yX6_build ∈ mT := ⟨wb_yX6_build, ml_L_40, im_yX6_build, se_yX6_build⟩
theorem wd_X6_109 : mm_wB yX6_nodeAt cX6_nodeAt 2 (some (FieldType.object "EngineVersions$Node")) 1 ∧ Cond.methodLink RX6 109 yX6_nodeAt ∈ mT ∧ Cond.instanceMethod yX6_nodeAt ∈ mT ∧ Cond.selects RX6 yX6_nodeAt yX6_nodeAt ∈ mT := ⟨wb_yX6_nodeAt, ml_X6_109, im_yX6_nodeAt, se_yX6_nodeAt⟩
theorem wd_X6_113 : mm_wB yX5_isHalted cX5_isHalted 1 (some FieldType.boolean) 0 ∧ Cond.methodLink RX6 113 yX5_isHalted ∈ mT ∧ Cond.instanceMethod yX5_isHalted ∈ mT ∧ Cond.selects RX5 yX5_isHalted yX5_isHalted ∈ mT := ⟨wb_yX5_isHalted, ml_X6_113, im_yX5_isHalted, se_yX5_isHalted⟩
theorem wd_L_44 : mm_wB yX6_propose cX6_propose 4 (some FieldType.int) 2 ∧ Cond.methodLink RL 44 yX6_propose ∈ mT ∧ Cond.instanceMethod yX6_propose ∈ mT ∧ Cond.selects RX6 yX6_propose yX6_propose ∈ mT := ⟨wb_yX6_propose, ml_L_44, im_yX6_propose, se_yX6_propose⟩
theorem wd_X6_120 : mm_wB yX6_highestProposed cX6_highestProposed 6 (some FieldType.int) 0 ∧ Cond.methodLink RX6 120 yX6_highestProposed ∈ mT ∧ Cond.instanceMethod yX6_highestProposed ∈ mT ∧ Cond.selects RX6 yX6_highestProposed yX6_highestProposed ∈ mT := ⟨wb_yX6_highestProposed, ml_X6_120, im_yX6_highestProposed, se_yX6_highestProposed⟩
theorem wd_X6_203 : mm_wB yJ9_max_7cf53 cJ9_max_7cf53 2 (some FieldType.int) 2 ∧ Cond.methodLink RX6 203 yJ9_max_7cf53 ∈ mT ∧ Cond.static yJ9_max_7cf53 ∈ mT := ⟨wb_yJ9_max_7cf53, ml_X6_203, st_yJ9_max_7cf53⟩
theorem wd_L_48 : mm_wB yX6_vote cX6_vote 6 (some FieldType.int) 3 ∧ Cond.methodLink RL 48 yX6_vote ∈ mT ∧ Cond.instanceMethod yX6_vote ∈ mT ∧ Cond.selects RX6 yX6_vote yX6_vote ∈ mT := ⟨wb_yX6_vote, ml_L_48, im_yX6_vote, se_yX6_vote⟩
theorem wd_X6_124 : mm_wB yX5_setVote cX5_setVote 4 none 2 ∧ Cond.methodLink RX6 124 yX5_setVote ∈ mT ∧ Cond.instanceMethod yX5_setVote ∈ mT ∧ Cond.selects RX5 yX5_setVote yX5_setVote ∈ mT := ⟨wb_yX5_setVote, ml_X6_124, im_yX5_setVote, se_yX5_setVote⟩
theorem wd_L_53 : mm_wB yX6_rise cX6_rise 3 (some FieldType.int) 1 ∧ Cond.methodLink RL 53 yX6_rise ∈ mT ∧ Cond.instanceMethod yX6_rise ∈ mT ∧ Cond.selects RX6 yX6_rise yX6_rise ∈ mT := ⟨wb_yX6_rise, ml_L_53, im_yX6_rise, se_yX6_rise⟩
theorem wd_X6_128 : mm_wB yX6_decideProposals cX6_decideProposals 5 none 0 ∧ Cond.methodLink RX6 128 yX6_decideProposals ∈ mT ∧ Cond.instanceMethod yX6_decideProposals ∈ mT ∧ Cond.selects RX6 yX6_decideProposals yX6_decideProposals ∈ mT := ⟨wb_yX6_decideProposals, ml_X6_128, im_yX6_decideProposals, se_yX6_decideProposals⟩
theorem wd_X6_208 : mm_wB yX6_isAgreed cX6_isAgreed 8 (some FieldType.boolean) 1 ∧ Cond.methodLink RX6 208 yX6_isAgreed ∈ mT ∧ Cond.instanceMethod yX6_isAgreed ∈ mT ∧ Cond.selects RX6 yX6_isAgreed yX6_isAgreed ∈ mT := ⟨wb_yX6_isAgreed, ml_X6_208, im_yX6_isAgreed, se_yX6_isAgreed⟩
theorem wd_X6_214 : mm_wB yX5_votedFor cX5_votedFor 2 (some FieldType.boolean) 1 ∧ Cond.methodLink RX6 214 yX5_votedFor ∈ mT ∧ Cond.instanceMethod yX5_votedFor ∈ mT ∧ Cond.selects RX5 yX5_votedFor yX5_votedFor ∈ mT := ⟨wb_yX5_votedFor, ml_X6_214, im_yX5_votedFor, se_yX5_votedFor⟩
theorem wd_X6_131 : mm_wB yX6_haltLackingNodes cX6_haltLackingNodes 6 none 0 ∧ Cond.methodLink RX6 131 yX6_haltLackingNodes ∈ mT ∧ Cond.instanceMethod yX6_haltLackingNodes ∈ mT ∧ Cond.selects RX6 yX6_haltLackingNodes yX6_haltLackingNodes ∈ mT := ⟨wb_yX6_haltLackingNodes, ml_X6_131, im_yX6_haltLackingNodes, se_yX6_haltLackingNodes⟩
theorem wd_X6_134 : mm_wB yX6_inForceAt cX6_inForceAt 7 (some (FieldType.object "EngineVersions$Edition")) 1 ∧ Cond.methodLink RX6 134 yX6_inForceAt ∈ mT ∧ Cond.instanceMethod yX6_inForceAt ∈ mT ∧ Cond.selects RX6 yX6_inForceAt yX6_inForceAt ∈ mT := ⟨wb_yX6_inForceAt, ml_X6_134, im_yX6_inForceAt, se_yX6_inForceAt⟩
theorem wd_X6_217 : mm_wB yX5_hasEdition cX5_hasEdition 2 (some FieldType.boolean) 1 ∧ Cond.methodLink RX6 217 yX5_hasEdition ∈ mT ∧ Cond.instanceMethod yX5_hasEdition ∈ mT ∧ Cond.selects RX5 yX5_hasEdition yX5_hasEdition ∈ mT := ⟨wb_yX5_hasEdition, ml_X6_217, im_yX5_hasEdition, se_yX5_hasEdition⟩
theorem wd_L_57 : mm_wB yX6_force cX6_force 2 (some FieldType.int) 1 ∧ Cond.methodLink RL 57 yX6_force ∈ mT ∧ Cond.instanceMethod yX6_force ∈ mT ∧ Cond.selects RX6 yX6_force yX6_force ∈ mT := ⟨wb_yX6_force, ml_L_57, im_yX6_force, se_yX6_force⟩
theorem wd_L_61 : mm_wB yX6_halted cX6_halted 3 (some FieldType.int) 1 ∧ Cond.methodLink RL 61 yX6_halted ∈ mT ∧ Cond.instanceMethod yX6_halted ∈ mT ∧ Cond.selects RX6 yX6_halted yX6_halted ∈ mT := ⟨wb_yX6_halted, ml_L_61, im_yX6_halted, se_yX6_halted⟩
theorem wd_L_65 : mm_wB yX6_contract cX6_contract 1 (some FieldType.int) 0 ∧ Cond.methodLink RL 65 yX6_contract ∈ mT ∧ Cond.instanceMethod yX6_contract ∈ mT ∧ Cond.selects RX6 yX6_contract yX6_contract ∈ mT := ⟨wb_yX6_contract, ml_L_65, im_yX6_contract, se_yX6_contract⟩
theorem wd_L_70 : mm_wB yX6_act cX6_act 5 (some FieldType.int) 3 ∧ Cond.methodLink RL 70 yX6_act ∈ mT ∧ Cond.instanceMethod yX6_act ∈ mT ∧ Cond.selects RX6 yX6_act yX6_act ∈ mT := ⟨wb_yX6_act, ml_L_70, im_yX6_act, se_yX6_act⟩
theorem wd_X6_141 : mm_wB yX6_contractAt cX6_contractAt 2 (some (FieldType.object "EngineVersions$Contract")) 1 ∧ Cond.methodLink RX6 141 yX6_contractAt ∈ mT ∧ Cond.instanceMethod yX6_contractAt ∈ mT ∧ Cond.selects RX6 yX6_contractAt yX6_contractAt ∈ mT := ⟨wb_yX6_contractAt, ml_X6_141, im_yX6_contractAt, se_yX6_contractAt⟩
theorem wd_X6_145 : mm_wB yX6_isActWith cX6_isActWith 2 (some FieldType.boolean) 2 ∧ Cond.methodLink RX6 145 yX6_isActWith ∈ mT ∧ Cond.static yX6_isActWith ∈ mT := ⟨wb_yX6_isActWith, ml_X6_145, st_yX6_isActWith⟩
theorem wd_X6_154 : mm_wB yX1_add cX1_add 3 none 2 ∧ Cond.methodLink RX6 154 yX1_add ∈ mT ∧ Cond.instanceMethod yX1_add ∈ mT ∧ Cond.selects RX1 yX1_add yX1_add ∈ mT := ⟨wb_yX1_add, ml_X6_154, im_yX1_add, se_yX1_add⟩
theorem wd_L_74 : mm_wB yX6_deploy cX6_deploy 5 (some FieldType.int) 1 ∧ Cond.methodLink RL 74 yX6_deploy ∈ mT ∧ Cond.instanceMethod yX6_deploy ∈ mT ∧ Cond.selects RX6 yX6_deploy yX6_deploy ∈ mT := ⟨wb_yX6_deploy, ml_L_74, im_yX6_deploy, se_yX6_deploy⟩
theorem wd_X6_157 : mm_wB yX1_ruleBrokenUnder cX1_ruleBrokenUnder 5 (some FieldType.int) 1 ∧ Cond.methodLink RX6 157 yX1_ruleBrokenUnder ∈ mT ∧ Cond.instanceMethod yX1_ruleBrokenUnder ∈ mT ∧ Cond.selects RX1 yX1_ruleBrokenUnder yX1_ruleBrokenUnder ∈ mT := ⟨wb_yX1_ruleBrokenUnder, ml_X6_157, im_yX1_ruleBrokenUnder, se_yX1_ruleBrokenUnder⟩
theorem wd_X1_40 : mm_wB yX2_meaningOf cX2_meaningOf 2 (some FieldType.int) 1 ∧ Cond.methodLink RX1 40 yX2_meaningOf ∈ mT ∧ Cond.instanceMethod yX2_meaningOf ∈ mT ∧ Cond.selects RX2 yX2_meaningOf yX2_meaningOf ∈ mT := ⟨wb_yX2_meaningOf, ml_X1_40, im_yX2_meaningOf, se_yX2_meaningOf⟩
theorem wd_X1_46 : mm_wB yX1_takenBy cX1_takenBy 1 (some FieldType.int) 1 ∧ Cond.methodLink RX1 46 yX1_takenBy ∈ mT ∧ Cond.static yX1_takenBy ∈ mT := ⟨wb_yX1_takenBy, ml_X1_46, st_yX1_takenBy⟩
theorem wd_X1_49 : mm_wB yX1_laidBy cX1_laidBy 1 (some FieldType.int) 1 ∧ Cond.methodLink RX1 49 yX1_laidBy ∈ mT ∧ Cond.static yX1_laidBy ∈ mT := ⟨wb_yX1_laidBy, ml_X1_49, st_yX1_laidBy⟩
theorem wd_X6_161 : mm_wB yX6_answerOfRule cX6_answerOfRule 1 (some FieldType.int) 1 ∧ Cond.methodLink RX6 161 yX6_answerOfRule ∈ mT ∧ Cond.static yX6_answerOfRule ∈ mT := ⟨wb_yX6_answerOfRule, ml_X6_161, st_yX6_answerOfRule⟩
theorem wd_L_80 : mm_wB yX6_run cX6_run 7 (some FieldType.int) 3 ∧ Cond.methodLink RL 80 yX6_run ∈ mT ∧ Cond.instanceMethod yX6_run ∈ mT ∧ Cond.selects RX6 yX6_run yX6_run ∈ mT := ⟨wb_yX6_run, ml_L_80, im_yX6_run, se_yX6_run⟩
theorem wd_X6_164 : mm_wB yX3_init cX3_init 6 none 4 ∧ Cond.methodLink RX6 164 yX3_init ∈ mT ∧ yX3_init.name = "<init>" ∧ Cond.instanceMethod yX3_init ∈ mT := ⟨wb_yX3_init, ml_X6_164, rfl, im_yX3_init⟩
theorem wd_X6_171 : mm_wB yX4_execute cX4_execute 10 (some FieldType.int) 5 ∧ Cond.methodLink RX6 171 yX4_execute ∈ mT ∧ Cond.instanceMethod yX4_execute ∈ mT ∧ Cond.selects RX4 yX4_execute yX4_execute ∈ mT := ⟨wb_yX4_execute, ml_X6_171, im_yX4_execute, se_yX4_execute⟩
theorem wd_X4_26 : mm_wB yX0_becomeLike cX0_becomeLike 3 none 1 ∧ Cond.methodLink RX4 26 yX0_becomeLike ∈ mT ∧ Cond.instanceMethod yX0_becomeLike ∈ mT ∧ Cond.selects RX0 yX0_becomeLike yX0_becomeLike ∈ mT := ⟨wb_yX0_becomeLike, ml_X4_26, im_yX0_becomeLike, se_yX0_becomeLike⟩
theorem wd_X4_39 : mm_wB yX2_priceOf cX2_priceOf 2 (some FieldType.int) 1 ∧ Cond.methodLink RX4 39 yX2_priceOf ∈ mT ∧ Cond.instanceMethod yX2_priceOf ∈ mT ∧ Cond.selects RX2 yX2_priceOf yX2_priceOf ∈ mT := ⟨wb_yX2_priceOf, ml_X4_39, im_yX2_priceOf, se_yX2_priceOf⟩
theorem wd_X4_48 : mm_wB yX4_top cX4_top 1 (some FieldType.long) 0 ∧ Cond.methodLink RX4 48 yX4_top ∈ mT ∧ Cond.instanceMethod yX4_top ∈ mT ∧ Cond.selects RX4 yX4_top yX4_top ∈ mT := ⟨wb_yX4_top, ml_X4_48, im_yX4_top, se_yX4_top⟩
theorem wd_X4_59 : mm_wB yX4_perform cX4_perform 10 none 4 ∧ Cond.methodLink RX4 59 yX4_perform ∈ mT ∧ Cond.instanceMethod yX4_perform ∈ mT ∧ Cond.selects RX4 yX4_perform yX4_perform ∈ mT := ⟨wb_yX4_perform, ml_X4_59, im_yX4_perform, se_yX4_perform⟩
theorem wd_X4_63 : mm_wB yX4_lay cX4_lay 3 none 1 ∧ Cond.methodLink RX4 63 yX4_lay ∈ mT ∧ Cond.instanceMethod yX4_lay ∈ mT ∧ Cond.selects RX4 yX4_lay yX4_lay ∈ mT := ⟨wb_yX4_lay, ml_X4_63, im_yX4_lay, se_yX4_lay⟩
theorem wd_X4_67 : mm_wB yX2_meaningOf cX2_meaningOf 2 (some FieldType.int) 1 ∧ Cond.methodLink RX4 67 yX2_meaningOf ∈ mT ∧ Cond.instanceMethod yX2_meaningOf ∈ mT ∧ Cond.selects RX2 yX2_meaningOf yX2_meaningOf ∈ mT := ⟨wb_yX2_meaningOf, ml_X4_67, im_yX2_meaningOf, se_yX2_meaningOf⟩
theorem wd_X4_70 : mm_wB yX4_take cX4_take 3 (some FieldType.long) 0 ∧ Cond.methodLink RX4 70 yX4_take ∈ mT ∧ Cond.instanceMethod yX4_take ∈ mT ∧ Cond.selects RX4 yX4_take yX4_take ∈ mT := ⟨wb_yX4_take, ml_X4_70, im_yX4_take, se_yX4_take⟩
theorem wd_X4_73 : mm_wB yX4_meant cX4_meant 3 (some FieldType.long) 2 ∧ Cond.methodLink RX4 73 yX4_meant ∈ mT ∧ Cond.static yX4_meant ∈ mT := ⟨wb_yX4_meant, ml_X4_73, st_yX4_meant⟩
theorem wd_X4_89 : mm_wB yJ9_abs_067f4 cJ9_abs_067f4 2 (some FieldType.long) 1 ∧ Cond.methodLink RX4 89 yJ9_abs_067f4 ∈ mT ∧ Cond.static yJ9_abs_067f4 ∈ mT := ⟨wb_yJ9_abs_067f4, ml_X4_89, st_yJ9_abs_067f4⟩
theorem wd_X4_97 : mm_wB yJ9_floorDiv_f86c9 cJ9_floorDiv_f86c9 6 (some FieldType.long) 2 ∧ Cond.methodLink RX4 97 yJ9_floorDiv_f86c9 ∈ mT ∧ Cond.static yJ9_floorDiv_f86c9 ∈ mT := ⟨wb_yJ9_floorDiv_f86c9, ml_X4_97, st_yJ9_floorDiv_f86c9⟩
theorem wd_X4_101 : mm_wB yJ13_bitCount_95d88 cJ13_bitCount_95d88 2 (some FieldType.int) 1 ∧ Cond.methodLink RX4 101 yJ13_bitCount_95d88 ∈ mT ∧ Cond.static yJ13_bitCount_95d88 ∈ mT := ⟨wb_yJ13_bitCount_95d88, ml_X4_101, st_yJ13_bitCount_95d88⟩
theorem wd_X4_77 : mm_wB yX0_store cX0_store 4 none 2 ∧ Cond.methodLink RX4 77 yX0_store ∈ mT ∧ Cond.instanceMethod yX0_store ∈ mT ∧ Cond.selects RX0 yX0_store yX0_store ∈ mT := ⟨wb_yX0_store, ml_X4_77, im_yX0_store, se_yX0_store⟩
theorem wd_X4_81 : mm_wB yX0_valueOf cX0_valueOf 2 (some FieldType.long) 1 ∧ Cond.methodLink RX4 81 yX0_valueOf ∈ mT ∧ Cond.instanceMethod yX0_valueOf ∈ mT ∧ Cond.selects RX0 yX0_valueOf yX0_valueOf ∈ mT := ⟨wb_yX0_valueOf, ml_X4_81, im_yX0_valueOf, se_yX0_valueOf⟩
theorem wd_X4_85 : mm_wB yX4_joined cX4_joined 5 (some FieldType.long) 3 ∧ Cond.methodLink RX4 85 yX4_joined ∈ mT ∧ Cond.static yX4_joined ∈ mT := ⟨wb_yX4_joined, ml_X4_85, st_yX4_joined⟩
theorem wd_X6_178 : mm_wB yX0_digestBehind cX0_digestBehind 9 (some FieldType.int) 2 ∧ Cond.methodLink RX6 178 yX0_digestBehind ∈ mT ∧ Cond.instanceMethod yX0_digestBehind ∈ mT ∧ Cond.selects RX0 yX0_digestBehind yX0_digestBehind ∈ mT := ⟨wb_yX0_digestBehind, ml_X6_178, im_yX0_digestBehind, se_yX0_digestBehind⟩
theorem wd_L_85 : mm_wB yX6_cell cX6_cell 4 (some FieldType.long) 2 ∧ Cond.methodLink RL 85 yX6_cell ∈ mT ∧ Cond.instanceMethod yX6_cell ∈ mT ∧ Cond.selects RX6 yX6_cell yX6_cell ∈ mT := ⟨wb_yX6_cell, ml_L_85, im_yX6_cell, se_yX6_cell⟩
theorem wd_X6_184 : mm_wB yX0_valueOf cX0_valueOf 2 (some FieldType.long) 1 ∧ Cond.methodLink RX6 184 yX0_valueOf ∈ mT ∧ Cond.instanceMethod yX0_valueOf ∈ mT ∧ Cond.selects RX0 yX0_valueOf yX0_valueOf ∈ mT := ⟨wb_yX0_valueOf, ml_X6_184, im_yX0_valueOf, se_yX0_valueOf⟩
theorem wd_L_90 : mm_wB yX6_logged cX6_logged 4 (some FieldType.int) 2 ∧ Cond.methodLink RL 90 yX6_logged ∈ mT ∧ Cond.instanceMethod yX6_logged ∈ mT ∧ Cond.selects RX6 yX6_logged yX6_logged ∈ mT := ⟨wb_yX6_logged, ml_L_90, im_yX6_logged, se_yX6_logged⟩
theorem wd_X6_188 : mm_wB yX6_entryAt cX6_entryAt 2 (some (FieldType.object "EngineVersions$Entry")) 1 ∧ Cond.methodLink RX6 188 yX6_entryAt ∈ mT ∧ Cond.instanceMethod yX6_entryAt ∈ mT ∧ Cond.selects RX6 yX6_entryAt yX6_entryAt ∈ mT := ⟨wb_yX6_entryAt, ml_X6_188, im_yX6_entryAt, se_yX6_entryAt⟩
theorem wd_L_94 : mm_wB yX6_digest cX6_digest 1 (some FieldType.int) 0 ∧ Cond.methodLink RL 94 yX6_digest ∈ mT ∧ Cond.instanceMethod yX6_digest ∈ mT ∧ Cond.selects RX6 yX6_digest yX6_digest ∈ mT := ⟨wb_yX6_digest, ml_L_94, im_yX6_digest, se_yX6_digest⟩
theorem wd_L_98 : mm_wB yX6_replay cX6_replay 4 (some FieldType.int) 1 ∧ Cond.methodLink RL 98 yX6_replay ∈ mT ∧ Cond.instanceMethod yX6_replay ∈ mT ∧ Cond.selects RX6 yX6_replay yX6_replay ∈ mT := ⟨wb_yX6_replay, ml_L_98, im_yX6_replay, se_yX6_replay⟩
theorem wd_X6_196 : mm_wB yX6_clearReplayCells cX6_clearReplayCells 5 none 0 ∧ Cond.methodLink RX6 196 yX6_clearReplayCells ∈ mT ∧ Cond.instanceMethod yX6_clearReplayCells ∈ mT ∧ Cond.selects RX6 yX6_clearReplayCells yX6_clearReplayCells ∈ mT := ⟨wb_yX6_clearReplayCells, ml_X6_196, im_yX6_clearReplayCells, se_yX6_clearReplayCells⟩
theorem wd_X6_223 : mm_wB yX0_clear cX0_clear 2 none 0 ∧ Cond.methodLink RX6 223 yX0_clear ∈ mT ∧ Cond.instanceMethod yX0_clear ∈ mT ∧ Cond.selects RX0 yX0_clear yX0_clear ∈ mT := ⟨wb_yX0_clear, ml_X6_223, im_yX0_clear, se_yX0_clear⟩
theorem wd_X6_199 : mm_wB yX6_digestBehindReplayOf cX6_digestBehindReplayOf 5 (some FieldType.int) 2 ∧ Cond.methodLink RX6 199 yX6_digestBehindReplayOf ∈ mT ∧ Cond.instanceMethod yX6_digestBehindReplayOf ∈ mT ∧ Cond.selects RX6 yX6_digestBehindReplayOf yX6_digestBehindReplayOf ∈ mT := ⟨wb_yX6_digestBehindReplayOf, ml_X6_199, im_yX6_digestBehindReplayOf, se_yX6_digestBehindReplayOf⟩
theorem wd_L_102 : mm_wB yX6_count cX6_count 2 (some FieldType.int) 1 ∧ Cond.methodLink RL 102 yX6_count ∈ mT ∧ Cond.instanceMethod yX6_count ∈ mT ∧ Cond.selects RX6 yX6_count yX6_count ∈ mT := ⟨wb_yX6_count, ml_L_102, im_yX6_count, se_yX6_count⟩
theorem wd_L_12 : mm_wB yX7_init cX7_init 2 none 0 ∧ Cond.methodLink RL 12 yX7_init ∈ mT ∧ yX7_init.name = "<init>" ∧ Cond.instanceMethod yX7_init ∈ mT := ⟨wb_yX7_init, ml_L_12, rfl, im_yX7_init⟩
theorem wd_L_17 : mm_wB yX7_edition cX7_edition 3 (some FieldType.int) 1 ∧ Cond.methodLink RL 17 yX7_edition ∈ mT ∧ Cond.instanceMethod yX7_edition ∈ mT ∧ Cond.selects RX7 yX7_edition yX7_edition ∈ mT := ⟨wb_yX7_edition, ml_L_17, im_yX7_edition, se_yX7_edition⟩
theorem wd_X7_92 : mm_wB yX7_isEdition cX7_isEdition 2 (some FieldType.boolean) 1 ∧ Cond.methodLink RX7 92 yX7_isEdition ∈ mT ∧ Cond.instanceMethod yX7_isEdition ∈ mT ∧ Cond.selects RX7 yX7_isEdition yX7_isEdition ∈ mT := ⟨wb_yX7_isEdition, ml_X7_92, im_yX7_isEdition, se_yX7_isEdition⟩
theorem wd_X7_82 : mm_wB yX7_in cX7_in 3 (some FieldType.boolean) 3 ∧ Cond.methodLink RX7 82 yX7_in ∈ mT ∧ Cond.static yX7_in ∈ mT := ⟨wb_yX7_in, ml_X7_82, st_yX7_in⟩
theorem wd_L_22 : mm_wB yX7_price cX7_price 5 (some FieldType.int) 3 ∧ Cond.methodLink RL 22 yX7_price ∈ mT ∧ Cond.instanceMethod yX7_price ∈ mT ∧ Cond.selects RX7 yX7_price yX7_price ∈ mT := ⟨wb_yX7_price, ml_L_22, im_yX7_price, se_yX7_price⟩
theorem wd_L_26 : mm_wB yX7_member cX7_member 5 (some FieldType.int) 3 ∧ Cond.methodLink RL 26 yX7_member ∈ mT ∧ Cond.instanceMethod yX7_member ∈ mT ∧ Cond.selects RX7 yX7_member yX7_member ∈ mT := ⟨wb_yX7_member, ml_L_26, im_yX7_member, se_yX7_member⟩
theorem wd_L_30 : mm_wB yX7_about cX7_about 4 (some FieldType.int) 3 ∧ Cond.methodLink RL 30 yX7_about ∈ mT ∧ Cond.instanceMethod yX7_about ∈ mT ∧ Cond.selects RX7 yX7_about yX7_about ∈ mT := ⟨wb_yX7_about, ml_L_30, im_yX7_about, se_yX7_about⟩
theorem wd_L_34 : mm_wB yX7_differs cX7_differs 7 (some FieldType.int) 3 ∧ Cond.methodLink RL 34 yX7_differs ∈ mT ∧ Cond.instanceMethod yX7_differs ∈ mT ∧ Cond.selects RX7 yX7_differs yX7_differs ∈ mT := ⟨wb_yX7_differs, ml_L_34, im_yX7_differs, se_yX7_differs⟩
theorem wd_L_39 : mm_wB yX7_node cX7_node 3 (some FieldType.int) 2 ∧ Cond.methodLink RL 39 yX7_node ∈ mT ∧ Cond.instanceMethod yX7_node ∈ mT ∧ Cond.selects RX7 yX7_node yX7_node ∈ mT := ⟨wb_yX7_node, ml_L_39, im_yX7_node, se_yX7_node⟩
theorem wd_L_43 : mm_wB yX7_build cX7_build 3 (some FieldType.int) 2 ∧ Cond.methodLink RL 43 yX7_build ∈ mT ∧ Cond.instanceMethod yX7_build ∈ mT ∧ Cond.selects RX7 yX7_build yX7_build ∈ mT := ⟨wb_yX7_build, ml_L_43, im_yX7_build, se_yX7_build⟩
theorem wd_X7_96 : mm_wB yX7_isNode cX7_isNode 2 (some FieldType.boolean) 1 ∧ Cond.methodLink RX7 96 yX7_isNode ∈ mT ∧ Cond.instanceMethod yX7_isNode ∈ mT ∧ Cond.selects RX7 yX7_isNode yX7_isNode ∈ mT := ⟨wb_yX7_isNode, ml_X7_96, im_yX7_isNode, se_yX7_isNode⟩
theorem wd_L_47 : mm_wB yX7_propose cX7_propose 5 (some FieldType.int) 2 ∧ Cond.methodLink RL 47 yX7_propose ∈ mT ∧ Cond.instanceMethod yX7_propose ∈ mT ∧ Cond.selects RX7 yX7_propose yX7_propose ∈ mT := ⟨wb_yX7_propose, ml_L_47, im_yX7_propose, se_yX7_propose⟩
theorem wd_L_52 : mm_wB yX7_vote cX7_vote 4 (some FieldType.int) 3 ∧ Cond.methodLink RL 52 yX7_vote ∈ mT ∧ Cond.instanceMethod yX7_vote ∈ mT ∧ Cond.selects RX7 yX7_vote yX7_vote ∈ mT := ⟨wb_yX7_vote, ml_L_52, im_yX7_vote, se_yX7_vote⟩
theorem wd_L_56 : mm_wB yX7_rise cX7_rise 3 (some FieldType.int) 1 ∧ Cond.methodLink RL 56 yX7_rise ∈ mT ∧ Cond.instanceMethod yX7_rise ∈ mT ∧ Cond.selects RX7 yX7_rise yX7_rise ∈ mT := ⟨wb_yX7_rise, ml_L_56, im_yX7_rise, se_yX7_rise⟩
theorem wd_X7_106 : mm_wB yX7_comes cX7_comes 2 none 0 ∧ Cond.methodLink RX7 106 yX7_comes ∈ mT ∧ Cond.instanceMethod yX7_comes ∈ mT ∧ Cond.selects RX7 yX7_comes yX7_comes ∈ mT := ⟨wb_yX7_comes, ml_X7_106, im_yX7_comes, se_yX7_comes⟩
theorem wd_X7_102 : mm_wB yX7_agrees cX7_agrees 5 none 1 ∧ Cond.methodLink RX7 102 yX7_agrees ∈ mT ∧ Cond.instanceMethod yX7_agrees ∈ mT ∧ Cond.selects RX7 yX7_agrees yX7_agrees ∈ mT := ⟨wb_yX7_agrees, ml_X7_102, im_yX7_agrees, se_yX7_agrees⟩
theorem wd_L_60 : mm_wB yX7_force cX7_force 2 (some FieldType.int) 1 ∧ Cond.methodLink RL 60 yX7_force ∈ mT ∧ Cond.instanceMethod yX7_force ∈ mT ∧ Cond.selects RX7 yX7_force yX7_force ∈ mT := ⟨wb_yX7_force, ml_L_60, im_yX7_force, se_yX7_force⟩
theorem wd_L_64 : mm_wB yX7_halted cX7_halted 2 (some FieldType.int) 1 ∧ Cond.methodLink RL 64 yX7_halted ∈ mT ∧ Cond.instanceMethod yX7_halted ∈ mT ∧ Cond.selects RX7 yX7_halted yX7_halted ∈ mT := ⟨wb_yX7_halted, ml_L_64, im_yX7_halted, se_yX7_halted⟩
theorem wd_L_69 : mm_wB yX7_contract cX7_contract 1 (some FieldType.int) 0 ∧ Cond.methodLink RL 69 yX7_contract ∈ mT ∧ Cond.instanceMethod yX7_contract ∈ mT ∧ Cond.selects RX7 yX7_contract yX7_contract ∈ mT := ⟨wb_yX7_contract, ml_L_69, im_yX7_contract, se_yX7_contract⟩
theorem wd_L_73 : mm_wB yX7_act cX7_act 5 (some FieldType.int) 3 ∧ Cond.methodLink RL 73 yX7_act ∈ mT ∧ Cond.instanceMethod yX7_act ∈ mT ∧ Cond.selects RX7 yX7_act yX7_act ∈ mT := ⟨wb_yX7_act, ml_L_73, im_yX7_act, se_yX7_act⟩
theorem wd_X7_109 : mm_wB yX7_isContract cX7_isContract 2 (some FieldType.boolean) 1 ∧ Cond.methodLink RX7 109 yX7_isContract ∈ mT ∧ Cond.instanceMethod yX7_isContract ∈ mT ∧ Cond.selects RX7 yX7_isContract yX7_isContract ∈ mT := ⟨wb_yX7_isContract, ml_X7_109, im_yX7_isContract, se_yX7_isContract⟩
theorem wd_L_77 : mm_wB yX7_deploy cX7_deploy 7 (some FieldType.int) 1 ∧ Cond.methodLink RL 77 yX7_deploy ∈ mT ∧ Cond.instanceMethod yX7_deploy ∈ mT ∧ Cond.selects RX7 yX7_deploy yX7_deploy ∈ mT := ⟨wb_yX7_deploy, ml_L_77, im_yX7_deploy, se_yX7_deploy⟩
theorem wd_L_84 : mm_wB yX7_run cX7_run 6 (some FieldType.int) 3 ∧ Cond.methodLink RL 84 yX7_run ∈ mT ∧ Cond.instanceMethod yX7_run ∈ mT ∧ Cond.selects RX7 yX7_run yX7_run ∈ mT := ⟨wb_yX7_run, ml_L_84, im_yX7_run, se_yX7_run⟩
theorem wd_X7_129 : mm_wB yX7_runs cX7_runs 11 (some FieldType.int) 4 ∧ Cond.methodLink RX7 129 yX7_runs ∈ mT ∧ Cond.instanceMethod yX7_runs ∈ mT ∧ Cond.selects RX7 yX7_runs yX7_runs ∈ mT := ⟨wb_yX7_runs, ml_X7_129, im_yX7_runs, se_yX7_runs⟩
theorem wd_X7_118 : mm_wB yX7_meant cX7_meant 3 (some FieldType.long) 2 ∧ Cond.methodLink RX7 118 yX7_meant ∈ mT ∧ Cond.static yX7_meant ∈ mT := ⟨wb_yX7_meant, ml_X7_118, st_yX7_meant⟩
theorem wd_X7_114 : mm_wB yX7_ones cX7_ones 5 (some FieldType.long) 1 ∧ Cond.methodLink RX7 114 yX7_ones ∈ mT ∧ Cond.static yX7_ones ∈ mT := ⟨wb_yX7_ones, ml_X7_114, st_yX7_ones⟩
theorem wd_X7_122 : mm_wB yX7_worked cX7_worked 5 (some FieldType.long) 3 ∧ Cond.methodLink RX7 122 yX7_worked ∈ mT ∧ Cond.static yX7_worked ∈ mT := ⟨wb_yX7_worked, ml_X7_122, st_yX7_worked⟩
theorem wd_X7_136 : mm_wB yX7_digested cX7_digested 8 (some FieldType.int) 3 ∧ Cond.methodLink RX7 136 yX7_digested ∈ mT ∧ Cond.instanceMethod yX7_digested ∈ mT ∧ Cond.selects RX7 yX7_digested yX7_digested ∈ mT := ⟨wb_yX7_digested, ml_X7_136, im_yX7_digested, se_yX7_digested⟩
theorem wd_L_89 : mm_wB yX7_cell cX7_cell 3 (some FieldType.long) 2 ∧ Cond.methodLink RL 89 yX7_cell ∈ mT ∧ Cond.instanceMethod yX7_cell ∈ mT ∧ Cond.selects RX7 yX7_cell yX7_cell ∈ mT := ⟨wb_yX7_cell, ml_L_89, im_yX7_cell, se_yX7_cell⟩
theorem wd_L_93 : mm_wB yX7_logged cX7_logged 3 (some FieldType.int) 2 ∧ Cond.methodLink RL 93 yX7_logged ∈ mT ∧ Cond.instanceMethod yX7_logged ∈ mT ∧ Cond.selects RX7 yX7_logged yX7_logged ∈ mT := ⟨wb_yX7_logged, ml_L_93, im_yX7_logged, se_yX7_logged⟩
theorem wd_L_97 : mm_wB yX7_digest cX7_digest 1 (some FieldType.int) 0 ∧ Cond.methodLink RL 97 yX7_digest ∈ mT ∧ Cond.instanceMethod yX7_digest ∈ mT ∧ Cond.selects RX7 yX7_digest yX7_digest ∈ mT := ⟨wb_yX7_digest, ml_L_97, im_yX7_digest, se_yX7_digest⟩
theorem wd_L_101 : mm_wB yX7_replay cX7_replay 6 (some FieldType.int) 1 ∧ Cond.methodLink RL 101 yX7_replay ∈ mT ∧ Cond.instanceMethod yX7_replay ∈ mT ∧ Cond.selects RX7 yX7_replay yX7_replay ∈ mT := ⟨wb_yX7_replay, ml_L_101, im_yX7_replay, se_yX7_replay⟩
theorem wd_L_105 : mm_wB yX7_count cX7_count 2 (some FieldType.int) 1 ∧ Cond.methodLink RL 105 yX7_count ∈ mT ∧ Cond.instanceMethod yX7_count ∈ mT ∧ Cond.selects RX7 yX7_count yX7_count ∈ mT := ⟨wb_yX7_count, ml_L_105, im_yX7_count, se_yX7_count⟩
theorem wd_X6_42 : mm_wB yX4_init cX4_init 1 none 0 ∧ Cond.methodLinkNest RX6 42 yX4_init RX6 ∈ mm_NW ∧ yX4_init.name = "<init>" ∧ Cond.instanceMethod yX4_init ∈ mT := ⟨wb_yX4_init, mn_X6_42, rfl, im_yX4_init⟩
theorem wd_X4_17 : mm_wB yX0_init cX0_init 1 none 0 ∧ Cond.methodLinkNest RX4 17 yX0_init RX6 ∈ mm_NW ∧ yX0_init.name = "<init>" ∧ Cond.instanceMethod yX0_init ∈ mT := ⟨wb_yX0_init, mn_X4_17, rfl, im_yX0_init⟩
theorem wd_X2_28 : mm_wB yX6_isBelow cX6_isBelow 2 (some FieldType.boolean) 2 ∧ Cond.methodLinkNest RX2 28 yX6_isBelow RX6 ∈ mm_NW ∧ Cond.static yX6_isBelow ∈ mT := ⟨wb_yX6_isBelow, mn_X2_28, st_yX6_isBelow⟩
theorem wd_X6_140 : mm_wB yX1_init cX1_init 1 none 0 ∧ Cond.methodLinkNest RX6 140 yX1_init RX6 ∈ mm_NW ∧ yX1_init.name = "<init>" ∧ Cond.instanceMethod yX1_init ∈ mT := ⟨wb_yX1_init, mn_X6_140, rfl, im_yX1_init⟩
theorem wd_X1_20 : mm_wB yX0_init cX0_init 1 none 0 ∧ Cond.methodLinkNest RX1 20 yX0_init RX6 ∈ mm_NW ∧ yX0_init.name = "<init>" ∧ Cond.instanceMethod yX0_init ∈ mT := ⟨wb_yX0_init, mn_X1_20, rfl, im_yX0_init⟩
theorem wd_X1_36 : mm_wB yX6_isBelow cX6_isBelow 2 (some FieldType.boolean) 2 ∧ Cond.methodLinkNest RX1 36 yX6_isBelow RX6 ∈ mm_NW ∧ Cond.static yX6_isBelow ∈ mT := ⟨wb_yX6_isBelow, mn_X1_36, st_yX6_isBelow⟩
theorem wd_X4_45 : mm_wB yX6_answerOfRule cX6_answerOfRule 1 (some FieldType.int) 1 ∧ Cond.methodLinkNest RX4 45 yX6_answerOfRule RX6 ∈ mm_NW ∧ Cond.static yX6_answerOfRule ∈ mT := ⟨wb_yX6_answerOfRule, mn_X4_45, st_yX6_answerOfRule⟩
theorem wd_X4_107 : mm_wB yX6_isBelow cX6_isBelow 2 (some FieldType.boolean) 2 ∧ Cond.methodLinkNest RX4 107 yX6_isBelow RX6 ∈ mm_NW ∧ Cond.static yX6_isBelow ∈ mT := ⟨wb_yX6_isBelow, mn_X4_107, st_yX6_isBelow⟩
theorem wd_X0_15 : mm_wB yX6_isBelow cX6_isBelow 2 (some FieldType.boolean) 2 ∧ Cond.methodLinkNest RX0 15 yX6_isBelow RX6 ∈ mm_NW ∧ Cond.static yX6_isBelow ∈ mT := ⟨wb_yX6_isBelow, mn_X0_15, st_yX6_isBelow⟩
end
section
/-! The reference's world: its object g, its rows at L k (k: the field's slot), what they hold: S (ints), c (cells), a (arguments of the log), K (rows of its own use) -/
abbrev aI (G : mG) (n : Nat) (f : Nat → Int32) : va_E := .inl (G.2 0, n, .inl f)
abbrev aJ (G : mG) (n : Nat) (f : Nat → Int64) : va_E := .inl (G.2 1, n, .inr (.inl f))
abbrev aZ (G : mG) (n : Nat) (f : Nat → Int32) : va_E := .inl (G.2 2, n, .inl f)
abbrev aQ (G : mG) (t n : Nat) (f : Nat → Option Nat) : va_E := .inl (G.2 t, n, .inr (.inr (.inr (.inr f))))
abbrev sS : Type := Nat → Nat → Int32
abbrev oMd (L : Nat → Nat) (S : sS) : va_E := .inr (7, [.int (S 0 0), .ref (L 1), .ref (L 2), .ref (L 3), .ref (L 4), .int (S 5 0), .ref (L 6), .int (S 7 0), .ref (L 8), .ref (L 9), .ref (L 10), .ref (L 11), .int (S 12 0), .ref (L 13), .ref (L 14), .ref (L 15), .ref (L 16), .ref (L 17), .int (S 18 0), .ref (L 19), .ref (L 20), .ref (L 21), .ref (L 22), .ref (L 23), .int (S 24 0), .ref (L 25), .ref (L 26), .ref (L 27)])
/-- the int rows, with their lengths -/
def ia (k : Nat) : Option Nat := match k with
  | 1 => some 90
  | 2 => some 80
  | 3 => some 10
  | 4 => some 10
  | 6 => some 1001
  | 8 => some 12
  | 9 => some 12
  | 10 => some 12
  | 13 => some 12
  | 14 => some 12
  | 15 => some 288
  | 16 => some 288
  | 19 => some 64
  | 20 => some 64
  | 22 => some 64
  | 23 => some 64
  | _ => none
/-- the int fields -/
def fi (k : Nat) : Bool := match k with
  | 0 => true
  | 5 => true
  | 7 => true
  | 12 => true
  | 18 => true
  | 24 => true
  | _ => false
def RV (G : mG) (g : Nat) (L : Nat → Nat) (S : sS) (c a : Nat → Int64) (K : Nat → Nat → Int64) (M : mM) : Prop :=
  M g = some (oMd L S) ∧ (∀ k n, ia k = some n → M (L k) = some (aI G n (S k))) ∧ M (L 11) = some (aZ G 120 (S 11)) ∧ M (L 17) = some (aJ G 48 c) ∧ M (L 21) = some (aJ G 64 a) ∧ M (L 25) = some (aJ G 24 (K 25)) ∧ M (L 26) = some (aJ G 4 (K 26)) ∧ M (L 27) = some (aJ G 48 (K 27)) ∧
  (∀ i j, i < 28 → fi i = false → j < 28 → fi j = false → L i = L j → i = j) ∧ ∀ i, i < 28 → fi i = false → L i ≠ g
theorem ia_lt {k n : Nat} (h : ia k = some n) : k < 28 ∧ fi k = false ∧ k ≠ 11 ∧ k ≠ 17 ∧ k ≠ 21 ∧ k ≠ 25 ∧ k ≠ 26 ∧ k ≠ 27 ∧ k ≠ 0 ∧ k ≠ 5 ∧ k ≠ 7 ∧ k ≠ 12 ∧ k ≠ 18 ∧ k ≠ 24 := by
  unfold ia at h
  split at h <;> first | (cases h; done) | decide
theorem oMd_up {L : Nat → Nat} {S : sS} {k n : Nat} (h : ia k = some n) (f : Nat → Int32) : oMd L (va_up S k f) = oMd L S := by
  obtain ⟨-, -, -, -, -, -, -, -, h0, h5, h7, h12, h18, h24⟩ := ia_lt h
  simp only [oMd, va_up, if_neg (Ne.symm h0), if_neg (Ne.symm h5), if_neg (Ne.symm h7), if_neg (Ne.symm h12), if_neg (Ne.symm h18), if_neg (Ne.symm h24)]
theorem RV.setI {G : mG} {g : Nat} {L : Nat → Nat} {S : sS} {c a : Nat → Int64} {K : Nat → Nat → Int64} {M : mM} (h : RV G g L S c a K M) {k n : Nat} (hk : ia k = some n) (f : Nat → Int32) : RV G g L (va_up S k f) c a K (mm_up M (L k) (aI G n f)) := by
  obtain ⟨h1, h2, h3, h4, h5, h6, h7, h8, h9, h10⟩ := h
  obtain ⟨q1, q2, q3, q4, q5, q6, q7, q8, -⟩ := ia_lt hk
  have ne : ∀ j, j < 28 → fi j = false → j ≠ k → L j ≠ L k := fun j a1 a2 a3 a4 => a3 (h9 j k a1 a2 q1 q2 a4)
  refine ⟨?_, fun k' n' hk' => ?_, ?_, ?_, ?_, ?_, ?_, ?_, h9, h10⟩
  · rw [mm_up_n _ _ (fun z => h10 k q1 q2 z.symm), oMd_up hk]; exact h1
  · by_cases e : k' = k
    · subst e
      rw [mm_up_s, va_up_self]
      cases hk.symm.trans hk'
      rfl
    · rw [mm_up_n _ _ (ne k' (ia_lt hk').1 (ia_lt hk').2.1 e), va_up_ne _ _ e]; exact h2 k' n' hk'
  · rw [mm_up_n _ _ (ne 11 (by decide) rfl (Ne.symm q3)), va_up_ne _ _ (Ne.symm q3)]; exact h3
  · rw [mm_up_n _ _ (ne 17 (by decide) rfl (Ne.symm q4))]; exact h4
  · rw [mm_up_n _ _ (ne 21 (by decide) rfl (Ne.symm q5))]; exact h5
  · rw [mm_up_n _ _ (ne 25 (by decide) rfl (Ne.symm q6))]; exact h6
  · rw [mm_up_n _ _ (ne 26 (by decide) rfl (Ne.symm q7))]; exact h7
  · rw [mm_up_n _ _ (ne 27 (by decide) rfl (Ne.symm q8))]; exact h8
theorem RV.setF {G : mG} {g : Nat} {L : Nat → Nat} {S : sS} {c a : Nat → Int64} {K : Nat → Nat → Int64} {M : mM} (h : RV G g L S c a K M) {k : Nat} (hk : fi k = true) (f : Nat → Int32) : RV G g L (va_up S k f) c a K (mm_up M g (oMd L (va_up S k f))) := by
  obtain ⟨h1, h2, h3, h4, h5, h6, h7, h8, h9, h10⟩ := h
  have ne : ∀ j, j < 28 → fi j = false → j ≠ k ∧ L j ≠ g := fun j a1 a2 => ⟨fun z => (by rw [z, hk] at a2; cases a2), h10 j a1 a2⟩
  refine ⟨mm_up_s _ _ _, fun k' n' hk' => ?_, ?_, ?_, ?_, ?_, ?_, ?_, h9, h10⟩
  · rw [mm_up_n _ _ (ne k' (ia_lt hk').1 (ia_lt hk').2.1).2, va_up_ne _ _ (ne k' (ia_lt hk').1 (ia_lt hk').2.1).1]; exact h2 k' n' hk'
  · rw [mm_up_n _ _ (ne 11 (by decide) rfl).2, va_up_ne _ _ (ne 11 (by decide) rfl).1]; exact h3
  · rw [mm_up_n _ _ (ne 17 (by decide) rfl).2]; exact h4
  · rw [mm_up_n _ _ (ne 21 (by decide) rfl).2]; exact h5
  · rw [mm_up_n _ _ (ne 25 (by decide) rfl).2]; exact h6
  · rw [mm_up_n _ _ (ne 26 (by decide) rfl).2]; exact h7
  · rw [mm_up_n _ _ (ne 27 (by decide) rfl).2]; exact h8
theorem RV.setZ {G : mG} {g : Nat} {L : Nat → Nat} {S : sS} {c a : Nat → Int64} {K : Nat → Nat → Int64} {M : mM} (h : RV G g L S c a K M) (f : Nat → Int32) : RV G g L (va_up S 11 f) c a K (mm_up M (L 11) (aZ G 120 f)) := by
  obtain ⟨h1, h2, h3, h4, h5, h6, h7, h8, h9, h10⟩ := h
  have ne : ∀ j, j < 28 → fi j = false → j ≠ 11 → L j ≠ L 11 := fun j a1 a2 a3 a4 => a3 (h9 j 11 a1 a2 (by decide) rfl a4)
  refine ⟨?_, fun k' n' hk' => ?_, ?_, ?_, ?_, ?_, ?_, ?_, h9, h10⟩
  · rw [mm_up_n _ _ (fun z => h10 11 (by decide) rfl z.symm), h1]
    simp [oMd, va_up]
  · rw [mm_up_n _ _ (ne k' (ia_lt hk').1 (ia_lt hk').2.1 (ia_lt hk').2.2.1), va_up_ne _ _ (ia_lt hk').2.2.1]; exact h2 k' n' hk'
  · rw [mm_up_s, va_up_self]
  · rw [mm_up_n _ _ (ne 17 (by decide) rfl (by decide))]; exact h4
  · rw [mm_up_n _ _ (ne 21 (by decide) rfl (by decide))]; exact h5
  · rw [mm_up_n _ _ (ne 25 (by decide) rfl (by decide))]; exact h6
  · rw [mm_up_n _ _ (ne 26 (by decide) rfl (by decide))]; exact h7
  · rw [mm_up_n _ _ (ne 27 (by decide) rfl (by decide))]; exact h8
theorem RV.setC {G : mG} {g : Nat} {L : Nat → Nat} {S : sS} {c a : Nat → Int64} {K : Nat → Nat → Int64} {M : mM} (h : RV G g L S c a K M) (f : Nat → Int64) : RV G g L S f a K (mm_up M (L 17) (aJ G 48 f)) := by
  obtain ⟨h1, h2, h3, h4, h5, h6, h7, h8, h9, h10⟩ := h
  have ne : ∀ j, j < 28 → fi j = false → j ≠ 17 → L j ≠ L 17 := fun j a1 a2 a3 a4 => a3 (h9 j 17 a1 a2 (by decide) rfl a4)
  refine ⟨?_, fun k' n' hk' => ?_, ?_, ?_, ?_, ?_, ?_, ?_, h9, h10⟩
  · rw [mm_up_n _ _ (fun z => h10 17 (by decide) rfl z.symm)]; exact h1
  · rw [mm_up_n _ _ (ne k' (ia_lt hk').1 (ia_lt hk').2.1 (ia_lt hk').2.2.2.1)]; exact h2 k' n' hk'
  · rw [mm_up_n _ _ (ne 11 (by decide) rfl (by decide))]; exact h3
  · rw [mm_up_s]
  · rw [mm_up_n _ _ (ne 21 (by decide) rfl (by decide))]; exact h5
  · rw [mm_up_n _ _ (ne 25 (by decide) rfl (by decide))]; exact h6
  · rw [mm_up_n _ _ (ne 26 (by decide) rfl (by decide))]; exact h7
  · rw [mm_up_n _ _ (ne 27 (by decide) rfl (by decide))]; exact h8
theorem RV.setA {G : mG} {g : Nat} {L : Nat → Nat} {S : sS} {c a : Nat → Int64} {K : Nat → Nat → Int64} {M : mM} (h : RV G g L S c a K M) (f : Nat → Int64) : RV G g L S c f K (mm_up M (L 21) (aJ G 64 f)) := by
  obtain ⟨h1, h2, h3, h4, h5, h6, h7, h8, h9, h10⟩ := h
  have ne : ∀ j, j < 28 → fi j = false → j ≠ 21 → L j ≠ L 21 := fun j a1 a2 a3 a4 => a3 (h9 j 21 a1 a2 (by decide) rfl a4)
  refine ⟨?_, fun k' n' hk' => ?_, ?_, ?_, ?_, ?_, ?_, ?_, h9, h10⟩
  · rw [mm_up_n _ _ (fun z => h10 21 (by decide) rfl z.symm)]; exact h1
  · rw [mm_up_n _ _ (ne k' (ia_lt hk').1 (ia_lt hk').2.1 (ia_lt hk').2.2.2.2.1)]; exact h2 k' n' hk'
  · rw [mm_up_n _ _ (ne 11 (by decide) rfl (by decide))]; exact h3
  · rw [mm_up_n _ _ (ne 17 (by decide) rfl (by decide))]; exact h4
  · rw [mm_up_s]
  · rw [mm_up_n _ _ (ne 25 (by decide) rfl (by decide))]; exact h6
  · rw [mm_up_n _ _ (ne 26 (by decide) rfl (by decide))]; exact h7
  · rw [mm_up_n _ _ (ne 27 (by decide) rfl (by decide))]; exact h8
theorem RV.setK {G : mG} {g : Nat} {L : Nat → Nat} {S : sS} {c a : Nat → Int64} {K : Nat → Nat → Int64} {M : mM} (h : RV G g L S c a K M) {k n : Nat} (hk : (k = 25 ∧ n = 24) ∨ (k = 26 ∧ n = 4) ∨ (k = 27 ∧ n = 48)) (f : Nat → Int64) : RV G g L S c a (va_up K k f) (mm_up M (L k) (aJ G n f)) := by
  obtain ⟨h1, h2, h3, h4, h5, h6, h7, h8, h9, h10⟩ := h
  have hk2 : k < 28 ∧ fi k = false ∧ k ≠ 11 ∧ k ≠ 17 ∧ k ≠ 21 ∧ ia k = none := by rcases hk with ⟨rfl, -⟩ | ⟨rfl, -⟩ | ⟨rfl, -⟩ <;> decide
  have ne : ∀ j, j < 28 → fi j = false → j ≠ k → L j ≠ L k := fun j a1 a2 a3 a4 => a3 (h9 j k a1 a2 hk2.1 hk2.2.1 a4)
  have key : ∀ k' n', M (L k') = some (aJ G n' (K k')) → ((k' = 25 ∧ n' = 24) ∨ (k' = 26 ∧ n' = 4) ∨ (k' = 27 ∧ n' = 48)) → mm_up M (L k) (aJ G n f) (L k') = some (aJ G n' (va_up K k f k')) := by
    intro k' n' hm hk'
    by_cases e : k' = k
    · subst e
      rw [mm_up_s, va_up_self]
      have : n = n' := by omega
      rw [this]
    · have h28 : k' < 28 ∧ fi k' = false := by rcases hk' with ⟨rfl, -⟩ | ⟨rfl, -⟩ | ⟨rfl, -⟩ <;> decide
      rw [mm_up_n _ _ (ne k' h28.1 h28.2 e), va_up_ne _ _ e]; exact hm
  refine ⟨?_, fun k' n' hk' => ?_, ?_, ?_, ?_, key 25 24 h6 (by omega), key 26 4 h7 (by omega), key 27 48 h8 (by omega), h9, h10⟩
  · rw [mm_up_n _ _ (fun z => h10 k hk2.1 hk2.2.1 z.symm)]; exact h1
  · rw [mm_up_n _ _ (ne k' (ia_lt hk').1 (ia_lt hk').2.1 (fun z => by rw [z, hk2.2.2.2.2.2] at hk'; cases hk'))]; exact h2 k' n' hk'
  · rw [mm_up_n _ _ (ne 11 (by decide) rfl (Ne.symm hk2.2.2.1))]; exact h3
  · rw [mm_up_n _ _ (ne 17 (by decide) rfl (Ne.symm hk2.2.2.2.1))]; exact h4
  · rw [mm_up_n _ _ (ne 21 (by decide) rfl (Ne.symm hk2.2.2.2.2.1))]; exact h5
section RVR
variable {p : Program} {l : Launch} {e : Env} {R : Room} {s : State} {m : MethodId} {args : Array Value} {below : List Frame} {meth : Method} {c : Code} {H : Heap} {locs : List Loc} {cells slots : Nat} {Q : State → Prop}
variable {cc : ByteArray} {pc : Nat} {ls : Array Slot} {rest : List Value} {G : mG} {A : Nat → Prop} {H0 : Heap} {M : mM} {own : String} {nL : Nat} {rt : Option FieldType}
variable {g : Nat} {L : Nat → Nat} {S : sS} {cs ar : Nat → Int64} {K : Nat → Nat → Int64}
theorem vin_n {i : Int32} {j n : Nat} (hi : i = nI j) (hj : j < n) (hn : n < 2 ^ 31) : vp_in i n := by rw [hi]; exact vp_in_nI hj hn
theorem ria_lt {k n : Nat} (h : ia k = some n) : n < 2 ^ 31 := by
  unfold ia at h
  split at h <;> first | (cases h; done) | (cases h; decide)
theorem ri_iald (X : mm_Cx p s m args meth c G own cc nL rt) (hw : mm_W G.1 vwCl A H0 M H locs) (hR : RV G g L S cs ar K M) (k : Nat) {n : Nat} (h : ia k = some n) {i : Int32} (j : Nat) (hi : i = nI j) (hj : j < n) (hdg : decode cc pc = .ok (.iaload, 1))
    (kk : W p l e R s m args below meth c H locs cells slots Q (F0 m (pc + 1) ls (.int (S k j) :: rest))) : W p l e R s m args below meth c H locs cells slots Q (F0 m pc ls (.int i :: .ref (L k) :: rest)) := by
  refine mm_iald X.1 X.2.1 X.2.2.2.2.2.1.1 hw 0 (hR.2.1 k n h) rfl (vin_n hi hj (ria_lt h)) hdg ?_
  rw [hi, nI_clamp (Nat.lt_trans hj (ria_lt h))]
  exact kk
theorem ri_iast (X : mm_Cx p s m args meth c G own cc nL rt) (hw : mm_W G.1 vwCl A H0 M H locs) (hR : RV G g L S cs ar K M) (k : Nat) {n : Nat} (h : ia k = some n) {i x : Int32} (j : Nat) (hi : i = nI j) (hj : j < n) (hdg : decode cc pc = .ok (.iastore, 1))
    (kk : ∀ (M1 : mM) (H1 : Heap) (locs1 : List Loc), mm_W G.1 vwCl A H0 M1 H1 locs1 → RV G g L (va_up S k (upd (S k) j x)) cs ar K M1 → W p l e R s m args below meth c H1 locs1 cells slots Q (F0 m (pc + 1) ls rest)) : W p l e R s m args below meth c H locs cells slots Q (F0 m pc ls (.int x :: .int i :: .ref (L k) :: rest)) := by
  refine mm_iast X.1 X.2.1 X.2.2.2.2.2.1.1 hw 0 (hR.2.1 k n h) rfl (vin_n hi hj (ria_lt h)) hdg (fun H1 locs1 hw => ?_)
  rw [hi, nI_clamp (Nat.lt_trans hj (ria_lt h))] at hw
  exact kk _ H1 locs1 hw (hR.setI h _)
theorem rz_zald (X : mm_Cx p s m args meth c G own cc nL rt) (hw : mm_W G.1 vwCl A H0 M H locs) (hR : RV G g L S cs ar K M) {i : Int32} (j : Nat) (hi : i = nI j) (hj : j < 120) (hdg : decode cc pc = .ok (.baload, 1))
    (kk : W p l e R s m args below meth c H locs cells slots Q (F0 m (pc + 1) ls (.int (S 11 j) :: rest))) : W p l e R s m args below meth c H locs cells slots Q (F0 m pc ls (.int i :: .ref (L 11) :: rest)) := by
  refine mm_zald X.1 X.2.1 X.2.2.2.2.2.1.1 hw 2 hR.2.2.1 rfl (vin_n hi hj (by decide)) hdg ?_
  rw [hi, nI_clamp (Nat.lt_trans hj (by decide))]
  exact kk
theorem rc_lald (X : mm_Cx p s m args meth c G own cc nL rt) (hw : mm_W G.1 vwCl A H0 M H locs) (hR : RV G g L S cs ar K M) {i : Int32} (j : Nat) (hi : i = nI j) (hj : j < 48) (hdg : decode cc pc = .ok (.laload, 1))
    (kk : W p l e R s m args below meth c H locs cells slots Q (F0 m (pc + 1) ls (.long (cs j) :: rest))) : W p l e R s m args below meth c H locs cells slots Q (F0 m pc ls (.int i :: .ref (L 17) :: rest)) := by
  refine mm_lald X.1 X.2.1 X.2.2.2.2.2.1.1 hw 1 hR.2.2.2.1 rfl (vin_n hi hj (by decide)) hdg ?_
  rw [hi, nI_clamp (Nat.lt_trans hj (by decide))]
  exact kk
theorem rc_last (X : mm_Cx p s m args meth c G own cc nL rt) (hw : mm_W G.1 vwCl A H0 M H locs) (hR : RV G g L S cs ar K M) {i : Int32} {x : Int64} (j : Nat) (hi : i = nI j) (hj : j < 48) (hdg : decode cc pc = .ok (.lastore, 1))
    (kk : ∀ (M1 : mM) (H1 : Heap) (locs1 : List Loc), mm_W G.1 vwCl A H0 M1 H1 locs1 → RV G g L S (vp_updL cs j x) ar K M1 → W p l e R s m args below meth c H1 locs1 cells slots Q (F0 m (pc + 1) ls rest)) : W p l e R s m args below meth c H locs cells slots Q (F0 m pc ls (.long x :: .int i :: .ref (L 17) :: rest)) := by
  refine mm_last X.1 X.2.1 X.2.2.2.2.2.1.1 hw 1 hR.2.2.2.1 rfl (vin_n hi hj (by decide)) hdg (fun H1 locs1 hw => ?_)
  rw [hi, nI_clamp (Nat.lt_trans hj (by decide))] at hw
  exact kk _ H1 locs1 hw (hR.setC _)
theorem ra_lald (X : mm_Cx p s m args meth c G own cc nL rt) (hw : mm_W G.1 vwCl A H0 M H locs) (hR : RV G g L S cs ar K M) {i : Int32} (j : Nat) (hi : i = nI j) (hj : j < 64) (hdg : decode cc pc = .ok (.laload, 1))
    (kk : W p l e R s m args below meth c H locs cells slots Q (F0 m (pc + 1) ls (.long (ar j) :: rest))) : W p l e R s m args below meth c H locs cells slots Q (F0 m pc ls (.int i :: .ref (L 21) :: rest)) := by
  refine mm_lald X.1 X.2.1 X.2.2.2.2.2.1.1 hw 1 hR.2.2.2.2.1 rfl (vin_n hi hj (by decide)) hdg ?_
  rw [hi, nI_clamp (Nat.lt_trans hj (by decide))]
  exact kk
theorem ra_last (X : mm_Cx p s m args meth c G own cc nL rt) (hw : mm_W G.1 vwCl A H0 M H locs) (hR : RV G g L S cs ar K M) {i : Int32} {x : Int64} (j : Nat) (hi : i = nI j) (hj : j < 64) (hdg : decode cc pc = .ok (.lastore, 1))
    (kk : ∀ (M1 : mM) (H1 : Heap) (locs1 : List Loc), mm_W G.1 vwCl A H0 M1 H1 locs1 → RV G g L S cs (vp_updL ar j x) K M1 → W p l e R s m args below meth c H1 locs1 cells slots Q (F0 m (pc + 1) ls rest)) : W p l e R s m args below meth c H locs cells slots Q (F0 m pc ls (.long x :: .int i :: .ref (L 21) :: rest)) := by
  refine mm_last X.1 X.2.1 X.2.2.2.2.2.1.1 hw 1 hR.2.2.2.2.1 rfl (vin_n hi hj (by decide)) hdg (fun H1 locs1 hw => ?_)
  rw [hi, nI_clamp (Nat.lt_trans hj (by decide))] at hw
  exact kk _ H1 locs1 hw (hR.setA _)
theorem rk_at (hR : RV G g L S cs ar K M) {k n : Nat} (hk : (k = 25 ∧ n = 24) ∨ (k = 26 ∧ n = 4) ∨ (k = 27 ∧ n = 48)) : M (L k) = some (aJ G n (K k)) := by
  rcases hk with ⟨rfl, rfl⟩ | ⟨rfl, rfl⟩ | ⟨rfl, rfl⟩
  · exact hR.2.2.2.2.2.1
  · exact hR.2.2.2.2.2.2.1
  · exact hR.2.2.2.2.2.2.2.1
theorem rk_lald (X : mm_Cx p s m args meth c G own cc nL rt) (hw : mm_W G.1 vwCl A H0 M H locs) (hR : RV G g L S cs ar K M) (k : Nat) {n : Nat} (hk : (k = 25 ∧ n = 24) ∨ (k = 26 ∧ n = 4) ∨ (k = 27 ∧ n = 48)) {i : Int32} (j : Nat) (hi : i = nI j) (hj : j < n) (hdg : decode cc pc = .ok (.laload, 1))
    (kk : W p l e R s m args below meth c H locs cells slots Q (F0 m (pc + 1) ls (.long (K k j) :: rest))) : W p l e R s m args below meth c H locs cells slots Q (F0 m pc ls (.int i :: .ref (L k) :: rest)) := by
  refine mm_lald X.1 X.2.1 X.2.2.2.2.2.1.1 hw 1 (rk_at hR hk) rfl (vin_n hi hj (by omega)) hdg ?_
  rw [hi, nI_clamp (show j < 2 ^ 31 by omega)]
  exact kk
theorem rk_last (X : mm_Cx p s m args meth c G own cc nL rt) (hw : mm_W G.1 vwCl A H0 M H locs) (hR : RV G g L S cs ar K M) (k : Nat) {n : Nat} (hk : (k = 25 ∧ n = 24) ∨ (k = 26 ∧ n = 4) ∨ (k = 27 ∧ n = 48)) {i : Int32} {x : Int64} (j : Nat) (hi : i = nI j) (hj : j < n) (hdg : decode cc pc = .ok (.lastore, 1))
    (kk : ∀ (M1 : mM) (H1 : Heap) (locs1 : List Loc), mm_W G.1 vwCl A H0 M1 H1 locs1 → RV G g L S cs ar (va_up K k (vp_updL (K k) j x)) M1 → W p l e R s m args below meth c H1 locs1 cells slots Q (F0 m (pc + 1) ls rest)) : W p l e R s m args below meth c H locs cells slots Q (F0 m pc ls (.long x :: .int i :: .ref (L k) :: rest)) := by
  refine mm_last X.1 X.2.1 X.2.2.2.2.2.1.1 hw 1 (rk_at hR hk) rfl (vin_n hi hj (by omega)) hdg (fun H1 locs1 hw => ?_)
  rw [hi, nI_clamp (show j < 2 ^ 31 by omega)] at hw
  exact kk _ H1 locs1 hw (hR.setK hk _)
theorem nar_b {x : Int32} (h : x = 0 ∨ x = 1) : narrow .boolean (.int x) = .int x := by rcases h with rfl | rfl <;> rfl
theorem mm_zast {D : va_G} {cl : List vw_C} {tys : List (ClassId × FieldType)} {a : Nat} (hexec : p.tables.exec = Jvm.exec) (hb : c.code = cc) (hK : va_K D cl tys s) (hw : mm_W D cl A H0 M H locs) (t0 : Nat) {cA : ClassId} {n : Nat} {f : Nat → Int32} (ha : M a = some (.inl (cA, n, .inl f))) (ht : tys[t0]? = some (cA, .boolean)) {i x : Int32} (hx : x = 0 ∨ x = 1) (hin : vp_in i n) (hdg : decode cc pc = .ok (.bastore, 1))
    (kk : ∀ (H1 : Heap) (locs1 : List Loc), mm_W D cl A H0 (mm_up M a (.inl (cA, n, .inl (upd f i.toNatClampNeg x)))) H1 locs1 → W p l e R s m args below meth c H1 locs1 cells slots Q (F0 m (pc + 1) ls rest)) : W p l e R s m args below meth c H locs cells slots Q (F0 m pc ls (.int x :: .int i :: .ref a :: rest)) := by
  refine W.zast hexec hb (hw.1 a _ ha) ((hK.2 t0 _ ht).1 n (fun j => .int (f j))) (fun q => by cases q) (by show ¬ (i < 0 ∨ (arrV _ _ _).slots.size ≤ _); rw [arrV_size]; exact hin) rfl rfl hdg fun H1 e z oq => ?_
  refine kk H1 _ (hw.set ha ?_ z oq _)
  show H1[a]? = some (vp_cell cA (n, .inl (upd f i.toNatClampNeg x)))
  rw [e, nar_b hx]
  show some ((vp_cell cA (n, .inl f)).setSlot _ _) = _
  rw [vp_cell_i, vp_cell_i, arrV_store]
  congr 2
  funext q
  by_cases hq : q = i.toNatClampNeg
  · subst hq
    simp [updV, upd]
  · simp [updV, upd, hq]
theorem rz_zast (X : mm_Cx p s m args meth c G own cc nL rt) (hw : mm_W G.1 vwCl A H0 M H locs) (hR : RV G g L S cs ar K M) {i x : Int32} (hx : x = 0 ∨ x = 1) (j : Nat) (hi : i = nI j) (hj : j < 120) (hdg : decode cc pc = .ok (.bastore, 1))
    (kk : ∀ (M1 : mM) (H1 : Heap) (locs1 : List Loc), mm_W G.1 vwCl A H0 M1 H1 locs1 → RV G g L (va_up S 11 (upd (S 11) j x)) cs ar K M1 → W p l e R s m args below meth c H1 locs1 cells slots Q (F0 m (pc + 1) ls rest)) : W p l e R s m args below meth c H locs cells slots Q (F0 m pc ls (.int x :: .int i :: .ref (L 11) :: rest)) := by
  refine mm_zast X.1 X.2.1 X.2.2.2.2.2.1.1 hw 2 hR.2.2.1 rfl hx (vin_n hi hj (by decide)) hdg (fun H1 locs1 hw => ?_)
  rw [hi, nI_clamp (Nat.lt_trans hj (by decide))] at hw
  exact kk _ H1 locs1 hw (hR.setZ _)
theorem rg_7 (X : mm_Cx p s m args meth c G RX7 cc nL rt) (hw : mm_W G.1 vwCl A H0 M H locs) (hR : RV G g L S cs ar K M) (hdg : decode cc pc = .ok (.getfield 7, 3)) (kk : W p l e R s m args below meth c H locs cells slots Q (F0 m (pc + 3) ls (.int (S 0 0) :: rest))) : W p l e R s m args below meth c H locs cells slots Q (F0 m pc ls (.ref g :: rest)) := gf_X7_7 X hw hR.1 rfl hdg kk
theorem rp_7 (X : mm_Cx p s m args meth c G RX7 cc nL rt) (hw : mm_W G.1 vwCl A H0 M H locs) (hR : RV G g L S cs ar K M) {x : Int32} (hdg : decode cc pc = .ok (.putfield 7, 3)) (kk : ∀ (M1 : mM) (H1 : Heap) (locs1 : List Loc), mm_W G.1 vwCl A H0 M1 H1 locs1 → RV G g L (va_up S 0 (fun _ => x)) cs ar K M1 → W p l e R s m args below meth c H1 locs1 cells slots Q (F0 m (pc + 3) ls rest)) : W p l e R s m args below meth c H locs cells slots Q (F0 m pc ls (.int x :: .ref g :: rest)) := pf_X7_7 X hw hR.1 (Nat.le_of_ble_eq_true rfl) hdg (fun H1 locs1 hw => kk _ H1 locs1 hw (by have h := hR.setF (k := 0) rfl (fun _ => x); simp only [oMd, va_up] at h; exact h))
theorem rg_13 (X : mm_Cx p s m args meth c G RX7 cc nL rt) (hw : mm_W G.1 vwCl A H0 M H locs) (hR : RV G g L S cs ar K M) (hdg : decode cc pc = .ok (.getfield 13, 3)) (kk : W p l e R s m args below meth c H locs cells slots Q (F0 m (pc + 3) ls (.ref (L 1) :: rest))) : W p l e R s m args below meth c H locs cells slots Q (F0 m pc ls (.ref g :: rest)) := gf_X7_13 X hw hR.1 rfl hdg kk
theorem rg_17 (X : mm_Cx p s m args meth c G RX7 cc nL rt) (hw : mm_W G.1 vwCl A H0 M H locs) (hR : RV G g L S cs ar K M) (hdg : decode cc pc = .ok (.getfield 17, 3)) (kk : W p l e R s m args below meth c H locs cells slots Q (F0 m (pc + 3) ls (.ref (L 2) :: rest))) : W p l e R s m args below meth c H locs cells slots Q (F0 m pc ls (.ref g :: rest)) := gf_X7_17 X hw hR.1 rfl hdg kk
theorem rg_20 (X : mm_Cx p s m args meth c G RX7 cc nL rt) (hw : mm_W G.1 vwCl A H0 M H locs) (hR : RV G g L S cs ar K M) (hdg : decode cc pc = .ok (.getfield 20, 3)) (kk : W p l e R s m args below meth c H locs cells slots Q (F0 m (pc + 3) ls (.ref (L 3) :: rest))) : W p l e R s m args below meth c H locs cells slots Q (F0 m pc ls (.ref g :: rest)) := gf_X7_20 X hw hR.1 rfl hdg kk
theorem rg_23 (X : mm_Cx p s m args meth c G RX7 cc nL rt) (hw : mm_W G.1 vwCl A H0 M H locs) (hR : RV G g L S cs ar K M) (hdg : decode cc pc = .ok (.getfield 23, 3)) (kk : W p l e R s m args below meth c H locs cells slots Q (F0 m (pc + 3) ls (.ref (L 4) :: rest))) : W p l e R s m args below meth c H locs cells slots Q (F0 m pc ls (.ref g :: rest)) := gf_X7_23 X hw hR.1 rfl hdg kk
theorem rg_99 (X : mm_Cx p s m args meth c G RX7 cc nL rt) (hw : mm_W G.1 vwCl A H0 M H locs) (hR : RV G g L S cs ar K M) (hdg : decode cc pc = .ok (.getfield 99, 3)) (kk : W p l e R s m args below meth c H locs cells slots Q (F0 m (pc + 3) ls (.int (S 5 0) :: rest))) : W p l e R s m args below meth c H locs cells slots Q (F0 m pc ls (.ref g :: rest)) := gf_X7_99 X hw hR.1 rfl hdg kk
theorem rp_99 (X : mm_Cx p s m args meth c G RX7 cc nL rt) (hw : mm_W G.1 vwCl A H0 M H locs) (hR : RV G g L S cs ar K M) {x : Int32} (hdg : decode cc pc = .ok (.putfield 99, 3)) (kk : ∀ (M1 : mM) (H1 : Heap) (locs1 : List Loc), mm_W G.1 vwCl A H0 M1 H1 locs1 → RV G g L (va_up S 5 (fun _ => x)) cs ar K M1 → W p l e R s m args below meth c H1 locs1 cells slots Q (F0 m (pc + 3) ls rest)) : W p l e R s m args below meth c H locs cells slots Q (F0 m pc ls (.int x :: .ref g :: rest)) := pf_X7_99 X hw hR.1 (Nat.le_of_ble_eq_true rfl) hdg (fun H1 locs1 hw => kk _ H1 locs1 hw (by have h := hR.setF (k := 5) rfl (fun _ => x); simp only [oMd, va_up] at h; exact h))
theorem rg_26 (X : mm_Cx p s m args meth c G RX7 cc nL rt) (hw : mm_W G.1 vwCl A H0 M H locs) (hR : RV G g L S cs ar K M) (hdg : decode cc pc = .ok (.getfield 26, 3)) (kk : W p l e R s m args below meth c H locs cells slots Q (F0 m (pc + 3) ls (.ref (L 6) :: rest))) : W p l e R s m args below meth c H locs cells slots Q (F0 m pc ls (.ref g :: rest)) := gf_X7_26 X hw hR.1 rfl hdg kk
theorem rg_86 (X : mm_Cx p s m args meth c G RX7 cc nL rt) (hw : mm_W G.1 vwCl A H0 M H locs) (hR : RV G g L S cs ar K M) (hdg : decode cc pc = .ok (.getfield 86, 3)) (kk : W p l e R s m args below meth c H locs cells slots Q (F0 m (pc + 3) ls (.int (S 7 0) :: rest))) : W p l e R s m args below meth c H locs cells slots Q (F0 m pc ls (.ref g :: rest)) := gf_X7_86 X hw hR.1 rfl hdg kk
theorem rp_86 (X : mm_Cx p s m args meth c G RX7 cc nL rt) (hw : mm_W G.1 vwCl A H0 M H locs) (hR : RV G g L S cs ar K M) {x : Int32} (hdg : decode cc pc = .ok (.putfield 86, 3)) (kk : ∀ (M1 : mM) (H1 : Heap) (locs1 : List Loc), mm_W G.1 vwCl A H0 M1 H1 locs1 → RV G g L (va_up S 7 (fun _ => x)) cs ar K M1 → W p l e R s m args below meth c H1 locs1 cells slots Q (F0 m (pc + 3) ls rest)) : W p l e R s m args below meth c H locs cells slots Q (F0 m pc ls (.int x :: .ref g :: rest)) := pf_X7_86 X hw hR.1 (Nat.le_of_ble_eq_true rfl) hdg (fun H1 locs1 hw => kk _ H1 locs1 hw (by have h := hR.setF (k := 7) rfl (fun _ => x); simp only [oMd, va_up] at h; exact h))
theorem rg_29 (X : mm_Cx p s m args meth c G RX7 cc nL rt) (hw : mm_W G.1 vwCl A H0 M H locs) (hR : RV G g L S cs ar K M) (hdg : decode cc pc = .ok (.getfield 29, 3)) (kk : W p l e R s m args below meth c H locs cells slots Q (F0 m (pc + 3) ls (.ref (L 8) :: rest))) : W p l e R s m args below meth c H locs cells slots Q (F0 m pc ls (.ref g :: rest)) := gf_X7_29 X hw hR.1 rfl hdg kk
theorem rg_32 (X : mm_Cx p s m args meth c G RX7 cc nL rt) (hw : mm_W G.1 vwCl A H0 M H locs) (hR : RV G g L S cs ar K M) (hdg : decode cc pc = .ok (.getfield 32, 3)) (kk : W p l e R s m args below meth c H locs cells slots Q (F0 m (pc + 3) ls (.ref (L 9) :: rest))) : W p l e R s m args below meth c H locs cells slots Q (F0 m pc ls (.ref g :: rest)) := gf_X7_32 X hw hR.1 rfl hdg kk
theorem rg_35 (X : mm_Cx p s m args meth c G RX7 cc nL rt) (hw : mm_W G.1 vwCl A H0 M H locs) (hR : RV G g L S cs ar K M) (hdg : decode cc pc = .ok (.getfield 35, 3)) (kk : W p l e R s m args below meth c H locs cells slots Q (F0 m (pc + 3) ls (.ref (L 10) :: rest))) : W p l e R s m args below meth c H locs cells slots Q (F0 m pc ls (.ref g :: rest)) := gf_X7_35 X hw hR.1 rfl hdg kk
theorem rg_38 (X : mm_Cx p s m args meth c G RX7 cc nL rt) (hw : mm_W G.1 vwCl A H0 M H locs) (hR : RV G g L S cs ar K M) (hdg : decode cc pc = .ok (.getfield 38, 3)) (kk : W p l e R s m args below meth c H locs cells slots Q (F0 m (pc + 3) ls (.ref (L 11) :: rest))) : W p l e R s m args below meth c H locs cells slots Q (F0 m pc ls (.ref g :: rest)) := gf_X7_38 X hw hR.1 rfl hdg kk
theorem rg_89 (X : mm_Cx p s m args meth c G RX7 cc nL rt) (hw : mm_W G.1 vwCl A H0 M H locs) (hR : RV G g L S cs ar K M) (hdg : decode cc pc = .ok (.getfield 89, 3)) (kk : W p l e R s m args below meth c H locs cells slots Q (F0 m (pc + 3) ls (.int (S 12 0) :: rest))) : W p l e R s m args below meth c H locs cells slots Q (F0 m pc ls (.ref g :: rest)) := gf_X7_89 X hw hR.1 rfl hdg kk
theorem rp_89 (X : mm_Cx p s m args meth c G RX7 cc nL rt) (hw : mm_W G.1 vwCl A H0 M H locs) (hR : RV G g L S cs ar K M) {x : Int32} (hdg : decode cc pc = .ok (.putfield 89, 3)) (kk : ∀ (M1 : mM) (H1 : Heap) (locs1 : List Loc), mm_W G.1 vwCl A H0 M1 H1 locs1 → RV G g L (va_up S 12 (fun _ => x)) cs ar K M1 → W p l e R s m args below meth c H1 locs1 cells slots Q (F0 m (pc + 3) ls rest)) : W p l e R s m args below meth c H locs cells slots Q (F0 m pc ls (.int x :: .ref g :: rest)) := pf_X7_89 X hw hR.1 (Nat.le_of_ble_eq_true rfl) hdg (fun H1 locs1 hw => kk _ H1 locs1 hw (by have h := hR.setF (k := 12) rfl (fun _ => x); simp only [oMd, va_up] at h; exact h))
theorem rg_42 (X : mm_Cx p s m args meth c G RX7 cc nL rt) (hw : mm_W G.1 vwCl A H0 M H locs) (hR : RV G g L S cs ar K M) (hdg : decode cc pc = .ok (.getfield 42, 3)) (kk : W p l e R s m args below meth c H locs cells slots Q (F0 m (pc + 3) ls (.ref (L 13) :: rest))) : W p l e R s m args below meth c H locs cells slots Q (F0 m pc ls (.ref g :: rest)) := gf_X7_42 X hw hR.1 rfl hdg kk
theorem rg_45 (X : mm_Cx p s m args meth c G RX7 cc nL rt) (hw : mm_W G.1 vwCl A H0 M H locs) (hR : RV G g L S cs ar K M) (hdg : decode cc pc = .ok (.getfield 45, 3)) (kk : W p l e R s m args below meth c H locs cells slots Q (F0 m (pc + 3) ls (.ref (L 14) :: rest))) : W p l e R s m args below meth c H locs cells slots Q (F0 m pc ls (.ref g :: rest)) := gf_X7_45 X hw hR.1 rfl hdg kk
theorem rg_48 (X : mm_Cx p s m args meth c G RX7 cc nL rt) (hw : mm_W G.1 vwCl A H0 M H locs) (hR : RV G g L S cs ar K M) (hdg : decode cc pc = .ok (.getfield 48, 3)) (kk : W p l e R s m args below meth c H locs cells slots Q (F0 m (pc + 3) ls (.ref (L 15) :: rest))) : W p l e R s m args below meth c H locs cells slots Q (F0 m pc ls (.ref g :: rest)) := gf_X7_48 X hw hR.1 rfl hdg kk
theorem rg_51 (X : mm_Cx p s m args meth c G RX7 cc nL rt) (hw : mm_W G.1 vwCl A H0 M H locs) (hR : RV G g L S cs ar K M) (hdg : decode cc pc = .ok (.getfield 51, 3)) (kk : W p l e R s m args below meth c H locs cells slots Q (F0 m (pc + 3) ls (.ref (L 16) :: rest))) : W p l e R s m args below meth c H locs cells slots Q (F0 m pc ls (.ref g :: rest)) := gf_X7_51 X hw hR.1 rfl hdg kk
theorem rg_54 (X : mm_Cx p s m args meth c G RX7 cc nL rt) (hw : mm_W G.1 vwCl A H0 M H locs) (hR : RV G g L S cs ar K M) (hdg : decode cc pc = .ok (.getfield 54, 3)) (kk : W p l e R s m args below meth c H locs cells slots Q (F0 m (pc + 3) ls (.ref (L 17) :: rest))) : W p l e R s m args below meth c H locs cells slots Q (F0 m pc ls (.ref g :: rest)) := gf_X7_54 X hw hR.1 rfl hdg kk
theorem rg_126 (X : mm_Cx p s m args meth c G RX7 cc nL rt) (hw : mm_W G.1 vwCl A H0 M H locs) (hR : RV G g L S cs ar K M) (hdg : decode cc pc = .ok (.getfield 126, 3)) (kk : W p l e R s m args below meth c H locs cells slots Q (F0 m (pc + 3) ls (.int (S 18 0) :: rest))) : W p l e R s m args below meth c H locs cells slots Q (F0 m pc ls (.ref g :: rest)) := gf_X7_126 X hw hR.1 rfl hdg kk
theorem rp_126 (X : mm_Cx p s m args meth c G RX7 cc nL rt) (hw : mm_W G.1 vwCl A H0 M H locs) (hR : RV G g L S cs ar K M) {x : Int32} (hdg : decode cc pc = .ok (.putfield 126, 3)) (kk : ∀ (M1 : mM) (H1 : Heap) (locs1 : List Loc), mm_W G.1 vwCl A H0 M1 H1 locs1 → RV G g L (va_up S 18 (fun _ => x)) cs ar K M1 → W p l e R s m args below meth c H1 locs1 cells slots Q (F0 m (pc + 3) ls rest)) : W p l e R s m args below meth c H locs cells slots Q (F0 m pc ls (.int x :: .ref g :: rest)) := pf_X7_126 X hw hR.1 (Nat.le_of_ble_eq_true rfl) hdg (fun H1 locs1 hw => kk _ H1 locs1 hw (by have h := hR.setF (k := 18) rfl (fun _ => x); simp only [oMd, va_up] at h; exact h))
theorem rg_58 (X : mm_Cx p s m args meth c G RX7 cc nL rt) (hw : mm_W G.1 vwCl A H0 M H locs) (hR : RV G g L S cs ar K M) (hdg : decode cc pc = .ok (.getfield 58, 3)) (kk : W p l e R s m args below meth c H locs cells slots Q (F0 m (pc + 3) ls (.ref (L 19) :: rest))) : W p l e R s m args below meth c H locs cells slots Q (F0 m pc ls (.ref g :: rest)) := gf_X7_58 X hw hR.1 rfl hdg kk
theorem rg_61 (X : mm_Cx p s m args meth c G RX7 cc nL rt) (hw : mm_W G.1 vwCl A H0 M H locs) (hR : RV G g L S cs ar K M) (hdg : decode cc pc = .ok (.getfield 61, 3)) (kk : W p l e R s m args below meth c H locs cells slots Q (F0 m (pc + 3) ls (.ref (L 20) :: rest))) : W p l e R s m args below meth c H locs cells slots Q (F0 m pc ls (.ref g :: rest)) := gf_X7_61 X hw hR.1 rfl hdg kk
theorem rg_64 (X : mm_Cx p s m args meth c G RX7 cc nL rt) (hw : mm_W G.1 vwCl A H0 M H locs) (hR : RV G g L S cs ar K M) (hdg : decode cc pc = .ok (.getfield 64, 3)) (kk : W p l e R s m args below meth c H locs cells slots Q (F0 m (pc + 3) ls (.ref (L 21) :: rest))) : W p l e R s m args below meth c H locs cells slots Q (F0 m pc ls (.ref g :: rest)) := gf_X7_64 X hw hR.1 rfl hdg kk
theorem rg_67 (X : mm_Cx p s m args meth c G RX7 cc nL rt) (hw : mm_W G.1 vwCl A H0 M H locs) (hR : RV G g L S cs ar K M) (hdg : decode cc pc = .ok (.getfield 67, 3)) (kk : W p l e R s m args below meth c H locs cells slots Q (F0 m (pc + 3) ls (.ref (L 22) :: rest))) : W p l e R s m args below meth c H locs cells slots Q (F0 m pc ls (.ref g :: rest)) := gf_X7_67 X hw hR.1 rfl hdg kk
theorem rg_70 (X : mm_Cx p s m args meth c G RX7 cc nL rt) (hw : mm_W G.1 vwCl A H0 M H locs) (hR : RV G g L S cs ar K M) (hdg : decode cc pc = .ok (.getfield 70, 3)) (kk : W p l e R s m args below meth c H locs cells slots Q (F0 m (pc + 3) ls (.ref (L 23) :: rest))) : W p l e R s m args below meth c H locs cells slots Q (F0 m pc ls (.ref g :: rest)) := gf_X7_70 X hw hR.1 rfl hdg kk
theorem rg_133 (X : mm_Cx p s m args meth c G RX7 cc nL rt) (hw : mm_W G.1 vwCl A H0 M H locs) (hR : RV G g L S cs ar K M) (hdg : decode cc pc = .ok (.getfield 133, 3)) (kk : W p l e R s m args below meth c H locs cells slots Q (F0 m (pc + 3) ls (.int (S 24 0) :: rest))) : W p l e R s m args below meth c H locs cells slots Q (F0 m pc ls (.ref g :: rest)) := gf_X7_133 X hw hR.1 rfl hdg kk
theorem rp_133 (X : mm_Cx p s m args meth c G RX7 cc nL rt) (hw : mm_W G.1 vwCl A H0 M H locs) (hR : RV G g L S cs ar K M) {x : Int32} (hdg : decode cc pc = .ok (.putfield 133, 3)) (kk : ∀ (M1 : mM) (H1 : Heap) (locs1 : List Loc), mm_W G.1 vwCl A H0 M1 H1 locs1 → RV G g L (va_up S 24 (fun _ => x)) cs ar K M1 → W p l e R s m args below meth c H1 locs1 cells slots Q (F0 m (pc + 3) ls rest)) : W p l e R s m args below meth c H locs cells slots Q (F0 m pc ls (.int x :: .ref g :: rest)) := pf_X7_133 X hw hR.1 (Nat.le_of_ble_eq_true rfl) hdg (fun H1 locs1 hw => kk _ H1 locs1 hw (by have h := hR.setF (k := 24) rfl (fun _ => x); simp only [oMd, va_up] at h; exact h))
theorem rg_73 (X : mm_Cx p s m args meth c G RX7 cc nL rt) (hw : mm_W G.1 vwCl A H0 M H locs) (hR : RV G g L S cs ar K M) (hdg : decode cc pc = .ok (.getfield 73, 3)) (kk : W p l e R s m args below meth c H locs cells slots Q (F0 m (pc + 3) ls (.ref (L 25) :: rest))) : W p l e R s m args below meth c H locs cells slots Q (F0 m pc ls (.ref g :: rest)) := gf_X7_73 X hw hR.1 rfl hdg kk
theorem rg_76 (X : mm_Cx p s m args meth c G RX7 cc nL rt) (hw : mm_W G.1 vwCl A H0 M H locs) (hR : RV G g L S cs ar K M) (hdg : decode cc pc = .ok (.getfield 76, 3)) (kk : W p l e R s m args below meth c H locs cells slots Q (F0 m (pc + 3) ls (.ref (L 26) :: rest))) : W p l e R s m args below meth c H locs cells slots Q (F0 m pc ls (.ref g :: rest)) := gf_X7_76 X hw hR.1 rfl hdg kk
theorem rg_79 (X : mm_Cx p s m args meth c G RX7 cc nL rt) (hw : mm_W G.1 vwCl A H0 M H locs) (hR : RV G g L S cs ar K M) (hdg : decode cc pc = .ok (.getfield 79, 3)) (kk : W p l e R s m args below meth c H locs cells slots Q (F0 m (pc + 3) ls (.ref (L 27) :: rest))) : W p l e R s m args below meth c H locs cells slots Q (F0 m pc ls (.ref g :: rest)) := gf_X7_79 X hw hR.1 rfl hdg kk
end RVR
end
section
/-! rows on numbers, switches, compares of longs -/
theorem mm_sw (x : Int32) (lo n : Nat) (h1 : lo + n < 2 ^ 31) (h2 : 0 < n) : (∃ k : Nat, k < n ∧ x = nI (lo + k)) ∨ (x.toInt < (lo : Int) ∨ ((lo + n - 1 : Nat) : Int) < x.toInt) := by
  by_cases h : x.toInt < (lo : Int) ∨ ((lo + n - 1 : Nat) : Int) < x.toInt
  · exact Or.inr h
  · refine Or.inl ⟨x.toInt.toNat - lo, by omega, ?_⟩
    have hx : ((lo + (x.toInt.toNat - lo) : Nat) : Int) = x.toInt := by omega
    rw [← Int32.toInt_inj, nI_toInt (by omega), hx]
theorem rg_lt {x b : Int32} {n : Nat} (hb : b = nI n) (hn : n < 2 ^ 31) (h : 0 ≤ x ∧ x < b) : ∃ j : Nat, j < n ∧ x = nI j := by
  have h1 := Int32.le_iff_toInt_le.mp h.1
  have h2 := Int32.lt_iff_toInt_lt.mp h.2
  rw [hb, nI_toInt hn] at h2
  have h0 : (0 : Int32).toInt = 0 := rfl
  rw [h0] at h1
  refine ⟨x.toInt.toNat, by omega, ?_⟩
  rw [← Int32.toInt_inj, nI_toInt (by omega)]
  omega
theorem rg_le {x b : Int32} {n : Nat} (hb : b = nI n) (hn : n < 2 ^ 31) (h : 0 ≤ x ∧ x ≤ b) : ∃ j : Nat, j ≤ n ∧ x = nI j := by
  have h1 := Int32.le_iff_toInt_le.mp h.1
  have h2 := Int32.le_iff_toInt_le.mp h.2
  rw [hb, nI_toInt hn] at h2
  have h0 : (0 : Int32).toInt = 0 := rfl
  rw [h0] at h1
  refine ⟨x.toInt.toNat, by omega, ?_⟩
  rw [← Int32.toInt_inj, nI_toInt (by omega)]
  omega
theorem in_lt {j n : Nat} (h : j < n) (hn : n < 2 ^ 31) : (0 : Int32) ≤ nI j ∧ nI j < nI n := ⟨nI_pos' (by omega), nI_lt h hn⟩
theorem in_le {j n : Nat} (h : j ≤ n) (hn : n < 2 ^ 31) : (0 : Int32) ≤ nI j ∧ nI j ≤ nI n := ⟨nI_pos' (by omega), nI_le h hn⟩
theorem le_pred {x b : Int32} {n : Nat} (hb : b = nI n) (hn : n < 2 ^ 30) (h0 : 0 ≤ x) : x ≤ b - 1 ↔ x < b := by
  subst hb
  have h1 := Int32.le_iff_toInt_le.mp h0
  have hz : (0 : Int32).toInt = 0 := rfl
  rw [hz] at h1
  have e : (nI n - 1).toInt = (n : Int) - 1 := by
    have := pk_sub_toInt (a := n) (b := 1) hn (by decide)
    exact this
  rw [Int32.le_iff_toInt_le, Int32.lt_iff_toInt_lt, e, nI_toInt (by omega)]
  omega
def cl (x : Int32) : Nat := x.toNatClampNeg
theorem cl_n {n : Nat} (h : n < 2 ^ 31) : cl (nI n) = n := nI_clamp h
theorem nI_inj {a b : Nat} (ha : a < 2 ^ 31) (hb : b < 2 ^ 31) (h : nI a = nI b) : a = b := (nI_eq ha hb).mp h
theorem nI_s (n : Nat) : nI n + 1 = nI (n + 1) := nI_1 n
theorem nI_p {n : Nat} : nI (n + 1) - 1 = nI n := nI_pred n
theorem ix9 (e k : Nat) : (9 : Int32) * nI e + nI k = nI (9 * e + k) := by rw [show (9 : Int32) = nI 9 from rfl, pk_mul, nI_add]
theorem ix8 (e k : Nat) : (8 : Int32) * nI e + nI k = nI (8 * e + k) := by rw [show (8 : Int32) = nI 8 from rfl, pk_mul, nI_add]
theorem ix12 (e k : Nat) : (12 : Int32) * nI e + nI k = nI (12 * e + k) := by rw [show (12 : Int32) = nI 12 from rfl, pk_mul, nI_add]
theorem ix24 (e k : Nat) : (24 : Int32) * nI e + nI k = nI (24 * e + k) := by rw [show (24 : Int32) = nI 24 from rfl, pk_mul, nI_add]
theorem ix4 (e k : Nat) : (4 : Int32) * nI e + nI k = nI (4 * e + k) := by rw [show (4 : Int32) = nI 4 from rfl, pk_mul, nI_add]
theorem m24 (e : Nat) : (24 : Int32) * nI e = nI (24 * e) := by rw [show (24 : Int32) = nI 24 from rfl, pk_mul]
section LIF
variable {p : Program} {l : Launch} {e : Env} {R : Room} {s : State} {m : MethodId} {args : Array Value} {below : List Frame} {meth : Method} {c : Code} {H : Heap} {locs : List Loc} {cells slots : Nat} {Q : State → Prop}
variable {cc : ByteArray} {pc : Nat} {ls : Array Slot} {rest : List Value}
theorem mm_lif_ge (hexec : p.tables.exec = Jvm.exec) (hb : c.code = cc) {x y : Int64} {off : Int} {tgt : Nat} (hdg : decode cc pc = .ok (.ifCond .ge off, 3)) (ht : (pc : Int) + off = (tgt : Int))
    (kt : y ≤ x → W p l e R s m args below meth c H locs cells slots Q (F0 m tgt ls rest)) (kf : ¬ y ≤ x → W p l e R s m args below meth c H locs cells slots Q (F0 m (pc + 3) ls rest)) : W p l e R s m args below meth c H locs cells slots Q (F0 m pc ls (.int (lg_cmp x y) :: rest)) :=
  lv_if_ge hexec hb hdg ht (fun h => kt ((lg_cmp_ge x y).mp h)) (fun h => kf (fun q => h ((lg_cmp_ge x y).mpr q)))
theorem mm_lif_eq (hexec : p.tables.exec = Jvm.exec) (hb : c.code = cc) {x y : Int64} {off : Int} {tgt : Nat} (hdg : decode cc pc = .ok (.ifCond .eq off, 3)) (ht : (pc : Int) + off = (tgt : Int))
    (kt : x = y → W p l e R s m args below meth c H locs cells slots Q (F0 m tgt ls rest)) (kf : ¬ x = y → W p l e R s m args below meth c H locs cells slots Q (F0 m (pc + 3) ls rest)) : W p l e R s m args below meth c H locs cells slots Q (F0 m pc ls (.int (lg_cmp x y) :: rest)) :=
  lv_if_eq hexec hb hdg ht (fun h => kt ((lg_cmp_eq x y).mp h)) (fun h => kf (fun q => h ((lg_cmp_eq x y).mpr q)))
theorem mm_lif_ne (hexec : p.tables.exec = Jvm.exec) (hb : c.code = cc) {x y : Int64} {off : Int} {tgt : Nat} (hdg : decode cc pc = .ok (.ifCond .ne off, 3)) (ht : (pc : Int) + off = (tgt : Int))
    (kt : ¬ x = y → W p l e R s m args below meth c H locs cells slots Q (F0 m tgt ls rest)) (kf : x = y → W p l e R s m args below meth c H locs cells slots Q (F0 m (pc + 3) ls rest)) : W p l e R s m args below meth c H locs cells slots Q (F0 m pc ls (.int (lg_cmp x y) :: rest)) :=
  lv_if_ne hexec hb hdg ht (fun h => kt (fun q => h ((lg_cmp_eq x y).mpr q))) (fun h => kf ((lg_cmp_eq x y).mp h))
end LIF
/-! WHAT THE CALLS ANSWER: S the ints (by the reference's slots), cs the cells, ar the log's arguments -/
/-- the numbers: editions, nodes, contracts, runs, height -/
def NM (S : sS) (ne nn nc nl ht : Nat) : Prop := S 0 0 = nI ne ∧ 1 ≤ ne ∧ ne ≤ 10 ∧ S 7 0 = nI nn ∧ nn ≤ 12 ∧ S 12 0 = nI nc ∧ nc ≤ 12 ∧ S 18 0 = nI nl ∧ nl ≤ 64 ∧ S 5 0 = nI ht ∧ ht ≤ 1000
def sp_price (S : sS) (x y v : Int32) : Int32 × sS :=
  if ¬ (0 ≤ x ∧ x < S 0 0) then (-2, S) else if ¬ (0 ≤ y ∧ y ≤ 8) then (-2, S) else if ¬ (0 ≤ v ∧ v ≤ 100) then (-2, S)
  else if S 4 (cl x) ≠ 0 then (-3, S) else (S 1 (9 * cl x + cl y), va_up S 1 (upd (S 1) (9 * cl x + cl y) v))
def sp_member (S : sS) (x y v : Int32) : Int32 × sS :=
  if ¬ (0 ≤ x ∧ x < S 0 0) then (-2, S) else if ¬ (0 ≤ y ∧ y ≤ 7) then (-2, S) else if ¬ (-1 ≤ v ∧ v ≤ 5) then (-2, S)
  else if S 4 (cl x) ≠ 0 then (-3, S) else (S 2 (8 * cl x + cl y), va_up S 2 (upd (S 2) (8 * cl x + cl y) v))
def sp_about (S : sS) (x w k : Int32) : Int32 :=
  if ¬ (0 ≤ x ∧ x < S 0 0) then -2 else
  if w = 0 then (if 0 ≤ k ∧ k ≤ 8 then S 1 (9 * cl x + cl k) else -2) else if w = 1 then (if 0 ≤ k ∧ k ≤ 7 then S 2 (8 * cl x + cl k) else -2) else if w = 2 then S 3 (cl x) else if w = 3 then S 4 (cl x) else -2
def sp_node (S : sS) (x y : Int32) : Int32 × sS :=
  if ¬ (1 ≤ x ∧ x ≤ 1000) then (-2, S) else if ¬ (0 ≤ y ∧ y ≤ 1023) then (-2, S) else if S 7 0 = 12 then (-4, S)
  else (S 7 0 + 1 - 1, va_up (va_up (va_up (va_up S 8 (upd (S 8) (cl (S 7 0)) x)) 9 (upd (S 9) (cl (S 7 0)) y)) 10 (upd (S 10) (cl (S 7 0)) (-1))) 7 (fun _ => S 7 0 + 1))
def sp_build (S : sS) (x y : Int32) : Int32 × sS :=
  if ¬ (0 ≤ x ∧ x < S 7 0) then (-2, S) else if ¬ (0 ≤ y ∧ y ≤ 1023) then (-2, S) else if S 10 (cl x) ≠ -1 then (-3, S) else (1, va_up S 9 (upd (S 9) (cl x) y))
def sp_vote (S : sS) (x y v : Int32) : Int32 × sS :=
  if ¬ (0 ≤ x ∧ x < S 7 0) then (-2, S) else if ¬ (0 ≤ y ∧ y < S 0 0) then (-2, S) else if S 4 (cl y) ≠ 1 then (-3, S) else if S 10 (cl x) ≠ -1 then (-3, S)
  else (1, va_up S 11 (upd (S 11) (12 * cl y + cl x) v))
def sp_force (S : sS) (x : Int32) : Int32 := if 0 ≤ x ∧ x ≤ S 5 0 then S 6 (cl x) else -2
def sp_halted (S : sS) (x : Int32) : Int32 := if 0 ≤ x ∧ x < S 7 0 then S 10 (cl x) else -2
def sp_contract (S : sS) : Int32 × sS := if S 12 0 = 12 then (-4, S) else (S 12 0 + 1 - 1, va_up (va_up S 13 (upd (S 13) (cl (S 12 0)) (-1))) 12 (fun _ => S 12 0 + 1))
def sp_cell (S : sS) (cs : Nat → Int64) (x y : Int32) : Int64 := if 0 ≤ x ∧ x < S 12 0 then (if 0 ≤ y ∧ y ≤ 3 then cs (4 * cl x + cl y) else 0) else 0
def sp_logged (S : sS) (x w : Int32) : Int32 := if ¬ (0 ≤ x ∧ x < S 18 0) then -2 else if w = 0 then S 19 (cl x) else if w = 1 then S 20 (cl x) else if w = 2 then S 23 (cl x) else -2
def sp_count (S : sS) (w : Int32) : Int32 := if w = 0 then S 0 0 else if w = 1 then S 7 0 else if w = 2 then S 12 0 else if w = 3 then S 18 0 else if w = 4 then S 5 0 else -2
theorem nI_cl {x : Int32} (h : 0 ≤ x) : x = nI (cl x) := by
  obtain ⟨j, hj, rfl⟩ := nI_of (x := x) (fun h2 => by
    have h1 := Int32.le_iff_toInt_le.mp h
    have h3 := Int32.lt_iff_toInt_lt.mp h2
    omega)
  rw [cl_n hj]
theorem jx (q : Nat) {x y : Int32} (hx : 0 ≤ x) (hy : 0 ≤ y) : nI q * x + y = nI (q * cl x + cl y) := by
  conv => lhs; rw [nI_cl hx, nI_cl hy, pk_mul, nI_add]
theorem cl_lt {x b : Int32} {n : Nat} (hb : b = nI n) (hn : n < 2 ^ 31) (h : 0 ≤ x ∧ x < b) : cl x < n := by
  obtain ⟨j, hj, rfl⟩ := rg_lt hb hn h
  rw [cl_n (by omega)]; exact hj
theorem cl_le {x b : Int32} {n : Nat} (hb : b = nI n) (hn : n < 2 ^ 31) (h : 0 ≤ x ∧ x ≤ b) : cl x ≤ n := by
  obtain ⟨j, hj, rfl⟩ := rg_le hb hn h
  rw [cl_n (by omega)]; exact hj
theorem w_two {w : Int32} (h : 0 ≤ w ∧ w ≤ 2) (h0 : ¬ w = 0) (h1 : ¬ w = 1) : w = 2 := by
  obtain ⟨j, hj, rfl⟩ := rg_le (n := 2) rfl (by decide) h
  rcases (show j = 0 ∨ j = 1 ∨ j = 2 by omega) with rfl | rfl | rfl
  · exact absurd rfl h0
  · exact absurd rfl h1
  · rfl
theorem jxn (q : Nat) {x : Int32} (hx : 0 ≤ x) (k : Nat) : nI q * x + nI k = nI (q * cl x + k) := by
  conv => lhs; rw [nI_cl hx, pk_mul, nI_add]
theorem va_up_id {α : Type} (f : Nat → α) (k : Nat) : va_up f k (f k) = f := by
  funext j
  by_cases h : j = k
  · subst h; rw [va_up_self]
  · rw [va_up_ne _ _ h]
theorem va_up_id' {α : Type} (f : Nat → α) {j k : Nat} (h : j ≠ k) {x : α} : va_up (va_up f k x) j (f j) = va_up f k x := by
  funext q
  by_cases hq : q = j
  · subst hq; rw [va_up_self, va_up_ne _ _ h]
  · rw [va_up_ne _ _ hq]
theorem nle {a b : Nat} (ha : a < 2 ^ 31) (hb : b < 2 ^ 31) (h : nI a ≤ nI b) : a ≤ b := (nI_leI ha hb).mp h
theorem nlt {a b : Nat} (ha : a < 2 ^ 31) (hb : b < 2 ^ 31) (h : nI a < nI b) : a < b := (nI_ltI ha hb).mp h
theorem nnle {a b : Nat} (ha : a < 2 ^ 31) (hb : b < 2 ^ 31) (h : ¬ nI a ≤ nI b) : b < a := by
  rcases Nat.lt_or_ge b a with q | q
  · exact q
  · exact absurd (nI_le q hb) h
theorem nnlt {a b : Nat} (ha : a < 2 ^ 31) (hb : b < 2 ^ 31) (h : ¬ nI a < nI b) : b ≤ a := by
  rcases Nat.lt_or_ge a b with q | q
  · exact absurd (nI_lt q hb) h
  · exact q
/-- k places from s on are laid to d .. -/
def cp {α : Type} (f : Nat → α) (d s k : Nat) : Nat → α := fun j => if d ≤ j ∧ j < d + k then f (s + (j - d)) else f j
theorem cp0 {α : Type} (f : Nat → α) (d s : Nat) : cp f d s 0 = f := by
  funext j
  unfold cp
  rw [if_neg (by omega)]
theorem cpS (f : Nat → Int32) {d s k : Nat} (h : s + k < d) : upd (cp f d s k) (d + k) (cp f d s k (s + k)) = cp f d s (k + 1) := by
  funext j
  unfold upd cp
  by_cases h1 : j = d + k
  · subst h1
    rw [if_pos rfl, if_neg (by omega), if_pos (by omega)]
    congr 1
    omega
  · rw [if_neg h1]
    by_cases h2 : d ≤ j ∧ j < d + k
    · rw [if_pos h2, if_pos (by omega)]
    · rw [if_neg h2, if_neg (by omega)]
def sp_edition (S : sS) (x : Int32) : Int32 × sS :=
  if ¬ (0 ≤ x ∧ x < S 0 0) then (-2, S) else if S 0 0 = 10 then (-4, S) else
  (S 0 0 + 1 - 1, va_up (va_up (va_up (va_up (va_up S 1 (cp (S 1) (9 * cl (S 0 0)) (9 * cl x) 9)) 2 (cp (S 2) (8 * cl (S 0 0)) (8 * cl x) 8)) 3 (upd (S 3) (cl (S 0 0)) (-1))) 4 (upd (S 4) (cl (S 0 0)) 0)) 0 (fun _ => S 0 0 + 1))
/-- where editions differ -/
def df_b (S : sS) (e f i : Nat) : Bool := if i < 9 then decide (S 1 (9 * e + i) ≠ S 1 (9 * f + i)) else decide (S 2 (8 * e + i - 9) ≠ S 2 (8 * f + i - 9))
def df_go (is : Nat → Bool) (k : Int32) : Nat → Nat → Int32 → Int32
  | 0, _, _ => -1
  | r + 1, i, n => if is i = true then (if n = k then nI i else df_go is k r (i + 1) (n + 1)) else df_go is k r (i + 1) n
theorem df_go_s (is : Nat → Bool) (k : Int32) (r i : Nat) (n : Int32) : df_go is k (r + 1) i n = if is i = true then (if n = k then nI i else df_go is k r (i + 1) (n + 1)) else df_go is k r (i + 1) n := rfl
theorem df_t1 {S : sS} {e f i : Nat} (h : i < 9) (c : ¬ S 1 (9 * e + i) = S 1 (9 * f + i)) : df_b S e f i = true := by unfold df_b; rw [if_pos h]; exact decide_eq_true c
theorem df_f1 {S : sS} {e f i : Nat} (h : i < 9) (c : S 1 (9 * e + i) = S 1 (9 * f + i)) : ¬ df_b S e f i = true := by unfold df_b; rw [if_pos h]; exact fun h9 => of_decide_eq_true h9 c
theorem df_t2 {S : sS} {e f i : Nat} (h : ¬ i < 9) (c : ¬ S 2 (8 * e + i - 9) = S 2 (8 * f + i - 9)) : df_b S e f i = true := by unfold df_b; rw [if_neg h]; exact decide_eq_true c
theorem df_f2 {S : sS} {e f i : Nat} (h : ¬ i < 9) (c : S 2 (8 * e + i - 9) = S 2 (8 * f + i - 9)) : ¬ df_b S e f i = true := by unfold df_b; rw [if_neg h]; exact fun h9 => of_decide_eq_true h9 c
def sp_differs (S : sS) (x y k : Int32) : Int32 := if ¬ (0 ≤ x ∧ x < S 0 0) then -2 else if ¬ (0 ≤ y ∧ y < S 0 0) then -2 else df_go (df_b S (cl x) (cl y)) k 17 0 0
abbrev pr_may (S : sS) (x h : Int32) (k : Nat) : Prop := S 4 (cl x) = 0 ∧ S 5 0 < h ∧ ∀ e, e < k → (S 4 e ≠ 1 ∨ S 3 e < h)
def sp_propose (S : sS) (x h : Int32) : Int32 × sS :=
  if ¬ (0 ≤ x ∧ x < S 0 0) then (-2, S) else if ¬ (h ≤ 1000) then (-2, S) else if ¬ pr_may S x h (cl (S 0 0)) then (-3, S)
  else (1, va_up (va_up S 4 (upd (S 4) (cl x) 1)) 3 (upd (S 3) (cl x) h))
def ag_all (S : sS) : Nat → Int32
  | 0 => 0
  | n + 1 => ag_all S n + S 8 n
def ag_its (S : sS) (e : Nat) : Nat → Int32
  | 0 => 0
  | n + 1 => ag_its S e n + (if S 11 (12 * e + n) = 0 then 0 else if S 10 n = -1 then S 8 n else 0)
def sp_agrees (S : sS) (e : Nat) : sS :=
  if 3 * ag_its S e (cl (S 7 0)) < 2 * ag_all S (cl (S 7 0)) then va_up (va_up S 4 (upd (S 4) e 3)) 6 (upd (S 6) (cl (S 5 0)) (S 6 (cl (S 5 0))))
  else va_up (va_up S 4 (upd (S 4) e 2)) 6 (upd (S 6) (cl (S 5 0)) (nI e))
def sp_act (S : sS) (x y v : Int32) : Int32 × sS :=
  if ¬ (0 ≤ x ∧ x < S 12 0) then (-2, S) else if ¬ (0 ≤ y ∧ y ≤ 8) then (-2, S) else if ¬ (y = 6 → 0 ≤ v ∧ v ≤ 7) then (-2, S) else if ¬ (y = 7 ∨ y = 8 → 0 ≤ v ∧ v ≤ 3) then (-2, S)
  else if S 13 (cl x) ≠ -1 then (-3, S) else if S 14 (cl x) = 24 then (-4, S)
  else (S 14 (cl x) + 1, va_up (va_up (va_up S 15 (upd (S 15) (24 * cl x + cl (S 14 (cl x))) y)) 16 (upd (S 16) (24 * cl x + cl (S 14 (cl x))) v)) 14 (upd (S 14) (cl x) (S 14 (cl x) + 1)))
end
section
theorem i32_nlt {a b : Int32} (h : ¬ a < b) : b ≤ a := by
  rw [Int32.lt_iff_toInt_lt] at h
  rw [Int32.le_iff_toInt_le]
  omega
theorem i32_lt_nle {a b : Int32} (h : a < b) : ¬ b ≤ a := by
  rw [Int32.lt_iff_toInt_lt] at h
  rw [Int32.le_iff_toInt_le]
  omega
set_option maxHeartbeats 4000000 in
set_option maxRecDepth 100000 in
theorem m_in (l : Launch) (G : mG) (M : mM) (v lo hi : Int32) : Ct l yX7_in cX7_in 3 (some FieldType.boolean) (mm_r 0 0 0) G [.int v, .int lo, .int hi] M (fun r M1 => r = some (.int (bI (lo ≤ v ∧ v ≤ hi))) ∧ M = M1) := by
  refine Ct.of (by decide) (Nat.le_of_ble_eq_true rfl) ?_
  intro p e s m args below meth c ls Q X hin hl hw hQ
  have hx := X.1
  have hb := X.2.1
  have hl : lv_has ls 3 [(0, .int v), (1, .int lo), (2, .int hi)] := hl
  refine lv_iload_n hx hb dX7_in_0 rfl (lv_at hl 0 rfl) ?_
  refine lv_iload_n hx hb dX7_in_1 rfl (lv_at hl 1 rfl) ?_
  refine lv_icmp_lt (tgt := 14) hx hb dX7_in_2 (by decide) (fun c2 => ?_) (fun c2 => ?_)
  · refine lv_iconst (v := 0) hx hb dX7_in_14 (by decide) ?_
    exact mm_zret hQ X hw (rfl) (⟨by rw [bI_f (fun h9 => i32_lt_nle c2 h9.1)], rfl⟩) (Nat.le_of_ble_eq_true rfl) (Nat.le_of_ble_eq_true rfl) dX7_in_15
  · refine lv_iload_n hx hb dX7_in_5 rfl (lv_at hl 0 rfl) ?_
    refine lv_iload_n hx hb dX7_in_6 rfl (lv_at hl 2 rfl) ?_
    refine lv_icmp_gt (tgt := 14) hx hb dX7_in_7 (by decide) (fun c7 => ?_) (fun c7 => ?_)
    · refine lv_iconst (v := 0) hx hb dX7_in_14 (by decide) ?_
      exact mm_zret hQ X hw (rfl) (⟨by rw [bI_f (fun h9 => i32_lt_nle c7 h9.2)], rfl⟩) (Nat.le_of_ble_eq_true rfl) (Nat.le_of_ble_eq_true rfl) dX7_in_15
    · refine lv_iconst (v := 1) hx hb dX7_in_10 (by decide) ?_
      refine lv_goto (tgt := 15) hx hb dX7_in_11 (by decide) ?_
      exact mm_zret hQ X hw (rfl) (⟨by rw [bI_t ⟨i32_nlt c2, i32_nlt c7⟩], rfl⟩) (Nat.le_of_ble_eq_true rfl) (Nat.le_of_ble_eq_true rfl) dX7_in_15
set_option maxHeartbeats 4000000 in
set_option maxRecDepth 100000 in
theorem m_isEdition (l : Launch) (G : mG) (M : mM) (g : Nat) (L : Nat → Nat) (S : sS) (cs ar : Nat → Int64) (K : Nat → Nat → Int64) (hR : RV G g L S cs ar K M) (x : Int32) (n : Nat) (hn : S 0 0 = nI n) (hn2 : n < 2 ^ 30) : Ct l yX7_isEdition cX7_isEdition 2 (some FieldType.boolean) (mm_r 1 0 0) G [.ref g, .int x] M (fun r M1 => r = some (.int (bI (0 ≤ x ∧ x < S 0 0))) ∧ M = M1) := by
  refine Ct.of (by decide) (Nat.le_of_ble_eq_true rfl) ?_
  intro p e s m args below meth c ls Q X hin hl hw hQ
  have hx := X.1
  have hb := X.2.1
  have hl : lv_has ls 2 [(0, .ref g), (1, .int x)] := hl
  refine lv_iload_n hx hb dX7_isEdition_0 rfl (lv_at hl 1 rfl) ?_
  refine lv_iconst (v := 0) hx hb dX7_isEdition_1 (by decide) ?_
  refine lv_aload_n hx hb dX7_isEdition_2 rfl (lv_at hl 0 rfl) ?_
  refine rg_7 X hw hR dX7_isEdition_3 ?_
  refine lv_iconst (v := 1) hx hb dX7_isEdition_6 (by decide) ?_
  refine lv_isub hx hb dX7_isEdition_7 ?_
  refine mm_callS (As := [.int x, .int 0, .int ((S 0 0) - 1)]) (rest := []) X hw (m_in l G _ (x) (0) ((S 0 0) - 1)) wd_X7_82 ⟨Nat.le_of_ble_eq_true rfl, Nat.le_of_ble_eq_true rfl⟩ ⟨Nat.le_of_ble_eq_true rfl, Nat.le_of_ble_eq_true rfl⟩ rfl rfl (Nat.le_of_ble_eq_true rfl) hl.1 dX7_isEdition_8 (fun v9 M9 H9 locs9 hp9 hw => ?_)
  obtain ⟨rfl, rfl⟩ := hp9
  refine W.eq (g2 := F0 m 11 ls [.int (bI (0 ≤ x ∧ x ≤ ((S 0 0) - 1)))]) rfl ?_
  exact mm_zret hQ X hw (bI_n _) (⟨congrArg (fun z => some (Value.int z)) (bI_e (and_congr_right fun h9 => le_pred hn hn2 h9)), rfl⟩) (Nat.le_of_ble_eq_true rfl) (Nat.le_of_ble_eq_true rfl) dX7_isEdition_11
set_option maxHeartbeats 4000000 in
set_option maxRecDepth 100000 in
theorem m_isNode (l : Launch) (G : mG) (M : mM) (g : Nat) (L : Nat → Nat) (S : sS) (cs ar : Nat → Int64) (K : Nat → Nat → Int64) (hR : RV G g L S cs ar K M) (x : Int32) (n : Nat) (hn : S 7 0 = nI n) (hn2 : n < 2 ^ 30) : Ct l yX7_isNode cX7_isNode 2 (some FieldType.boolean) (mm_r 1 0 0) G [.ref g, .int x] M (fun r M1 => r = some (.int (bI (0 ≤ x ∧ x < S 7 0))) ∧ M = M1) := by
  refine Ct.of (by decide) (Nat.le_of_ble_eq_true rfl) ?_
  intro p e s m args below meth c ls Q X hin hl hw hQ
  have hx := X.1
  have hb := X.2.1
  have hl : lv_has ls 2 [(0, .ref g), (1, .int x)] := hl
  refine lv_iload_n hx hb dX7_isNode_0 rfl (lv_at hl 1 rfl) ?_
  refine lv_iconst (v := 0) hx hb dX7_isNode_1 (by decide) ?_
  refine lv_aload_n hx hb dX7_isNode_2 rfl (lv_at hl 0 rfl) ?_
  refine rg_86 X hw hR dX7_isNode_3 ?_
  refine lv_iconst (v := 1) hx hb dX7_isNode_6 (by decide) ?_
  refine lv_isub hx hb dX7_isNode_7 ?_
  refine mm_callS (As := [.int x, .int 0, .int ((S 7 0) - 1)]) (rest := []) X hw (m_in l G _ (x) (0) ((S 7 0) - 1)) wd_X7_82 ⟨Nat.le_of_ble_eq_true rfl, Nat.le_of_ble_eq_true rfl⟩ ⟨Nat.le_of_ble_eq_true rfl, Nat.le_of_ble_eq_true rfl⟩ rfl rfl (Nat.le_of_ble_eq_true rfl) hl.1 dX7_isNode_8 (fun v9 M9 H9 locs9 hp9 hw => ?_)
  obtain ⟨rfl, rfl⟩ := hp9
  refine W.eq (g2 := F0 m 11 ls [.int (bI (0 ≤ x ∧ x ≤ ((S 7 0) - 1)))]) rfl ?_
  exact mm_zret hQ X hw (bI_n _) (⟨congrArg (fun z => some (Value.int z)) (bI_e (and_congr_right fun h9 => le_pred hn hn2 h9)), rfl⟩) (Nat.le_of_ble_eq_true rfl) (Nat.le_of_ble_eq_true rfl) dX7_isNode_11
set_option maxHeartbeats 4000000 in
set_option maxRecDepth 100000 in
theorem m_isContract (l : Launch) (G : mG) (M : mM) (g : Nat) (L : Nat → Nat) (S : sS) (cs ar : Nat → Int64) (K : Nat → Nat → Int64) (hR : RV G g L S cs ar K M) (x : Int32) (n : Nat) (hn : S 12 0 = nI n) (hn2 : n < 2 ^ 30) : Ct l yX7_isContract cX7_isContract 2 (some FieldType.boolean) (mm_r 1 0 0) G [.ref g, .int x] M (fun r M1 => r = some (.int (bI (0 ≤ x ∧ x < S 12 0))) ∧ M = M1) := by
  refine Ct.of (by decide) (Nat.le_of_ble_eq_true rfl) ?_
  intro p e s m args below meth c ls Q X hin hl hw hQ
  have hx := X.1
  have hb := X.2.1
  have hl : lv_has ls 2 [(0, .ref g), (1, .int x)] := hl
  refine lv_iload_n hx hb dX7_isContract_0 rfl (lv_at hl 1 rfl) ?_
  refine lv_iconst (v := 0) hx hb dX7_isContract_1 (by decide) ?_
  refine lv_aload_n hx hb dX7_isContract_2 rfl (lv_at hl 0 rfl) ?_
  refine rg_89 X hw hR dX7_isContract_3 ?_
  refine lv_iconst (v := 1) hx hb dX7_isContract_6 (by decide) ?_
  refine lv_isub hx hb dX7_isContract_7 ?_
  refine mm_callS (As := [.int x, .int 0, .int ((S 12 0) - 1)]) (rest := []) X hw (m_in l G _ (x) (0) ((S 12 0) - 1)) wd_X7_82 ⟨Nat.le_of_ble_eq_true rfl, Nat.le_of_ble_eq_true rfl⟩ ⟨Nat.le_of_ble_eq_true rfl, Nat.le_of_ble_eq_true rfl⟩ rfl rfl (Nat.le_of_ble_eq_true rfl) hl.1 dX7_isContract_8 (fun v9 M9 H9 locs9 hp9 hw => ?_)
  obtain ⟨rfl, rfl⟩ := hp9
  refine W.eq (g2 := F0 m 11 ls [.int (bI (0 ≤ x ∧ x ≤ ((S 12 0) - 1)))]) rfl ?_
  exact mm_zret hQ X hw (bI_n _) (⟨congrArg (fun z => some (Value.int z)) (bI_e (and_congr_right fun h9 => le_pred hn hn2 h9)), rfl⟩) (Nat.le_of_ble_eq_true rfl) (Nat.le_of_ble_eq_true rfl) dX7_isContract_11
set_option maxHeartbeats 4000000 in
set_option maxRecDepth 100000 in
theorem m_price (l : Launch) (G : mG) (M : mM) (g : Nat) (L : Nat → Nat) (S : sS) (cs ar : Nat → Int64) (K : Nat → Nat → Int64) (hR : RV G g L S cs ar K M) (ne nn nc nl ht : Nat) (hN : NM S ne nn nc nl ht) (x y v : Int32) : Ct l yX7_price cX7_price 5 (some FieldType.int) (mm_r 2 0 0) G [.ref g, .int x, .int y, .int v] M (fun r M1 => r = some (.int (sp_price S x y v).1) ∧ ∃ K1, RV G g L (sp_price S x y v).2 cs ar K1 M1) := by
  refine Ct.of (by decide) (Nat.le_of_ble_eq_true rfl) ?_
  intro p e s m args below meth c ls Q X hin hl hw hQ
  have hx := X.1
  have hb := X.2.1
  have hl : lv_has ls 5 [(0, .ref g), (1, .int x), (2, .int y), (3, .int v)] := hl
  obtain ⟨hN0, hN1, hN2, hN7, hN8, hN12, hN13, hN18, hN19, hN5, hN6⟩ := id hN
  refine lv_aload_n hx hb dX7_price_0 rfl (lv_at hl 0 rfl) ?_
  refine lv_iload_n hx hb dX7_price_1 rfl (lv_at hl 1 rfl) ?_
  refine mm_callV (As := [.int x]) (rest := []) X hw (m_isEdition l G _ g L _ cs ar K hR (x) ne hN0 (by omega)) (hR.1) rfl wd_X7_92 ⟨Nat.le_of_ble_eq_true rfl, Nat.le_of_ble_eq_true rfl⟩ ⟨Nat.le_of_ble_eq_true rfl, Nat.le_of_ble_eq_true rfl⟩ rfl rfl (Nat.le_of_ble_eq_true rfl) hl.1 dX7_price_2 (fun v9 M9 H9 locs9 hp9 hw => ?_)
  obtain ⟨rfl, rfl⟩ := hp9
  refine W.eq (g2 := F0 m 5 ls [.int (bI (0 ≤ x ∧ x < S 0 0))]) rfl ?_
  refine mm_ifeqB (tgt := 28) hx hb dX7_price_5 (by decide) (fun c5 => ?_) (fun c5 => ?_)
  · refine lv_bipush (v := (-2)) hx hb dX7_price_28 (by decide) ?_
    exact mm_iret hQ X hw (by have e9 : sp_price S x y v = ((-2), S) := (by rw [sp_price, if_pos c5]); rw [e9]; exact ⟨rfl, _, hR⟩) (Nat.le_of_ble_eq_true rfl) (Nat.le_of_ble_eq_true rfl) dX7_price_30
  · have b_x : cl x < ne := cl_lt hN0 (by omega) c5
    refine lv_iload_n hx hb dX7_price_8 rfl (lv_at hl 2 rfl) ?_
    refine lv_iconst (v := 0) hx hb dX7_price_9 (by decide) ?_
    refine lv_bipush (v := 8) hx hb dX7_price_10 (by decide) ?_
    refine mm_callS (As := [.int y, .int 0, .int 8]) (rest := []) X hw (m_in l G _ (y) (0) (8)) wd_X7_82 ⟨Nat.le_of_ble_eq_true rfl, Nat.le_of_ble_eq_true rfl⟩ ⟨Nat.le_of_ble_eq_true rfl, Nat.le_of_ble_eq_true rfl⟩ rfl rfl (Nat.le_of_ble_eq_true rfl) hl.1 dX7_price_12 (fun v9 M9 H9 locs9 hp9 hw => ?_)
    obtain ⟨rfl, rfl⟩ := hp9
    refine W.eq (g2 := F0 m 15 ls [.int (bI (0 ≤ y ∧ y ≤ 8))]) rfl ?_
    refine mm_ifeqB (tgt := 28) hx hb dX7_price_15 (by decide) (fun c15 => ?_) (fun c15 => ?_)
    · refine lv_bipush (v := (-2)) hx hb dX7_price_28 (by decide) ?_
      exact mm_iret hQ X hw (by have e9 : sp_price S x y v = ((-2), S) := (by rw [sp_price, if_neg (fun h9 => h9 c5), if_pos c15]); rw [e9]; exact ⟨rfl, _, hR⟩) (Nat.le_of_ble_eq_true rfl) (Nat.le_of_ble_eq_true rfl) dX7_price_30
    · have b_y : cl y ≤ 8 := cl_le (n := 8) rfl (by decide) c15
      refine lv_iload_n hx hb dX7_price_18 rfl (lv_at hl 3 rfl) ?_
      refine lv_iconst (v := 0) hx hb dX7_price_19 (by decide) ?_
      refine lv_bipush (v := 100) hx hb dX7_price_20 (by decide) ?_
      refine mm_callS (As := [.int v, .int 0, .int 100]) (rest := []) X hw (m_in l G _ (v) (0) (100)) wd_X7_82 ⟨Nat.le_of_ble_eq_true rfl, Nat.le_of_ble_eq_true rfl⟩ ⟨Nat.le_of_ble_eq_true rfl, Nat.le_of_ble_eq_true rfl⟩ rfl rfl (Nat.le_of_ble_eq_true rfl) hl.1 dX7_price_22 (fun v9 M9 H9 locs9 hp9 hw => ?_)
      obtain ⟨rfl, rfl⟩ := hp9
      refine W.eq (g2 := F0 m 25 ls [.int (bI (0 ≤ v ∧ v ≤ 100))]) rfl ?_
      refine mm_ifneB (tgt := 31) hx hb dX7_price_25 (by decide) (fun c25 => ?_) (fun c25 => ?_)
      · refine lv_aload_n hx hb dX7_price_31 rfl (lv_at hl 0 rfl) ?_
        refine rg_23 X hw hR dX7_price_32 ?_
        refine lv_iload_n hx hb dX7_price_35 rfl (lv_at hl 1 rfl) ?_
        refine ri_iald X hw hR 4 rfl (cl x) (nI_cl c5.1) (by omega) dX7_price_36 ?_
        refine lv_if_eq (tgt := 43) hx hb dX7_price_37 (by decide) (fun c37 => ?_) (fun c37 => ?_)
        · refine lv_aload_n hx hb dX7_price_43 rfl (lv_at hl 0 rfl) ?_
          refine rg_13 X hw hR dX7_price_44 ?_
          refine lv_bipush (v := 9) hx hb dX7_price_47 (by decide) ?_
          refine lv_iload_n hx hb dX7_price_49 rfl (lv_at hl 1 rfl) ?_
          refine lv_imul hx hb dX7_price_50 ?_
          refine lv_iload_n hx hb dX7_price_51 rfl (lv_at hl 2 rfl) ?_
          refine lv_iadd hx hb dX7_price_52 ?_
          refine ri_iald X hw hR 1 rfl (9 * cl x + cl y) (jx 9 c5.1 c15.1) (by omega) dX7_price_53 ?_
          refine lv_istore (lv' := [(4, .int (S 1 (9 * cl x + cl y))), (0, .ref g), (1, .int x), (2, .int y), (3, .int v)]) hx hb dX7_price_54 hl (by decide) rfl (fun ls hl => ?_)
          refine lv_aload_n hx hb dX7_price_56 rfl (lv_at hl 1 rfl) ?_
          refine rg_13 X hw hR dX7_price_57 ?_
          refine lv_bipush (v := 9) hx hb dX7_price_60 (by decide) ?_
          refine lv_iload_n hx hb dX7_price_62 rfl (lv_at hl 2 rfl) ?_
          refine lv_imul hx hb dX7_price_63 ?_
          refine lv_iload_n hx hb dX7_price_64 rfl (lv_at hl 3 rfl) ?_
          refine lv_iadd hx hb dX7_price_65 ?_
          refine lv_iload_n hx hb dX7_price_66 rfl (lv_at hl 4 rfl) ?_
          refine ri_iast X hw hR 1 rfl (9 * cl x + cl y) (jx 9 c5.1 c15.1) (by omega) dX7_price_67 (fun M9 H9 locs9 hw hR => ?_)
          refine lv_iload hx hb dX7_price_68 (lv_at hl 0 rfl) ?_
          exact mm_iret hQ X hw (by have e9 : sp_price S x y v = (S 1 (9 * cl x + cl y), va_up S 1 (upd (S 1) (9 * cl x + cl y) (v))) := (by rw [sp_price, if_neg (fun h9 => h9 c5), if_neg (fun h9 => h9 c15), if_neg (fun h9 => h9 c25), if_neg (fun h9 => h9 c37)]); rw [e9]; exact ⟨rfl, _, hR⟩) (Nat.le_of_ble_eq_true rfl) (Nat.le_of_ble_eq_true rfl) dX7_price_70
        · refine lv_bipush (v := (-3)) hx hb dX7_price_40 (by decide) ?_
          exact mm_iret hQ X hw (by have e9 : sp_price S x y v = ((-3), S) := (by rw [sp_price, if_neg (fun h9 => h9 c5), if_neg (fun h9 => h9 c15), if_neg (fun h9 => h9 c25), if_pos c37]); rw [e9]; exact ⟨rfl, _, hR⟩) (Nat.le_of_ble_eq_true rfl) (Nat.le_of_ble_eq_true rfl) dX7_price_42
      · refine lv_bipush (v := (-2)) hx hb dX7_price_28 (by decide) ?_
        exact mm_iret hQ X hw (by have e9 : sp_price S x y v = ((-2), S) := (by rw [sp_price, if_neg (fun h9 => h9 c5), if_neg (fun h9 => h9 c15), if_pos c25]); rw [e9]; exact ⟨rfl, _, hR⟩) (Nat.le_of_ble_eq_true rfl) (Nat.le_of_ble_eq_true rfl) dX7_price_30
set_option maxHeartbeats 4000000 in
set_option maxRecDepth 100000 in
theorem m_member (l : Launch) (G : mG) (M : mM) (g : Nat) (L : Nat → Nat) (S : sS) (cs ar : Nat → Int64) (K : Nat → Nat → Int64) (hR : RV G g L S cs ar K M) (ne nn nc nl ht : Nat) (hN : NM S ne nn nc nl ht) (x y v : Int32) : Ct l yX7_member cX7_member 5 (some FieldType.int) (mm_r 2 0 0) G [.ref g, .int x, .int y, .int v] M (fun r M1 => r = some (.int (sp_member S x y v).1) ∧ ∃ K1, RV G g L (sp_member S x y v).2 cs ar K1 M1) := by
  refine Ct.of (by decide) (Nat.le_of_ble_eq_true rfl) ?_
  intro p e s m args below meth c ls Q X hin hl hw hQ
  have hx := X.1
  have hb := X.2.1
  have hl : lv_has ls 5 [(0, .ref g), (1, .int x), (2, .int y), (3, .int v)] := hl
  obtain ⟨hN0, hN1, hN2, hN7, hN8, hN12, hN13, hN18, hN19, hN5, hN6⟩ := id hN
  refine lv_aload_n hx hb dX7_member_0 rfl (lv_at hl 0 rfl) ?_
  refine lv_iload_n hx hb dX7_member_1 rfl (lv_at hl 1 rfl) ?_
  refine mm_callV (As := [.int x]) (rest := []) X hw (m_isEdition l G _ g L _ cs ar K hR (x) ne hN0 (by omega)) (hR.1) rfl wd_X7_92 ⟨Nat.le_of_ble_eq_true rfl, Nat.le_of_ble_eq_true rfl⟩ ⟨Nat.le_of_ble_eq_true rfl, Nat.le_of_ble_eq_true rfl⟩ rfl rfl (Nat.le_of_ble_eq_true rfl) hl.1 dX7_member_2 (fun v9 M9 H9 locs9 hp9 hw => ?_)
  obtain ⟨rfl, rfl⟩ := hp9
  refine W.eq (g2 := F0 m 5 ls [.int (bI (0 ≤ x ∧ x < S 0 0))]) rfl ?_
  refine mm_ifeqB (tgt := 27) hx hb dX7_member_5 (by decide) (fun c5 => ?_) (fun c5 => ?_)
  · refine lv_bipush (v := (-2)) hx hb dX7_member_27 (by decide) ?_
    exact mm_iret hQ X hw (by have e9 : sp_member S x y v = ((-2), S) := (by rw [sp_member, if_pos c5]); rw [e9]; exact ⟨rfl, _, hR⟩) (Nat.le_of_ble_eq_true rfl) (Nat.le_of_ble_eq_true rfl) dX7_member_29
  · have b_x : cl x < ne := cl_lt hN0 (by omega) c5
    refine lv_iload_n hx hb dX7_member_8 rfl (lv_at hl 2 rfl) ?_
    refine lv_iconst (v := 0) hx hb dX7_member_9 (by decide) ?_
    refine lv_bipush (v := 7) hx hb dX7_member_10 (by decide) ?_
    refine mm_callS (As := [.int y, .int 0, .int 7]) (rest := []) X hw (m_in l G _ (y) (0) (7)) wd_X7_82 ⟨Nat.le_of_ble_eq_true rfl, Nat.le_of_ble_eq_true rfl⟩ ⟨Nat.le_of_ble_eq_true rfl, Nat.le_of_ble_eq_true rfl⟩ rfl rfl (Nat.le_of_ble_eq_true rfl) hl.1 dX7_member_12 (fun v9 M9 H9 locs9 hp9 hw => ?_)
    obtain ⟨rfl, rfl⟩ := hp9
    refine W.eq (g2 := F0 m 15 ls [.int (bI (0 ≤ y ∧ y ≤ 7))]) rfl ?_
    refine mm_ifeqB (tgt := 27) hx hb dX7_member_15 (by decide) (fun c15 => ?_) (fun c15 => ?_)
    · refine lv_bipush (v := (-2)) hx hb dX7_member_27 (by decide) ?_
      exact mm_iret hQ X hw (by have e9 : sp_member S x y v = ((-2), S) := (by rw [sp_member, if_neg (fun h9 => h9 c5), if_pos c15]); rw [e9]; exact ⟨rfl, _, hR⟩) (Nat.le_of_ble_eq_true rfl) (Nat.le_of_ble_eq_true rfl) dX7_member_29
    · have b_y : cl y ≤ 7 := cl_le (n := 7) rfl (by decide) c15
      refine lv_iload_n hx hb dX7_member_18 rfl (lv_at hl 3 rfl) ?_
      refine lv_iconst (v := (-1)) hx hb dX7_member_19 (by decide) ?_
      refine lv_iconst (v := 5) hx hb dX7_member_20 (by decide) ?_
      refine mm_callS (As := [.int v, .int ((-1)), .int 5]) (rest := []) X hw (m_in l G _ (v) ((-1)) (5)) wd_X7_82 ⟨Nat.le_of_ble_eq_true rfl, Nat.le_of_ble_eq_true rfl⟩ ⟨Nat.le_of_ble_eq_true rfl, Nat.le_of_ble_eq_true rfl⟩ rfl rfl (Nat.le_of_ble_eq_true rfl) hl.1 dX7_member_21 (fun v9 M9 H9 locs9 hp9 hw => ?_)
      obtain ⟨rfl, rfl⟩ := hp9
      refine W.eq (g2 := F0 m 24 ls [.int (bI (((-1)) ≤ v ∧ v ≤ 5))]) rfl ?_
      refine mm_ifneB (tgt := 30) hx hb dX7_member_24 (by decide) (fun c24 => ?_) (fun c24 => ?_)
      · refine lv_aload_n hx hb dX7_member_30 rfl (lv_at hl 0 rfl) ?_
        refine rg_23 X hw hR dX7_member_31 ?_
        refine lv_iload_n hx hb dX7_member_34 rfl (lv_at hl 1 rfl) ?_
        refine ri_iald X hw hR 4 rfl (cl x) (nI_cl c5.1) (by omega) dX7_member_35 ?_
        refine lv_if_eq (tgt := 42) hx hb dX7_member_36 (by decide) (fun c36 => ?_) (fun c36 => ?_)
        · refine lv_aload_n hx hb dX7_member_42 rfl (lv_at hl 0 rfl) ?_
          refine rg_17 X hw hR dX7_member_43 ?_
          refine lv_bipush (v := 8) hx hb dX7_member_46 (by decide) ?_
          refine lv_iload_n hx hb dX7_member_48 rfl (lv_at hl 1 rfl) ?_
          refine lv_imul hx hb dX7_member_49 ?_
          refine lv_iload_n hx hb dX7_member_50 rfl (lv_at hl 2 rfl) ?_
          refine lv_iadd hx hb dX7_member_51 ?_
          refine ri_iald X hw hR 2 rfl (8 * cl x + cl y) (jx 8 c5.1 c15.1) (by omega) dX7_member_52 ?_
          refine lv_istore (lv' := [(4, .int (S 2 (8 * cl x + cl y))), (0, .ref g), (1, .int x), (2, .int y), (3, .int v)]) hx hb dX7_member_53 hl (by decide) rfl (fun ls hl => ?_)
          refine lv_aload_n hx hb dX7_member_55 rfl (lv_at hl 1 rfl) ?_
          refine rg_17 X hw hR dX7_member_56 ?_
          refine lv_bipush (v := 8) hx hb dX7_member_59 (by decide) ?_
          refine lv_iload_n hx hb dX7_member_61 rfl (lv_at hl 2 rfl) ?_
          refine lv_imul hx hb dX7_member_62 ?_
          refine lv_iload_n hx hb dX7_member_63 rfl (lv_at hl 3 rfl) ?_
          refine lv_iadd hx hb dX7_member_64 ?_
          refine lv_iload_n hx hb dX7_member_65 rfl (lv_at hl 4 rfl) ?_
          refine ri_iast X hw hR 2 rfl (8 * cl x + cl y) (jx 8 c5.1 c15.1) (by omega) dX7_member_66 (fun M9 H9 locs9 hw hR => ?_)
          refine lv_iload hx hb dX7_member_67 (lv_at hl 0 rfl) ?_
          exact mm_iret hQ X hw (by have e9 : sp_member S x y v = (S 2 (8 * cl x + cl y), va_up S 2 (upd (S 2) (8 * cl x + cl y) (v))) := (by rw [sp_member, if_neg (fun h9 => h9 c5), if_neg (fun h9 => h9 c15), if_neg (fun h9 => h9 c24), if_neg (fun h9 => h9 c36)]); rw [e9]; exact ⟨rfl, _, hR⟩) (Nat.le_of_ble_eq_true rfl) (Nat.le_of_ble_eq_true rfl) dX7_member_69
        · refine lv_bipush (v := (-3)) hx hb dX7_member_39 (by decide) ?_
          exact mm_iret hQ X hw (by have e9 : sp_member S x y v = ((-3), S) := (by rw [sp_member, if_neg (fun h9 => h9 c5), if_neg (fun h9 => h9 c15), if_neg (fun h9 => h9 c24), if_pos c36]); rw [e9]; exact ⟨rfl, _, hR⟩) (Nat.le_of_ble_eq_true rfl) (Nat.le_of_ble_eq_true rfl) dX7_member_41
      · refine lv_bipush (v := (-2)) hx hb dX7_member_27 (by decide) ?_
        exact mm_iret hQ X hw (by have e9 : sp_member S x y v = ((-2), S) := (by rw [sp_member, if_neg (fun h9 => h9 c5), if_neg (fun h9 => h9 c15), if_pos c24]); rw [e9]; exact ⟨rfl, _, hR⟩) (Nat.le_of_ble_eq_true rfl) (Nat.le_of_ble_eq_true rfl) dX7_member_29
set_option maxHeartbeats 4000000 in
set_option maxRecDepth 100000 in
theorem m_about (l : Launch) (G : mG) (M : mM) (g : Nat) (L : Nat → Nat) (S : sS) (cs ar : Nat → Int64) (K : Nat → Nat → Int64) (hR : RV G g L S cs ar K M) (ne nn nc nl ht : Nat) (hN : NM S ne nn nc nl ht) (x w k : Int32) : Ct l yX7_about cX7_about 4 (some FieldType.int) (mm_r 2 0 0) G [.ref g, .int x, .int w, .int k] M (fun r M1 => r = some (.int (sp_about S x w k)) ∧ M = M1) := by
  refine Ct.of (by decide) (Nat.le_of_ble_eq_true rfl) ?_
  intro p e s m args below meth c ls Q X hin hl hw hQ
  have hx := X.1
  have hb := X.2.1
  have hl : lv_has ls 4 [(0, .ref g), (1, .int x), (2, .int w), (3, .int k)] := hl
  obtain ⟨hN0, hN1, hN2, hN7, hN8, hN12, hN13, hN18, hN19, hN5, hN6⟩ := id hN
  refine lv_aload_n hx hb dX7_about_0 rfl (lv_at hl 0 rfl) ?_
  refine lv_iload_n hx hb dX7_about_1 rfl (lv_at hl 1 rfl) ?_
  refine mm_callV (As := [.int x]) (rest := []) X hw (m_isEdition l G _ g L _ cs ar K hR (x) ne hN0 (by omega)) (hR.1) rfl wd_X7_92 ⟨Nat.le_of_ble_eq_true rfl, Nat.le_of_ble_eq_true rfl⟩ ⟨Nat.le_of_ble_eq_true rfl, Nat.le_of_ble_eq_true rfl⟩ rfl rfl (Nat.le_of_ble_eq_true rfl) hl.1 dX7_about_2 (fun v9 M9 H9 locs9 hp9 hw => ?_)
  obtain ⟨rfl, rfl⟩ := hp9
  refine W.eq (g2 := F0 m 5 ls [.int (bI (0 ≤ x ∧ x < S 0 0))]) rfl ?_
  refine mm_ifneB (tgt := 11) hx hb dX7_about_5 (by decide) (fun c5 => ?_) (fun c5 => ?_)
  · have b_x : cl x < ne := cl_lt hN0 (by omega) c5
    refine lv_iload_n hx hb dX7_about_11 rfl (lv_at hl 2 rfl) ?_
    rcases mm_sw w 0 4 (by decide) (by decide) with ⟨k9, hk9, c12⟩ | c12
    · rcases (show k9 = 0 ∨ k9 = 1 ∨ k9 = 2 ∨ k9 = 3 by omega) with rfl | rfl | rfl | rfl
      · have c12 : w = 0 := c12
        refine lv_tableIn (off := 32) (tgt := 44) hx hb dX7_about_12 (by rw [c12]; decide) (by rw [c12]; decide) (by rw [c12]; rfl) (by decide) ?_
        refine lv_iload_n hx hb dX7_about_44 rfl (lv_at hl 3 rfl) ?_
        refine lv_iconst (v := 0) hx hb dX7_about_45 (by decide) ?_
        refine lv_bipush (v := 8) hx hb dX7_about_46 (by decide) ?_
        refine mm_callS (As := [.int k, .int 0, .int 8]) (rest := []) X hw (m_in l G _ (k) (0) (8)) wd_X7_82 ⟨Nat.le_of_ble_eq_true rfl, Nat.le_of_ble_eq_true rfl⟩ ⟨Nat.le_of_ble_eq_true rfl, Nat.le_of_ble_eq_true rfl⟩ rfl rfl (Nat.le_of_ble_eq_true rfl) hl.1 dX7_about_48 (fun v9 M9 H9 locs9 hp9 hw => ?_)
        obtain ⟨rfl, rfl⟩ := hp9
        refine W.eq (g2 := F0 m 51 ls [.int (bI (0 ≤ k ∧ k ≤ 8))]) rfl ?_
        refine mm_ifeqB (tgt := 68) hx hb dX7_about_51 (by decide) (fun c51 => ?_) (fun c51 => ?_)
        · refine lv_bipush (v := (-2)) hx hb dX7_about_68 (by decide) ?_
          exact mm_iret hQ X hw (⟨by rw [sp_about, if_neg (fun h9 => h9 c5), if_pos c12, if_neg c51], rfl⟩) (Nat.le_of_ble_eq_true rfl) (Nat.le_of_ble_eq_true rfl) dX7_about_70
        · have b_k : cl k ≤ 8 := cl_le (n := 8) rfl (by decide) c51
          refine lv_aload_n hx hb dX7_about_54 rfl (lv_at hl 0 rfl) ?_
          refine rg_13 X hw hR dX7_about_55 ?_
          refine lv_bipush (v := 9) hx hb dX7_about_58 (by decide) ?_
          refine lv_iload_n hx hb dX7_about_60 rfl (lv_at hl 1 rfl) ?_
          refine lv_imul hx hb dX7_about_61 ?_
          refine lv_iload_n hx hb dX7_about_62 rfl (lv_at hl 3 rfl) ?_
          refine lv_iadd hx hb dX7_about_63 ?_
          refine ri_iald X hw hR 1 rfl (9 * cl x + cl k) (jx 9 c5.1 c51.1) (by omega) dX7_about_64 ?_
          refine lv_goto (tgt := 70) hx hb dX7_about_65 (by decide) ?_
          exact mm_iret hQ X hw (⟨by rw [sp_about, if_neg (fun h9 => h9 c5), if_pos c12, if_pos c51], rfl⟩) (Nat.le_of_ble_eq_true rfl) (Nat.le_of_ble_eq_true rfl) dX7_about_70
      · have c12 : w = 1 := c12
        refine lv_tableIn (off := 59) (tgt := 71) hx hb dX7_about_12 (by rw [c12]; decide) (by rw [c12]; decide) (by rw [c12]; rfl) (by decide) ?_
        refine lv_iload_n hx hb dX7_about_71 rfl (lv_at hl 3 rfl) ?_
        refine lv_iconst (v := 0) hx hb dX7_about_72 (by decide) ?_
        refine lv_bipush (v := 7) hx hb dX7_about_73 (by decide) ?_
        refine mm_callS (As := [.int k, .int 0, .int 7]) (rest := []) X hw (m_in l G _ (k) (0) (7)) wd_X7_82 ⟨Nat.le_of_ble_eq_true rfl, Nat.le_of_ble_eq_true rfl⟩ ⟨Nat.le_of_ble_eq_true rfl, Nat.le_of_ble_eq_true rfl⟩ rfl rfl (Nat.le_of_ble_eq_true rfl) hl.1 dX7_about_75 (fun v9 M9 H9 locs9 hp9 hw => ?_)
        obtain ⟨rfl, rfl⟩ := hp9
        refine W.eq (g2 := F0 m 78 ls [.int (bI (0 ≤ k ∧ k ≤ 7))]) rfl ?_
        refine mm_ifeqB (tgt := 95) hx hb dX7_about_78 (by decide) (fun c78 => ?_) (fun c78 => ?_)
        · refine lv_bipush (v := (-2)) hx hb dX7_about_95 (by decide) ?_
          exact mm_iret hQ X hw (⟨by rw [sp_about, if_neg (fun h9 => h9 c5), if_neg (by rw [c12]; decide), if_pos c12, if_neg c78], rfl⟩) (Nat.le_of_ble_eq_true rfl) (Nat.le_of_ble_eq_true rfl) dX7_about_97
        · have b_k : cl k ≤ 7 := cl_le (n := 7) rfl (by decide) c78
          refine lv_aload_n hx hb dX7_about_81 rfl (lv_at hl 0 rfl) ?_
          refine rg_17 X hw hR dX7_about_82 ?_
          refine lv_bipush (v := 8) hx hb dX7_about_85 (by decide) ?_
          refine lv_iload_n hx hb dX7_about_87 rfl (lv_at hl 1 rfl) ?_
          refine lv_imul hx hb dX7_about_88 ?_
          refine lv_iload_n hx hb dX7_about_89 rfl (lv_at hl 3 rfl) ?_
          refine lv_iadd hx hb dX7_about_90 ?_
          refine ri_iald X hw hR 2 rfl (8 * cl x + cl k) (jx 8 c5.1 c78.1) (by omega) dX7_about_91 ?_
          refine lv_goto (tgt := 97) hx hb dX7_about_92 (by decide) ?_
          exact mm_iret hQ X hw (⟨by rw [sp_about, if_neg (fun h9 => h9 c5), if_neg (by rw [c12]; decide), if_pos c12, if_pos c78], rfl⟩) (Nat.le_of_ble_eq_true rfl) (Nat.le_of_ble_eq_true rfl) dX7_about_97
      · have c12 : w = 2 := c12
        refine lv_tableIn (off := 86) (tgt := 98) hx hb dX7_about_12 (by rw [c12]; decide) (by rw [c12]; decide) (by rw [c12]; rfl) (by decide) ?_
        refine lv_aload_n hx hb dX7_about_98 rfl (lv_at hl 0 rfl) ?_
        refine rg_20 X hw hR dX7_about_99 ?_
        refine lv_iload_n hx hb dX7_about_102 rfl (lv_at hl 1 rfl) ?_
        refine ri_iald X hw hR 3 rfl (cl x) (nI_cl c5.1) (by omega) dX7_about_103 ?_
        exact mm_iret hQ X hw (⟨by rw [sp_about, if_neg (fun h9 => h9 c5), if_neg (by rw [c12]; decide), if_neg (by rw [c12]; decide), if_pos c12], rfl⟩) (Nat.le_of_ble_eq_true rfl) (Nat.le_of_ble_eq_true rfl) dX7_about_104
      · have c12 : w = 3 := c12
        refine lv_tableIn (off := 93) (tgt := 105) hx hb dX7_about_12 (by rw [c12]; decide) (by rw [c12]; decide) (by rw [c12]; rfl) (by decide) ?_
        refine lv_aload_n hx hb dX7_about_105 rfl (lv_at hl 0 rfl) ?_
        refine rg_23 X hw hR dX7_about_106 ?_
        refine lv_iload_n hx hb dX7_about_109 rfl (lv_at hl 1 rfl) ?_
        refine ri_iald X hw hR 4 rfl (cl x) (nI_cl c5.1) (by omega) dX7_about_110 ?_
        exact mm_iret hQ X hw (⟨by rw [sp_about, if_neg (fun h9 => h9 c5), if_neg (by rw [c12]; decide), if_neg (by rw [c12]; decide), if_neg (by rw [c12]; decide), if_pos c12], rfl⟩) (Nat.le_of_ble_eq_true rfl) (Nat.le_of_ble_eq_true rfl) dX7_about_111
    · refine lv_tableOut (tgt := 112) hx hb dX7_about_12 c12 (by decide) ?_
      refine lv_bipush (v := (-2)) hx hb dX7_about_112 (by decide) ?_
      exact mm_iret hQ X hw (⟨by rw [sp_about, if_neg (fun h9 => h9 c5), if_neg (by intro h9; rw [h9] at c12; revert c12; decide), if_neg (by intro h9; rw [h9] at c12; revert c12; decide), if_neg (by intro h9; rw [h9] at c12; revert c12; decide), if_neg (by intro h9; rw [h9] at c12; revert c12; decide)], rfl⟩) (Nat.le_of_ble_eq_true rfl) (Nat.le_of_ble_eq_true rfl) dX7_about_114
  · refine lv_bipush (v := (-2)) hx hb dX7_about_8 (by decide) ?_
    exact mm_iret hQ X hw (⟨by rw [sp_about, if_pos c5], rfl⟩) (Nat.le_of_ble_eq_true rfl) (Nat.le_of_ble_eq_true rfl) dX7_about_10
set_option maxHeartbeats 4000000 in
set_option maxRecDepth 100000 in
theorem m_node (l : Launch) (G : mG) (M : mM) (g : Nat) (L : Nat → Nat) (S : sS) (cs ar : Nat → Int64) (K : Nat → Nat → Int64) (hR : RV G g L S cs ar K M) (ne nn nc nl ht : Nat) (hN : NM S ne nn nc nl ht) (x y : Int32) : Ct l yX7_node cX7_node 3 (some FieldType.int) (mm_r 1 0 0) G [.ref g, .int x, .int y] M (fun r M1 => r = some (.int (sp_node S x y).1) ∧ ∃ K1, RV G g L (sp_node S x y).2 cs ar K1 M1) := by
  refine Ct.of (by decide) (Nat.le_of_ble_eq_true rfl) ?_
  intro p e s m args below meth c ls Q X hin hl hw hQ
  have hx := X.1
  have hb := X.2.1
  have hl : lv_has ls 3 [(0, .ref g), (1, .int x), (2, .int y)] := hl
  obtain ⟨hN0, hN1, hN2, hN7, hN8, hN12, hN13, hN18, hN19, hN5, hN6⟩ := id hN
  have h7c : S 7 0 = nI (cl (S 7 0)) := by rw [hN7, cl_n (by omega)]
  have h7b : cl (S 7 0) = nn := by rw [hN7, cl_n (by omega)]
  refine lv_iload_n hx hb dX7_node_0 rfl (lv_at hl 1 rfl) ?_
  refine lv_iconst (v := 1) hx hb dX7_node_1 (by decide) ?_
  refine lv_sipush (v := 1000) hx hb dX7_node_2 (by decide) ?_
  refine mm_callS (As := [.int x, .int 1, .int 1000]) (rest := []) X hw (m_in l G _ (x) (1) (1000)) wd_X7_82 ⟨Nat.le_of_ble_eq_true rfl, Nat.le_of_ble_eq_true rfl⟩ ⟨Nat.le_of_ble_eq_true rfl, Nat.le_of_ble_eq_true rfl⟩ rfl rfl (Nat.le_of_ble_eq_true rfl) hl.1 dX7_node_5 (fun v9 M9 H9 locs9 hp9 hw => ?_)
  obtain ⟨rfl, rfl⟩ := hp9
  refine W.eq (g2 := F0 m 8 ls [.int (bI (1 ≤ x ∧ x ≤ 1000))]) rfl ?_
  refine mm_ifeqB (tgt := 22) hx hb dX7_node_8 (by decide) (fun c8 => ?_) (fun c8 => ?_)
  · refine lv_bipush (v := (-2)) hx hb dX7_node_22 (by decide) ?_
    exact mm_iret hQ X hw (by have e9 : sp_node S x y = ((-2), S) := (by rw [sp_node, if_pos c8]); rw [e9]; exact ⟨rfl, _, hR⟩) (Nat.le_of_ble_eq_true rfl) (Nat.le_of_ble_eq_true rfl) dX7_node_24
  · refine lv_iload_n hx hb dX7_node_11 rfl (lv_at hl 2 rfl) ?_
    refine lv_iconst (v := 0) hx hb dX7_node_12 (by decide) ?_
    refine lv_sipush (v := 1023) hx hb dX7_node_13 (by decide) ?_
    refine mm_callS (As := [.int y, .int 0, .int 1023]) (rest := []) X hw (m_in l G _ (y) (0) (1023)) wd_X7_82 ⟨Nat.le_of_ble_eq_true rfl, Nat.le_of_ble_eq_true rfl⟩ ⟨Nat.le_of_ble_eq_true rfl, Nat.le_of_ble_eq_true rfl⟩ rfl rfl (Nat.le_of_ble_eq_true rfl) hl.1 dX7_node_16 (fun v9 M9 H9 locs9 hp9 hw => ?_)
    obtain ⟨rfl, rfl⟩ := hp9
    refine W.eq (g2 := F0 m 19 ls [.int (bI (0 ≤ y ∧ y ≤ 1023))]) rfl ?_
    refine mm_ifneB (tgt := 25) hx hb dX7_node_19 (by decide) (fun c19 => ?_) (fun c19 => ?_)
    · refine lv_aload_n hx hb dX7_node_25 rfl (lv_at hl 0 rfl) ?_
      refine rg_86 X hw hR dX7_node_26 ?_
      refine lv_bipush (v := 12) hx hb dX7_node_29 (by decide) ?_
      refine lv_icmp_ne (tgt := 37) hx hb dX7_node_31 (by decide) (fun c31 => ?_) (fun c31 => ?_)
      · have q7 : nn ≠ 12 := fun h9 => c31 (by rw [hN7, h9]; rfl)
        refine lv_aload_n hx hb dX7_node_37 rfl (lv_at hl 0 rfl) ?_
        refine rg_29 X hw hR dX7_node_38 ?_
        refine lv_aload_n hx hb dX7_node_41 rfl (lv_at hl 0 rfl) ?_
        refine rg_86 X hw hR dX7_node_42 ?_
        refine lv_iload_n hx hb dX7_node_45 rfl (lv_at hl 1 rfl) ?_
        refine ri_iast X hw hR 8 rfl (cl (S 7 0)) (h7c) (by omega) dX7_node_46 (fun M9 H9 locs9 hw hR => ?_)
        refine lv_aload_n hx hb dX7_node_47 rfl (lv_at hl 0 rfl) ?_
        refine rg_32 X hw hR dX7_node_48 ?_
        refine W.eq (g2 := F0 m 51 ls [.ref (L 9)]) rfl ?_
        refine lv_aload_n hx hb dX7_node_51 rfl (lv_at hl 0 rfl) ?_
        refine rg_86 X hw hR dX7_node_52 ?_
        refine W.eq (g2 := F0 m 55 ls [.int (S 7 0), .ref (L 9)]) rfl ?_
        refine lv_iload_n hx hb dX7_node_55 rfl (lv_at hl 2 rfl) ?_
        refine ri_iast X hw hR 9 rfl (cl (S 7 0)) (h7c) (by omega) dX7_node_56 (fun M9 H9 locs9 hw hR => ?_)
        have hR : RV G g L (va_up (va_up S 8 (upd (S 8) (cl (S 7 0)) (x))) 9 (upd (S 9) (cl (S 7 0)) (y))) cs ar K M9 := hR
        refine lv_aload_n hx hb dX7_node_57 rfl (lv_at hl 0 rfl) ?_
        refine rg_35 X hw hR dX7_node_58 ?_
        refine W.eq (g2 := F0 m 61 ls [.ref (L 10)]) rfl ?_
        refine lv_aload_n hx hb dX7_node_61 rfl (lv_at hl 0 rfl) ?_
        refine rg_86 X hw hR dX7_node_62 ?_
        refine W.eq (g2 := F0 m 65 ls [.int (S 7 0), .ref (L 10)]) rfl ?_
        refine lv_iconst (v := (-1)) hx hb dX7_node_65 (by decide) ?_
        refine ri_iast X hw hR 10 rfl (cl (S 7 0)) (h7c) (by omega) dX7_node_66 (fun M9 H9 locs9 hw hR => ?_)
        have hR : RV G g L (va_up (va_up (va_up S 8 (upd (S 8) (cl (S 7 0)) (x))) 9 (upd (S 9) (cl (S 7 0)) (y))) 10 (upd (S 10) (cl (S 7 0)) ((-1)))) cs ar K M9 := hR
        refine lv_aload_n hx hb dX7_node_67 rfl (lv_at hl 0 rfl) ?_
        refine lv_dup hx hb dX7_node_68 rfl ?_
        refine rg_86 X hw hR dX7_node_69 ?_
        refine W.eq (g2 := F0 m 72 ls [.int (S 7 0), .ref g]) rfl ?_
        refine lv_iconst (v := 1) hx hb dX7_node_72 (by decide) ?_
        refine lv_iadd hx hb dX7_node_73 ?_
        refine rp_86 X hw hR dX7_node_74 (fun M9 H9 locs9 hw hR => ?_)
        have hR : RV G g L (va_up (va_up (va_up (va_up S 8 (upd (S 8) (cl (S 7 0)) (x))) 9 (upd (S 9) (cl (S 7 0)) (y))) 10 (upd (S 10) (cl (S 7 0)) ((-1)))) 7 (fun _ => (S 7 0) + 1)) cs ar K M9 := hR
        refine lv_aload_n hx hb dX7_node_77 rfl (lv_at hl 0 rfl) ?_
        refine rg_86 X hw hR dX7_node_78 ?_
        refine W.eq (g2 := F0 m 81 ls [.int ((S 7 0) + 1)]) rfl ?_
        refine lv_iconst (v := 1) hx hb dX7_node_81 (by decide) ?_
        refine lv_isub hx hb dX7_node_82 ?_
        exact mm_iret hQ X hw (by have e9 : sp_node S x y = (((S 7 0) + 1) - 1, va_up (va_up (va_up (va_up S 8 (upd (S 8) (cl (S 7 0)) (x))) 9 (upd (S 9) (cl (S 7 0)) (y))) 10 (upd (S 10) (cl (S 7 0)) ((-1)))) 7 (fun _ => (S 7 0) + 1)) := (by rw [sp_node, if_neg (fun h9 => h9 c8), if_neg (fun h9 => h9 c19), if_neg c31]); rw [e9]; exact ⟨rfl, _, hR⟩) (Nat.le_of_ble_eq_true rfl) (Nat.le_of_ble_eq_true rfl) dX7_node_83
      · refine lv_bipush (v := (-4)) hx hb dX7_node_34 (by decide) ?_
        exact mm_iret hQ X hw (by have e9 : sp_node S x y = ((-4), S) := (by rw [sp_node, if_neg (fun h9 => h9 c8), if_neg (fun h9 => h9 c19), if_pos c31]); rw [e9]; exact ⟨rfl, _, hR⟩) (Nat.le_of_ble_eq_true rfl) (Nat.le_of_ble_eq_true rfl) dX7_node_36
    · refine lv_bipush (v := (-2)) hx hb dX7_node_22 (by decide) ?_
      exact mm_iret hQ X hw (by have e9 : sp_node S x y = ((-2), S) := (by rw [sp_node, if_neg (fun h9 => h9 c8), if_pos c19]); rw [e9]; exact ⟨rfl, _, hR⟩) (Nat.le_of_ble_eq_true rfl) (Nat.le_of_ble_eq_true rfl) dX7_node_24
set_option maxHeartbeats 4000000 in
set_option maxRecDepth 100000 in
theorem m_build (l : Launch) (G : mG) (M : mM) (g : Nat) (L : Nat → Nat) (S : sS) (cs ar : Nat → Int64) (K : Nat → Nat → Int64) (hR : RV G g L S cs ar K M) (ne nn nc nl ht : Nat) (hN : NM S ne nn nc nl ht) (x y : Int32) : Ct l yX7_build cX7_build 3 (some FieldType.int) (mm_r 2 0 0) G [.ref g, .int x, .int y] M (fun r M1 => r = some (.int (sp_build S x y).1) ∧ ∃ K1, RV G g L (sp_build S x y).2 cs ar K1 M1) := by
  refine Ct.of (by decide) (Nat.le_of_ble_eq_true rfl) ?_
  intro p e s m args below meth c ls Q X hin hl hw hQ
  have hx := X.1
  have hb := X.2.1
  have hl : lv_has ls 3 [(0, .ref g), (1, .int x), (2, .int y)] := hl
  obtain ⟨hN0, hN1, hN2, hN7, hN8, hN12, hN13, hN18, hN19, hN5, hN6⟩ := id hN
  refine lv_aload_n hx hb dX7_build_0 rfl (lv_at hl 0 rfl) ?_
  refine lv_iload_n hx hb dX7_build_1 rfl (lv_at hl 1 rfl) ?_
  refine mm_callV (As := [.int x]) (rest := []) X hw (m_isNode l G _ g L _ cs ar K hR (x) nn hN7 (by omega)) (hR.1) rfl wd_X7_96 ⟨Nat.le_of_ble_eq_true rfl, Nat.le_of_ble_eq_true rfl⟩ ⟨Nat.le_of_ble_eq_true rfl, Nat.le_of_ble_eq_true rfl⟩ rfl rfl (Nat.le_of_ble_eq_true rfl) hl.1 dX7_build_2 (fun v9 M9 H9 locs9 hp9 hw => ?_)
  obtain ⟨rfl, rfl⟩ := hp9
  refine W.eq (g2 := F0 m 5 ls [.int (bI (0 ≤ x ∧ x < S 7 0))]) rfl ?_
  refine mm_ifeqB (tgt := 19) hx hb dX7_build_5 (by decide) (fun c5 => ?_) (fun c5 => ?_)
  · refine lv_bipush (v := (-2)) hx hb dX7_build_19 (by decide) ?_
    exact mm_iret hQ X hw (by have e9 : sp_build S x y = ((-2), S) := (by rw [sp_build, if_pos c5]); rw [e9]; exact ⟨rfl, _, hR⟩) (Nat.le_of_ble_eq_true rfl) (Nat.le_of_ble_eq_true rfl) dX7_build_21
  · have b_x : cl x < nn := cl_lt hN7 (by omega) c5
    refine lv_iload_n hx hb dX7_build_8 rfl (lv_at hl 2 rfl) ?_
    refine lv_iconst (v := 0) hx hb dX7_build_9 (by decide) ?_
    refine lv_sipush (v := 1023) hx hb dX7_build_10 (by decide) ?_
    refine mm_callS (As := [.int y, .int 0, .int 1023]) (rest := []) X hw (m_in l G _ (y) (0) (1023)) wd_X7_82 ⟨Nat.le_of_ble_eq_true rfl, Nat.le_of_ble_eq_true rfl⟩ ⟨Nat.le_of_ble_eq_true rfl, Nat.le_of_ble_eq_true rfl⟩ rfl rfl (Nat.le_of_ble_eq_true rfl) hl.1 dX7_build_13 (fun v9 M9 H9 locs9 hp9 hw => ?_)
    obtain ⟨rfl, rfl⟩ := hp9
    refine W.eq (g2 := F0 m 16 ls [.int (bI (0 ≤ y ∧ y ≤ 1023))]) rfl ?_
    refine mm_ifneB (tgt := 22) hx hb dX7_build_16 (by decide) (fun c16 => ?_) (fun c16 => ?_)
    · refine lv_aload_n hx hb dX7_build_22 rfl (lv_at hl 0 rfl) ?_
      refine rg_35 X hw hR dX7_build_23 ?_
      refine lv_iload_n hx hb dX7_build_26 rfl (lv_at hl 1 rfl) ?_
      refine ri_iald X hw hR 10 rfl (cl x) (nI_cl c5.1) (by omega) dX7_build_27 ?_
      refine lv_iconst (v := (-1)) hx hb dX7_build_28 (by decide) ?_
      refine lv_icmp_eq (tgt := 35) hx hb dX7_build_29 (by decide) (fun c29 => ?_) (fun c29 => ?_)
      · refine lv_aload_n hx hb dX7_build_35 rfl (lv_at hl 0 rfl) ?_
        refine rg_32 X hw hR dX7_build_36 ?_
        refine lv_iload_n hx hb dX7_build_39 rfl (lv_at hl 1 rfl) ?_
        refine lv_iload_n hx hb dX7_build_40 rfl (lv_at hl 2 rfl) ?_
        refine ri_iast X hw hR 9 rfl (cl x) (nI_cl c5.1) (by omega) dX7_build_41 (fun M9 H9 locs9 hw hR => ?_)
        refine lv_iconst (v := 1) hx hb dX7_build_42 (by decide) ?_
        exact mm_iret hQ X hw (by have e9 : sp_build S x y = (1, va_up S 9 (upd (S 9) (cl x) (y))) := (by rw [sp_build, if_neg (fun h9 => h9 c5), if_neg (fun h9 => h9 c16), if_neg (fun h9 => h9 c29)]); rw [e9]; exact ⟨rfl, _, hR⟩) (Nat.le_of_ble_eq_true rfl) (Nat.le_of_ble_eq_true rfl) dX7_build_43
      · refine lv_bipush (v := (-3)) hx hb dX7_build_32 (by decide) ?_
        exact mm_iret hQ X hw (by have e9 : sp_build S x y = ((-3), S) := (by rw [sp_build, if_neg (fun h9 => h9 c5), if_neg (fun h9 => h9 c16), if_pos c29]); rw [e9]; exact ⟨rfl, _, hR⟩) (Nat.le_of_ble_eq_true rfl) (Nat.le_of_ble_eq_true rfl) dX7_build_34
    · refine lv_bipush (v := (-2)) hx hb dX7_build_19 (by decide) ?_
      exact mm_iret hQ X hw (by have e9 : sp_build S x y = ((-2), S) := (by rw [sp_build, if_neg (fun h9 => h9 c5), if_pos c16]); rw [e9]; exact ⟨rfl, _, hR⟩) (Nat.le_of_ble_eq_true rfl) (Nat.le_of_ble_eq_true rfl) dX7_build_21
set_option maxHeartbeats 4000000 in
set_option maxRecDepth 100000 in
theorem m_vote (l : Launch) (G : mG) (M : mM) (g : Nat) (L : Nat → Nat) (S : sS) (cs ar : Nat → Int64) (K : Nat → Nat → Int64) (hR : RV G g L S cs ar K M) (ne nn nc nl ht : Nat) (hN : NM S ne nn nc nl ht) (x y v : Int32) (hv : v = 0 ∨ v = 1) : Ct l yX7_vote cX7_vote 4 (some FieldType.int) (mm_r 2 0 0) G [.ref g, .int x, .int y, .int v] M (fun r M1 => r = some (.int (sp_vote S x y v).1) ∧ ∃ K1, RV G g L (sp_vote S x y v).2 cs ar K1 M1) := by
  refine Ct.of (by decide) (Nat.le_of_ble_eq_true rfl) ?_
  intro p e s m args below meth c ls Q X hin hl hw hQ
  have hx := X.1
  have hb := X.2.1
  have hl : lv_has ls 4 [(0, .ref g), (1, .int x), (2, .int y), (3, .int v)] := hl
  obtain ⟨hN0, hN1, hN2, hN7, hN8, hN12, hN13, hN18, hN19, hN5, hN6⟩ := id hN
  refine lv_aload_n hx hb dX7_vote_0 rfl (lv_at hl 0 rfl) ?_
  refine lv_iload_n hx hb dX7_vote_1 rfl (lv_at hl 1 rfl) ?_
  refine mm_callV (As := [.int x]) (rest := []) X hw (m_isNode l G _ g L _ cs ar K hR (x) nn hN7 (by omega)) (hR.1) rfl wd_X7_96 ⟨Nat.le_of_ble_eq_true rfl, Nat.le_of_ble_eq_true rfl⟩ ⟨Nat.le_of_ble_eq_true rfl, Nat.le_of_ble_eq_true rfl⟩ rfl rfl (Nat.le_of_ble_eq_true rfl) hl.1 dX7_vote_2 (fun v9 M9 H9 locs9 hp9 hw => ?_)
  obtain ⟨rfl, rfl⟩ := hp9
  refine W.eq (g2 := F0 m 5 ls [.int (bI (0 ≤ x ∧ x < S 7 0))]) rfl ?_
  refine mm_ifeqB (tgt := 16) hx hb dX7_vote_5 (by decide) (fun c5 => ?_) (fun c5 => ?_)
  · refine lv_bipush (v := (-2)) hx hb dX7_vote_16 (by decide) ?_
    exact mm_iret hQ X hw (by have e9 : sp_vote S x y v = ((-2), S) := (by rw [sp_vote, if_pos c5]); rw [e9]; exact ⟨rfl, _, hR⟩) (Nat.le_of_ble_eq_true rfl) (Nat.le_of_ble_eq_true rfl) dX7_vote_18
  · have b_x : cl x < nn := cl_lt hN7 (by omega) c5
    refine lv_aload_n hx hb dX7_vote_8 rfl (lv_at hl 0 rfl) ?_
    refine lv_iload_n hx hb dX7_vote_9 rfl (lv_at hl 2 rfl) ?_
    refine mm_callV (As := [.int y]) (rest := []) X hw (m_isEdition l G _ g L _ cs ar K hR (y) ne hN0 (by omega)) (hR.1) rfl wd_X7_92 ⟨Nat.le_of_ble_eq_true rfl, Nat.le_of_ble_eq_true rfl⟩ ⟨Nat.le_of_ble_eq_true rfl, Nat.le_of_ble_eq_true rfl⟩ rfl rfl (Nat.le_of_ble_eq_true rfl) hl.1 dX7_vote_10 (fun v9 M9 H9 locs9 hp9 hw => ?_)
    obtain ⟨rfl, rfl⟩ := hp9
    refine W.eq (g2 := F0 m 13 ls [.int (bI (0 ≤ y ∧ y < S 0 0))]) rfl ?_
    refine mm_ifneB (tgt := 19) hx hb dX7_vote_13 (by decide) (fun c13 => ?_) (fun c13 => ?_)
    · have b_y : cl y < ne := cl_lt hN0 (by omega) c13
      refine lv_aload_n hx hb dX7_vote_19 rfl (lv_at hl 0 rfl) ?_
      refine rg_23 X hw hR dX7_vote_20 ?_
      refine lv_iload_n hx hb dX7_vote_23 rfl (lv_at hl 2 rfl) ?_
      refine ri_iald X hw hR 4 rfl (cl y) (nI_cl c13.1) (by omega) dX7_vote_24 ?_
      refine lv_iconst (v := 1) hx hb dX7_vote_25 (by decide) ?_
      refine lv_icmp_ne (tgt := 39) hx hb dX7_vote_26 (by decide) (fun c26 => ?_) (fun c26 => ?_)
      · refine lv_bipush (v := (-3)) hx hb dX7_vote_39 (by decide) ?_
        exact mm_iret hQ X hw (by have e9 : sp_vote S x y v = ((-3), S) := (by rw [sp_vote, if_neg (fun h9 => h9 c5), if_neg (fun h9 => h9 c13), if_pos c26]); rw [e9]; exact ⟨rfl, _, hR⟩) (Nat.le_of_ble_eq_true rfl) (Nat.le_of_ble_eq_true rfl) dX7_vote_41
      · refine lv_aload_n hx hb dX7_vote_29 rfl (lv_at hl 0 rfl) ?_
        refine rg_35 X hw hR dX7_vote_30 ?_
        refine lv_iload_n hx hb dX7_vote_33 rfl (lv_at hl 1 rfl) ?_
        refine ri_iald X hw hR 10 rfl (cl x) (nI_cl c5.1) (by omega) dX7_vote_34 ?_
        refine lv_iconst (v := (-1)) hx hb dX7_vote_35 (by decide) ?_
        refine lv_icmp_eq (tgt := 42) hx hb dX7_vote_36 (by decide) (fun c36 => ?_) (fun c36 => ?_)
        · refine lv_aload_n hx hb dX7_vote_42 rfl (lv_at hl 0 rfl) ?_
          refine rg_38 X hw hR dX7_vote_43 ?_
          refine lv_bipush (v := 12) hx hb dX7_vote_46 (by decide) ?_
          refine lv_iload_n hx hb dX7_vote_48 rfl (lv_at hl 2 rfl) ?_
          refine lv_imul hx hb dX7_vote_49 ?_
          refine lv_iload_n hx hb dX7_vote_50 rfl (lv_at hl 1 rfl) ?_
          refine lv_iadd hx hb dX7_vote_51 ?_
          refine lv_iload_n hx hb dX7_vote_52 rfl (lv_at hl 3 rfl) ?_
          refine rz_zast X hw hR (hv) (12 * cl y + cl x) (jx 12 c13.1 c5.1) (by omega) dX7_vote_53 (fun M9 H9 locs9 hw hR => ?_)
          refine lv_iconst (v := 1) hx hb dX7_vote_54 (by decide) ?_
          exact mm_iret hQ X hw (by have e9 : sp_vote S x y v = (1, va_up S 11 (upd (S 11) (12 * cl y + cl x) (v))) := (by rw [sp_vote, if_neg (fun h9 => h9 c5), if_neg (fun h9 => h9 c13), if_neg (fun h9 => h9 c26), if_neg (fun h9 => h9 c36)]); rw [e9]; exact ⟨rfl, _, hR⟩) (Nat.le_of_ble_eq_true rfl) (Nat.le_of_ble_eq_true rfl) dX7_vote_55
        · refine lv_bipush (v := (-3)) hx hb dX7_vote_39 (by decide) ?_
          exact mm_iret hQ X hw (by have e9 : sp_vote S x y v = ((-3), S) := (by rw [sp_vote, if_neg (fun h9 => h9 c5), if_neg (fun h9 => h9 c13), if_neg (fun h9 => h9 c26), if_pos c36]); rw [e9]; exact ⟨rfl, _, hR⟩) (Nat.le_of_ble_eq_true rfl) (Nat.le_of_ble_eq_true rfl) dX7_vote_41
    · refine lv_bipush (v := (-2)) hx hb dX7_vote_16 (by decide) ?_
      exact mm_iret hQ X hw (by have e9 : sp_vote S x y v = ((-2), S) := (by rw [sp_vote, if_neg (fun h9 => h9 c5), if_pos c13]); rw [e9]; exact ⟨rfl, _, hR⟩) (Nat.le_of_ble_eq_true rfl) (Nat.le_of_ble_eq_true rfl) dX7_vote_18
set_option maxHeartbeats 4000000 in
set_option maxRecDepth 100000 in
theorem m_force (l : Launch) (G : mG) (M : mM) (g : Nat) (L : Nat → Nat) (S : sS) (cs ar : Nat → Int64) (K : Nat → Nat → Int64) (hR : RV G g L S cs ar K M) (ne nn nc nl ht : Nat) (hN : NM S ne nn nc nl ht) (x : Int32) : Ct l yX7_force cX7_force 2 (some FieldType.int) (mm_r 1 0 0) G [.ref g, .int x] M (fun r M1 => r = some (.int (sp_force S x)) ∧ M = M1) := by
  refine Ct.of (by decide) (Nat.le_of_ble_eq_true rfl) ?_
  intro p e s m args below meth c ls Q X hin hl hw hQ
  have hx := X.1
  have hb := X.2.1
  have hl : lv_has ls 2 [(0, .ref g), (1, .int x)] := hl
  obtain ⟨hN0, hN1, hN2, hN7, hN8, hN12, hN13, hN18, hN19, hN5, hN6⟩ := id hN
  refine lv_iload_n hx hb dX7_force_0 rfl (lv_at hl 1 rfl) ?_
  refine lv_iconst (v := 0) hx hb dX7_force_1 (by decide) ?_
  refine lv_aload_n hx hb dX7_force_2 rfl (lv_at hl 0 rfl) ?_
  refine rg_99 X hw hR dX7_force_3 ?_
  refine mm_callS (As := [.int x, .int 0, .int (S 5 0)]) (rest := []) X hw (m_in l G _ (x) (0) (S 5 0)) wd_X7_82 ⟨Nat.le_of_ble_eq_true rfl, Nat.le_of_ble_eq_true rfl⟩ ⟨Nat.le_of_ble_eq_true rfl, Nat.le_of_ble_eq_true rfl⟩ rfl rfl (Nat.le_of_ble_eq_true rfl) hl.1 dX7_force_6 (fun v9 M9 H9 locs9 hp9 hw => ?_)
  obtain ⟨rfl, rfl⟩ := hp9
  refine W.eq (g2 := F0 m 9 ls [.int (bI (0 ≤ x ∧ x ≤ (S 5 0)))]) rfl ?_
  refine mm_ifeqB (tgt := 21) hx hb dX7_force_9 (by decide) (fun c9 => ?_) (fun c9 => ?_)
  · refine lv_bipush (v := (-2)) hx hb dX7_force_21 (by decide) ?_
    exact mm_iret hQ X hw (⟨by rw [sp_force, if_neg c9], rfl⟩) (Nat.le_of_ble_eq_true rfl) (Nat.le_of_ble_eq_true rfl) dX7_force_23
  · have b_x : cl x ≤ ht := cl_le hN5 (by omega) c9
    refine lv_aload_n hx hb dX7_force_12 rfl (lv_at hl 0 rfl) ?_
    refine rg_26 X hw hR dX7_force_13 ?_
    refine lv_iload_n hx hb dX7_force_16 rfl (lv_at hl 1 rfl) ?_
    refine ri_iald X hw hR 6 rfl (cl x) (nI_cl c9.1) (by omega) dX7_force_17 ?_
    refine lv_goto (tgt := 23) hx hb dX7_force_18 (by decide) ?_
    exact mm_iret hQ X hw (⟨by rw [sp_force, if_pos c9], rfl⟩) (Nat.le_of_ble_eq_true rfl) (Nat.le_of_ble_eq_true rfl) dX7_force_23
set_option maxHeartbeats 4000000 in
set_option maxRecDepth 100000 in
theorem m_halted (l : Launch) (G : mG) (M : mM) (g : Nat) (L : Nat → Nat) (S : sS) (cs ar : Nat → Int64) (K : Nat → Nat → Int64) (hR : RV G g L S cs ar K M) (ne nn nc nl ht : Nat) (hN : NM S ne nn nc nl ht) (x : Int32) : Ct l yX7_halted cX7_halted 2 (some FieldType.int) (mm_r 2 0 0) G [.ref g, .int x] M (fun r M1 => r = some (.int (sp_halted S x)) ∧ M = M1) := by
  refine Ct.of (by decide) (Nat.le_of_ble_eq_true rfl) ?_
  intro p e s m args below meth c ls Q X hin hl hw hQ
  have hx := X.1
  have hb := X.2.1
  have hl : lv_has ls 2 [(0, .ref g), (1, .int x)] := hl
  obtain ⟨hN0, hN1, hN2, hN7, hN8, hN12, hN13, hN18, hN19, hN5, hN6⟩ := id hN
  refine lv_aload_n hx hb dX7_halted_0 rfl (lv_at hl 0 rfl) ?_
  refine lv_iload_n hx hb dX7_halted_1 rfl (lv_at hl 1 rfl) ?_
  refine mm_callV (As := [.int x]) (rest := []) X hw (m_isNode l G _ g L _ cs ar K hR (x) nn hN7 (by omega)) (hR.1) rfl wd_X7_96 ⟨Nat.le_of_ble_eq_true rfl, Nat.le_of_ble_eq_true rfl⟩ ⟨Nat.le_of_ble_eq_true rfl, Nat.le_of_ble_eq_true rfl⟩ rfl rfl (Nat.le_of_ble_eq_true rfl) hl.1 dX7_halted_2 (fun v9 M9 H9 locs9 hp9 hw => ?_)
  obtain ⟨rfl, rfl⟩ := hp9
  refine W.eq (g2 := F0 m 5 ls [.int (bI (0 ≤ x ∧ x < S 7 0))]) rfl ?_
  refine mm_ifeqB (tgt := 17) hx hb dX7_halted_5 (by decide) (fun c5 => ?_) (fun c5 => ?_)
  · refine lv_bipush (v := (-2)) hx hb dX7_halted_17 (by decide) ?_
    exact mm_iret hQ X hw (⟨by rw [sp_halted, if_neg c5], rfl⟩) (Nat.le_of_ble_eq_true rfl) (Nat.le_of_ble_eq_true rfl) dX7_halted_19
  · have b_x : cl x < nn := cl_lt hN7 (by omega) c5
    refine lv_aload_n hx hb dX7_halted_8 rfl (lv_at hl 0 rfl) ?_
    refine rg_35 X hw hR dX7_halted_9 ?_
    refine lv_iload_n hx hb dX7_halted_12 rfl (lv_at hl 1 rfl) ?_
    refine ri_iald X hw hR 10 rfl (cl x) (nI_cl c5.1) (by omega) dX7_halted_13 ?_
    refine lv_goto (tgt := 19) hx hb dX7_halted_14 (by decide) ?_
    exact mm_iret hQ X hw (⟨by rw [sp_halted, if_pos c5], rfl⟩) (Nat.le_of_ble_eq_true rfl) (Nat.le_of_ble_eq_true rfl) dX7_halted_19
set_option maxHeartbeats 4000000 in
set_option maxRecDepth 100000 in
theorem m_contract (l : Launch) (G : mG) (M : mM) (g : Nat) (L : Nat → Nat) (S : sS) (cs ar : Nat → Int64) (K : Nat → Nat → Int64) (hR : RV G g L S cs ar K M) (ne nn nc nl ht : Nat) (hN : NM S ne nn nc nl ht)  : Ct l yX7_contract cX7_contract 1 (some FieldType.int) (mm_r 0 0 0) G [.ref g] M (fun r M1 => r = some (.int (sp_contract S).1) ∧ ∃ K1, RV G g L (sp_contract S).2 cs ar K1 M1) := by
  refine Ct.of (by decide) (Nat.le_of_ble_eq_true rfl) ?_
  intro p e s m args below meth c ls Q X hin hl hw hQ
  have hx := X.1
  have hb := X.2.1
  have hl : lv_has ls 1 [(0, .ref g)] := hl
  obtain ⟨hN0, hN1, hN2, hN7, hN8, hN12, hN13, hN18, hN19, hN5, hN6⟩ := id hN
  have h12c : S 12 0 = nI (cl (S 12 0)) := by rw [hN12, cl_n (by omega)]
  have h12b : cl (S 12 0) = nc := by rw [hN12, cl_n (by omega)]
  refine lv_aload_n hx hb dX7_contract_0 rfl (lv_at hl 0 rfl) ?_
  refine rg_89 X hw hR dX7_contract_1 ?_
  refine lv_bipush (v := 12) hx hb dX7_contract_4 (by decide) ?_
  refine lv_icmp_ne (tgt := 12) hx hb dX7_contract_6 (by decide) (fun c6 => ?_) (fun c6 => ?_)
  · have q12 : nc ≠ 12 := fun h9 => c6 (by rw [hN12, h9]; rfl)
    refine lv_aload_n hx hb dX7_contract_12 rfl (lv_at hl 0 rfl) ?_
    refine rg_42 X hw hR dX7_contract_13 ?_
    refine lv_aload_n hx hb dX7_contract_16 rfl (lv_at hl 0 rfl) ?_
    refine rg_89 X hw hR dX7_contract_17 ?_
    refine lv_iconst (v := (-1)) hx hb dX7_contract_20 (by decide) ?_
    refine ri_iast X hw hR 13 rfl (cl (S 12 0)) (h12c) (by omega) dX7_contract_21 (fun M9 H9 locs9 hw hR => ?_)
    refine lv_aload_n hx hb dX7_contract_22 rfl (lv_at hl 0 rfl) ?_
    refine lv_dup hx hb dX7_contract_23 rfl ?_
    refine rg_89 X hw hR dX7_contract_24 ?_
    refine W.eq (g2 := F0 m 27 ls [.int (S 12 0), .ref g]) rfl ?_
    refine lv_iconst (v := 1) hx hb dX7_contract_27 (by decide) ?_
    refine lv_iadd hx hb dX7_contract_28 ?_
    refine rp_89 X hw hR dX7_contract_29 (fun M9 H9 locs9 hw hR => ?_)
    have hR : RV G g L (va_up (va_up S 13 (upd (S 13) (cl (S 12 0)) ((-1)))) 12 (fun _ => (S 12 0) + 1)) cs ar K M9 := hR
    refine lv_aload_n hx hb dX7_contract_32 rfl (lv_at hl 0 rfl) ?_
    refine rg_89 X hw hR dX7_contract_33 ?_
    refine W.eq (g2 := F0 m 36 ls [.int ((S 12 0) + 1)]) rfl ?_
    refine lv_iconst (v := 1) hx hb dX7_contract_36 (by decide) ?_
    refine lv_isub hx hb dX7_contract_37 ?_
    exact mm_iret hQ X hw (by have e9 : sp_contract S = (((S 12 0) + 1) - 1, va_up (va_up S 13 (upd (S 13) (cl (S 12 0)) ((-1)))) 12 (fun _ => (S 12 0) + 1)) := (by rw [sp_contract, if_neg c6]); rw [e9]; exact ⟨rfl, _, hR⟩) (Nat.le_of_ble_eq_true rfl) (Nat.le_of_ble_eq_true rfl) dX7_contract_38
  · refine lv_bipush (v := (-4)) hx hb dX7_contract_9 (by decide) ?_
    exact mm_iret hQ X hw (by have e9 : sp_contract S = ((-4), S) := (by rw [sp_contract, if_pos c6]); rw [e9]; exact ⟨rfl, _, hR⟩) (Nat.le_of_ble_eq_true rfl) (Nat.le_of_ble_eq_true rfl) dX7_contract_11
set_option maxHeartbeats 4000000 in
set_option maxRecDepth 100000 in
theorem m_cell (l : Launch) (G : mG) (M : mM) (g : Nat) (L : Nat → Nat) (S : sS) (cs ar : Nat → Int64) (K : Nat → Nat → Int64) (hR : RV G g L S cs ar K M) (ne nn nc nl ht : Nat) (hN : NM S ne nn nc nl ht) (x y : Int32) : Ct l yX7_cell cX7_cell 3 (some FieldType.long) (mm_r 2 0 0) G [.ref g, .int x, .int y] M (fun r M1 => r = some (.long (sp_cell S cs x y)) ∧ M = M1) := by
  refine Ct.of (by decide) (Nat.le_of_ble_eq_true rfl) ?_
  intro p e s m args below meth c ls Q X hin hl hw hQ
  have hx := X.1
  have hb := X.2.1
  have hl : lv_has ls 3 [(0, .ref g), (1, .int x), (2, .int y)] := hl
  obtain ⟨hN0, hN1, hN2, hN7, hN8, hN12, hN13, hN18, hN19, hN5, hN6⟩ := id hN
  refine lv_aload_n hx hb dX7_cell_0 rfl (lv_at hl 0 rfl) ?_
  refine lv_iload_n hx hb dX7_cell_1 rfl (lv_at hl 1 rfl) ?_
  refine mm_callV (As := [.int x]) (rest := []) X hw (m_isContract l G _ g L _ cs ar K hR (x) nc hN12 (by omega)) (hR.1) rfl wd_X7_109 ⟨Nat.le_of_ble_eq_true rfl, Nat.le_of_ble_eq_true rfl⟩ ⟨Nat.le_of_ble_eq_true rfl, Nat.le_of_ble_eq_true rfl⟩ rfl rfl (Nat.le_of_ble_eq_true rfl) hl.1 dX7_cell_2 (fun v9 M9 H9 locs9 hp9 hw => ?_)
  obtain ⟨rfl, rfl⟩ := hp9
  refine W.eq (g2 := F0 m 5 ls [.int (bI (0 ≤ x ∧ x < S 12 0))]) rfl ?_
  refine mm_ifeqB (tgt := 30) hx hb dX7_cell_5 (by decide) (fun c5 => ?_) (fun c5 => ?_)
  · refine lv_lconst (v := 0) hx hb dX7_cell_30 (by decide) ?_
    exact mm_lret hQ X hw (⟨by rw [sp_cell, if_neg c5], rfl⟩) (Nat.le_of_ble_eq_true rfl) (Nat.le_of_ble_eq_true rfl) dX7_cell_31
  · have b_x : cl x < nc := cl_lt hN12 (by omega) c5
    refine lv_iload_n hx hb dX7_cell_8 rfl (lv_at hl 2 rfl) ?_
    refine lv_iconst (v := 0) hx hb dX7_cell_9 (by decide) ?_
    refine lv_iconst (v := 3) hx hb dX7_cell_10 (by decide) ?_
    refine mm_callS (As := [.int y, .int 0, .int 3]) (rest := []) X hw (m_in l G _ (y) (0) (3)) wd_X7_82 ⟨Nat.le_of_ble_eq_true rfl, Nat.le_of_ble_eq_true rfl⟩ ⟨Nat.le_of_ble_eq_true rfl, Nat.le_of_ble_eq_true rfl⟩ rfl rfl (Nat.le_of_ble_eq_true rfl) hl.1 dX7_cell_11 (fun v9 M9 H9 locs9 hp9 hw => ?_)
    obtain ⟨rfl, rfl⟩ := hp9
    refine W.eq (g2 := F0 m 14 ls [.int (bI (0 ≤ y ∧ y ≤ 3))]) rfl ?_
    refine mm_ifeqB (tgt := 30) hx hb dX7_cell_14 (by decide) (fun c14 => ?_) (fun c14 => ?_)
    · refine lv_lconst (v := 0) hx hb dX7_cell_30 (by decide) ?_
      exact mm_lret hQ X hw (⟨by rw [sp_cell, if_pos c5, if_neg c14], rfl⟩) (Nat.le_of_ble_eq_true rfl) (Nat.le_of_ble_eq_true rfl) dX7_cell_31
    · have b_y : cl y ≤ 3 := cl_le (n := 3) rfl (by decide) c14
      refine lv_aload_n hx hb dX7_cell_17 rfl (lv_at hl 0 rfl) ?_
      refine rg_54 X hw hR dX7_cell_18 ?_
      refine lv_iconst (v := 4) hx hb dX7_cell_21 (by decide) ?_
      refine lv_iload_n hx hb dX7_cell_22 rfl (lv_at hl 1 rfl) ?_
      refine lv_imul hx hb dX7_cell_23 ?_
      refine lv_iload_n hx hb dX7_cell_24 rfl (lv_at hl 2 rfl) ?_
      refine lv_iadd hx hb dX7_cell_25 ?_
      refine rc_lald X hw hR (4 * cl x + cl y) (jx 4 c5.1 c14.1) (by omega) dX7_cell_26 ?_
      refine lv_goto (tgt := 31) hx hb dX7_cell_27 (by decide) ?_
      exact mm_lret hQ X hw (⟨by rw [sp_cell, if_pos c5, if_pos c14], rfl⟩) (Nat.le_of_ble_eq_true rfl) (Nat.le_of_ble_eq_true rfl) dX7_cell_31
set_option maxHeartbeats 4000000 in
set_option maxRecDepth 100000 in
theorem m_logged (l : Launch) (G : mG) (M : mM) (g : Nat) (L : Nat → Nat) (S : sS) (cs ar : Nat → Int64) (K : Nat → Nat → Int64) (hR : RV G g L S cs ar K M) (ne nn nc nl ht : Nat) (hN : NM S ne nn nc nl ht) (x w : Int32) : Ct l yX7_logged cX7_logged 3 (some FieldType.int) (mm_r 1 0 0) G [.ref g, .int x, .int w] M (fun r M1 => r = some (.int (sp_logged S x w)) ∧ M = M1) := by
  refine Ct.of (by decide) (Nat.le_of_ble_eq_true rfl) ?_
  intro p e s m args below meth c ls Q X hin hl hw hQ
  have hx := X.1
  have hb := X.2.1
  have hl : lv_has ls 3 [(0, .ref g), (1, .int x), (2, .int w)] := hl
  obtain ⟨hN0, hN1, hN2, hN7, hN8, hN12, hN13, hN18, hN19, hN5, hN6⟩ := id hN
  refine lv_iload_n hx hb dX7_logged_0 rfl (lv_at hl 1 rfl) ?_
  refine lv_iconst (v := 0) hx hb dX7_logged_1 (by decide) ?_
  refine lv_aload_n hx hb dX7_logged_2 rfl (lv_at hl 0 rfl) ?_
  refine rg_126 X hw hR dX7_logged_3 ?_
  refine lv_iconst (v := 1) hx hb dX7_logged_6 (by decide) ?_
  refine lv_isub hx hb dX7_logged_7 ?_
  refine mm_callS (As := [.int x, .int 0, .int ((S 18 0) - 1)]) (rest := []) X hw (m_in l G _ (x) (0) ((S 18 0) - 1)) wd_X7_82 ⟨Nat.le_of_ble_eq_true rfl, Nat.le_of_ble_eq_true rfl⟩ ⟨Nat.le_of_ble_eq_true rfl, Nat.le_of_ble_eq_true rfl⟩ rfl rfl (Nat.le_of_ble_eq_true rfl) hl.1 dX7_logged_8 (fun v9 M9 H9 locs9 hp9 hw => ?_)
  obtain ⟨rfl, rfl⟩ := hp9
  refine W.eq (g2 := F0 m 11 ls [.int (bI (0 ≤ x ∧ x ≤ ((S 18 0) - 1)))]) rfl ?_
  refine mm_ifeqB (tgt := 23) hx hb dX7_logged_11 (by decide) (fun c11 => ?_) (fun c11 => ?_)
  · refine lv_bipush (v := (-2)) hx hb dX7_logged_23 (by decide) ?_
    exact mm_iret hQ X hw (⟨by rw [sp_logged, if_pos (fun h9 => c11 ⟨h9.1, (le_pred hN18 (by omega) h9.1).mpr h9.2⟩)], rfl⟩) (Nat.le_of_ble_eq_true rfl) (Nat.le_of_ble_eq_true rfl) dX7_logged_25
  · have b_x : cl x < nl := cl_lt hN18 (by omega) ⟨c11.1, (le_pred hN18 (by omega) c11.1).mp c11.2⟩
    refine lv_iload_n hx hb dX7_logged_14 rfl (lv_at hl 2 rfl) ?_
    refine lv_iconst (v := 0) hx hb dX7_logged_15 (by decide) ?_
    refine lv_iconst (v := 2) hx hb dX7_logged_16 (by decide) ?_
    refine mm_callS (As := [.int w, .int 0, .int 2]) (rest := []) X hw (m_in l G _ (w) (0) (2)) wd_X7_82 ⟨Nat.le_of_ble_eq_true rfl, Nat.le_of_ble_eq_true rfl⟩ ⟨Nat.le_of_ble_eq_true rfl, Nat.le_of_ble_eq_true rfl⟩ rfl rfl (Nat.le_of_ble_eq_true rfl) hl.1 dX7_logged_17 (fun v9 M9 H9 locs9 hp9 hw => ?_)
    obtain ⟨rfl, rfl⟩ := hp9
    refine W.eq (g2 := F0 m 20 ls [.int (bI (0 ≤ w ∧ w ≤ 2))]) rfl ?_
    refine mm_ifneB (tgt := 26) hx hb dX7_logged_20 (by decide) (fun c20 => ?_) (fun c20 => ?_)
    · refine lv_iload_n hx hb dX7_logged_26 rfl (lv_at hl 2 rfl) ?_
      refine lv_if_ne (tgt := 39) hx hb dX7_logged_27 (by decide) (fun c27 => ?_) (fun c27 => ?_)
      · refine lv_iload_n hx hb dX7_logged_39 rfl (lv_at hl 2 rfl) ?_
        refine lv_iconst (v := 1) hx hb dX7_logged_40 (by decide) ?_
        refine lv_icmp_ne (tgt := 53) hx hb dX7_logged_41 (by decide) (fun c41 => ?_) (fun c41 => ?_)
        · refine lv_aload_n hx hb dX7_logged_53 rfl (lv_at hl 0 rfl) ?_
          refine rg_70 X hw hR dX7_logged_54 ?_
          refine lv_iload_n hx hb dX7_logged_57 rfl (lv_at hl 1 rfl) ?_
          refine ri_iald X hw hR 23 rfl (cl x) (nI_cl c11.1) (by omega) dX7_logged_58 ?_
          exact mm_iret hQ X hw (⟨by rw [sp_logged, if_neg (fun h9 => h9 ⟨c11.1, (le_pred hN18 (by omega) c11.1).mp c11.2⟩), if_neg c27, if_neg c41, if_pos (w_two c20 c27 c41)], rfl⟩) (Nat.le_of_ble_eq_true rfl) (Nat.le_of_ble_eq_true rfl) dX7_logged_59
        · refine lv_aload_n hx hb dX7_logged_44 rfl (lv_at hl 0 rfl) ?_
          refine rg_61 X hw hR dX7_logged_45 ?_
          refine lv_iload_n hx hb dX7_logged_48 rfl (lv_at hl 1 rfl) ?_
          refine ri_iald X hw hR 20 rfl (cl x) (nI_cl c11.1) (by omega) dX7_logged_49 ?_
          refine lv_goto (tgt := 59) hx hb dX7_logged_50 (by decide) ?_
          exact mm_iret hQ X hw (⟨by rw [sp_logged, if_neg (fun h9 => h9 ⟨c11.1, (le_pred hN18 (by omega) c11.1).mp c11.2⟩), if_neg c27, if_pos c41], rfl⟩) (Nat.le_of_ble_eq_true rfl) (Nat.le_of_ble_eq_true rfl) dX7_logged_59
      · refine lv_aload_n hx hb dX7_logged_30 rfl (lv_at hl 0 rfl) ?_
        refine rg_58 X hw hR dX7_logged_31 ?_
        refine lv_iload_n hx hb dX7_logged_34 rfl (lv_at hl 1 rfl) ?_
        refine ri_iald X hw hR 19 rfl (cl x) (nI_cl c11.1) (by omega) dX7_logged_35 ?_
        refine lv_goto (tgt := 59) hx hb dX7_logged_36 (by decide) ?_
        exact mm_iret hQ X hw (⟨by rw [sp_logged, if_neg (fun h9 => h9 ⟨c11.1, (le_pred hN18 (by omega) c11.1).mp c11.2⟩), if_pos c27], rfl⟩) (Nat.le_of_ble_eq_true rfl) (Nat.le_of_ble_eq_true rfl) dX7_logged_59
    · refine lv_bipush (v := (-2)) hx hb dX7_logged_23 (by decide) ?_
      exact mm_iret hQ X hw (⟨by rw [sp_logged, if_neg (fun h9 => h9 ⟨c11.1, (le_pred hN18 (by omega) c11.1).mp c11.2⟩), if_neg (fun h9 => c20 (by rw [h9]; decide)), if_neg (fun h9 => c20 (by rw [h9]; decide)), if_neg (fun h9 => c20 (by rw [h9]; decide))], rfl⟩) (Nat.le_of_ble_eq_true rfl) (Nat.le_of_ble_eq_true rfl) dX7_logged_25
set_option maxHeartbeats 4000000 in
set_option maxRecDepth 100000 in
theorem m_digest (l : Launch) (G : mG) (M : mM) (g : Nat) (L : Nat → Nat) (S : sS) (cs ar : Nat → Int64) (K : Nat → Nat → Int64) (hR : RV G g L S cs ar K M) (ne nn nc nl ht : Nat) (hN : NM S ne nn nc nl ht)  : Ct l yX7_digest cX7_digest 1 (some FieldType.int) (mm_r 0 0 0) G [.ref g] M (fun r M1 => r = some (.int (S 24 0)) ∧ M = M1) := by
  refine Ct.of (by decide) (Nat.le_of_ble_eq_true rfl) ?_
  intro p e s m args below meth c ls Q X hin hl hw hQ
  have hx := X.1
  have hb := X.2.1
  have hl : lv_has ls 1 [(0, .ref g)] := hl
  obtain ⟨hN0, hN1, hN2, hN7, hN8, hN12, hN13, hN18, hN19, hN5, hN6⟩ := id hN
  refine lv_aload_n hx hb dX7_digest_0 rfl (lv_at hl 0 rfl) ?_
  refine rg_133 X hw hR dX7_digest_1 ?_
  exact mm_iret hQ X hw (⟨rfl, rfl⟩) (Nat.le_of_ble_eq_true rfl) (Nat.le_of_ble_eq_true rfl) dX7_digest_4
set_option maxHeartbeats 4000000 in
set_option maxRecDepth 100000 in
theorem m_count (l : Launch) (G : mG) (M : mM) (g : Nat) (L : Nat → Nat) (S : sS) (cs ar : Nat → Int64) (K : Nat → Nat → Int64) (hR : RV G g L S cs ar K M) (ne nn nc nl ht : Nat) (hN : NM S ne nn nc nl ht) (w : Int32) : Ct l yX7_count cX7_count 2 (some FieldType.int) (mm_r 0 0 0) G [.ref g, .int w] M (fun r M1 => r = some (.int (sp_count S w)) ∧ M = M1) := by
  refine Ct.of (by decide) (Nat.le_of_ble_eq_true rfl) ?_
  intro p e s m args below meth c ls Q X hin hl hw hQ
  have hx := X.1
  have hb := X.2.1
  have hl : lv_has ls 2 [(0, .ref g), (1, .int w)] := hl
  obtain ⟨hN0, hN1, hN2, hN7, hN8, hN12, hN13, hN18, hN19, hN5, hN6⟩ := id hN
  refine lv_iload_n hx hb dX7_count_0 rfl (lv_at hl 1 rfl) ?_
  rcases mm_sw w 0 5 (by decide) (by decide) with ⟨k9, hk9, c1⟩ | c1
  · rcases (show k9 = 0 ∨ k9 = 1 ∨ k9 = 2 ∨ k9 = 3 ∨ k9 = 4 by omega) with rfl | rfl | rfl | rfl | rfl
    · have c1 : w = 0 := c1
      refine lv_tableIn (off := 35) (tgt := 36) hx hb dX7_count_1 (by rw [c1]; decide) (by rw [c1]; decide) (by rw [c1]; rfl) (by decide) ?_
      refine lv_aload_n hx hb dX7_count_36 rfl (lv_at hl 0 rfl) ?_
      refine rg_7 X hw hR dX7_count_37 ?_
      exact mm_iret hQ X hw (⟨by rw [sp_count, if_pos c1], rfl⟩) (Nat.le_of_ble_eq_true rfl) (Nat.le_of_ble_eq_true rfl) dX7_count_40
    · have c1 : w = 1 := c1
      refine lv_tableIn (off := 40) (tgt := 41) hx hb dX7_count_1 (by rw [c1]; decide) (by rw [c1]; decide) (by rw [c1]; rfl) (by decide) ?_
      refine lv_aload_n hx hb dX7_count_41 rfl (lv_at hl 0 rfl) ?_
      refine rg_86 X hw hR dX7_count_42 ?_
      exact mm_iret hQ X hw (⟨by rw [sp_count, if_neg (by rw [c1]; decide), if_pos c1], rfl⟩) (Nat.le_of_ble_eq_true rfl) (Nat.le_of_ble_eq_true rfl) dX7_count_45
    · have c1 : w = 2 := c1
      refine lv_tableIn (off := 45) (tgt := 46) hx hb dX7_count_1 (by rw [c1]; decide) (by rw [c1]; decide) (by rw [c1]; rfl) (by decide) ?_
      refine lv_aload_n hx hb dX7_count_46 rfl (lv_at hl 0 rfl) ?_
      refine rg_89 X hw hR dX7_count_47 ?_
      exact mm_iret hQ X hw (⟨by rw [sp_count, if_neg (by rw [c1]; decide), if_neg (by rw [c1]; decide), if_pos c1], rfl⟩) (Nat.le_of_ble_eq_true rfl) (Nat.le_of_ble_eq_true rfl) dX7_count_50
    · have c1 : w = 3 := c1
      refine lv_tableIn (off := 50) (tgt := 51) hx hb dX7_count_1 (by rw [c1]; decide) (by rw [c1]; decide) (by rw [c1]; rfl) (by decide) ?_
      refine lv_aload_n hx hb dX7_count_51 rfl (lv_at hl 0 rfl) ?_
      refine rg_126 X hw hR dX7_count_52 ?_
      exact mm_iret hQ X hw (⟨by rw [sp_count, if_neg (by rw [c1]; decide), if_neg (by rw [c1]; decide), if_neg (by rw [c1]; decide), if_pos c1], rfl⟩) (Nat.le_of_ble_eq_true rfl) (Nat.le_of_ble_eq_true rfl) dX7_count_55
    · have c1 : w = 4 := c1
      refine lv_tableIn (off := 55) (tgt := 56) hx hb dX7_count_1 (by rw [c1]; decide) (by rw [c1]; decide) (by rw [c1]; rfl) (by decide) ?_
      refine lv_aload_n hx hb dX7_count_56 rfl (lv_at hl 0 rfl) ?_
      refine rg_99 X hw hR dX7_count_57 ?_
      exact mm_iret hQ X hw (⟨by rw [sp_count, if_neg (by rw [c1]; decide), if_neg (by rw [c1]; decide), if_neg (by rw [c1]; decide), if_neg (by rw [c1]; decide), if_pos c1], rfl⟩) (Nat.le_of_ble_eq_true rfl) (Nat.le_of_ble_eq_true rfl) dX7_count_60
  · refine lv_tableOut (tgt := 61) hx hb dX7_count_1 c1 (by decide) ?_
    refine lv_bipush (v := (-2)) hx hb dX7_count_61 (by decide) ?_
    exact mm_iret hQ X hw (⟨by rw [sp_count, if_neg (by intro h9; rw [h9] at c1; revert c1; decide), if_neg (by intro h9; rw [h9] at c1; revert c1; decide), if_neg (by intro h9; rw [h9] at c1; revert c1; decide), if_neg (by intro h9; rw [h9] at c1; revert c1; decide), if_neg (by intro h9; rw [h9] at c1; revert c1; decide)], rfl⟩) (Nat.le_of_ble_eq_true rfl) (Nat.le_of_ble_eq_true rfl) dX7_count_63
set_option maxHeartbeats 4000000 in
set_option maxRecDepth 100000 in
theorem m_edition (l : Launch) (G : mG) (M : mM) (g : Nat) (L : Nat → Nat) (S : sS) (cs ar : Nat → Int64) (K : Nat → Nat → Int64) (hR : RV G g L S cs ar K M) (ne nn nc nl ht : Nat) (hN : NM S ne nn nc nl ht) (x : Int32) : Ct l yX7_edition cX7_edition 3 (some FieldType.int) (mm_r 2 0 0) G [.ref g, .int x] M (fun r M1 => r = some (.int (sp_edition S x).1) ∧ ∃ K1, RV G g L (sp_edition S x).2 cs ar K1 M1) := by
  refine Ct.of (by decide) (Nat.le_of_ble_eq_true rfl) ?_
  intro p e s m args below meth c ls Q X hin hl hw hQ
  have hx := X.1
  have hb := X.2.1
  have hl : lv_has ls 3 [(0, .ref g), (1, .int x)] := hl
  obtain ⟨hN0, hN1, hN2, hN7, hN8, hN12, hN13, hN18, hN19, hN5, hN6⟩ := id hN
  have h0c : S 0 0 = nI (cl (S 0 0)) := by rw [hN0, cl_n (by omega)]
  have h0b : cl (S 0 0) = ne := by rw [hN0, cl_n (by omega)]
  have p0 : 0 ≤ S 0 0 := by rw [hN0]; exact nI_pos' (by omega)
  refine lv_aload_n hx hb dX7_edition_0 rfl (lv_at hl 0 rfl) ?_
  refine lv_iload_n hx hb dX7_edition_1 rfl (lv_at hl 1 rfl) ?_
  refine mm_callV (As := [.int x]) (rest := []) X hw (m_isEdition l G _ g L _ cs ar K hR (x) ne hN0 (by omega)) (hR.1) rfl wd_X7_92 ⟨Nat.le_of_ble_eq_true rfl, Nat.le_of_ble_eq_true rfl⟩ ⟨Nat.le_of_ble_eq_true rfl, Nat.le_of_ble_eq_true rfl⟩ rfl rfl (Nat.le_of_ble_eq_true rfl) hl.1 dX7_edition_2 (fun v9 M9 H9 locs9 hp9 hw => ?_)
  obtain ⟨rfl, rfl⟩ := hp9
  refine W.eq (g2 := F0 m 5 ls [.int (bI (0 ≤ x ∧ x < S 0 0))]) rfl ?_
  refine mm_ifneB (tgt := 11) hx hb dX7_edition_5 (by decide) (fun c5 => ?_) (fun c5 => ?_)
  · have b_x : cl x < ne := cl_lt hN0 (by omega) c5
    refine lv_aload_n hx hb dX7_edition_11 rfl (lv_at hl 0 rfl) ?_
    refine rg_7 X hw hR dX7_edition_12 ?_
    refine lv_bipush (v := 10) hx hb dX7_edition_15 (by decide) ?_
    refine lv_icmp_ne (tgt := 23) hx hb dX7_edition_17 (by decide) (fun c17 => ?_) (fun c17 => ?_)
    · have q0 : ne ≠ 10 := fun h9 => c17 (by rw [hN0, h9]; rfl)
      refine lv_iconst (v := 0) hx hb dX7_edition_23 (by decide) ?_
      refine lv_istore_n (lv' := [(2, .int 0), (0, .ref g), (1, .int x)]) hx hb dX7_edition_24 rfl hl (by decide) rfl (fun ls hl => ?_)
      have loop1 : ∀ (n : Nat) (k : Nat) (M1 : mM) (H1 : Heap) (locs1 : List Loc) (ls1 : Array Slot), (hk : k ≤ 9) → (hn : 10 ≤ k + n) → mm_W G.1 vwCl (ct_A M s.heap.size) s.heap M1 H1 locs1 → RV G g L (va_up S 1 (cp (S 1) (9 * cl (S 0 0)) (9 * cl x) k)) cs ar K M1 → lv_has ls1 3 [(0, .ref g), (1, .int x), (2, .int (nI k))] → W p l e (mm_r 2 0 0) s m args below meth c H1 locs1 0 0 Q (F0 m 25 ls1 []) := by
        intro n
        induction n with
        | zero => intro k M1 H1 locs1 ls hk hn hw hR hl; exact absurd hn (by omega)
        | succ n ih =>
          intro k M1 H1 locs1 ls hk hn hw hR hl
          refine lv_iload_n hx hb dX7_edition_25 rfl (lv_at hl 2 rfl) ?_
          refine lv_bipush (v := 9) hx hb dX7_edition_26 (by decide) ?_
          refine lv_icmp_ge (tgt := 62) hx hb dX7_edition_28 (by decide) (fun c28 => ?_) (fun c28 => ?_)
          · have hk9 : k = 9 := by have := nle (a := 9) (by decide) (by omega) c28; omega
            refine lv_iconst (v := 0) hx hb dX7_edition_62 (by decide) ?_
            refine lv_istore_n (lv' := [(2, .int 0), (0, .ref g), (1, .int x)]) hx hb dX7_edition_63 rfl hl (by decide) rfl (fun ls hl => ?_)
            have loop2 : ∀ (n : Nat) (k : Nat) (M1 : mM) (H1 : Heap) (locs1 : List Loc) (ls1 : Array Slot), (hk : k ≤ 8) → (hn : 9 ≤ k + n) → mm_W G.1 vwCl (ct_A M s.heap.size) s.heap M1 H1 locs1 → RV G g L (va_up (va_up S 1 (cp (S 1) (9 * cl (S 0 0)) (9 * cl x) 9)) 2 (cp (S 2) (8 * cl (S 0 0)) (8 * cl x) k)) cs ar K M1 → lv_has ls1 3 [(0, .ref g), (1, .int x), (2, .int (nI k))] → W p l e (mm_r 2 0 0) s m args below meth c H1 locs1 0 0 Q (F0 m 64 ls1 []) := by
              intro n
              induction n with
              | zero => intro k M1 H1 locs1 ls hk hn hw hR hl; exact absurd hn (by omega)
              | succ n ih =>
                intro k M1 H1 locs1 ls hk hn hw hR hl
                refine lv_iload_n hx hb dX7_edition_64 rfl (lv_at hl 2 rfl) ?_
                refine lv_bipush (v := 8) hx hb dX7_edition_65 (by decide) ?_
                refine lv_icmp_ge (tgt := 101) hx hb dX7_edition_67 (by decide) (fun c67 => ?_) (fun c67 => ?_)
                · have hk8 : k = 8 := by have := nle (a := 8) (by decide) (by omega) c67; omega
                  refine lv_aload_n hx hb dX7_edition_101 rfl (lv_at hl 0 rfl) ?_
                  refine rg_20 X hw hR dX7_edition_102 ?_
                  refine W.eq (g2 := F0 m 105 ls [.ref (L 3)]) rfl ?_
                  refine lv_aload_n hx hb dX7_edition_105 rfl (lv_at hl 0 rfl) ?_
                  refine rg_7 X hw hR dX7_edition_106 ?_
                  refine W.eq (g2 := F0 m 109 ls [.int (S 0 0), .ref (L 3)]) rfl ?_
                  refine lv_iconst (v := (-1)) hx hb dX7_edition_109 (by decide) ?_
                  refine ri_iast X hw hR 3 rfl (cl (S 0 0)) (h0c) (by omega) dX7_edition_110 (fun M9 H9 locs9 hw hR => ?_)
                  have hR : RV G g L (va_up (va_up (va_up S 1 (cp (S 1) (9 * cl (S 0 0)) (9 * cl x) 9)) 2 (cp (S 2) (8 * cl (S 0 0)) (8 * cl x) k)) 3 (upd (S 3) (cl (S 0 0)) ((-1)))) cs ar K M9 := hR
                  refine lv_aload_n hx hb dX7_edition_111 rfl (lv_at hl 0 rfl) ?_
                  refine rg_23 X hw hR dX7_edition_112 ?_
                  refine W.eq (g2 := F0 m 115 ls [.ref (L 4)]) rfl ?_
                  refine lv_aload_n hx hb dX7_edition_115 rfl (lv_at hl 0 rfl) ?_
                  refine rg_7 X hw hR dX7_edition_116 ?_
                  refine W.eq (g2 := F0 m 119 ls [.int (S 0 0), .ref (L 4)]) rfl ?_
                  refine lv_iconst (v := 0) hx hb dX7_edition_119 (by decide) ?_
                  refine ri_iast X hw hR 4 rfl (cl (S 0 0)) (h0c) (by omega) dX7_edition_120 (fun M9 H9 locs9 hw hR => ?_)
                  have hR : RV G g L (va_up (va_up (va_up (va_up S 1 (cp (S 1) (9 * cl (S 0 0)) (9 * cl x) 9)) 2 (cp (S 2) (8 * cl (S 0 0)) (8 * cl x) k)) 3 (upd (S 3) (cl (S 0 0)) ((-1)))) 4 (upd (S 4) (cl (S 0 0)) (0))) cs ar K M9 := hR
                  refine lv_aload_n hx hb dX7_edition_121 rfl (lv_at hl 0 rfl) ?_
                  refine lv_dup hx hb dX7_edition_122 rfl ?_
                  refine rg_7 X hw hR dX7_edition_123 ?_
                  refine W.eq (g2 := F0 m 126 ls [.int (S 0 0), .ref g]) rfl ?_
                  refine lv_iconst (v := 1) hx hb dX7_edition_126 (by decide) ?_
                  refine lv_iadd hx hb dX7_edition_127 ?_
                  refine rp_7 X hw hR dX7_edition_128 (fun M9 H9 locs9 hw hR => ?_)
                  have hR : RV G g L (va_up (va_up (va_up (va_up (va_up S 1 (cp (S 1) (9 * cl (S 0 0)) (9 * cl x) 9)) 2 (cp (S 2) (8 * cl (S 0 0)) (8 * cl x) k)) 3 (upd (S 3) (cl (S 0 0)) ((-1)))) 4 (upd (S 4) (cl (S 0 0)) (0))) 0 (fun _ => (S 0 0) + 1)) cs ar K M9 := hR
                  refine lv_aload_n hx hb dX7_edition_131 rfl (lv_at hl 0 rfl) ?_
                  refine rg_7 X hw hR dX7_edition_132 ?_
                  refine W.eq (g2 := F0 m 135 ls [.int ((S 0 0) + 1)]) rfl ?_
                  refine lv_iconst (v := 1) hx hb dX7_edition_135 (by decide) ?_
                  refine lv_isub hx hb dX7_edition_136 ?_
                  exact mm_iret hQ X hw (by rw [hk8] at hR; have e9 : sp_edition S x = (((S 0 0) + 1) - 1, va_up (va_up (va_up (va_up (va_up S 1 (cp (S 1) (9 * cl (S 0 0)) (9 * cl x) 9)) 2 (cp (S 2) (8 * cl (S 0 0)) (8 * cl x) 8)) 3 (upd (S 3) (cl (S 0 0)) ((-1)))) 4 (upd (S 4) (cl (S 0 0)) (0))) 0 (fun _ => (S 0 0) + 1)) := (by rw [sp_edition, if_neg (fun h9 => h9 c5), if_neg c17]); rw [e9]; exact ⟨rfl, _, hR⟩) (Nat.le_of_ble_eq_true rfl) (Nat.le_of_ble_eq_true rfl) dX7_edition_137
                · have hk8 : k < 8 := nnle (a := 8) (by decide) (by omega) c67
                  refine lv_aload_n hx hb dX7_edition_70 rfl (lv_at hl 0 rfl) ?_
                  refine rg_17 X hw hR dX7_edition_71 ?_
                  refine W.eq (g2 := F0 m 74 ls [.ref (L 2)]) rfl ?_
                  refine lv_bipush (v := 8) hx hb dX7_edition_74 (by decide) ?_
                  refine lv_aload_n hx hb dX7_edition_76 rfl (lv_at hl 0 rfl) ?_
                  refine rg_7 X hw hR dX7_edition_77 ?_
                  refine W.eq (g2 := F0 m 80 ls [.int (S 0 0), .int 8, .ref (L 2)]) rfl ?_
                  refine lv_imul hx hb dX7_edition_80 ?_
                  refine lv_iload_n hx hb dX7_edition_81 rfl (lv_at hl 2 rfl) ?_
                  refine lv_iadd hx hb dX7_edition_82 ?_
                  refine lv_aload_n hx hb dX7_edition_83 rfl (lv_at hl 0 rfl) ?_
                  refine rg_17 X hw hR dX7_edition_84 ?_
                  refine W.eq (g2 := F0 m 87 ls [.ref (L 2), .int ((8 * (S 0 0)) + (nI k)), .ref (L 2)]) rfl ?_
                  refine lv_bipush (v := 8) hx hb dX7_edition_87 (by decide) ?_
                  refine lv_iload_n hx hb dX7_edition_89 rfl (lv_at hl 1 rfl) ?_
                  refine lv_imul hx hb dX7_edition_90 ?_
                  refine lv_iload_n hx hb dX7_edition_91 rfl (lv_at hl 2 rfl) ?_
                  refine lv_iadd hx hb dX7_edition_92 ?_
                  refine ri_iald X hw hR 2 rfl (8 * cl x + k) (jxn 8 c5.1 k) (by omega) dX7_edition_93 ?_
                  refine W.eq (g2 := F0 m 94 ls [.int ((cp (S 2) (8 * cl (S 0 0)) (8 * cl x) k) (8 * cl x + k)), .int ((8 * (S 0 0)) + (nI k)), .ref (L 2)]) rfl ?_
                  refine ri_iast X hw hR 2 rfl (8 * cl (S 0 0) + k) (jxn 8 p0 k) (by omega) dX7_edition_94 (fun M9 H9 locs9 hw hR => ?_)
                  have hR : RV G g L (va_up (va_up (va_up S 1 (cp (S 1) (9 * cl (S 0 0)) (9 * cl x) 9)) 2 (cp (S 2) (8 * cl (S 0 0)) (8 * cl x) k)) 2 (upd ((cp (S 2) (8 * cl (S 0 0)) (8 * cl x) k)) (8 * cl (S 0 0) + k) ((cp (S 2) (8 * cl (S 0 0)) (8 * cl x) k) (8 * cl x + k)))) cs ar K M9 := hR
                  refine lv_iinc (v := nI (k + 1)) (lv' := [(2, .int (nI (k + 1))), (0, .ref g), (1, .int x)]) hx hb dX7_edition_95 hl (k := 2) rfl (nI_s k) (by decide) rfl (fun ls hl => ?_)
                  refine lv_goto (tgt := 64) hx hb dX7_edition_98 (by decide) ?_
                  exact ih (k + 1) _ _ _ _ (by omega) (by omega) hw (by rw [bx_uu, cpS (S 2) (by omega)] at hR; exact hR) (lv_sub hl [1, 2, 0] rfl)
            exact loop2 9 0 _ _ _ _ (by omega) (by omega) hw (by rw [hk9] at hR; rw [cp0, va_up_id' S (j := 2) (k := 1) (by decide)]; exact hR) (lv_sub hl [1, 2, 0] rfl)
          · have hk9 : k < 9 := nnle (a := 9) (by decide) (by omega) c28
            refine lv_aload_n hx hb dX7_edition_31 rfl (lv_at hl 0 rfl) ?_
            refine rg_13 X hw hR dX7_edition_32 ?_
            refine W.eq (g2 := F0 m 35 ls [.ref (L 1)]) rfl ?_
            refine lv_bipush (v := 9) hx hb dX7_edition_35 (by decide) ?_
            refine lv_aload_n hx hb dX7_edition_37 rfl (lv_at hl 0 rfl) ?_
            refine rg_7 X hw hR dX7_edition_38 ?_
            refine W.eq (g2 := F0 m 41 ls [.int (S 0 0), .int 9, .ref (L 1)]) rfl ?_
            refine lv_imul hx hb dX7_edition_41 ?_
            refine lv_iload_n hx hb dX7_edition_42 rfl (lv_at hl 2 rfl) ?_
            refine lv_iadd hx hb dX7_edition_43 ?_
            refine lv_aload_n hx hb dX7_edition_44 rfl (lv_at hl 0 rfl) ?_
            refine rg_13 X hw hR dX7_edition_45 ?_
            refine W.eq (g2 := F0 m 48 ls [.ref (L 1), .int ((9 * (S 0 0)) + (nI k)), .ref (L 1)]) rfl ?_
            refine lv_bipush (v := 9) hx hb dX7_edition_48 (by decide) ?_
            refine lv_iload_n hx hb dX7_edition_50 rfl (lv_at hl 1 rfl) ?_
            refine lv_imul hx hb dX7_edition_51 ?_
            refine lv_iload_n hx hb dX7_edition_52 rfl (lv_at hl 2 rfl) ?_
            refine lv_iadd hx hb dX7_edition_53 ?_
            refine ri_iald X hw hR 1 rfl (9 * cl x + k) (jxn 9 c5.1 k) (by omega) dX7_edition_54 ?_
            refine W.eq (g2 := F0 m 55 ls [.int ((cp (S 1) (9 * cl (S 0 0)) (9 * cl x) k) (9 * cl x + k)), .int ((9 * (S 0 0)) + (nI k)), .ref (L 1)]) rfl ?_
            refine ri_iast X hw hR 1 rfl (9 * cl (S 0 0) + k) (jxn 9 p0 k) (by omega) dX7_edition_55 (fun M9 H9 locs9 hw hR => ?_)
            have hR : RV G g L (va_up (va_up S 1 (cp (S 1) (9 * cl (S 0 0)) (9 * cl x) k)) 1 (upd ((cp (S 1) (9 * cl (S 0 0)) (9 * cl x) k)) (9 * cl (S 0 0) + k) ((cp (S 1) (9 * cl (S 0 0)) (9 * cl x) k) (9 * cl x + k)))) cs ar K M9 := hR
            refine lv_iinc (v := nI (k + 1)) (lv' := [(2, .int (nI (k + 1))), (0, .ref g), (1, .int x)]) hx hb dX7_edition_56 hl (k := 2) rfl (nI_s k) (by decide) rfl (fun ls hl => ?_)
            refine lv_goto (tgt := 25) hx hb dX7_edition_59 (by decide) ?_
            exact ih (k + 1) _ _ _ _ (by omega) (by omega) hw (by rw [bx_uu, cpS (S 1) (by omega)] at hR; exact hR) (lv_sub hl [1, 2, 0] rfl)
      exact loop1 10 0 _ _ _ _ (by omega) (by omega) hw (by rw [cp0, va_up_id]; exact hR) (lv_sub hl [1, 2, 0] rfl)
    · refine lv_bipush (v := (-4)) hx hb dX7_edition_20 (by decide) ?_
      exact mm_iret hQ X hw (by have e9 : sp_edition S x = ((-4), S) := (by rw [sp_edition, if_neg (fun h9 => h9 c5), if_pos c17]); rw [e9]; exact ⟨rfl, _, hR⟩) (Nat.le_of_ble_eq_true rfl) (Nat.le_of_ble_eq_true rfl) dX7_edition_22
  · refine lv_bipush (v := (-2)) hx hb dX7_edition_8 (by decide) ?_
    exact mm_iret hQ X hw (by have e9 : sp_edition S x = ((-2), S) := (by rw [sp_edition, if_pos c5]); rw [e9]; exact ⟨rfl, _, hR⟩) (Nat.le_of_ble_eq_true rfl) (Nat.le_of_ble_eq_true rfl) dX7_edition_10
set_option maxHeartbeats 4000000 in
set_option maxRecDepth 100000 in
theorem m_differs (l : Launch) (G : mG) (M : mM) (g : Nat) (L : Nat → Nat) (S : sS) (cs ar : Nat → Int64) (K : Nat → Nat → Int64) (hR : RV G g L S cs ar K M) (ne nn nc nl ht : Nat) (hN : NM S ne nn nc nl ht) (x y k : Int32) : Ct l yX7_differs cX7_differs 7 (some FieldType.int) (mm_r 2 0 0) G [.ref g, .int x, .int y, .int k] M (fun r M1 => r = some (.int (sp_differs S x y k)) ∧ M = M1) := by
  refine Ct.of (by decide) (Nat.le_of_ble_eq_true rfl) ?_
  intro p e s m args below meth c ls Q X hin hl hw hQ
  have hx := X.1
  have hb := X.2.1
  have hl : lv_has ls 7 [(0, .ref g), (1, .int x), (2, .int y), (3, .int k)] := hl
  obtain ⟨hN0, hN1, hN2, hN7, hN8, hN12, hN13, hN18, hN19, hN5, hN6⟩ := id hN
  refine lv_aload_n hx hb dX7_differs_0 rfl (lv_at hl 0 rfl) ?_
  refine lv_iload_n hx hb dX7_differs_1 rfl (lv_at hl 1 rfl) ?_
  refine mm_callV (As := [.int x]) (rest := []) X hw (m_isEdition l G _ g L _ cs ar K hR (x) ne hN0 (by omega)) (hR.1) rfl wd_X7_92 ⟨Nat.le_of_ble_eq_true rfl, Nat.le_of_ble_eq_true rfl⟩ ⟨Nat.le_of_ble_eq_true rfl, Nat.le_of_ble_eq_true rfl⟩ rfl rfl (Nat.le_of_ble_eq_true rfl) hl.1 dX7_differs_2 (fun v9 M9 H9 locs9 hp9 hw => ?_)
  obtain ⟨rfl, rfl⟩ := hp9
  refine W.eq (g2 := F0 m 5 ls [.int (bI (0 ≤ x ∧ x < S 0 0))]) rfl ?_
  refine mm_ifeqB (tgt := 16) hx hb dX7_differs_5 (by decide) (fun c5 => ?_) (fun c5 => ?_)
  · refine lv_bipush (v := (-2)) hx hb dX7_differs_16 (by decide) ?_
    exact mm_iret hQ X hw (⟨by rw [sp_differs, if_pos c5], rfl⟩) (Nat.le_of_ble_eq_true rfl) (Nat.le_of_ble_eq_true rfl) dX7_differs_18
  · have b_x : cl x < ne := cl_lt hN0 (by omega) c5
    refine lv_aload_n hx hb dX7_differs_8 rfl (lv_at hl 0 rfl) ?_
    refine lv_iload_n hx hb dX7_differs_9 rfl (lv_at hl 2 rfl) ?_
    refine mm_callV (As := [.int y]) (rest := []) X hw (m_isEdition l G _ g L _ cs ar K hR (y) ne hN0 (by omega)) (hR.1) rfl wd_X7_92 ⟨Nat.le_of_ble_eq_true rfl, Nat.le_of_ble_eq_true rfl⟩ ⟨Nat.le_of_ble_eq_true rfl, Nat.le_of_ble_eq_true rfl⟩ rfl rfl (Nat.le_of_ble_eq_true rfl) hl.1 dX7_differs_10 (fun v9 M9 H9 locs9 hp9 hw => ?_)
    obtain ⟨rfl, rfl⟩ := hp9
    refine W.eq (g2 := F0 m 13 ls [.int (bI (0 ≤ y ∧ y < S 0 0))]) rfl ?_
    refine mm_ifneB (tgt := 19) hx hb dX7_differs_13 (by decide) (fun c13 => ?_) (fun c13 => ?_)
    · have b_y : cl y < ne := cl_lt hN0 (by omega) c13
      refine lv_iconst (v := 0) hx hb dX7_differs_19 (by decide) ?_
      refine lv_istore (lv' := [(4, .int 0), (0, .ref g), (1, .int x), (2, .int y), (3, .int k)]) hx hb dX7_differs_20 hl (by decide) rfl (fun ls hl => ?_)
      refine lv_iconst (v := 0) hx hb dX7_differs_22 (by decide) ?_
      refine lv_istore (lv' := [(5, .int 0), (4, .int 0), (0, .ref g), (1, .int x), (2, .int y), (3, .int k)]) hx hb dX7_differs_23 hl (by decide) rfl (fun ls hl => ?_)
      have loop : ∀ (n : Nat) (i : Nat) (q : Int32) (H1 : Heap) (locs1 : List Loc) (ls1 : Array Slot), (hk : i ≤ 17) → (hn : 18 ≤ i + n) → (hv : df_go (df_b S (cl x) (cl y)) k (17 - i) i q = df_go (df_b S (cl x) (cl y)) k 17 0 0) → mm_W G.1 vwCl (ct_A M s.heap.size) s.heap M H1 locs1 → lv_has ls1 7 [(0, .ref g), (1, .int x), (2, .int y), (3, .int k), (4, .int q), (5, .int (nI i))] → W p l e (mm_r 2 0 0) s m args below meth c H1 locs1 0 0 Q (F0 m 25 ls1 []) := by
        intro n
        induction n with
        | zero => intro i q H1 locs1 ls hk hn hv hw hl; exact absurd hn (by omega)
        | succ n ih =>
          intro i q H1 locs1 ls hk hn hv hw hl
          refine lv_iload hx hb dX7_differs_25 (lv_at hl 5 rfl) ?_
          refine lv_bipush (v := 17) hx hb dX7_differs_27 (by decide) ?_
          refine lv_icmp_ge (tgt := 150) hx hb dX7_differs_29 (by decide) (fun c29 => ?_) (fun c29 => ?_)
          · have hi17 : i = 17 := by have := nle (a := 17) (by decide) (by omega) c29; omega
            refine lv_iconst (v := (-1)) hx hb dX7_differs_150 (by decide) ?_
            exact mm_iret hQ X hw (⟨by rw [sp_differs, if_neg (fun h9 => h9 c5), if_neg (fun h9 => h9 c13), ← hv, hi17]; rfl, rfl⟩) (Nat.le_of_ble_eq_true rfl) (Nat.le_of_ble_eq_true rfl) dX7_differs_151
          · have hi17 : i < 17 := nnle (a := 17) (by decide) (by omega) c29
            rw [show 17 - i = (16 - i) + 1 from by omega, df_go_s] at hv
            refine lv_iload hx hb dX7_differs_32 (lv_at hl 5 rfl) ?_
            refine lv_bipush (v := 9) hx hb dX7_differs_34 (by decide) ?_
            refine lv_icmp_ge (tgt := 74) hx hb dX7_differs_36 (by decide) (fun c36 => ?_) (fun c36 => ?_)
            · have hi9 : ¬ i < 9 := by have := nle (a := 9) (by decide) (by omega) c36; omega
              refine lv_aload_n hx hb dX7_differs_74 rfl (lv_at hl 0 rfl) ?_
              refine rg_17 X hw hR dX7_differs_75 ?_
              refine lv_bipush (v := 8) hx hb dX7_differs_78 (by decide) ?_
              refine lv_iload_n hx hb dX7_differs_80 rfl (lv_at hl 1 rfl) ?_
              refine lv_imul hx hb dX7_differs_81 ?_
              refine lv_iload hx hb dX7_differs_82 (lv_at hl 5 rfl) ?_
              refine lv_iadd hx hb dX7_differs_84 ?_
              refine lv_bipush (v := 9) hx hb dX7_differs_85 (by decide) ?_
              refine lv_isub hx hb dX7_differs_87 ?_
              refine ri_iald X hw hR 2 rfl (8 * cl x + i - 9) (by rw [show (8 : Int32) = nI 8 from rfl, jxn 8 c5.1 i]; exact pk_sub (a := 8 * cl x + i) (b := 9) (by omega)) (by omega) dX7_differs_88 ?_
              refine lv_aload_n hx hb dX7_differs_89 rfl (lv_at hl 0 rfl) ?_
              refine rg_17 X hw hR dX7_differs_90 ?_
              refine lv_bipush (v := 8) hx hb dX7_differs_93 (by decide) ?_
              refine lv_iload_n hx hb dX7_differs_95 rfl (lv_at hl 2 rfl) ?_
              refine lv_imul hx hb dX7_differs_96 ?_
              refine lv_iload hx hb dX7_differs_97 (lv_at hl 5 rfl) ?_
              refine lv_iadd hx hb dX7_differs_99 ?_
              refine lv_bipush (v := 9) hx hb dX7_differs_100 (by decide) ?_
              refine lv_isub hx hb dX7_differs_102 ?_
              refine ri_iald X hw hR 2 rfl (8 * cl y + i - 9) (by rw [show (8 : Int32) = nI 8 from rfl, jxn 8 c13.1 i]; exact pk_sub (a := 8 * cl y + i) (b := 9) (by omega)) (by omega) dX7_differs_103 ?_
              refine lv_icmp_eq (tgt := 111) hx hb dX7_differs_104 (by decide) (fun c104 => ?_) (fun c104 => ?_)
              · rw [if_neg (df_f2 hi9 c104)] at hv
                refine lv_iconst (v := 0) hx hb dX7_differs_111 (by decide) ?_
                refine lv_istore (lv' := [(6, .int 0), (0, .ref g), (1, .int x), (2, .int y), (3, .int k), (4, .int q), (5, .int (nI i))]) hx hb dX7_differs_112 hl (by decide) rfl (fun ls hl => ?_)
                refine lv_iload hx hb dX7_differs_114 (lv_at hl 0 rfl) ?_
                refine lv_if_eq (tgt := 128) hx hb dX7_differs_116 (by decide) (fun c116 => ?_) (fun c116 => ?_)
                · refine lv_iload hx hb dX7_differs_128 (lv_at hl 0 rfl) ?_
                  refine lv_if_eq (tgt := 140) hx hb dX7_differs_130 (by decide) (fun c130 => ?_) (fun c130 => ?_)
                  · refine lv_iload hx hb dX7_differs_140 (lv_at hl 5 rfl) ?_
                    refine lv_istore (lv' := [(4, .int q), (6, .int 0), (0, .ref g), (1, .int x), (2, .int y), (3, .int k), (5, .int (nI i))]) hx hb dX7_differs_142 hl (by decide) rfl (fun ls hl => ?_)
                    refine lv_iinc (v := nI (i + 1)) (lv' := [(5, .int (nI (i + 1))), (4, .int q), (6, .int 0), (0, .ref g), (1, .int x), (2, .int y), (3, .int k)]) hx hb dX7_differs_144 hl (k := 6) rfl (nI_s i) (by decide) rfl (fun ls hl => ?_)
                    refine lv_goto (tgt := 25) hx hb dX7_differs_147 (by decide) ?_
                    exact ih (i + 1) (q) _ _ _ (by omega) (by omega) (by rw [show 17 - (i + 1) = 16 - i from by omega]; exact hv) hw  (lv_sub hl [3, 4, 5, 6, 1, 0] rfl)
                  · exact absurd (by decide) c130
                · exact absurd (by decide) c116
              · rw [if_pos (df_t2 hi9 c104)] at hv
                refine lv_iconst (v := 1) hx hb dX7_differs_107 (by decide) ?_
                refine lv_goto (tgt := 112) hx hb dX7_differs_108 (by decide) ?_
                refine lv_istore (lv' := [(6, .int 1), (0, .ref g), (1, .int x), (2, .int y), (3, .int k), (4, .int q), (5, .int (nI i))]) hx hb dX7_differs_112 hl (by decide) rfl (fun ls hl => ?_)
                refine lv_iload hx hb dX7_differs_114 (lv_at hl 0 rfl) ?_
                refine lv_if_eq (tgt := 128) hx hb dX7_differs_116 (by decide) (fun c116 => ?_) (fun c116 => ?_)
                · exact absurd c116 (by decide)
                · refine lv_iload hx hb dX7_differs_119 (lv_at hl 5 rfl) ?_
                  refine lv_iload_n hx hb dX7_differs_121 rfl (lv_at hl 4 rfl) ?_
                  refine lv_icmp_ne (tgt := 128) hx hb dX7_differs_122 (by decide) (fun c122 => ?_) (fun c122 => ?_)
                  · rw [if_neg c122] at hv
                    refine lv_iload hx hb dX7_differs_128 (lv_at hl 0 rfl) ?_
                    refine lv_if_eq (tgt := 140) hx hb dX7_differs_130 (by decide) (fun c130 => ?_) (fun c130 => ?_)
                    · exact absurd c130 (by decide)
                    · refine lv_iload hx hb dX7_differs_133 (lv_at hl 5 rfl) ?_
                      refine lv_iconst (v := 1) hx hb dX7_differs_135 (by decide) ?_
                      refine lv_iadd hx hb dX7_differs_136 ?_
                      refine lv_goto (tgt := 142) hx hb dX7_differs_137 (by decide) ?_
                      refine lv_istore (lv' := [(4, .int (q + 1)), (6, .int 1), (0, .ref g), (1, .int x), (2, .int y), (3, .int k), (5, .int (nI i))]) hx hb dX7_differs_142 hl (by decide) rfl (fun ls hl => ?_)
                      refine lv_iinc (v := nI (i + 1)) (lv' := [(5, .int (nI (i + 1))), (4, .int (q + 1)), (6, .int 1), (0, .ref g), (1, .int x), (2, .int y), (3, .int k)]) hx hb dX7_differs_144 hl (k := 6) rfl (nI_s i) (by decide) rfl (fun ls hl => ?_)
                      refine lv_goto (tgt := 25) hx hb dX7_differs_147 (by decide) ?_
                      exact ih (i + 1) (q + 1) _ _ _ (by omega) (by omega) (by rw [show 17 - (i + 1) = 16 - i from by omega]; exact hv) hw  (lv_sub hl [3, 4, 5, 6, 1, 0] rfl)
                  · rw [if_pos c122] at hv
                    refine lv_iload hx hb dX7_differs_125 (lv_at hl 6 rfl) ?_
                    exact mm_iret hQ X hw (⟨by rw [sp_differs, if_neg (fun h9 => h9 c5), if_neg (fun h9 => h9 c13), ← hv], rfl⟩) (Nat.le_of_ble_eq_true rfl) (Nat.le_of_ble_eq_true rfl) dX7_differs_127
            · have hi9 : i < 9 := nnle (a := 9) (by decide) (by omega) c36
              refine lv_aload_n hx hb dX7_differs_39 rfl (lv_at hl 0 rfl) ?_
              refine rg_13 X hw hR dX7_differs_40 ?_
              refine lv_bipush (v := 9) hx hb dX7_differs_43 (by decide) ?_
              refine lv_iload_n hx hb dX7_differs_45 rfl (lv_at hl 1 rfl) ?_
              refine lv_imul hx hb dX7_differs_46 ?_
              refine lv_iload hx hb dX7_differs_47 (lv_at hl 5 rfl) ?_
              refine lv_iadd hx hb dX7_differs_49 ?_
              refine ri_iald X hw hR 1 rfl (9 * cl x + i) (jxn 9 c5.1 i) (by omega) dX7_differs_50 ?_
              refine lv_aload_n hx hb dX7_differs_51 rfl (lv_at hl 0 rfl) ?_
              refine rg_13 X hw hR dX7_differs_52 ?_
              refine lv_bipush (v := 9) hx hb dX7_differs_55 (by decide) ?_
              refine lv_iload_n hx hb dX7_differs_57 rfl (lv_at hl 2 rfl) ?_
              refine lv_imul hx hb dX7_differs_58 ?_
              refine lv_iload hx hb dX7_differs_59 (lv_at hl 5 rfl) ?_
              refine lv_iadd hx hb dX7_differs_61 ?_
              refine ri_iald X hw hR 1 rfl (9 * cl y + i) (jxn 9 c13.1 i) (by omega) dX7_differs_62 ?_
              refine lv_icmp_eq (tgt := 70) hx hb dX7_differs_63 (by decide) (fun c63 => ?_) (fun c63 => ?_)
              · rw [if_neg (df_f1 hi9 c63)] at hv
                refine lv_iconst (v := 0) hx hb dX7_differs_70 (by decide) ?_
                refine lv_goto (tgt := 112) hx hb dX7_differs_71 (by decide) ?_
                refine lv_istore (lv' := [(6, .int 0), (0, .ref g), (1, .int x), (2, .int y), (3, .int k), (4, .int q), (5, .int (nI i))]) hx hb dX7_differs_112 hl (by decide) rfl (fun ls hl => ?_)
                refine lv_iload hx hb dX7_differs_114 (lv_at hl 0 rfl) ?_
                refine lv_if_eq (tgt := 128) hx hb dX7_differs_116 (by decide) (fun c116 => ?_) (fun c116 => ?_)
                · refine lv_iload hx hb dX7_differs_128 (lv_at hl 0 rfl) ?_
                  refine lv_if_eq (tgt := 140) hx hb dX7_differs_130 (by decide) (fun c130 => ?_) (fun c130 => ?_)
                  · refine lv_iload hx hb dX7_differs_140 (lv_at hl 5 rfl) ?_
                    refine lv_istore (lv' := [(4, .int q), (6, .int 0), (0, .ref g), (1, .int x), (2, .int y), (3, .int k), (5, .int (nI i))]) hx hb dX7_differs_142 hl (by decide) rfl (fun ls hl => ?_)
                    refine lv_iinc (v := nI (i + 1)) (lv' := [(5, .int (nI (i + 1))), (4, .int q), (6, .int 0), (0, .ref g), (1, .int x), (2, .int y), (3, .int k)]) hx hb dX7_differs_144 hl (k := 6) rfl (nI_s i) (by decide) rfl (fun ls hl => ?_)
                    refine lv_goto (tgt := 25) hx hb dX7_differs_147 (by decide) ?_
                    exact ih (i + 1) (q) _ _ _ (by omega) (by omega) (by rw [show 17 - (i + 1) = 16 - i from by omega]; exact hv) hw  (lv_sub hl [3, 4, 5, 6, 1, 0] rfl)
                  · exact absurd (by decide) c130
                · exact absurd (by decide) c116
              · rw [if_pos (df_t1 hi9 c63)] at hv
                refine lv_iconst (v := 1) hx hb dX7_differs_66 (by decide) ?_
                refine lv_goto (tgt := 112) hx hb dX7_differs_67 (by decide) ?_
                refine lv_istore (lv' := [(6, .int 1), (0, .ref g), (1, .int x), (2, .int y), (3, .int k), (4, .int q), (5, .int (nI i))]) hx hb dX7_differs_112 hl (by decide) rfl (fun ls hl => ?_)
                refine lv_iload hx hb dX7_differs_114 (lv_at hl 0 rfl) ?_
                refine lv_if_eq (tgt := 128) hx hb dX7_differs_116 (by decide) (fun c116 => ?_) (fun c116 => ?_)
                · exact absurd c116 (by decide)
                · refine lv_iload hx hb dX7_differs_119 (lv_at hl 5 rfl) ?_
                  refine lv_iload_n hx hb dX7_differs_121 rfl (lv_at hl 4 rfl) ?_
                  refine lv_icmp_ne (tgt := 128) hx hb dX7_differs_122 (by decide) (fun c122 => ?_) (fun c122 => ?_)
                  · rw [if_neg c122] at hv
                    refine lv_iload hx hb dX7_differs_128 (lv_at hl 0 rfl) ?_
                    refine lv_if_eq (tgt := 140) hx hb dX7_differs_130 (by decide) (fun c130 => ?_) (fun c130 => ?_)
                    · exact absurd c130 (by decide)
                    · refine lv_iload hx hb dX7_differs_133 (lv_at hl 5 rfl) ?_
                      refine lv_iconst (v := 1) hx hb dX7_differs_135 (by decide) ?_
                      refine lv_iadd hx hb dX7_differs_136 ?_
                      refine lv_goto (tgt := 142) hx hb dX7_differs_137 (by decide) ?_
                      refine lv_istore (lv' := [(4, .int (q + 1)), (6, .int 1), (0, .ref g), (1, .int x), (2, .int y), (3, .int k), (5, .int (nI i))]) hx hb dX7_differs_142 hl (by decide) rfl (fun ls hl => ?_)
                      refine lv_iinc (v := nI (i + 1)) (lv' := [(5, .int (nI (i + 1))), (4, .int (q + 1)), (6, .int 1), (0, .ref g), (1, .int x), (2, .int y), (3, .int k)]) hx hb dX7_differs_144 hl (k := 6) rfl (nI_s i) (by decide) rfl (fun ls hl => ?_)
                      refine lv_goto (tgt := 25) hx hb dX7_differs_147 (by decide) ?_
                      exact ih (i + 1) (q + 1) _ _ _ (by omega) (by omega) (by rw [show 17 - (i + 1) = 16 - i from by omega]; exact hv) hw  (lv_sub hl [3, 4, 5, 6, 1, 0] rfl)
                  · rw [if_pos c122] at hv
                    refine lv_iload hx hb dX7_differs_125 (lv_at hl 6 rfl) ?_
                    exact mm_iret hQ X hw (⟨by rw [sp_differs, if_neg (fun h9 => h9 c5), if_neg (fun h9 => h9 c13), ← hv], rfl⟩) (Nat.le_of_ble_eq_true rfl) (Nat.le_of_ble_eq_true rfl) dX7_differs_127
      exact loop 18 0 0 _ _ _ (by omega) (by omega) (rfl) hw  (lv_sub hl [2, 3, 4, 5, 1, 0] rfl)
    · refine lv_bipush (v := (-2)) hx hb dX7_differs_16 (by decide) ?_
      exact mm_iret hQ X hw (⟨by rw [sp_differs, if_neg (fun h9 => h9 c5), if_pos c13], rfl⟩) (Nat.le_of_ble_eq_true rfl) (Nat.le_of_ble_eq_true rfl) dX7_differs_18
theorem i32_nle {a b : Int32} (h : ¬ a ≤ b) : b < a := by
  rw [Int32.le_iff_toInt_le] at h
  rw [Int32.lt_iff_toInt_lt]
  omega
set_option maxHeartbeats 4000000 in
set_option maxRecDepth 100000 in
theorem m_propose (l : Launch) (G : mG) (M : mM) (g : Nat) (L : Nat → Nat) (S : sS) (cs ar : Nat → Int64) (K : Nat → Nat → Int64) (hR : RV G g L S cs ar K M) (ne nn nc nl ht : Nat) (hN : NM S ne nn nc nl ht) (x h : Int32) : Ct l yX7_propose cX7_propose 5 (some FieldType.int) (mm_r 2 0 0) G [.ref g, .int x, .int h] M (fun r M1 => r = some (.int (sp_propose S x h).1) ∧ ∃ K1, RV G g L (sp_propose S x h).2 cs ar K1 M1) := by
  refine Ct.of (by decide) (Nat.le_of_ble_eq_true rfl) ?_
  intro p e s m args below meth c ls Q X hin hl hw hQ
  have hx := X.1
  have hb := X.2.1
  have hl : lv_has ls 5 [(0, .ref g), (1, .int x), (2, .int h)] := hl
  obtain ⟨hN0, hN1, hN2, hN7, hN8, hN12, hN13, hN18, hN19, hN5, hN6⟩ := id hN
  have h0b : cl (S 0 0) = ne := by rw [hN0, cl_n (by omega)]
  refine lv_aload_n hx hb dX7_propose_0 rfl (lv_at hl 0 rfl) ?_
  refine lv_iload_n hx hb dX7_propose_1 rfl (lv_at hl 1 rfl) ?_
  refine mm_callV (As := [.int x]) (rest := []) X hw (m_isEdition l G _ g L _ cs ar K hR (x) ne hN0 (by omega)) (hR.1) rfl wd_X7_92 ⟨Nat.le_of_ble_eq_true rfl, Nat.le_of_ble_eq_true rfl⟩ ⟨Nat.le_of_ble_eq_true rfl, Nat.le_of_ble_eq_true rfl⟩ rfl rfl (Nat.le_of_ble_eq_true rfl) hl.1 dX7_propose_2 (fun v9 M9 H9 locs9 hp9 hw => ?_)
  obtain ⟨rfl, rfl⟩ := hp9
  refine W.eq (g2 := F0 m 5 ls [.int (bI (0 ≤ x ∧ x < S 0 0))]) rfl ?_
  refine mm_ifeqB (tgt := 15) hx hb dX7_propose_5 (by decide) (fun c5 => ?_) (fun c5 => ?_)
  · refine lv_bipush (v := (-2)) hx hb dX7_propose_15 (by decide) ?_
    exact mm_iret hQ X hw (by have e9 : sp_propose S x h = (-2, S) := (by rw [sp_propose, if_pos c5]); rw [e9]; exact ⟨rfl, _, hR⟩) (Nat.le_of_ble_eq_true rfl) (Nat.le_of_ble_eq_true rfl) dX7_propose_17
  · have b_x : cl x < ne := cl_lt hN0 (by omega) c5
    refine lv_iload_n hx hb dX7_propose_8 rfl (lv_at hl 2 rfl) ?_
    refine lv_sipush (v := 1000) hx hb dX7_propose_9 (by decide) ?_
    refine lv_icmp_le (tgt := 18) hx hb dX7_propose_12 (by decide) (fun c12 => ?_) (fun c12 => ?_)
    · have loop : ∀ (n : Nat) (k : Nat) (b : Int32) (H1 : Heap) (locs1 : List Loc) (ls1 : Array Slot), (hk : k ≤ ne) → (hn : ne + 1 ≤ k + n) → (hv : (b = 1 ∧ pr_may S x h k) ∨ (b = 0 ∧ ¬ pr_may S x h k)) → mm_W G.1 vwCl (ct_A M s.heap.size) s.heap M H1 locs1 → lv_has ls1 5 [(0, .ref g), (1, .int x), (2, .int h), (3, .int b), (4, .int (nI k))] → W p l e (mm_r 2 0 0) s m args below meth c H1 locs1 0 0 Q (F0 m 44 ls1 []) := by
        intro n
        induction n with
        | zero => intro k b H1 locs1 ls hk hn hv hw hl; exact absurd hn (by omega)
        | succ n ih =>
          intro k b H1 locs1 ls hk hn hv hw hl
          refine lv_iload hx hb dX7_propose_44 (lv_at hl 4 rfl) ?_
          refine lv_aload_n hx hb dX7_propose_46 rfl (lv_at hl 0 rfl) ?_
          refine rg_7 X hw hR dX7_propose_47 ?_
          refine lv_icmp_ge (tgt := 91) hx hb dX7_propose_50 (by decide) (fun c50 => ?_) (fun c50 => ?_)
          · have hk9 : k = ne := by rw [hN0] at c50; have := nle (by omega) (by omega) c50; omega
            rw [hk9, ← h0b] at hv
            refine lv_iload_n hx hb dX7_propose_91 rfl (lv_at hl 3 rfl) ?_
            refine lv_if_ne (tgt := 98) hx hb dX7_propose_92 (by decide) (fun c92 => ?_) (fun c92 => ?_)
            · refine lv_aload_n hx hb dX7_propose_98 rfl (lv_at hl 0 rfl) ?_
              refine rg_23 X hw hR dX7_propose_99 ?_
              refine lv_iload_n hx hb dX7_propose_102 rfl (lv_at hl 1 rfl) ?_
              refine lv_iconst (v := 1) hx hb dX7_propose_103 (by decide) ?_
              refine ri_iast X hw hR 4 rfl (cl x) (nI_cl c5.1) (by omega) dX7_propose_104 (fun M9 H9 locs9 hw hR => ?_)
              refine lv_aload_n hx hb dX7_propose_105 rfl (lv_at hl 0 rfl) ?_
              refine rg_20 X hw hR dX7_propose_106 ?_
              refine W.eq (g2 := F0 m 109 ls [.ref (L 3)]) rfl ?_
              refine lv_iload_n hx hb dX7_propose_109 rfl (lv_at hl 1 rfl) ?_
              refine lv_iload_n hx hb dX7_propose_110 rfl (lv_at hl 2 rfl) ?_
              refine ri_iast X hw hR 3 rfl (cl x) (nI_cl c5.1) (by omega) dX7_propose_111 (fun M9 H9 locs9 hw hR => ?_)
              have hR : RV G g L (va_up (va_up S 4 (upd (S 4) (cl x) (1))) 3 (upd (S 3) (cl x) (h))) cs ar K M9 := hR
              refine lv_iconst (v := 1) hx hb dX7_propose_112 (by decide) ?_
              exact mm_iret hQ X hw (by have e9 : sp_propose S x h = (1, va_up (va_up S 4 (upd (S 4) (cl x) (1))) 3 (upd (S 3) (cl x) (h))) := (by rw [sp_propose, if_neg (fun h9 => h9 c5), if_neg (fun h9 => h9 c12), if_neg (fun h9 => h9 (hv.resolve_right (fun z => c92 z.1)).2)]); rw [e9]; exact ⟨rfl, _, hR⟩) (Nat.le_of_ble_eq_true rfl) (Nat.le_of_ble_eq_true rfl) dX7_propose_113
            · refine lv_bipush (v := (-3)) hx hb dX7_propose_95 (by decide) ?_
              exact mm_iret hQ X hw (by have e9 : sp_propose S x h = (-3, S) := (by rw [sp_propose, if_neg (fun h9 => h9 c5), if_neg (fun h9 => h9 c12), if_pos (hv.resolve_left (fun z => absurd (z.1.symm.trans c92) (by decide))).2]); rw [e9]; exact ⟨rfl, _, hR⟩) (Nat.le_of_ble_eq_true rfl) (Nat.le_of_ble_eq_true rfl) dX7_propose_97
          · have hk9 : k < ne := by rw [hN0] at c50; exact nnle (by omega) (by omega) c50
            refine lv_iload_n hx hb dX7_propose_53 rfl (lv_at hl 3 rfl) ?_
            refine lv_if_eq (tgt := 83) hx hb dX7_propose_54 (by decide) (fun c54 => ?_) (fun c54 => ?_)
            · refine lv_iconst (v := 0) hx hb dX7_propose_83 (by decide) ?_
              refine lv_istore_n (lv' := [(3, .int 0), (0, .ref g), (1, .int x), (2, .int h), (4, .int (nI k))]) hx hb dX7_propose_84 rfl hl (by decide) rfl (fun ls hl => ?_)
              refine lv_iinc (v := nI (k + 1)) (lv' := [(4, .int (nI (k + 1))), (3, .int 0), (0, .ref g), (1, .int x), (2, .int h)]) hx hb dX7_propose_85 hl (k := 4) rfl (nI_s k) (by decide) rfl (fun ls hl => ?_)
              refine lv_goto (tgt := 44) hx hb dX7_propose_88 (by decide) ?_
              exact ih (k + 1) 0 _ _ _ (by omega) (by omega) (Or.inr ⟨rfl, fun h9 => (hv.resolve_left (fun z => absurd (z.1.symm.trans c54) (by decide))).2 ⟨h9.1, h9.2.1, fun e he => h9.2.2 e (by omega)⟩⟩) hw  (lv_sub hl [2, 3, 4, 1, 0] rfl)
            · refine lv_aload_n hx hb dX7_propose_57 rfl (lv_at hl 0 rfl) ?_
              refine rg_23 X hw hR dX7_propose_58 ?_
              refine lv_iload hx hb dX7_propose_61 (lv_at hl 4 rfl) ?_
              refine ri_iald X hw hR 4 rfl (k) (rfl) (by omega) dX7_propose_63 ?_
              refine lv_iconst (v := 1) hx hb dX7_propose_64 (by decide) ?_
              refine lv_icmp_ne (tgt := 79) hx hb dX7_propose_65 (by decide) (fun c65 => ?_) (fun c65 => ?_)
              · refine lv_iconst (v := 1) hx hb dX7_propose_79 (by decide) ?_
                refine lv_goto (tgt := 84) hx hb dX7_propose_80 (by decide) ?_
                refine lv_istore_n (lv' := [(3, .int 1), (0, .ref g), (1, .int x), (2, .int h), (4, .int (nI k))]) hx hb dX7_propose_84 rfl hl (by decide) rfl (fun ls hl => ?_)
                refine lv_iinc (v := nI (k + 1)) (lv' := [(4, .int (nI (k + 1))), (3, .int 1), (0, .ref g), (1, .int x), (2, .int h)]) hx hb dX7_propose_85 hl (k := 4) rfl (nI_s k) (by decide) rfl (fun ls hl => ?_)
                refine lv_goto (tgt := 44) hx hb dX7_propose_88 (by decide) ?_
                exact ih (k + 1) 1 _ _ _ (by omega) (by omega) (Or.inl ⟨rfl, (hv.resolve_right (fun z => c54 z.1)).2.1, (hv.resolve_right (fun z => c54 z.1)).2.2.1, fun e he => (by rcases Nat.lt_succ_iff_lt_or_eq.mp he with h9 | h9; exact (hv.resolve_right (fun z => c54 z.1)).2.2.2 e h9; rw [h9]; exact Or.inl c65)⟩) hw  (lv_sub hl [2, 3, 4, 1, 0] rfl)
              · refine lv_aload_n hx hb dX7_propose_68 rfl (lv_at hl 0 rfl) ?_
                refine rg_20 X hw hR dX7_propose_69 ?_
                refine lv_iload hx hb dX7_propose_72 (lv_at hl 4 rfl) ?_
                refine ri_iald X hw hR 3 rfl (k) (rfl) (by omega) dX7_propose_74 ?_
                refine lv_iload_n hx hb dX7_propose_75 rfl (lv_at hl 2 rfl) ?_
                refine lv_icmp_ge (tgt := 83) hx hb dX7_propose_76 (by decide) (fun c76 => ?_) (fun c76 => ?_)
                · refine lv_iconst (v := 0) hx hb dX7_propose_83 (by decide) ?_
                  refine lv_istore_n (lv' := [(3, .int 0), (0, .ref g), (1, .int x), (2, .int h), (4, .int (nI k))]) hx hb dX7_propose_84 rfl hl (by decide) rfl (fun ls hl => ?_)
                  refine lv_iinc (v := nI (k + 1)) (lv' := [(4, .int (nI (k + 1))), (3, .int 0), (0, .ref g), (1, .int x), (2, .int h)]) hx hb dX7_propose_85 hl (k := 4) rfl (nI_s k) (by decide) rfl (fun ls hl => ?_)
                  refine lv_goto (tgt := 44) hx hb dX7_propose_88 (by decide) ?_
                  exact ih (k + 1) 0 _ _ _ (by omega) (by omega) (Or.inr ⟨rfl, fun h9 => (h9.2.2 k (by omega)).elim (fun z => z c65) (fun z => i32_lt_nle z c76)⟩) hw  (lv_sub hl [2, 3, 4, 1, 0] rfl)
                · refine lv_iconst (v := 1) hx hb dX7_propose_79 (by decide) ?_
                  refine lv_goto (tgt := 84) hx hb dX7_propose_80 (by decide) ?_
                  refine lv_istore_n (lv' := [(3, .int 1), (0, .ref g), (1, .int x), (2, .int h), (4, .int (nI k))]) hx hb dX7_propose_84 rfl hl (by decide) rfl (fun ls hl => ?_)
                  refine lv_iinc (v := nI (k + 1)) (lv' := [(4, .int (nI (k + 1))), (3, .int 1), (0, .ref g), (1, .int x), (2, .int h)]) hx hb dX7_propose_85 hl (k := 4) rfl (nI_s k) (by decide) rfl (fun ls hl => ?_)
                  refine lv_goto (tgt := 44) hx hb dX7_propose_88 (by decide) ?_
                  exact ih (k + 1) 1 _ _ _ (by omega) (by omega) (Or.inl ⟨rfl, (hv.resolve_right (fun z => c54 z.1)).2.1, (hv.resolve_right (fun z => c54 z.1)).2.2.1, fun e he => (by rcases Nat.lt_succ_iff_lt_or_eq.mp he with h9 | h9; exact (hv.resolve_right (fun z => c54 z.1)).2.2.2 e h9; rw [h9]; exact Or.inr (i32_nle c76))⟩) hw  (lv_sub hl [2, 3, 4, 1, 0] rfl)
      refine lv_aload_n hx hb dX7_propose_18 rfl (lv_at hl 0 rfl) ?_
      refine rg_23 X hw hR dX7_propose_19 ?_
      refine lv_iload_n hx hb dX7_propose_22 rfl (lv_at hl 1 rfl) ?_
      refine ri_iald X hw hR 4 rfl (cl x) (nI_cl c5.1) (by omega) dX7_propose_23 ?_
      refine lv_if_ne (tgt := 39) hx hb dX7_propose_24 (by decide) (fun c24 => ?_) (fun c24 => ?_)
      · refine lv_iconst (v := 0) hx hb dX7_propose_39 (by decide) ?_
        refine lv_istore_n (lv' := [(3, .int 0), (0, .ref g), (1, .int x), (2, .int h)]) hx hb dX7_propose_40 rfl hl (by decide) rfl (fun ls hl => ?_)
        refine lv_iconst (v := 0) hx hb dX7_propose_41 (by decide) ?_
        refine lv_istore (lv' := [(4, .int 0), (3, .int 0), (0, .ref g), (1, .int x), (2, .int h)]) hx hb dX7_propose_42 hl (by decide) rfl (fun ls hl => ?_)
        exact loop (ne + 1) 0 0 _ _ _ (by omega) (by omega) (Or.inr ⟨rfl, fun h9 => c24 h9.1⟩) hw  (lv_sub hl [2, 3, 4, 1, 0] rfl)
      · refine lv_iload_n hx hb dX7_propose_27 rfl (lv_at hl 2 rfl) ?_
        refine lv_aload_n hx hb dX7_propose_28 rfl (lv_at hl 0 rfl) ?_
        refine rg_99 X hw hR dX7_propose_29 ?_
        refine lv_icmp_le (tgt := 39) hx hb dX7_propose_32 (by decide) (fun c32 => ?_) (fun c32 => ?_)
        · refine lv_iconst (v := 0) hx hb dX7_propose_39 (by decide) ?_
          refine lv_istore_n (lv' := [(3, .int 0), (0, .ref g), (1, .int x), (2, .int h)]) hx hb dX7_propose_40 rfl hl (by decide) rfl (fun ls hl => ?_)
          refine lv_iconst (v := 0) hx hb dX7_propose_41 (by decide) ?_
          refine lv_istore (lv' := [(4, .int 0), (3, .int 0), (0, .ref g), (1, .int x), (2, .int h)]) hx hb dX7_propose_42 hl (by decide) rfl (fun ls hl => ?_)
          exact loop (ne + 1) 0 0 _ _ _ (by omega) (by omega) (Or.inr ⟨rfl, fun h9 => i32_lt_nle h9.2.1 c32⟩) hw  (lv_sub hl [2, 3, 4, 1, 0] rfl)
        · refine lv_iconst (v := 1) hx hb dX7_propose_35 (by decide) ?_
          refine lv_goto (tgt := 40) hx hb dX7_propose_36 (by decide) ?_
          refine lv_istore_n (lv' := [(3, .int 1), (0, .ref g), (1, .int x), (2, .int h)]) hx hb dX7_propose_40 rfl hl (by decide) rfl (fun ls hl => ?_)
          refine lv_iconst (v := 0) hx hb dX7_propose_41 (by decide) ?_
          refine lv_istore (lv' := [(4, .int 0), (3, .int 1), (0, .ref g), (1, .int x), (2, .int h)]) hx hb dX7_propose_42 hl (by decide) rfl (fun ls hl => ?_)
          exact loop (ne + 1) 0 1 _ _ _ (by omega) (by omega) (Or.inl ⟨rfl, c24, i32_nle c32, fun e he => absurd he (by omega)⟩) hw  (lv_sub hl [2, 3, 4, 1, 0] rfl)
    · refine lv_bipush (v := (-2)) hx hb dX7_propose_15 (by decide) ?_
      exact mm_iret hQ X hw (by have e9 : sp_propose S x h = (-2, S) := (by rw [sp_propose, if_neg (fun h9 => h9 c5), if_pos c12]); rw [e9]; exact ⟨rfl, _, hR⟩) (Nat.le_of_ble_eq_true rfl) (Nat.le_of_ble_eq_true rfl) dX7_propose_17
end
section
theorem ag_its_s (S : sS) (e n : Nat) : ag_its S e (n + 1) = ag_its S e n + (if S 11 (12 * e + n) = 0 then 0 else if S 10 n = -1 then S 8 n else 0) := rfl
theorem ag_all_s (S : sS) (n : Nat) : ag_all S (n + 1) = ag_all S n + S 8 n := rfl
/-- a height more: what comes with it -/
def co_1 (S : sS) : sS := va_up (va_up S 5 (fun _ => S 5 0 + 1)) 6 (upd (S 6) (cl (S 5 0 + 1)) (S 6 (cl (S 5 0))))
def co_e (S : sS) : Nat → sS
  | 0 => co_1 S
  | k + 1 => if co_e S k 4 k = 1 ∧ co_e S k 3 k = co_e S k 5 0 then sp_agrees (co_e S k) k else co_e S k
def co_n (S : sS) : Nat → sS
  | 0 => S
  | k + 1 => if co_n S k 10 k = -1 ∧ (co_n S k 9 k >>> (co_n S k 6 (cl (co_n S k 5 0)) &&& 31)) &&& 1 = 0 then va_up (co_n S k) 10 (upd (co_n S k 10) k (co_n S k 5 0)) else co_n S k
def sp_comes (S : sS) : sS := co_n (co_e S (cl (S 0 0))) (cl (S 7 0))
theorem co_e_s (S : sS) (k : Nat) : co_e S (k + 1) = if co_e S k 4 k = 1 ∧ co_e S k 3 k = co_e S k 5 0 then sp_agrees (co_e S k) k else co_e S k := rfl
theorem co_n_s (S : sS) (k : Nat) : co_n S (k + 1) = if co_n S k 10 k = -1 ∧ (co_n S k 9 k >>> (co_n S k 6 (cl (co_n S k 5 0)) &&& 31)) &&& 1 = 0 then va_up (co_n S k) 10 (upd (co_n S k 10) k (co_n S k 5 0)) else co_n S k := rfl
def ri_k (S : sS) : Nat → sS
  | 0 => S
  | k + 1 => sp_comes (ri_k S k)
def sp_rise (S : sS) (x : Int32) : Int32 × sS :=
  if ¬ (1 ≤ x ∧ x ≤ 100) then (-2, S) else if ¬ (S 5 0 + x ≤ 1000) then (-4, S) else (ri_k S (cl x) 5 0, ri_k S (cl x))
/-- numbers that stay where other rows change -/
theorem NM.up {S : sS} {ne nn nc nl ht k : Nat} (h : NM S ne nn nc nl ht) (f : Nat → Int32) (hk : k ≠ 0 ∧ k ≠ 7 ∧ k ≠ 12 ∧ k ≠ 18 ∧ k ≠ 5) : NM (va_up S k f) ne nn nc nl ht := by
  obtain ⟨k0, k7, k12, k18, k5⟩ := hk
  unfold NM
  rw [va_up_ne _ _ (Ne.symm k0), va_up_ne _ _ (Ne.symm k7), va_up_ne _ _ (Ne.symm k12), va_up_ne _ _ (Ne.symm k18), va_up_ne _ _ (Ne.symm k5)]
  exact h
theorem NM.agrees {S : sS} {ne nn nc nl ht : Nat} (h : NM S ne nn nc nl ht) (e : Nat) : NM (sp_agrees S e) ne nn nc nl ht := by
  unfold sp_agrees
  split
  · exact (h.up _ (by decide)).up _ (by decide)
  · exact (h.up _ (by decide)).up _ (by decide)
theorem NM.co1 {S : sS} {ne nn nc nl ht : Nat} (h : NM S ne nn nc nl ht) (hh : ht < 1000) : NM (co_1 S) ne nn nc nl (ht + 1) := by
  unfold co_1
  refine NM.up ?_ _ (by decide)
  obtain ⟨h0, h1, h2, h7, h8, h12, h13, h18, h19, h5, h6⟩ := h
  exact ⟨h0, h1, h2, h7, h8, h12, h13, h18, h19, by show S 5 0 + 1 = _; rw [h5, nI_s], by omega⟩
theorem NM.coe {S : sS} {ne nn nc nl ht : Nat} (h : NM S ne nn nc nl ht) (hh : ht < 1000) : ∀ k, NM (co_e S k) ne nn nc nl (ht + 1)
  | 0 => h.co1 hh
  | k + 1 => by
    rw [co_e_s]
    split
    · exact (NM.coe h hh k).agrees k
    · exact NM.coe h hh k
theorem NM.con {S : sS} {ne nn nc nl ht : Nat} (h : NM S ne nn nc nl ht) : ∀ k, NM (co_n S k) ne nn nc nl ht
  | 0 => h
  | k + 1 => by
    rw [co_n_s]
    split
    · exact (NM.con h k).up _ (by decide)
    · exact NM.con h k
theorem NM.comes {S : sS} {ne nn nc nl ht : Nat} (h : NM S ne nn nc nl ht) (hh : ht < 1000) : NM (sp_comes S) ne nn nc nl (ht + 1) := (h.coe hh _).con _
theorem NM.rise {S : sS} {ne nn nc nl ht : Nat} (h : NM S ne nn nc nl ht) : ∀ k, ht + k ≤ 1000 → NM (ri_k S k) ne nn nc nl (ht + k)
  | 0, _ => h
  | k + 1, hk => (NM.rise h k (by omega)).comes (by omega)
end
section
set_option maxHeartbeats 4000000 in
set_option maxRecDepth 100000 in
theorem m_agrees (l : Launch) (G : mG) (M : mM) (g : Nat) (L : Nat → Nat) (S : sS) (cs ar : Nat → Int64) (K : Nat → Nat → Int64) (hR : RV G g L S cs ar K M) (ne nn nc nl ht : Nat) (hN : NM S ne nn nc nl ht) (e0 : Nat) (he0 : e0 < ne) : Ct l yX7_agrees cX7_agrees 5 none (mm_r 0 0 0) G [.ref g, .int (nI e0)] M (fun r M1 => r = none ∧ RV G g L (sp_agrees S e0) cs ar K M1) := by
  refine Ct.of (by decide) (Nat.le_of_ble_eq_true rfl) ?_
  intro p e s m args below meth c ls Q X hin hl hw hQ
  have hx := X.1
  have hb := X.2.1
  have hl : lv_has ls 5 [(0, .ref g), (1, .int (nI e0))] := hl
  obtain ⟨hN0, hN1, hN2, hN7, hN8, hN12, hN13, hN18, hN19, hN5, hN6⟩ := id hN
  have h7b : cl (S 7 0) = nn := by rw [hN7, cl_n (by omega)]
  have h5c : S 5 0 = nI (cl (S 5 0)) := by rw [hN5, cl_n (by omega)]
  have h5b : cl (S 5 0) = ht := by rw [hN5, cl_n (by omega)]
  refine lv_iconst (v := 0) hx hb dX7_agrees_0 (by decide) ?_
  refine lv_istore_n (lv' := [(2, .int 0), (0, .ref g), (1, .int (nI e0))]) hx hb dX7_agrees_1 rfl hl (by decide) rfl (fun ls hl => ?_)
  refine lv_iconst (v := 0) hx hb dX7_agrees_2 (by decide) ?_
  refine lv_istore_n (lv' := [(3, .int 0), (2, .int 0), (0, .ref g), (1, .int (nI e0))]) hx hb dX7_agrees_3 rfl hl (by decide) rfl (fun ls hl => ?_)
  refine lv_iconst (v := 0) hx hb dX7_agrees_4 (by decide) ?_
  refine lv_istore (lv' := [(4, .int 0), (3, .int 0), (2, .int 0), (0, .ref g), (1, .int (nI e0))]) hx hb dX7_agrees_5 hl (by decide) rfl (fun ls hl => ?_)
  have loop : ∀ (n : Nat) (k : Nat) (a q : Int32) (H1 : Heap) (locs1 : List Loc) (ls1 : Array Slot), (hk : k ≤ nn) → (hn : nn + 1 ≤ k + n) → (ha : a = ag_all S k) → (hq : q = ag_its S e0 k) → mm_W G.1 vwCl (ct_A M s.heap.size) s.heap M H1 locs1 → lv_has ls1 5 [(0, .ref g), (1, .int (nI e0)), (2, .int a), (3, .int q), (4, .int (nI k))] → W p l e (mm_r 0 0 0) s m args below meth c H1 locs1 0 0 Q (F0 m 7 ls1 []) := by
    intro n
    induction n with
    | zero => intro k a q H1 locs1 ls hk hn ha hq hw hl; exact absurd hn (by omega)
    | succ n ih =>
      intro k a q H1 locs1 ls hk hn ha hq hw hl
      refine lv_iload hx hb dX7_agrees_7 (lv_at hl 4 rfl) ?_
      refine lv_aload_n hx hb dX7_agrees_9 rfl (lv_at hl 0 rfl) ?_
      refine rg_86 X hw hR dX7_agrees_10 ?_
      refine lv_icmp_ge (tgt := 72) hx hb dX7_agrees_13 (by decide) (fun c13 => ?_) (fun c13 => ?_)
      · have hk9 : k = nn := by rw [hN7] at c13; have := nle (by omega) (by omega) c13; omega
        refine lv_iconst (v := 3) hx hb dX7_agrees_72 (by decide) ?_
        refine lv_iload_n hx hb dX7_agrees_73 rfl (lv_at hl 3 rfl) ?_
        refine lv_imul hx hb dX7_agrees_74 ?_
        refine lv_iconst (v := 2) hx hb dX7_agrees_75 (by decide) ?_
        refine lv_iload_n hx hb dX7_agrees_76 rfl (lv_at hl 2 rfl) ?_
        refine lv_imul hx hb dX7_agrees_77 ?_
        refine lv_icmp_lt (tgt := 85) hx hb dX7_agrees_78 (by decide) (fun c78 => ?_) (fun c78 => ?_)
        · refine lv_iconst (v := 0) hx hb dX7_agrees_85 (by decide) ?_
          refine lv_istore (lv' := [(4, .int 0), (0, .ref g), (1, .int (nI e0)), (2, .int a), (3, .int q)]) hx hb dX7_agrees_86 hl (by decide) rfl (fun ls hl => ?_)
          refine lv_aload_n hx hb dX7_agrees_88 rfl (lv_at hl 1 rfl) ?_
          refine rg_23 X hw hR dX7_agrees_89 ?_
          refine lv_iload_n hx hb dX7_agrees_92 rfl (lv_at hl 2 rfl) ?_
          refine lv_iload hx hb dX7_agrees_93 (lv_at hl 0 rfl) ?_
          refine lv_if_eq (tgt := 102) hx hb dX7_agrees_95 (by decide) (fun c95 => ?_) (fun c95 => ?_)
          · refine lv_iconst (v := 3) hx hb dX7_agrees_102 (by decide) ?_
            refine ri_iast X hw hR 4 rfl (e0) (rfl) (by omega) dX7_agrees_103 (fun M9 H9 locs9 hw hR => ?_)
            refine lv_aload_n hx hb dX7_agrees_104 rfl (lv_at hl 1 rfl) ?_
            refine rg_26 X hw hR dX7_agrees_105 ?_
            refine W.eq (g2 := F0 m 108 ls [.ref (L 6)]) rfl ?_
            refine lv_aload_n hx hb dX7_agrees_108 rfl (lv_at hl 1 rfl) ?_
            refine rg_99 X hw hR dX7_agrees_109 ?_
            refine W.eq (g2 := F0 m 112 ls [.int (S 5 0), .ref (L 6)]) rfl ?_
            refine lv_iload hx hb dX7_agrees_112 (lv_at hl 0 rfl) ?_
            refine lv_if_eq (tgt := 121) hx hb dX7_agrees_114 (by decide) (fun c114 => ?_) (fun c114 => ?_)
            · refine lv_aload_n hx hb dX7_agrees_121 rfl (lv_at hl 1 rfl) ?_
              refine rg_26 X hw hR dX7_agrees_122 ?_
              refine W.eq (g2 := F0 m 125 ls [.ref (L 6), .int (S 5 0), .ref (L 6)]) rfl ?_
              refine lv_aload_n hx hb dX7_agrees_125 rfl (lv_at hl 1 rfl) ?_
              refine rg_99 X hw hR dX7_agrees_126 ?_
              refine W.eq (g2 := F0 m 129 ls [.int (S 5 0), .ref (L 6), .int (S 5 0), .ref (L 6)]) rfl ?_
              refine ri_iald X hw hR 6 rfl (cl (S 5 0)) (h5c) (by omega) dX7_agrees_129 ?_
              refine W.eq (g2 := F0 m 130 ls [.int (S 6 (cl (S 5 0))), .int (S 5 0), .ref (L 6)]) rfl ?_
              refine ri_iast X hw hR 6 rfl (cl (S 5 0)) (h5c) (by omega) dX7_agrees_130 (fun M9 H9 locs9 hw hR => ?_)
              have hR : RV G g L (va_up (va_up S 4 (upd (S 4) (e0) (3))) 6 (upd (S 6) (cl (S 5 0)) (S 6 (cl (S 5 0))))) cs ar K M9 := hR
              exact mm_vret hQ X hw (⟨rfl, by rw [sp_agrees, if_pos (by rw [h7b, ← hk9, ← ha, ← hq]; exact c78)]; exact hR⟩) (Nat.le_of_ble_eq_true rfl) (Nat.le_of_ble_eq_true rfl) dX7_agrees_131
            · exact absurd (by decide) c114
          · exact absurd (by decide) c95
        · refine lv_iconst (v := 1) hx hb dX7_agrees_81 (by decide) ?_
          refine lv_goto (tgt := 86) hx hb dX7_agrees_82 (by decide) ?_
          refine lv_istore (lv' := [(4, .int 1), (0, .ref g), (1, .int (nI e0)), (2, .int a), (3, .int q)]) hx hb dX7_agrees_86 hl (by decide) rfl (fun ls hl => ?_)
          refine lv_aload_n hx hb dX7_agrees_88 rfl (lv_at hl 1 rfl) ?_
          refine rg_23 X hw hR dX7_agrees_89 ?_
          refine lv_iload_n hx hb dX7_agrees_92 rfl (lv_at hl 2 rfl) ?_
          refine lv_iload hx hb dX7_agrees_93 (lv_at hl 0 rfl) ?_
          refine lv_if_eq (tgt := 102) hx hb dX7_agrees_95 (by decide) (fun c95 => ?_) (fun c95 => ?_)
          · exact absurd c95 (by decide)
          · refine lv_iconst (v := 2) hx hb dX7_agrees_98 (by decide) ?_
            refine lv_goto (tgt := 103) hx hb dX7_agrees_99 (by decide) ?_
            refine ri_iast X hw hR 4 rfl (e0) (rfl) (by omega) dX7_agrees_103 (fun M9 H9 locs9 hw hR => ?_)
            refine lv_aload_n hx hb dX7_agrees_104 rfl (lv_at hl 1 rfl) ?_
            refine rg_26 X hw hR dX7_agrees_105 ?_
            refine W.eq (g2 := F0 m 108 ls [.ref (L 6)]) rfl ?_
            refine lv_aload_n hx hb dX7_agrees_108 rfl (lv_at hl 1 rfl) ?_
            refine rg_99 X hw hR dX7_agrees_109 ?_
            refine W.eq (g2 := F0 m 112 ls [.int (S 5 0), .ref (L 6)]) rfl ?_
            refine lv_iload hx hb dX7_agrees_112 (lv_at hl 0 rfl) ?_
            refine lv_if_eq (tgt := 121) hx hb dX7_agrees_114 (by decide) (fun c114 => ?_) (fun c114 => ?_)
            · exact absurd c114 (by decide)
            · refine lv_iload_n hx hb dX7_agrees_117 rfl (lv_at hl 2 rfl) ?_
              refine lv_goto (tgt := 130) hx hb dX7_agrees_118 (by decide) ?_
              refine ri_iast X hw hR 6 rfl (cl (S 5 0)) (h5c) (by omega) dX7_agrees_130 (fun M9 H9 locs9 hw hR => ?_)
              have hR : RV G g L (va_up (va_up S 4 (upd (S 4) (e0) (2))) 6 (upd (S 6) (cl (S 5 0)) (nI e0))) cs ar K M9 := hR
              exact mm_vret hQ X hw (⟨rfl, by rw [sp_agrees, if_neg (by rw [h7b, ← hk9, ← ha, ← hq]; exact c78)]; exact hR⟩) (Nat.le_of_ble_eq_true rfl) (Nat.le_of_ble_eq_true rfl) dX7_agrees_131
      · have hk9 : k < nn := by rw [hN7] at c13; exact nnle (by omega) (by omega) c13
        refine lv_iload_n hx hb dX7_agrees_16 rfl (lv_at hl 2 rfl) ?_
        refine lv_aload_n hx hb dX7_agrees_17 rfl (lv_at hl 0 rfl) ?_
        refine rg_29 X hw hR dX7_agrees_18 ?_
        refine lv_iload hx hb dX7_agrees_21 (lv_at hl 4 rfl) ?_
        refine ri_iald X hw hR 8 rfl (k) (rfl) (by omega) dX7_agrees_23 ?_
        refine lv_iadd hx hb dX7_agrees_24 ?_
        refine lv_istore_n (lv' := [(2, .int (a + (S 8 (k)))), (0, .ref g), (1, .int (nI e0)), (3, .int q), (4, .int (nI k))]) hx hb dX7_agrees_25 rfl hl (by decide) rfl (fun ls hl => ?_)
        refine lv_iload_n hx hb dX7_agrees_26 rfl (lv_at hl 3 rfl) ?_
        refine lv_aload_n hx hb dX7_agrees_27 rfl (lv_at hl 1 rfl) ?_
        refine rg_38 X hw hR dX7_agrees_28 ?_
        refine lv_bipush (v := 12) hx hb dX7_agrees_31 (by decide) ?_
        refine lv_iload_n hx hb dX7_agrees_33 rfl (lv_at hl 2 rfl) ?_
        refine lv_imul hx hb dX7_agrees_34 ?_
        refine lv_iload hx hb dX7_agrees_35 (lv_at hl 4 rfl) ?_
        refine lv_iadd hx hb dX7_agrees_37 ?_
        refine rz_zald X hw hR (12 * e0 + k) (ix12 e0 k) (by omega) dX7_agrees_38 ?_
        refine lv_if_eq (tgt := 63) hx hb dX7_agrees_39 (by decide) (fun c39 => ?_) (fun c39 => ?_)
        · refine lv_iconst (v := 0) hx hb dX7_agrees_63 (by decide) ?_
          refine lv_iadd hx hb dX7_agrees_64 ?_
          refine lv_istore_n (lv' := [(3, .int (q + 0)), (2, .int (a + (S 8 (k)))), (0, .ref g), (1, .int (nI e0)), (4, .int (nI k))]) hx hb dX7_agrees_65 rfl hl (by decide) rfl (fun ls hl => ?_)
          refine lv_iinc (v := nI (k + 1)) (lv' := [(4, .int (nI (k + 1))), (3, .int (q + 0)), (2, .int (a + (S 8 (k)))), (0, .ref g), (1, .int (nI e0))]) hx hb dX7_agrees_66 hl (k := 4) rfl (nI_s k) (by decide) rfl (fun ls hl => ?_)
          refine lv_goto (tgt := 7) hx hb dX7_agrees_69 (by decide) ?_
          exact ih (k + 1) (a + (S 8 (k))) (q + 0) _ _ _ (by omega) (by omega) (by rw [ag_all_s, ha]) (by rw [ag_its_s, if_pos c39, hq]) hw  (lv_sub hl [3, 4, 2, 1, 0] rfl)
        · refine lv_aload_n hx hb dX7_agrees_42 rfl (lv_at hl 1 rfl) ?_
          refine rg_35 X hw hR dX7_agrees_43 ?_
          refine lv_iload hx hb dX7_agrees_46 (lv_at hl 4 rfl) ?_
          refine ri_iald X hw hR 10 rfl (k) (rfl) (by omega) dX7_agrees_48 ?_
          refine lv_iconst (v := (-1)) hx hb dX7_agrees_49 (by decide) ?_
          refine lv_icmp_ne (tgt := 63) hx hb dX7_agrees_50 (by decide) (fun c50 => ?_) (fun c50 => ?_)
          · refine lv_iconst (v := 0) hx hb dX7_agrees_63 (by decide) ?_
            refine lv_iadd hx hb dX7_agrees_64 ?_
            refine lv_istore_n (lv' := [(3, .int (q + 0)), (2, .int (a + (S 8 (k)))), (0, .ref g), (1, .int (nI e0)), (4, .int (nI k))]) hx hb dX7_agrees_65 rfl hl (by decide) rfl (fun ls hl => ?_)
            refine lv_iinc (v := nI (k + 1)) (lv' := [(4, .int (nI (k + 1))), (3, .int (q + 0)), (2, .int (a + (S 8 (k)))), (0, .ref g), (1, .int (nI e0))]) hx hb dX7_agrees_66 hl (k := 4) rfl (nI_s k) (by decide) rfl (fun ls hl => ?_)
            refine lv_goto (tgt := 7) hx hb dX7_agrees_69 (by decide) ?_
            exact ih (k + 1) (a + (S 8 (k))) (q + 0) _ _ _ (by omega) (by omega) (by rw [ag_all_s, ha]) (by rw [ag_its_s, if_neg c39, if_neg c50, hq]) hw  (lv_sub hl [3, 4, 2, 1, 0] rfl)
          · refine lv_aload_n hx hb dX7_agrees_53 rfl (lv_at hl 1 rfl) ?_
            refine rg_29 X hw hR dX7_agrees_54 ?_
            refine lv_iload hx hb dX7_agrees_57 (lv_at hl 4 rfl) ?_
            refine ri_iald X hw hR 8 rfl (k) (rfl) (by omega) dX7_agrees_59 ?_
            refine lv_goto (tgt := 64) hx hb dX7_agrees_60 (by decide) ?_
            refine lv_iadd hx hb dX7_agrees_64 ?_
            refine lv_istore_n (lv' := [(3, .int (q + (S 8 (k)))), (2, .int (a + (S 8 (k)))), (0, .ref g), (1, .int (nI e0)), (4, .int (nI k))]) hx hb dX7_agrees_65 rfl hl (by decide) rfl (fun ls hl => ?_)
            refine lv_iinc (v := nI (k + 1)) (lv' := [(4, .int (nI (k + 1))), (3, .int (q + (S 8 (k)))), (2, .int (a + (S 8 (k)))), (0, .ref g), (1, .int (nI e0))]) hx hb dX7_agrees_66 hl (k := 4) rfl (nI_s k) (by decide) rfl (fun ls hl => ?_)
            refine lv_goto (tgt := 7) hx hb dX7_agrees_69 (by decide) ?_
            exact ih (k + 1) (a + (S 8 (k))) (q + (S 8 (k))) _ _ _ (by omega) (by omega) (by rw [ag_all_s, ha]) (by rw [ag_its_s, if_neg c39, if_pos c50, hq]) hw  (lv_sub hl [3, 4, 2, 1, 0] rfl)
  exact loop (nn + 1) 0 0 0 _ _ _ (by omega) (by omega) (rfl) (rfl) hw  (lv_sub hl [3, 4, 2, 1, 0] rfl)
set_option maxHeartbeats 4000000 in
set_option maxRecDepth 100000 in
theorem m_comes (l : Launch) (G : mG) (M : mM) (g : Nat) (L : Nat → Nat) (S : sS) (cs ar : Nat → Int64) (K : Nat → Nat → Int64) (hR : RV G g L S cs ar K M) (ne nn nc nl ht : Nat) (hN : NM S ne nn nc nl ht) (hh : ht < 1000) : Ct l yX7_comes cX7_comes 2 none (mm_r 1 0 0) G [.ref g] M (fun r M1 => r = none ∧ RV G g L (sp_comes S) cs ar K M1) := by
  refine Ct.of (by decide) (Nat.le_of_ble_eq_true rfl) ?_
  intro p e s m args below meth c ls Q X hin hl hw hQ
  have hx := X.1
  have hb := X.2.1
  have hl : lv_has ls 2 [(0, .ref g)] := hl
  obtain ⟨hN0, hN1, hN2, hN7, hN8, hN12, hN13, hN18, hN19, hN5, hN6⟩ := id hN
  have h0b : cl (S 0 0) = ne := by rw [hN0, cl_n (by omega)]
  have h7b : cl (S 7 0) = nn := by rw [hN7, cl_n (by omega)]
  have h5b : cl (S 5 0) = ht := by rw [hN5, cl_n (by omega)]
  have h5s : S 5 0 + 1 = nI (cl (S 5 0 + 1)) := by rw [hN5, nI_s, cl_n (by omega)]
  have h5t : cl (S 5 0 + 1) = ht + 1 := by rw [hN5, nI_s, cl_n (by omega)]
  have h5u : S 5 0 + 1 - 1 = nI (cl (S 5 0)) := by rw [hN5, nI_s, nI_p, cl_n (by omega)]
  refine lv_aload_n hx hb dX7_comes_0 rfl (lv_at hl 0 rfl) ?_
  refine lv_dup hx hb dX7_comes_1 rfl ?_
  refine rg_99 X hw hR dX7_comes_2 ?_
  refine lv_iconst (v := 1) hx hb dX7_comes_5 (by decide) ?_
  refine lv_iadd hx hb dX7_comes_6 ?_
  refine rp_99 X hw hR dX7_comes_7 (fun M9 H9 locs9 hw hR => ?_)
  refine lv_aload_n hx hb dX7_comes_10 rfl (lv_at hl 0 rfl) ?_
  refine rg_26 X hw hR dX7_comes_11 ?_
  refine W.eq (g2 := F0 m 14 ls [.ref (L 6)]) rfl ?_
  refine lv_aload_n hx hb dX7_comes_14 rfl (lv_at hl 0 rfl) ?_
  refine rg_99 X hw hR dX7_comes_15 ?_
  refine W.eq (g2 := F0 m 18 ls [.int ((S 5 0) + 1), .ref (L 6)]) rfl ?_
  refine lv_aload_n hx hb dX7_comes_18 rfl (lv_at hl 0 rfl) ?_
  refine rg_26 X hw hR dX7_comes_19 ?_
  refine W.eq (g2 := F0 m 22 ls [.ref (L 6), .int ((S 5 0) + 1), .ref (L 6)]) rfl ?_
  refine lv_aload_n hx hb dX7_comes_22 rfl (lv_at hl 0 rfl) ?_
  refine rg_99 X hw hR dX7_comes_23 ?_
  refine W.eq (g2 := F0 m 26 ls [.int ((S 5 0) + 1), .ref (L 6), .int ((S 5 0) + 1), .ref (L 6)]) rfl ?_
  refine lv_iconst (v := 1) hx hb dX7_comes_26 (by decide) ?_
  refine lv_isub hx hb dX7_comes_27 ?_
  refine ri_iald X hw hR 6 rfl (cl (S 5 0)) (h5u) (by omega) dX7_comes_28 ?_
  refine W.eq (g2 := F0 m 29 ls [.int (S 6 (cl (S 5 0))), .int ((S 5 0) + 1), .ref (L 6)]) rfl ?_
  refine ri_iast X hw hR 6 rfl (cl (S 5 0 + 1)) (h5s) (by omega) dX7_comes_29 (fun M9 H9 locs9 hw hR => ?_)
  have hR : RV G g L (va_up (va_up S 5 (fun _ => (S 5 0) + 1)) 6 (upd (S 6) (cl (S 5 0 + 1)) (S 6 (cl (S 5 0))))) cs ar K M9 := hR
  refine lv_iconst (v := 0) hx hb dX7_comes_30 (by decide) ?_
  refine lv_istore_n (lv' := [(1, .int 0), (0, .ref g)]) hx hb dX7_comes_31 rfl hl (by decide) rfl (fun ls hl => ?_)
  have loop1 : ∀ (n : Nat) (k : Nat) (S1 : sS) (M1 : mM) (H1 : Heap) (locs1 : List Loc) (ls1 : Array Slot), (hk : k ≤ ne) → (hn : ne + 1 ≤ k + n) → (hS : S1 = co_e S k) → (hM : NM S1 ne nn nc nl (ht + 1)) → mm_W G.1 vwCl (ct_A M s.heap.size) s.heap M1 H1 locs1 → RV G g L S1 cs ar K M1 → lv_has ls1 2 [(0, .ref g), (1, .int (nI k))] → W p l e (mm_r 1 0 0) s m args below meth c H1 locs1 0 0 Q (F0 m 32 ls1 []) := by
    intro n
    induction n with
    | zero => intro k S1 M1 H1 locs1 ls hk hn hS hM hw hR hl; exact absurd hn (by omega)
    | succ n ih =>
      intro k S1 M1 H1 locs1 ls hk hn hS hM hw hR hl
      refine lv_iload_n hx hb dX7_comes_32 rfl (lv_at hl 1 rfl) ?_
      refine lv_aload_n hx hb dX7_comes_33 rfl (lv_at hl 0 rfl) ?_
      refine rg_7 X hw hR dX7_comes_34 ?_
      refine lv_icmp_ge (tgt := 74) hx hb dX7_comes_37 (by decide) (fun c37 => ?_) (fun c37 => ?_)
      · have hk9 : k = ne := by rw [hM.1] at c37; have := nle (by omega) (by omega) c37; omega
        refine lv_iconst (v := 0) hx hb dX7_comes_74 (by decide) ?_
        refine lv_istore_n (lv' := [(1, .int 0), (0, .ref g)]) hx hb dX7_comes_75 rfl hl (by decide) rfl (fun ls hl => ?_)
        have loop2 : ∀ (n : Nat) (k : Nat) (S2 : sS) (M1 : mM) (H1 : Heap) (locs1 : List Loc) (ls1 : Array Slot), (hk : k ≤ nn) → (hn : nn + 1 ≤ k + n) → (hS2 : S2 = co_n (co_e S (cl (S 0 0))) k) → (hM : NM S2 ne nn nc nl (ht + 1)) → mm_W G.1 vwCl (ct_A M s.heap.size) s.heap M1 H1 locs1 → RV G g L S2 cs ar K M1 → lv_has ls1 2 [(0, .ref g), (1, .int (nI k))] → W p l e (mm_r 1 0 0) s m args below meth c H1 locs1 0 0 Q (F0 m 76 ls1 []) := by
          intro n
          induction n with
          | zero => intro k S2 M1 H1 locs1 ls hk hn hS2 hM hw hR hl; exact absurd hn (by omega)
          | succ n ih =>
            intro k S2 M1 H1 locs1 ls hk hn hS2 hM hw hR hl
            refine lv_iload_n hx hb dX7_comes_76 rfl (lv_at hl 1 rfl) ?_
            refine lv_aload_n hx hb dX7_comes_77 rfl (lv_at hl 0 rfl) ?_
            refine rg_86 X hw hR dX7_comes_78 ?_
            refine lv_icmp_ge (tgt := 131) hx hb dX7_comes_81 (by decide) (fun c81 => ?_) (fun c81 => ?_)
            · have hk9 : k = nn := by rw [hM.2.2.2.1] at c81; have := nle (by omega) (by omega) c81; omega
              exact mm_vret hQ X hw (⟨rfl, by rw [sp_comes, h7b, ← hk9, ← hS2]; exact hR⟩) (Nat.le_of_ble_eq_true rfl) (Nat.le_of_ble_eq_true rfl) dX7_comes_131
            · have hk9 : k < nn := by rw [hM.2.2.2.1] at c81; exact nnle (by omega) (by omega) c81
              refine lv_aload_n hx hb dX7_comes_84 rfl (lv_at hl 0 rfl) ?_
              refine rg_35 X hw hR dX7_comes_85 ?_
              refine lv_iload_n hx hb dX7_comes_88 rfl (lv_at hl 1 rfl) ?_
              refine ri_iald X hw hR 10 rfl (k) (rfl) (by omega) dX7_comes_89 ?_
              refine lv_iconst (v := (-1)) hx hb dX7_comes_90 (by decide) ?_
              refine lv_icmp_ne (tgt := 125) hx hb dX7_comes_91 (by decide) (fun c91 => ?_) (fun c91 => ?_)
              · refine lv_iinc (v := nI (k + 1)) (lv' := [(1, .int (nI (k + 1))), (0, .ref g)]) hx hb dX7_comes_125 hl (k := 1) rfl (nI_s k) (by decide) rfl (fun ls hl => ?_)
                refine lv_goto (tgt := 76) hx hb dX7_comes_128 (by decide) ?_
                exact ih (k + 1) S2 _ _ _ _ (by omega) (by omega) (by rw [co_n_s, ← hS2, if_neg (fun h9 => c91 h9.1)]) (hM) hw hR (lv_sub hl [1, 0] rfl)
              · refine lv_aload_n hx hb dX7_comes_94 rfl (lv_at hl 0 rfl) ?_
                refine rg_32 X hw hR dX7_comes_95 ?_
                refine lv_iload_n hx hb dX7_comes_98 rfl (lv_at hl 1 rfl) ?_
                refine ri_iald X hw hR 9 rfl (k) (rfl) (by omega) dX7_comes_99 ?_
                refine lv_aload_n hx hb dX7_comes_100 rfl (lv_at hl 0 rfl) ?_
                refine rg_26 X hw hR dX7_comes_101 ?_
                refine lv_aload_n hx hb dX7_comes_104 rfl (lv_at hl 0 rfl) ?_
                refine rg_99 X hw hR dX7_comes_105 ?_
                refine ri_iald X hw hR 6 rfl (cl (S2 5 0)) (by rw [hM.2.2.2.2.2.2.2.2.2.1, cl_n (by omega)]) (by rw [hM.2.2.2.2.2.2.2.2.2.1, cl_n (by omega)]; omega) dX7_comes_108 ?_
                refine lv_ishr hx hb dX7_comes_109 ?_
                refine lv_iconst (v := 1) hx hb dX7_comes_110 (by decide) ?_
                refine lv_iand hx hb dX7_comes_111 ?_
                refine lv_if_ne (tgt := 125) hx hb dX7_comes_112 (by decide) (fun c112 => ?_) (fun c112 => ?_)
                · refine lv_iinc (v := nI (k + 1)) (lv' := [(1, .int (nI (k + 1))), (0, .ref g)]) hx hb dX7_comes_125 hl (k := 1) rfl (nI_s k) (by decide) rfl (fun ls hl => ?_)
                  refine lv_goto (tgt := 76) hx hb dX7_comes_128 (by decide) ?_
                  exact ih (k + 1) S2 _ _ _ _ (by omega) (by omega) (by rw [co_n_s, ← hS2, if_neg (fun h9 => c112 h9.2)]) (hM) hw hR (lv_sub hl [1, 0] rfl)
                · refine lv_aload_n hx hb dX7_comes_115 rfl (lv_at hl 0 rfl) ?_
                  refine rg_35 X hw hR dX7_comes_116 ?_
                  refine lv_iload_n hx hb dX7_comes_119 rfl (lv_at hl 1 rfl) ?_
                  refine lv_aload_n hx hb dX7_comes_120 rfl (lv_at hl 0 rfl) ?_
                  refine rg_99 X hw hR dX7_comes_121 ?_
                  refine ri_iast X hw hR 10 rfl (k) (rfl) (by omega) dX7_comes_124 (fun M9 H9 locs9 hw hR => ?_)
                  refine lv_iinc (v := nI (k + 1)) (lv' := [(1, .int (nI (k + 1))), (0, .ref g)]) hx hb dX7_comes_125 hl (k := 1) rfl (nI_s k) (by decide) rfl (fun ls hl => ?_)
                  refine lv_goto (tgt := 76) hx hb dX7_comes_128 (by decide) ?_
                  exact ih (k + 1) _ _ _ _ _ (by omega) (by omega) (by rw [co_n_s, ← hS2, if_pos ⟨c91, c112⟩]) (hM.up _ (by decide)) hw hR (lv_sub hl [1, 0] rfl)
        exact loop2 (nn + 1) 0 S1 _ _ _ _ (by omega) (by omega) (by rw [hS, hk9, h0b]; rfl) (hM) hw hR (lv_sub hl [1, 0] rfl)
      · have hk9 : k < ne := by rw [hM.1] at c37; exact nnle (by omega) (by omega) c37
        refine lv_aload_n hx hb dX7_comes_40 rfl (lv_at hl 0 rfl) ?_
        refine rg_23 X hw hR dX7_comes_41 ?_
        refine lv_iload_n hx hb dX7_comes_44 rfl (lv_at hl 1 rfl) ?_
        refine ri_iald X hw hR 4 rfl (k) (rfl) (by omega) dX7_comes_45 ?_
        refine lv_iconst (v := 1) hx hb dX7_comes_46 (by decide) ?_
        refine lv_icmp_ne (tgt := 68) hx hb dX7_comes_47 (by decide) (fun c47 => ?_) (fun c47 => ?_)
        · refine lv_iinc (v := nI (k + 1)) (lv' := [(1, .int (nI (k + 1))), (0, .ref g)]) hx hb dX7_comes_68 hl (k := 1) rfl (nI_s k) (by decide) rfl (fun ls hl => ?_)
          refine lv_goto (tgt := 32) hx hb dX7_comes_71 (by decide) ?_
          exact ih (k + 1) S1 _ _ _ _ (by omega) (by omega) (by rw [co_e_s, ← hS, if_neg (fun h9 => c47 h9.1)]) (hM) hw hR (lv_sub hl [1, 0] rfl)
        · refine lv_aload_n hx hb dX7_comes_50 rfl (lv_at hl 0 rfl) ?_
          refine rg_20 X hw hR dX7_comes_51 ?_
          refine lv_iload_n hx hb dX7_comes_54 rfl (lv_at hl 1 rfl) ?_
          refine ri_iald X hw hR 3 rfl (k) (rfl) (by omega) dX7_comes_55 ?_
          refine lv_aload_n hx hb dX7_comes_56 rfl (lv_at hl 0 rfl) ?_
          refine rg_99 X hw hR dX7_comes_57 ?_
          refine lv_icmp_ne (tgt := 68) hx hb dX7_comes_60 (by decide) (fun c60 => ?_) (fun c60 => ?_)
          · refine lv_iinc (v := nI (k + 1)) (lv' := [(1, .int (nI (k + 1))), (0, .ref g)]) hx hb dX7_comes_68 hl (k := 1) rfl (nI_s k) (by decide) rfl (fun ls hl => ?_)
            refine lv_goto (tgt := 32) hx hb dX7_comes_71 (by decide) ?_
            exact ih (k + 1) S1 _ _ _ _ (by omega) (by omega) (by rw [co_e_s, ← hS, if_neg (fun h9 => c60 h9.2)]) (hM) hw hR (lv_sub hl [1, 0] rfl)
          · refine lv_aload_n hx hb dX7_comes_63 rfl (lv_at hl 0 rfl) ?_
            refine lv_iload_n hx hb dX7_comes_64 rfl (lv_at hl 1 rfl) ?_
            refine mm_callV (As := [.int (nI k)]) (rest := []) X hw (m_agrees l G _ g L S1 cs ar K hR ne nn nc nl (ht + 1) hM k hk9) (hR.1) rfl wd_X7_102 ⟨Nat.le_of_ble_eq_true rfl, Nat.le_of_ble_eq_true rfl⟩ ⟨Nat.le_of_ble_eq_true rfl, Nat.le_of_ble_eq_true rfl⟩ rfl rfl (Nat.le_of_ble_eq_true rfl) hl.1 dX7_comes_65 (fun v9 M9 H9 locs9 hp9 hw => ?_)
            obtain ⟨rfl, hR⟩ := hp9
            refine W.eq (g2 := F0 m 68 ls []) rfl ?_
            refine lv_iinc (v := nI (k + 1)) (lv' := [(1, .int (nI (k + 1))), (0, .ref g)]) hx hb dX7_comes_68 hl (k := 1) rfl (nI_s k) (by decide) rfl (fun ls hl => ?_)
            refine lv_goto (tgt := 32) hx hb dX7_comes_71 (by decide) ?_
            exact ih (k + 1) (sp_agrees S1 k) _ _ _ _ (by omega) (by omega) (by rw [co_e_s, ← hS, if_pos ⟨c47, c60⟩]) (hM.agrees k) hw hR (lv_sub hl [1, 0] rfl)
  exact loop1 (ne + 1) 0 _ _ _ _ _ (by omega) (by omega) (rfl) (hN.co1 hh) hw hR (lv_sub hl [1, 0] rfl)
theorem i32_le_trans {a b c : Int32} (h : a ≤ b) (h2 : b ≤ c) : a ≤ c := by
  rw [Int32.le_iff_toInt_le] at *
  omega
set_option maxHeartbeats 4000000 in
set_option maxRecDepth 100000 in
theorem m_rise (l : Launch) (G : mG) (M : mM) (g : Nat) (L : Nat → Nat) (S : sS) (cs ar : Nat → Int64) (K : Nat → Nat → Int64) (hR : RV G g L S cs ar K M) (ne nn nc nl ht : Nat) (hN : NM S ne nn nc nl ht) (x : Int32) : Ct l yX7_rise cX7_rise 3 (some FieldType.int) (mm_r 2 0 0) G [.ref g, .int x] M (fun r M1 => r = some (.int (sp_rise S x).1) ∧ ∃ K1, RV G g L (sp_rise S x).2 cs ar K1 M1) := by
  refine Ct.of (by decide) (Nat.le_of_ble_eq_true rfl) ?_
  intro p e s m args below meth c ls Q X hin hl hw hQ
  have hx := X.1
  have hb := X.2.1
  have hl : lv_has ls 3 [(0, .ref g), (1, .int x)] := hl
  obtain ⟨hN0, hN1, hN2, hN7, hN8, hN12, hN13, hN18, hN19, hN5, hN6⟩ := id hN
  refine lv_iload_n hx hb dX7_rise_0 rfl (lv_at hl 1 rfl) ?_
  refine lv_iconst (v := 1) hx hb dX7_rise_1 (by decide) ?_
  refine lv_bipush (v := 100) hx hb dX7_rise_2 (by decide) ?_
  refine mm_callS (As := [.int x, .int 1, .int 100]) (rest := []) X hw (m_in l G _ (x) (1) (100)) wd_X7_82 ⟨Nat.le_of_ble_eq_true rfl, Nat.le_of_ble_eq_true rfl⟩ ⟨Nat.le_of_ble_eq_true rfl, Nat.le_of_ble_eq_true rfl⟩ rfl rfl (Nat.le_of_ble_eq_true rfl) hl.1 dX7_rise_4 (fun v9 M9 H9 locs9 hp9 hw => ?_)
  obtain ⟨rfl, rfl⟩ := hp9
  refine W.eq (g2 := F0 m 7 ls [.int (bI (1 ≤ x ∧ x ≤ 100))]) rfl ?_
  refine mm_ifneB (tgt := 13) hx hb dX7_rise_7 (by decide) (fun c7 => ?_) (fun c7 => ?_)
  · have px : 0 ≤ x := i32_le_trans (by decide) c7.1
    have b_x : cl x ≤ 100 := cl_le (n := 100) rfl (by decide) ⟨px, c7.2⟩
    refine lv_aload_n hx hb dX7_rise_13 rfl (lv_at hl 0 rfl) ?_
    refine rg_99 X hw hR dX7_rise_14 ?_
    refine lv_iload_n hx hb dX7_rise_17 rfl (lv_at hl 1 rfl) ?_
    refine lv_iadd hx hb dX7_rise_18 ?_
    refine lv_sipush (v := 1000) hx hb dX7_rise_19 (by decide) ?_
    refine lv_icmp_le (tgt := 28) hx hb dX7_rise_22 (by decide) (fun c22 => ?_) (fun c22 => ?_)
    · have b_h : ht + cl x ≤ 1000 := by rw [hN5, nI_cl px, nI_add] at c22; exact nle (b := 1000) (by omega) (by decide) c22
      refine lv_iconst (v := 0) hx hb dX7_rise_28 (by decide) ?_
      refine lv_istore_n (lv' := [(2, .int 0), (0, .ref g), (1, .int x)]) hx hb dX7_rise_29 rfl hl (by decide) rfl (fun ls hl => ?_)
      have loop : ∀ (n : Nat) (k : Nat) (S1 : sS) (M1 : mM) (H1 : Heap) (locs1 : List Loc) (ls1 : Array Slot), (hk : k ≤ cl x) → (hn : cl x + 1 ≤ k + n) → (hS : S1 = ri_k S k) → (hM : NM S1 ne nn nc nl (ht + k)) → mm_W G.1 vwCl (ct_A M s.heap.size) s.heap M1 H1 locs1 → RV G g L S1 cs ar K M1 → lv_has ls1 3 [(0, .ref g), (1, .int x), (2, .int (nI k))] → W p l e (mm_r 2 0 0) s m args below meth c H1 locs1 0 0 Q (F0 m 30 ls1 []) := by
        intro n
        induction n with
        | zero => intro k S1 M1 H1 locs1 ls hk hn hS hM hw hR hl; exact absurd hn (by omega)
        | succ n ih =>
          intro k S1 M1 H1 locs1 ls hk hn hS hM hw hR hl
          refine lv_iload_n hx hb dX7_rise_30 rfl (lv_at hl 2 rfl) ?_
          refine lv_iload_n hx hb dX7_rise_31 rfl (lv_at hl 1 rfl) ?_
          refine lv_icmp_ge (tgt := 45) hx hb dX7_rise_32 (by decide) (fun c32 => ?_) (fun c32 => ?_)
          · have hk9 : k = cl x := by rw [nI_cl px] at c32; have := nle (by omega) (by omega) c32; omega
            refine lv_aload_n hx hb dX7_rise_45 rfl (lv_at hl 0 rfl) ?_
            refine rg_99 X hw hR dX7_rise_46 ?_
            exact mm_iret hQ X hw (by have e9 : sp_rise S x = (S1 5 0, S1) := (by rw [sp_rise, if_neg (fun h9 => h9 c7), if_neg (fun h9 => h9 c22), hS, hk9]); rw [e9]; exact ⟨rfl, _, hR⟩) (Nat.le_of_ble_eq_true rfl) (Nat.le_of_ble_eq_true rfl) dX7_rise_49
          · have hk9 : k < cl x := by rw [nI_cl px] at c32; exact nnle (by omega) (by omega) c32
            refine lv_aload_n hx hb dX7_rise_35 rfl (lv_at hl 0 rfl) ?_
            refine mm_callV (As := []) (rest := []) X hw (m_comes l G _ g L S1 cs ar K hR ne nn nc nl (ht + k) hM (by omega)) (hR.1) rfl wd_X7_106 ⟨Nat.le_of_ble_eq_true rfl, Nat.le_of_ble_eq_true rfl⟩ ⟨Nat.le_of_ble_eq_true rfl, Nat.le_of_ble_eq_true rfl⟩ rfl rfl (Nat.le_of_ble_eq_true rfl) hl.1 dX7_rise_36 (fun v9 M9 H9 locs9 hp9 hw => ?_)
            obtain ⟨rfl, hR⟩ := hp9
            refine W.eq (g2 := F0 m 39 ls []) rfl ?_
            refine lv_iinc (v := nI (k + 1)) (lv' := [(2, .int (nI (k + 1))), (0, .ref g), (1, .int x)]) hx hb dX7_rise_39 hl (k := 2) rfl (nI_s k) (by decide) rfl (fun ls hl => ?_)
            refine lv_goto (tgt := 30) hx hb dX7_rise_42 (by decide) ?_
            exact ih (k + 1) (sp_comes S1) _ _ _ _ (by omega) (by omega) (by rw [hS]; rfl) (hM.comes (by omega)) hw hR (lv_sub hl [1, 2, 0] rfl)
      exact loop (cl x + 1) 0 _ _ _ _ _ (by omega) (by omega) (rfl) (hN) hw hR (lv_sub hl [1, 2, 0] rfl)
    · refine lv_bipush (v := (-4)) hx hb dX7_rise_25 (by decide) ?_
      exact mm_iret hQ X hw (by have e9 : sp_rise S x = ((-4), S) := (by rw [sp_rise, if_neg (fun h9 => h9 c7), if_pos c22]); rw [e9]; exact ⟨rfl, _, hR⟩) (Nat.le_of_ble_eq_true rfl) (Nat.le_of_ble_eq_true rfl) dX7_rise_27
  · refine lv_bipush (v := (-2)) hx hb dX7_rise_10 (by decide) ?_
    exact mm_iret hQ X hw (by have e9 : sp_rise S x = ((-2), S) := (by rw [sp_rise, if_pos c7]); rw [e9]; exact ⟨rfl, _, hR⟩) (Nat.le_of_ble_eq_true rfl) (Nat.le_of_ble_eq_true rfl) dX7_rise_12
set_option maxHeartbeats 4000000 in
set_option maxRecDepth 100000 in
theorem m_act (l : Launch) (G : mG) (M : mM) (g : Nat) (L : Nat → Nat) (S : sS) (cs ar : Nat → Int64) (K : Nat → Nat → Int64) (hR : RV G g L S cs ar K M) (ne nn nc nl ht : Nat) (hN : NM S ne nn nc nl ht) (hW : ∀ i, i < nc → ∃ k, k ≤ 24 ∧ S 14 i = nI k) (x y v : Int32) : Ct l yX7_act cX7_act 5 (some FieldType.int) (mm_r 2 0 0) G [.ref g, .int x, .int y, .int v] M (fun r M1 => r = some (.int (sp_act S x y v).1) ∧ ∃ K1, RV G g L (sp_act S x y v).2 cs ar K1 M1) := by
  refine Ct.of (by decide) (Nat.le_of_ble_eq_true rfl) ?_
  intro p e s m args below meth c ls Q X hin hl hw hQ
  have hx := X.1
  have hb := X.2.1
  have hl : lv_has ls 5 [(0, .ref g), (1, .int x), (2, .int y), (3, .int v)] := hl
  obtain ⟨hN0, hN1, hN2, hN7, hN8, hN12, hN13, hN18, hN19, hN5, hN6⟩ := id hN
  refine lv_aload_n hx hb dX7_act_0 rfl (lv_at hl 0 rfl) ?_
  refine lv_iload_n hx hb dX7_act_1 rfl (lv_at hl 1 rfl) ?_
  refine mm_callV (As := [.int x]) (rest := []) X hw (m_isContract l G _ g L _ cs ar K hR (x) nc hN12 (by omega)) (hR.1) rfl wd_X7_109 ⟨Nat.le_of_ble_eq_true rfl, Nat.le_of_ble_eq_true rfl⟩ ⟨Nat.le_of_ble_eq_true rfl, Nat.le_of_ble_eq_true rfl⟩ rfl rfl (Nat.le_of_ble_eq_true rfl) hl.1 dX7_act_2 (fun v9 M9 H9 locs9 hp9 hw => ?_)
  obtain ⟨rfl, rfl⟩ := hp9
  refine W.eq (g2 := F0 m 5 ls [.int (bI (0 ≤ x ∧ x < S 12 0))]) rfl ?_
  refine mm_ifeqB (tgt := 38) hx hb dX7_act_5 (by decide) (fun c5 => ?_) (fun c5 => ?_)
  · refine lv_iconst (v := 0) hx hb dX7_act_38 (by decide) ?_
    refine lv_istore (lv' := [(4, .int 0), (0, .ref g), (1, .int x), (2, .int y), (3, .int v)]) hx hb dX7_act_39 hl (by decide) rfl (fun ls hl => ?_)
    refine lv_iload hx hb dX7_act_41 (lv_at hl 0 rfl) ?_
    refine lv_if_eq (tgt := 67) hx hb dX7_act_43 (by decide) (fun c43 => ?_) (fun c43 => ?_)
    · refine lv_bipush (v := (-2)) hx hb dX7_act_67 (by decide) ?_
      exact mm_iret hQ X hw (by have e9 : sp_act S x y v = ((-2), S) := (by rw [sp_act, if_pos c5]); rw [e9]; exact ⟨rfl, _, hR⟩) (Nat.le_of_ble_eq_true rfl) (Nat.le_of_ble_eq_true rfl) dX7_act_69
    · exact absurd (by decide) c43
  · have b_x : cl x < nc := cl_lt hN12 (by omega) c5
    obtain ⟨j14, hj14, e14⟩ := hW (cl x) b_x
    have p14 : 0 ≤ S 14 (cl x) := by rw [e14]; exact nI_pos' (by omega)
    have b14 : cl (S 14 (cl x)) = j14 := by rw [e14, cl_n (by omega)]
    refine lv_iload_n hx hb dX7_act_8 rfl (lv_at hl 2 rfl) ?_
    refine lv_iconst (v := 0) hx hb dX7_act_9 (by decide) ?_
    refine lv_bipush (v := 8) hx hb dX7_act_10 (by decide) ?_
    refine mm_callS (As := [.int y, .int 0, .int 8]) (rest := []) X hw (m_in l G _ (y) (0) (8)) wd_X7_82 ⟨Nat.le_of_ble_eq_true rfl, Nat.le_of_ble_eq_true rfl⟩ ⟨Nat.le_of_ble_eq_true rfl, Nat.le_of_ble_eq_true rfl⟩ rfl rfl (Nat.le_of_ble_eq_true rfl) hl.1 dX7_act_12 (fun v9 M9 H9 locs9 hp9 hw => ?_)
    obtain ⟨rfl, rfl⟩ := hp9
    refine W.eq (g2 := F0 m 15 ls [.int (bI (0 ≤ y ∧ y ≤ 8))]) rfl ?_
    refine mm_ifeqB (tgt := 38) hx hb dX7_act_15 (by decide) (fun c15 => ?_) (fun c15 => ?_)
    · refine lv_iconst (v := 0) hx hb dX7_act_38 (by decide) ?_
      refine lv_istore (lv' := [(4, .int 0), (0, .ref g), (1, .int x), (2, .int y), (3, .int v)]) hx hb dX7_act_39 hl (by decide) rfl (fun ls hl => ?_)
      refine lv_iload hx hb dX7_act_41 (lv_at hl 0 rfl) ?_
      refine lv_if_eq (tgt := 67) hx hb dX7_act_43 (by decide) (fun c43 => ?_) (fun c43 => ?_)
      · refine lv_bipush (v := (-2)) hx hb dX7_act_67 (by decide) ?_
        exact mm_iret hQ X hw (by have e9 : sp_act S x y v = ((-2), S) := (by rw [sp_act, if_neg (fun h9 => h9 c5), if_pos c15]); rw [e9]; exact ⟨rfl, _, hR⟩) (Nat.le_of_ble_eq_true rfl) (Nat.le_of_ble_eq_true rfl) dX7_act_69
      · exact absurd (by decide) c43
    · refine lv_iload_n hx hb dX7_act_18 rfl (lv_at hl 2 rfl) ?_
      refine lv_bipush (v := 6) hx hb dX7_act_19 (by decide) ?_
      refine lv_icmp_ne (tgt := 34) hx hb dX7_act_21 (by decide) (fun c21 => ?_) (fun c21 => ?_)
      · refine lv_iconst (v := 1) hx hb dX7_act_34 (by decide) ?_
        refine lv_goto (tgt := 39) hx hb dX7_act_35 (by decide) ?_
        refine lv_istore (lv' := [(4, .int 1), (0, .ref g), (1, .int x), (2, .int y), (3, .int v)]) hx hb dX7_act_39 hl (by decide) rfl (fun ls hl => ?_)
        refine lv_iload hx hb dX7_act_41 (lv_at hl 0 rfl) ?_
        refine lv_if_eq (tgt := 67) hx hb dX7_act_43 (by decide) (fun c43 => ?_) (fun c43 => ?_)
        · exact absurd c43 (by decide)
        · refine lv_iload_n hx hb dX7_act_46 rfl (lv_at hl 3 rfl) ?_
          refine lv_bipush (v := 7) hx hb dX7_act_47 (by decide) ?_
          refine lv_icmp_eq (tgt := 58) hx hb dX7_act_49 (by decide) (fun c49 => ?_) (fun c49 => ?_)
          · refine lv_iload_n hx hb dX7_act_58 rfl (lv_at hl 4 rfl) ?_
            refine lv_iconst (v := 0) hx hb dX7_act_59 (by decide) ?_
            refine lv_iconst (v := 3) hx hb dX7_act_60 (by decide) ?_
            refine mm_callS (As := [.int v, .int 0, .int 3]) (rest := []) X hw (m_in l G _ (v) (0) (3)) wd_X7_82 ⟨Nat.le_of_ble_eq_true rfl, Nat.le_of_ble_eq_true rfl⟩ ⟨Nat.le_of_ble_eq_true rfl, Nat.le_of_ble_eq_true rfl⟩ rfl rfl (Nat.le_of_ble_eq_true rfl) hl.1 dX7_act_61 (fun v9 M9 H9 locs9 hp9 hw => ?_)
            obtain ⟨rfl, rfl⟩ := hp9
            refine W.eq (g2 := F0 m 64 ls [.int (bI (0 ≤ v ∧ v ≤ 3))]) rfl ?_
            refine mm_ifneB (tgt := 70) hx hb dX7_act_64 (by decide) (fun c64 => ?_) (fun c64 => ?_)
            · refine lv_aload_n hx hb dX7_act_70 rfl (lv_at hl 1 rfl) ?_
              refine rg_42 X hw hR dX7_act_71 ?_
              refine lv_iload_n hx hb dX7_act_74 rfl (lv_at hl 2 rfl) ?_
              refine ri_iald X hw hR 13 rfl (cl x) (nI_cl c5.1) (by omega) dX7_act_75 ?_
              refine lv_iconst (v := (-1)) hx hb dX7_act_76 (by decide) ?_
              refine lv_icmp_eq (tgt := 83) hx hb dX7_act_77 (by decide) (fun c77 => ?_) (fun c77 => ?_)
              · refine lv_aload_n hx hb dX7_act_83 rfl (lv_at hl 1 rfl) ?_
                refine rg_45 X hw hR dX7_act_84 ?_
                refine lv_iload_n hx hb dX7_act_87 rfl (lv_at hl 2 rfl) ?_
                refine ri_iald X hw hR 14 rfl (cl x) (nI_cl c5.1) (by omega) dX7_act_88 ?_
                refine lv_bipush (v := 24) hx hb dX7_act_89 (by decide) ?_
                refine lv_icmp_ne (tgt := 97) hx hb dX7_act_91 (by decide) (fun c91 => ?_) (fun c91 => ?_)
                · have q14 : j14 ≠ 24 := fun h9 => c91 (by rw [e14, h9]; rfl)
                  refine lv_aload_n hx hb dX7_act_97 rfl (lv_at hl 1 rfl) ?_
                  refine rg_48 X hw hR dX7_act_98 ?_
                  refine lv_bipush (v := 24) hx hb dX7_act_101 (by decide) ?_
                  refine lv_iload_n hx hb dX7_act_103 rfl (lv_at hl 2 rfl) ?_
                  refine lv_imul hx hb dX7_act_104 ?_
                  refine lv_aload_n hx hb dX7_act_105 rfl (lv_at hl 1 rfl) ?_
                  refine rg_45 X hw hR dX7_act_106 ?_
                  refine lv_iload_n hx hb dX7_act_109 rfl (lv_at hl 2 rfl) ?_
                  refine ri_iald X hw hR 14 rfl (cl x) (nI_cl c5.1) (by omega) dX7_act_110 ?_
                  refine lv_iadd hx hb dX7_act_111 ?_
                  refine lv_iload_n hx hb dX7_act_112 rfl (lv_at hl 3 rfl) ?_
                  refine ri_iast X hw hR 15 rfl (24 * cl x + cl (S 14 (cl x))) (jx 24 c5.1 p14) (by omega) dX7_act_113 (fun M9 H9 locs9 hw hR => ?_)
                  refine lv_aload_n hx hb dX7_act_114 rfl (lv_at hl 1 rfl) ?_
                  refine rg_51 X hw hR dX7_act_115 ?_
                  refine W.eq (g2 := F0 m 118 ls [.ref (L 16)]) rfl ?_
                  refine lv_bipush (v := 24) hx hb dX7_act_118 (by decide) ?_
                  refine lv_iload_n hx hb dX7_act_120 rfl (lv_at hl 2 rfl) ?_
                  refine lv_imul hx hb dX7_act_121 ?_
                  refine lv_aload_n hx hb dX7_act_122 rfl (lv_at hl 1 rfl) ?_
                  refine rg_45 X hw hR dX7_act_123 ?_
                  refine W.eq (g2 := F0 m 126 ls [.ref (L 14), .int (24 * x), .ref (L 16)]) rfl ?_
                  refine lv_iload_n hx hb dX7_act_126 rfl (lv_at hl 2 rfl) ?_
                  refine ri_iald X hw hR 14 rfl (cl x) (nI_cl c5.1) (by omega) dX7_act_127 ?_
                  refine W.eq (g2 := F0 m 128 ls [.int (S 14 (cl x)), .int (24 * x), .ref (L 16)]) rfl ?_
                  refine lv_iadd hx hb dX7_act_128 ?_
                  refine lv_iload_n hx hb dX7_act_129 rfl (lv_at hl 4 rfl) ?_
                  refine ri_iast X hw hR 16 rfl (24 * cl x + cl (S 14 (cl x))) (jx 24 c5.1 p14) (by omega) dX7_act_130 (fun M9 H9 locs9 hw hR => ?_)
                  have hR : RV G g L (va_up (va_up S 15 (upd (S 15) (24 * cl x + cl (S 14 (cl x))) (y))) 16 (upd (S 16) (24 * cl x + cl (S 14 (cl x))) (v))) cs ar K M9 := hR
                  refine lv_aload_n hx hb dX7_act_131 rfl (lv_at hl 1 rfl) ?_
                  refine rg_45 X hw hR dX7_act_132 ?_
                  refine W.eq (g2 := F0 m 135 ls [.ref (L 14)]) rfl ?_
                  refine lv_iload_n hx hb dX7_act_135 rfl (lv_at hl 2 rfl) ?_
                  refine lv_dup2_11 hx hb dX7_act_136 rfl rfl ?_
                  refine ri_iald X hw hR 14 rfl (cl x) (nI_cl c5.1) (by omega) dX7_act_137 ?_
                  refine W.eq (g2 := F0 m 138 ls [.int (S 14 (cl x)), .int x, .ref (L 14)]) rfl ?_
                  refine lv_iconst (v := 1) hx hb dX7_act_138 (by decide) ?_
                  refine lv_iadd hx hb dX7_act_139 ?_
                  refine ri_iast X hw hR 14 rfl (cl x) (nI_cl c5.1) (by omega) dX7_act_140 (fun M9 H9 locs9 hw hR => ?_)
                  have hR : RV G g L (va_up (va_up (va_up S 15 (upd (S 15) (24 * cl x + cl (S 14 (cl x))) (y))) 16 (upd (S 16) (24 * cl x + cl (S 14 (cl x))) (v))) 14 (upd (S 14) (cl x) ((S 14 (cl x)) + 1))) cs ar K M9 := hR
                  refine lv_aload_n hx hb dX7_act_141 rfl (lv_at hl 1 rfl) ?_
                  refine rg_45 X hw hR dX7_act_142 ?_
                  refine W.eq (g2 := F0 m 145 ls [.ref (L 14)]) rfl ?_
                  refine lv_iload_n hx hb dX7_act_145 rfl (lv_at hl 2 rfl) ?_
                  refine ri_iald X hw hR 14 rfl (cl x) (nI_cl c5.1) (by omega) dX7_act_146 ?_
                  refine W.eq (g2 := F0 m 147 ls [.int ((upd (S 14) (cl x) ((S 14 (cl x)) + 1)) (cl x))]) rfl ?_
                  exact mm_iret hQ X hw (by have e9 : sp_act S x y v = (S 14 (cl x) + 1, va_up (va_up (va_up S 15 (upd (S 15) (24 * cl x + cl (S 14 (cl x))) (y))) 16 (upd (S 16) (24 * cl x + cl (S 14 (cl x))) (v))) 14 (upd (S 14) (cl x) ((S 14 (cl x)) + 1))) := (by rw [sp_act, if_neg (fun h9 => h9 c5), if_neg (fun h9 => h9 c15), if_neg (fun h9 => h9 (fun z => absurd z c21)), if_neg (fun h9 => h9 (fun _ => c64)), if_neg (fun h9 => h9 c77), if_neg c91]); rw [e9]; exact ⟨by rw [pk_us], _, hR⟩) (Nat.le_of_ble_eq_true rfl) (Nat.le_of_ble_eq_true rfl) dX7_act_147
                · refine lv_bipush (v := (-4)) hx hb dX7_act_94 (by decide) ?_
                  exact mm_iret hQ X hw (by have e9 : sp_act S x y v = ((-4), S) := (by rw [sp_act, if_neg (fun h9 => h9 c5), if_neg (fun h9 => h9 c15), if_neg (fun h9 => h9 (fun z => absurd z c21)), if_neg (fun h9 => h9 (fun _ => c64)), if_neg (fun h9 => h9 c77), if_pos c91]); rw [e9]; exact ⟨rfl, _, hR⟩) (Nat.le_of_ble_eq_true rfl) (Nat.le_of_ble_eq_true rfl) dX7_act_96
              · refine lv_bipush (v := (-3)) hx hb dX7_act_80 (by decide) ?_
                exact mm_iret hQ X hw (by have e9 : sp_act S x y v = ((-3), S) := (by rw [sp_act, if_neg (fun h9 => h9 c5), if_neg (fun h9 => h9 c15), if_neg (fun h9 => h9 (fun z => absurd z c21)), if_neg (fun h9 => h9 (fun _ => c64)), if_pos c77]); rw [e9]; exact ⟨rfl, _, hR⟩) (Nat.le_of_ble_eq_true rfl) (Nat.le_of_ble_eq_true rfl) dX7_act_82
            · refine lv_bipush (v := (-2)) hx hb dX7_act_67 (by decide) ?_
              exact mm_iret hQ X hw (by have e9 : sp_act S x y v = ((-2), S) := (by rw [sp_act, if_neg (fun h9 => h9 c5), if_neg (fun h9 => h9 c15), if_neg (fun h9 => h9 (fun z => absurd z c21)), if_pos (fun h9 => c64 (h9 (Or.inl c49)))]); rw [e9]; exact ⟨rfl, _, hR⟩) (Nat.le_of_ble_eq_true rfl) (Nat.le_of_ble_eq_true rfl) dX7_act_69
          · refine lv_iload_n hx hb dX7_act_52 rfl (lv_at hl 3 rfl) ?_
            refine lv_bipush (v := 8) hx hb dX7_act_53 (by decide) ?_
            refine lv_icmp_ne (tgt := 70) hx hb dX7_act_55 (by decide) (fun c55 => ?_) (fun c55 => ?_)
            · refine lv_aload_n hx hb dX7_act_70 rfl (lv_at hl 1 rfl) ?_
              refine rg_42 X hw hR dX7_act_71 ?_
              refine lv_iload_n hx hb dX7_act_74 rfl (lv_at hl 2 rfl) ?_
              refine ri_iald X hw hR 13 rfl (cl x) (nI_cl c5.1) (by omega) dX7_act_75 ?_
              refine lv_iconst (v := (-1)) hx hb dX7_act_76 (by decide) ?_
              refine lv_icmp_eq (tgt := 83) hx hb dX7_act_77 (by decide) (fun c77 => ?_) (fun c77 => ?_)
              · refine lv_aload_n hx hb dX7_act_83 rfl (lv_at hl 1 rfl) ?_
                refine rg_45 X hw hR dX7_act_84 ?_
                refine lv_iload_n hx hb dX7_act_87 rfl (lv_at hl 2 rfl) ?_
                refine ri_iald X hw hR 14 rfl (cl x) (nI_cl c5.1) (by omega) dX7_act_88 ?_
                refine lv_bipush (v := 24) hx hb dX7_act_89 (by decide) ?_
                refine lv_icmp_ne (tgt := 97) hx hb dX7_act_91 (by decide) (fun c91 => ?_) (fun c91 => ?_)
                · have q14 : j14 ≠ 24 := fun h9 => c91 (by rw [e14, h9]; rfl)
                  refine lv_aload_n hx hb dX7_act_97 rfl (lv_at hl 1 rfl) ?_
                  refine rg_48 X hw hR dX7_act_98 ?_
                  refine lv_bipush (v := 24) hx hb dX7_act_101 (by decide) ?_
                  refine lv_iload_n hx hb dX7_act_103 rfl (lv_at hl 2 rfl) ?_
                  refine lv_imul hx hb dX7_act_104 ?_
                  refine lv_aload_n hx hb dX7_act_105 rfl (lv_at hl 1 rfl) ?_
                  refine rg_45 X hw hR dX7_act_106 ?_
                  refine lv_iload_n hx hb dX7_act_109 rfl (lv_at hl 2 rfl) ?_
                  refine ri_iald X hw hR 14 rfl (cl x) (nI_cl c5.1) (by omega) dX7_act_110 ?_
                  refine lv_iadd hx hb dX7_act_111 ?_
                  refine lv_iload_n hx hb dX7_act_112 rfl (lv_at hl 3 rfl) ?_
                  refine ri_iast X hw hR 15 rfl (24 * cl x + cl (S 14 (cl x))) (jx 24 c5.1 p14) (by omega) dX7_act_113 (fun M9 H9 locs9 hw hR => ?_)
                  refine lv_aload_n hx hb dX7_act_114 rfl (lv_at hl 1 rfl) ?_
                  refine rg_51 X hw hR dX7_act_115 ?_
                  refine W.eq (g2 := F0 m 118 ls [.ref (L 16)]) rfl ?_
                  refine lv_bipush (v := 24) hx hb dX7_act_118 (by decide) ?_
                  refine lv_iload_n hx hb dX7_act_120 rfl (lv_at hl 2 rfl) ?_
                  refine lv_imul hx hb dX7_act_121 ?_
                  refine lv_aload_n hx hb dX7_act_122 rfl (lv_at hl 1 rfl) ?_
                  refine rg_45 X hw hR dX7_act_123 ?_
                  refine W.eq (g2 := F0 m 126 ls [.ref (L 14), .int (24 * x), .ref (L 16)]) rfl ?_
                  refine lv_iload_n hx hb dX7_act_126 rfl (lv_at hl 2 rfl) ?_
                  refine ri_iald X hw hR 14 rfl (cl x) (nI_cl c5.1) (by omega) dX7_act_127 ?_
                  refine W.eq (g2 := F0 m 128 ls [.int (S 14 (cl x)), .int (24 * x), .ref (L 16)]) rfl ?_
                  refine lv_iadd hx hb dX7_act_128 ?_
                  refine lv_iload_n hx hb dX7_act_129 rfl (lv_at hl 4 rfl) ?_
                  refine ri_iast X hw hR 16 rfl (24 * cl x + cl (S 14 (cl x))) (jx 24 c5.1 p14) (by omega) dX7_act_130 (fun M9 H9 locs9 hw hR => ?_)
                  have hR : RV G g L (va_up (va_up S 15 (upd (S 15) (24 * cl x + cl (S 14 (cl x))) (y))) 16 (upd (S 16) (24 * cl x + cl (S 14 (cl x))) (v))) cs ar K M9 := hR
                  refine lv_aload_n hx hb dX7_act_131 rfl (lv_at hl 1 rfl) ?_
                  refine rg_45 X hw hR dX7_act_132 ?_
                  refine W.eq (g2 := F0 m 135 ls [.ref (L 14)]) rfl ?_
                  refine lv_iload_n hx hb dX7_act_135 rfl (lv_at hl 2 rfl) ?_
                  refine lv_dup2_11 hx hb dX7_act_136 rfl rfl ?_
                  refine ri_iald X hw hR 14 rfl (cl x) (nI_cl c5.1) (by omega) dX7_act_137 ?_
                  refine W.eq (g2 := F0 m 138 ls [.int (S 14 (cl x)), .int x, .ref (L 14)]) rfl ?_
                  refine lv_iconst (v := 1) hx hb dX7_act_138 (by decide) ?_
                  refine lv_iadd hx hb dX7_act_139 ?_
                  refine ri_iast X hw hR 14 rfl (cl x) (nI_cl c5.1) (by omega) dX7_act_140 (fun M9 H9 locs9 hw hR => ?_)
                  have hR : RV G g L (va_up (va_up (va_up S 15 (upd (S 15) (24 * cl x + cl (S 14 (cl x))) (y))) 16 (upd (S 16) (24 * cl x + cl (S 14 (cl x))) (v))) 14 (upd (S 14) (cl x) ((S 14 (cl x)) + 1))) cs ar K M9 := hR
                  refine lv_aload_n hx hb dX7_act_141 rfl (lv_at hl 1 rfl) ?_
                  refine rg_45 X hw hR dX7_act_142 ?_
                  refine W.eq (g2 := F0 m 145 ls [.ref (L 14)]) rfl ?_
                  refine lv_iload_n hx hb dX7_act_145 rfl (lv_at hl 2 rfl) ?_
                  refine ri_iald X hw hR 14 rfl (cl x) (nI_cl c5.1) (by omega) dX7_act_146 ?_
                  refine W.eq (g2 := F0 m 147 ls [.int ((upd (S 14) (cl x) ((S 14 (cl x)) + 1)) (cl x))]) rfl ?_
                  exact mm_iret hQ X hw (by have e9 : sp_act S x y v = (S 14 (cl x) + 1, va_up (va_up (va_up S 15 (upd (S 15) (24 * cl x + cl (S 14 (cl x))) (y))) 16 (upd (S 16) (24 * cl x + cl (S 14 (cl x))) (v))) 14 (upd (S 14) (cl x) ((S 14 (cl x)) + 1))) := (by rw [sp_act, if_neg (fun h9 => h9 c5), if_neg (fun h9 => h9 c15), if_neg (fun h9 => h9 (fun z => absurd z c21)), if_neg (fun h9 => h9 (fun z => (show False from z.elim c49 c55).elim)), if_neg (fun h9 => h9 c77), if_neg c91]); rw [e9]; exact ⟨by rw [pk_us], _, hR⟩) (Nat.le_of_ble_eq_true rfl) (Nat.le_of_ble_eq_true rfl) dX7_act_147
                · refine lv_bipush (v := (-4)) hx hb dX7_act_94 (by decide) ?_
                  exact mm_iret hQ X hw (by have e9 : sp_act S x y v = ((-4), S) := (by rw [sp_act, if_neg (fun h9 => h9 c5), if_neg (fun h9 => h9 c15), if_neg (fun h9 => h9 (fun z => absurd z c21)), if_neg (fun h9 => h9 (fun z => (show False from z.elim c49 c55).elim)), if_neg (fun h9 => h9 c77), if_pos c91]); rw [e9]; exact ⟨rfl, _, hR⟩) (Nat.le_of_ble_eq_true rfl) (Nat.le_of_ble_eq_true rfl) dX7_act_96
              · refine lv_bipush (v := (-3)) hx hb dX7_act_80 (by decide) ?_
                exact mm_iret hQ X hw (by have e9 : sp_act S x y v = ((-3), S) := (by rw [sp_act, if_neg (fun h9 => h9 c5), if_neg (fun h9 => h9 c15), if_neg (fun h9 => h9 (fun z => absurd z c21)), if_neg (fun h9 => h9 (fun z => (show False from z.elim c49 c55).elim)), if_pos c77]); rw [e9]; exact ⟨rfl, _, hR⟩) (Nat.le_of_ble_eq_true rfl) (Nat.le_of_ble_eq_true rfl) dX7_act_82
            · refine lv_iload_n hx hb dX7_act_58 rfl (lv_at hl 4 rfl) ?_
              refine lv_iconst (v := 0) hx hb dX7_act_59 (by decide) ?_
              refine lv_iconst (v := 3) hx hb dX7_act_60 (by decide) ?_
              refine mm_callS (As := [.int v, .int 0, .int 3]) (rest := []) X hw (m_in l G _ (v) (0) (3)) wd_X7_82 ⟨Nat.le_of_ble_eq_true rfl, Nat.le_of_ble_eq_true rfl⟩ ⟨Nat.le_of_ble_eq_true rfl, Nat.le_of_ble_eq_true rfl⟩ rfl rfl (Nat.le_of_ble_eq_true rfl) hl.1 dX7_act_61 (fun v9 M9 H9 locs9 hp9 hw => ?_)
              obtain ⟨rfl, rfl⟩ := hp9
              refine W.eq (g2 := F0 m 64 ls [.int (bI (0 ≤ v ∧ v ≤ 3))]) rfl ?_
              refine mm_ifneB (tgt := 70) hx hb dX7_act_64 (by decide) (fun c64 => ?_) (fun c64 => ?_)
              · refine lv_aload_n hx hb dX7_act_70 rfl (lv_at hl 1 rfl) ?_
                refine rg_42 X hw hR dX7_act_71 ?_
                refine lv_iload_n hx hb dX7_act_74 rfl (lv_at hl 2 rfl) ?_
                refine ri_iald X hw hR 13 rfl (cl x) (nI_cl c5.1) (by omega) dX7_act_75 ?_
                refine lv_iconst (v := (-1)) hx hb dX7_act_76 (by decide) ?_
                refine lv_icmp_eq (tgt := 83) hx hb dX7_act_77 (by decide) (fun c77 => ?_) (fun c77 => ?_)
                · refine lv_aload_n hx hb dX7_act_83 rfl (lv_at hl 1 rfl) ?_
                  refine rg_45 X hw hR dX7_act_84 ?_
                  refine lv_iload_n hx hb dX7_act_87 rfl (lv_at hl 2 rfl) ?_
                  refine ri_iald X hw hR 14 rfl (cl x) (nI_cl c5.1) (by omega) dX7_act_88 ?_
                  refine lv_bipush (v := 24) hx hb dX7_act_89 (by decide) ?_
                  refine lv_icmp_ne (tgt := 97) hx hb dX7_act_91 (by decide) (fun c91 => ?_) (fun c91 => ?_)
                  · have q14 : j14 ≠ 24 := fun h9 => c91 (by rw [e14, h9]; rfl)
                    refine lv_aload_n hx hb dX7_act_97 rfl (lv_at hl 1 rfl) ?_
                    refine rg_48 X hw hR dX7_act_98 ?_
                    refine lv_bipush (v := 24) hx hb dX7_act_101 (by decide) ?_
                    refine lv_iload_n hx hb dX7_act_103 rfl (lv_at hl 2 rfl) ?_
                    refine lv_imul hx hb dX7_act_104 ?_
                    refine lv_aload_n hx hb dX7_act_105 rfl (lv_at hl 1 rfl) ?_
                    refine rg_45 X hw hR dX7_act_106 ?_
                    refine lv_iload_n hx hb dX7_act_109 rfl (lv_at hl 2 rfl) ?_
                    refine ri_iald X hw hR 14 rfl (cl x) (nI_cl c5.1) (by omega) dX7_act_110 ?_
                    refine lv_iadd hx hb dX7_act_111 ?_
                    refine lv_iload_n hx hb dX7_act_112 rfl (lv_at hl 3 rfl) ?_
                    refine ri_iast X hw hR 15 rfl (24 * cl x + cl (S 14 (cl x))) (jx 24 c5.1 p14) (by omega) dX7_act_113 (fun M9 H9 locs9 hw hR => ?_)
                    refine lv_aload_n hx hb dX7_act_114 rfl (lv_at hl 1 rfl) ?_
                    refine rg_51 X hw hR dX7_act_115 ?_
                    refine W.eq (g2 := F0 m 118 ls [.ref (L 16)]) rfl ?_
                    refine lv_bipush (v := 24) hx hb dX7_act_118 (by decide) ?_
                    refine lv_iload_n hx hb dX7_act_120 rfl (lv_at hl 2 rfl) ?_
                    refine lv_imul hx hb dX7_act_121 ?_
                    refine lv_aload_n hx hb dX7_act_122 rfl (lv_at hl 1 rfl) ?_
                    refine rg_45 X hw hR dX7_act_123 ?_
                    refine W.eq (g2 := F0 m 126 ls [.ref (L 14), .int (24 * x), .ref (L 16)]) rfl ?_
                    refine lv_iload_n hx hb dX7_act_126 rfl (lv_at hl 2 rfl) ?_
                    refine ri_iald X hw hR 14 rfl (cl x) (nI_cl c5.1) (by omega) dX7_act_127 ?_
                    refine W.eq (g2 := F0 m 128 ls [.int (S 14 (cl x)), .int (24 * x), .ref (L 16)]) rfl ?_
                    refine lv_iadd hx hb dX7_act_128 ?_
                    refine lv_iload_n hx hb dX7_act_129 rfl (lv_at hl 4 rfl) ?_
                    refine ri_iast X hw hR 16 rfl (24 * cl x + cl (S 14 (cl x))) (jx 24 c5.1 p14) (by omega) dX7_act_130 (fun M9 H9 locs9 hw hR => ?_)
                    have hR : RV G g L (va_up (va_up S 15 (upd (S 15) (24 * cl x + cl (S 14 (cl x))) (y))) 16 (upd (S 16) (24 * cl x + cl (S 14 (cl x))) (v))) cs ar K M9 := hR
                    refine lv_aload_n hx hb dX7_act_131 rfl (lv_at hl 1 rfl) ?_
                    refine rg_45 X hw hR dX7_act_132 ?_
                    refine W.eq (g2 := F0 m 135 ls [.ref (L 14)]) rfl ?_
                    refine lv_iload_n hx hb dX7_act_135 rfl (lv_at hl 2 rfl) ?_
                    refine lv_dup2_11 hx hb dX7_act_136 rfl rfl ?_
                    refine ri_iald X hw hR 14 rfl (cl x) (nI_cl c5.1) (by omega) dX7_act_137 ?_
                    refine W.eq (g2 := F0 m 138 ls [.int (S 14 (cl x)), .int x, .ref (L 14)]) rfl ?_
                    refine lv_iconst (v := 1) hx hb dX7_act_138 (by decide) ?_
                    refine lv_iadd hx hb dX7_act_139 ?_
                    refine ri_iast X hw hR 14 rfl (cl x) (nI_cl c5.1) (by omega) dX7_act_140 (fun M9 H9 locs9 hw hR => ?_)
                    have hR : RV G g L (va_up (va_up (va_up S 15 (upd (S 15) (24 * cl x + cl (S 14 (cl x))) (y))) 16 (upd (S 16) (24 * cl x + cl (S 14 (cl x))) (v))) 14 (upd (S 14) (cl x) ((S 14 (cl x)) + 1))) cs ar K M9 := hR
                    refine lv_aload_n hx hb dX7_act_141 rfl (lv_at hl 1 rfl) ?_
                    refine rg_45 X hw hR dX7_act_142 ?_
                    refine W.eq (g2 := F0 m 145 ls [.ref (L 14)]) rfl ?_
                    refine lv_iload_n hx hb dX7_act_145 rfl (lv_at hl 2 rfl) ?_
                    refine ri_iald X hw hR 14 rfl (cl x) (nI_cl c5.1) (by omega) dX7_act_146 ?_
                    refine W.eq (g2 := F0 m 147 ls [.int ((upd (S 14) (cl x) ((S 14 (cl x)) + 1)) (cl x))]) rfl ?_
                    exact mm_iret hQ X hw (by have e9 : sp_act S x y v = (S 14 (cl x) + 1, va_up (va_up (va_up S 15 (upd (S 15) (24 * cl x + cl (S 14 (cl x))) (y))) 16 (upd (S 16) (24 * cl x + cl (S 14 (cl x))) (v))) 14 (upd (S 14) (cl x) ((S 14 (cl x)) + 1))) := (by rw [sp_act, if_neg (fun h9 => h9 c5), if_neg (fun h9 => h9 c15), if_neg (fun h9 => h9 (fun z => absurd z c21)), if_neg (fun h9 => h9 (fun _ => c64)), if_neg (fun h9 => h9 c77), if_neg c91]); rw [e9]; exact ⟨by rw [pk_us], _, hR⟩) (Nat.le_of_ble_eq_true rfl) (Nat.le_of_ble_eq_true rfl) dX7_act_147
                  · refine lv_bipush (v := (-4)) hx hb dX7_act_94 (by decide) ?_
                    exact mm_iret hQ X hw (by have e9 : sp_act S x y v = ((-4), S) := (by rw [sp_act, if_neg (fun h9 => h9 c5), if_neg (fun h9 => h9 c15), if_neg (fun h9 => h9 (fun z => absurd z c21)), if_neg (fun h9 => h9 (fun _ => c64)), if_neg (fun h9 => h9 c77), if_pos c91]); rw [e9]; exact ⟨rfl, _, hR⟩) (Nat.le_of_ble_eq_true rfl) (Nat.le_of_ble_eq_true rfl) dX7_act_96
                · refine lv_bipush (v := (-3)) hx hb dX7_act_80 (by decide) ?_
                  exact mm_iret hQ X hw (by have e9 : sp_act S x y v = ((-3), S) := (by rw [sp_act, if_neg (fun h9 => h9 c5), if_neg (fun h9 => h9 c15), if_neg (fun h9 => h9 (fun z => absurd z c21)), if_neg (fun h9 => h9 (fun _ => c64)), if_pos c77]); rw [e9]; exact ⟨rfl, _, hR⟩) (Nat.le_of_ble_eq_true rfl) (Nat.le_of_ble_eq_true rfl) dX7_act_82
              · refine lv_bipush (v := (-2)) hx hb dX7_act_67 (by decide) ?_
                exact mm_iret hQ X hw (by have e9 : sp_act S x y v = ((-2), S) := (by rw [sp_act, if_neg (fun h9 => h9 c5), if_neg (fun h9 => h9 c15), if_neg (fun h9 => h9 (fun z => absurd z c21)), if_pos (fun h9 => c64 (h9 (Or.inr c55)))]); rw [e9]; exact ⟨rfl, _, hR⟩) (Nat.le_of_ble_eq_true rfl) (Nat.le_of_ble_eq_true rfl) dX7_act_69
      · refine lv_iload_n hx hb dX7_act_24 rfl (lv_at hl 3 rfl) ?_
        refine lv_iconst (v := 0) hx hb dX7_act_25 (by decide) ?_
        refine lv_bipush (v := 7) hx hb dX7_act_26 (by decide) ?_
        refine mm_callS (As := [.int v, .int 0, .int 7]) (rest := []) X hw (m_in l G _ (v) (0) (7)) wd_X7_82 ⟨Nat.le_of_ble_eq_true rfl, Nat.le_of_ble_eq_true rfl⟩ ⟨Nat.le_of_ble_eq_true rfl, Nat.le_of_ble_eq_true rfl⟩ rfl rfl (Nat.le_of_ble_eq_true rfl) hl.1 dX7_act_28 (fun v9 M9 H9 locs9 hp9 hw => ?_)
        obtain ⟨rfl, rfl⟩ := hp9
        refine W.eq (g2 := F0 m 31 ls [.int (bI (0 ≤ v ∧ v ≤ 7))]) rfl ?_
        refine mm_ifeqB (tgt := 38) hx hb dX7_act_31 (by decide) (fun c31 => ?_) (fun c31 => ?_)
        · refine lv_iconst (v := 0) hx hb dX7_act_38 (by decide) ?_
          refine lv_istore (lv' := [(4, .int 0), (0, .ref g), (1, .int x), (2, .int y), (3, .int v)]) hx hb dX7_act_39 hl (by decide) rfl (fun ls hl => ?_)
          refine lv_iload hx hb dX7_act_41 (lv_at hl 0 rfl) ?_
          refine lv_if_eq (tgt := 67) hx hb dX7_act_43 (by decide) (fun c43 => ?_) (fun c43 => ?_)
          · refine lv_bipush (v := (-2)) hx hb dX7_act_67 (by decide) ?_
            exact mm_iret hQ X hw (by have e9 : sp_act S x y v = ((-2), S) := (by rw [sp_act, if_neg (fun h9 => h9 c5), if_neg (fun h9 => h9 c15), if_pos (fun h9 => c31 (h9 c21))]); rw [e9]; exact ⟨rfl, _, hR⟩) (Nat.le_of_ble_eq_true rfl) (Nat.le_of_ble_eq_true rfl) dX7_act_69
          · exact absurd (by decide) c43
        · refine lv_iconst (v := 1) hx hb dX7_act_34 (by decide) ?_
          refine lv_goto (tgt := 39) hx hb dX7_act_35 (by decide) ?_
          refine lv_istore (lv' := [(4, .int 1), (0, .ref g), (1, .int x), (2, .int y), (3, .int v)]) hx hb dX7_act_39 hl (by decide) rfl (fun ls hl => ?_)
          refine lv_iload hx hb dX7_act_41 (lv_at hl 0 rfl) ?_
          refine lv_if_eq (tgt := 67) hx hb dX7_act_43 (by decide) (fun c43 => ?_) (fun c43 => ?_)
          · exact absurd c43 (by decide)
          · refine lv_iload_n hx hb dX7_act_46 rfl (lv_at hl 3 rfl) ?_
            refine lv_bipush (v := 7) hx hb dX7_act_47 (by decide) ?_
            refine lv_icmp_eq (tgt := 58) hx hb dX7_act_49 (by decide) (fun c49 => ?_) (fun c49 => ?_)
            · refine lv_iload_n hx hb dX7_act_58 rfl (lv_at hl 4 rfl) ?_
              refine lv_iconst (v := 0) hx hb dX7_act_59 (by decide) ?_
              refine lv_iconst (v := 3) hx hb dX7_act_60 (by decide) ?_
              refine mm_callS (As := [.int v, .int 0, .int 3]) (rest := []) X hw (m_in l G _ (v) (0) (3)) wd_X7_82 ⟨Nat.le_of_ble_eq_true rfl, Nat.le_of_ble_eq_true rfl⟩ ⟨Nat.le_of_ble_eq_true rfl, Nat.le_of_ble_eq_true rfl⟩ rfl rfl (Nat.le_of_ble_eq_true rfl) hl.1 dX7_act_61 (fun v9 M9 H9 locs9 hp9 hw => ?_)
              obtain ⟨rfl, rfl⟩ := hp9
              refine W.eq (g2 := F0 m 64 ls [.int (bI (0 ≤ v ∧ v ≤ 3))]) rfl ?_
              refine mm_ifneB (tgt := 70) hx hb dX7_act_64 (by decide) (fun c64 => ?_) (fun c64 => ?_)
              · refine lv_aload_n hx hb dX7_act_70 rfl (lv_at hl 1 rfl) ?_
                refine rg_42 X hw hR dX7_act_71 ?_
                refine lv_iload_n hx hb dX7_act_74 rfl (lv_at hl 2 rfl) ?_
                refine ri_iald X hw hR 13 rfl (cl x) (nI_cl c5.1) (by omega) dX7_act_75 ?_
                refine lv_iconst (v := (-1)) hx hb dX7_act_76 (by decide) ?_
                refine lv_icmp_eq (tgt := 83) hx hb dX7_act_77 (by decide) (fun c77 => ?_) (fun c77 => ?_)
                · refine lv_aload_n hx hb dX7_act_83 rfl (lv_at hl 1 rfl) ?_
                  refine rg_45 X hw hR dX7_act_84 ?_
                  refine lv_iload_n hx hb dX7_act_87 rfl (lv_at hl 2 rfl) ?_
                  refine ri_iald X hw hR 14 rfl (cl x) (nI_cl c5.1) (by omega) dX7_act_88 ?_
                  refine lv_bipush (v := 24) hx hb dX7_act_89 (by decide) ?_
                  refine lv_icmp_ne (tgt := 97) hx hb dX7_act_91 (by decide) (fun c91 => ?_) (fun c91 => ?_)
                  · have q14 : j14 ≠ 24 := fun h9 => c91 (by rw [e14, h9]; rfl)
                    refine lv_aload_n hx hb dX7_act_97 rfl (lv_at hl 1 rfl) ?_
                    refine rg_48 X hw hR dX7_act_98 ?_
                    refine lv_bipush (v := 24) hx hb dX7_act_101 (by decide) ?_
                    refine lv_iload_n hx hb dX7_act_103 rfl (lv_at hl 2 rfl) ?_
                    refine lv_imul hx hb dX7_act_104 ?_
                    refine lv_aload_n hx hb dX7_act_105 rfl (lv_at hl 1 rfl) ?_
                    refine rg_45 X hw hR dX7_act_106 ?_
                    refine lv_iload_n hx hb dX7_act_109 rfl (lv_at hl 2 rfl) ?_
                    refine ri_iald X hw hR 14 rfl (cl x) (nI_cl c5.1) (by omega) dX7_act_110 ?_
                    refine lv_iadd hx hb dX7_act_111 ?_
                    refine lv_iload_n hx hb dX7_act_112 rfl (lv_at hl 3 rfl) ?_
                    refine ri_iast X hw hR 15 rfl (24 * cl x + cl (S 14 (cl x))) (jx 24 c5.1 p14) (by omega) dX7_act_113 (fun M9 H9 locs9 hw hR => ?_)
                    refine lv_aload_n hx hb dX7_act_114 rfl (lv_at hl 1 rfl) ?_
                    refine rg_51 X hw hR dX7_act_115 ?_
                    refine W.eq (g2 := F0 m 118 ls [.ref (L 16)]) rfl ?_
                    refine lv_bipush (v := 24) hx hb dX7_act_118 (by decide) ?_
                    refine lv_iload_n hx hb dX7_act_120 rfl (lv_at hl 2 rfl) ?_
                    refine lv_imul hx hb dX7_act_121 ?_
                    refine lv_aload_n hx hb dX7_act_122 rfl (lv_at hl 1 rfl) ?_
                    refine rg_45 X hw hR dX7_act_123 ?_
                    refine W.eq (g2 := F0 m 126 ls [.ref (L 14), .int (24 * x), .ref (L 16)]) rfl ?_
                    refine lv_iload_n hx hb dX7_act_126 rfl (lv_at hl 2 rfl) ?_
                    refine ri_iald X hw hR 14 rfl (cl x) (nI_cl c5.1) (by omega) dX7_act_127 ?_
                    refine W.eq (g2 := F0 m 128 ls [.int (S 14 (cl x)), .int (24 * x), .ref (L 16)]) rfl ?_
                    refine lv_iadd hx hb dX7_act_128 ?_
                    refine lv_iload_n hx hb dX7_act_129 rfl (lv_at hl 4 rfl) ?_
                    refine ri_iast X hw hR 16 rfl (24 * cl x + cl (S 14 (cl x))) (jx 24 c5.1 p14) (by omega) dX7_act_130 (fun M9 H9 locs9 hw hR => ?_)
                    have hR : RV G g L (va_up (va_up S 15 (upd (S 15) (24 * cl x + cl (S 14 (cl x))) (y))) 16 (upd (S 16) (24 * cl x + cl (S 14 (cl x))) (v))) cs ar K M9 := hR
                    refine lv_aload_n hx hb dX7_act_131 rfl (lv_at hl 1 rfl) ?_
                    refine rg_45 X hw hR dX7_act_132 ?_
                    refine W.eq (g2 := F0 m 135 ls [.ref (L 14)]) rfl ?_
                    refine lv_iload_n hx hb dX7_act_135 rfl (lv_at hl 2 rfl) ?_
                    refine lv_dup2_11 hx hb dX7_act_136 rfl rfl ?_
                    refine ri_iald X hw hR 14 rfl (cl x) (nI_cl c5.1) (by omega) dX7_act_137 ?_
                    refine W.eq (g2 := F0 m 138 ls [.int (S 14 (cl x)), .int x, .ref (L 14)]) rfl ?_
                    refine lv_iconst (v := 1) hx hb dX7_act_138 (by decide) ?_
                    refine lv_iadd hx hb dX7_act_139 ?_
                    refine ri_iast X hw hR 14 rfl (cl x) (nI_cl c5.1) (by omega) dX7_act_140 (fun M9 H9 locs9 hw hR => ?_)
                    have hR : RV G g L (va_up (va_up (va_up S 15 (upd (S 15) (24 * cl x + cl (S 14 (cl x))) (y))) 16 (upd (S 16) (24 * cl x + cl (S 14 (cl x))) (v))) 14 (upd (S 14) (cl x) ((S 14 (cl x)) + 1))) cs ar K M9 := hR
                    refine lv_aload_n hx hb dX7_act_141 rfl (lv_at hl 1 rfl) ?_
                    refine rg_45 X hw hR dX7_act_142 ?_
                    refine W.eq (g2 := F0 m 145 ls [.ref (L 14)]) rfl ?_
                    refine lv_iload_n hx hb dX7_act_145 rfl (lv_at hl 2 rfl) ?_
                    refine ri_iald X hw hR 14 rfl (cl x) (nI_cl c5.1) (by omega) dX7_act_146 ?_
                    refine W.eq (g2 := F0 m 147 ls [.int ((upd (S 14) (cl x) ((S 14 (cl x)) + 1)) (cl x))]) rfl ?_
                    exact mm_iret hQ X hw (by have e9 : sp_act S x y v = (S 14 (cl x) + 1, va_up (va_up (va_up S 15 (upd (S 15) (24 * cl x + cl (S 14 (cl x))) (y))) 16 (upd (S 16) (24 * cl x + cl (S 14 (cl x))) (v))) 14 (upd (S 14) (cl x) ((S 14 (cl x)) + 1))) := (by rw [sp_act, if_neg (fun h9 => h9 c5), if_neg (fun h9 => h9 c15), if_neg (fun h9 => h9 (fun _ => c31)), if_neg (fun h9 => h9 (fun _ => c64)), if_neg (fun h9 => h9 c77), if_neg c91]); rw [e9]; exact ⟨by rw [pk_us], _, hR⟩) (Nat.le_of_ble_eq_true rfl) (Nat.le_of_ble_eq_true rfl) dX7_act_147
                  · refine lv_bipush (v := (-4)) hx hb dX7_act_94 (by decide) ?_
                    exact mm_iret hQ X hw (by have e9 : sp_act S x y v = ((-4), S) := (by rw [sp_act, if_neg (fun h9 => h9 c5), if_neg (fun h9 => h9 c15), if_neg (fun h9 => h9 (fun _ => c31)), if_neg (fun h9 => h9 (fun _ => c64)), if_neg (fun h9 => h9 c77), if_pos c91]); rw [e9]; exact ⟨rfl, _, hR⟩) (Nat.le_of_ble_eq_true rfl) (Nat.le_of_ble_eq_true rfl) dX7_act_96
                · refine lv_bipush (v := (-3)) hx hb dX7_act_80 (by decide) ?_
                  exact mm_iret hQ X hw (by have e9 : sp_act S x y v = ((-3), S) := (by rw [sp_act, if_neg (fun h9 => h9 c5), if_neg (fun h9 => h9 c15), if_neg (fun h9 => h9 (fun _ => c31)), if_neg (fun h9 => h9 (fun _ => c64)), if_pos c77]); rw [e9]; exact ⟨rfl, _, hR⟩) (Nat.le_of_ble_eq_true rfl) (Nat.le_of_ble_eq_true rfl) dX7_act_82
              · refine lv_bipush (v := (-2)) hx hb dX7_act_67 (by decide) ?_
                exact mm_iret hQ X hw (by have e9 : sp_act S x y v = ((-2), S) := (by rw [sp_act, if_neg (fun h9 => h9 c5), if_neg (fun h9 => h9 c15), if_neg (fun h9 => h9 (fun _ => c31)), if_pos (fun h9 => c64 (h9 (Or.inl c49)))]); rw [e9]; exact ⟨rfl, _, hR⟩) (Nat.le_of_ble_eq_true rfl) (Nat.le_of_ble_eq_true rfl) dX7_act_69
            · refine lv_iload_n hx hb dX7_act_52 rfl (lv_at hl 3 rfl) ?_
              refine lv_bipush (v := 8) hx hb dX7_act_53 (by decide) ?_
              refine lv_icmp_ne (tgt := 70) hx hb dX7_act_55 (by decide) (fun c55 => ?_) (fun c55 => ?_)
              · refine lv_aload_n hx hb dX7_act_70 rfl (lv_at hl 1 rfl) ?_
                refine rg_42 X hw hR dX7_act_71 ?_
                refine lv_iload_n hx hb dX7_act_74 rfl (lv_at hl 2 rfl) ?_
                refine ri_iald X hw hR 13 rfl (cl x) (nI_cl c5.1) (by omega) dX7_act_75 ?_
                refine lv_iconst (v := (-1)) hx hb dX7_act_76 (by decide) ?_
                refine lv_icmp_eq (tgt := 83) hx hb dX7_act_77 (by decide) (fun c77 => ?_) (fun c77 => ?_)
                · refine lv_aload_n hx hb dX7_act_83 rfl (lv_at hl 1 rfl) ?_
                  refine rg_45 X hw hR dX7_act_84 ?_
                  refine lv_iload_n hx hb dX7_act_87 rfl (lv_at hl 2 rfl) ?_
                  refine ri_iald X hw hR 14 rfl (cl x) (nI_cl c5.1) (by omega) dX7_act_88 ?_
                  refine lv_bipush (v := 24) hx hb dX7_act_89 (by decide) ?_
                  refine lv_icmp_ne (tgt := 97) hx hb dX7_act_91 (by decide) (fun c91 => ?_) (fun c91 => ?_)
                  · have q14 : j14 ≠ 24 := fun h9 => c91 (by rw [e14, h9]; rfl)
                    refine lv_aload_n hx hb dX7_act_97 rfl (lv_at hl 1 rfl) ?_
                    refine rg_48 X hw hR dX7_act_98 ?_
                    refine lv_bipush (v := 24) hx hb dX7_act_101 (by decide) ?_
                    refine lv_iload_n hx hb dX7_act_103 rfl (lv_at hl 2 rfl) ?_
                    refine lv_imul hx hb dX7_act_104 ?_
                    refine lv_aload_n hx hb dX7_act_105 rfl (lv_at hl 1 rfl) ?_
                    refine rg_45 X hw hR dX7_act_106 ?_
                    refine lv_iload_n hx hb dX7_act_109 rfl (lv_at hl 2 rfl) ?_
                    refine ri_iald X hw hR 14 rfl (cl x) (nI_cl c5.1) (by omega) dX7_act_110 ?_
                    refine lv_iadd hx hb dX7_act_111 ?_
                    refine lv_iload_n hx hb dX7_act_112 rfl (lv_at hl 3 rfl) ?_
                    refine ri_iast X hw hR 15 rfl (24 * cl x + cl (S 14 (cl x))) (jx 24 c5.1 p14) (by omega) dX7_act_113 (fun M9 H9 locs9 hw hR => ?_)
                    refine lv_aload_n hx hb dX7_act_114 rfl (lv_at hl 1 rfl) ?_
                    refine rg_51 X hw hR dX7_act_115 ?_
                    refine W.eq (g2 := F0 m 118 ls [.ref (L 16)]) rfl ?_
                    refine lv_bipush (v := 24) hx hb dX7_act_118 (by decide) ?_
                    refine lv_iload_n hx hb dX7_act_120 rfl (lv_at hl 2 rfl) ?_
                    refine lv_imul hx hb dX7_act_121 ?_
                    refine lv_aload_n hx hb dX7_act_122 rfl (lv_at hl 1 rfl) ?_
                    refine rg_45 X hw hR dX7_act_123 ?_
                    refine W.eq (g2 := F0 m 126 ls [.ref (L 14), .int (24 * x), .ref (L 16)]) rfl ?_
                    refine lv_iload_n hx hb dX7_act_126 rfl (lv_at hl 2 rfl) ?_
                    refine ri_iald X hw hR 14 rfl (cl x) (nI_cl c5.1) (by omega) dX7_act_127 ?_
                    refine W.eq (g2 := F0 m 128 ls [.int (S 14 (cl x)), .int (24 * x), .ref (L 16)]) rfl ?_
                    refine lv_iadd hx hb dX7_act_128 ?_
                    refine lv_iload_n hx hb dX7_act_129 rfl (lv_at hl 4 rfl) ?_
                    refine ri_iast X hw hR 16 rfl (24 * cl x + cl (S 14 (cl x))) (jx 24 c5.1 p14) (by omega) dX7_act_130 (fun M9 H9 locs9 hw hR => ?_)
                    have hR : RV G g L (va_up (va_up S 15 (upd (S 15) (24 * cl x + cl (S 14 (cl x))) (y))) 16 (upd (S 16) (24 * cl x + cl (S 14 (cl x))) (v))) cs ar K M9 := hR
                    refine lv_aload_n hx hb dX7_act_131 rfl (lv_at hl 1 rfl) ?_
                    refine rg_45 X hw hR dX7_act_132 ?_
                    refine W.eq (g2 := F0 m 135 ls [.ref (L 14)]) rfl ?_
                    refine lv_iload_n hx hb dX7_act_135 rfl (lv_at hl 2 rfl) ?_
                    refine lv_dup2_11 hx hb dX7_act_136 rfl rfl ?_
                    refine ri_iald X hw hR 14 rfl (cl x) (nI_cl c5.1) (by omega) dX7_act_137 ?_
                    refine W.eq (g2 := F0 m 138 ls [.int (S 14 (cl x)), .int x, .ref (L 14)]) rfl ?_
                    refine lv_iconst (v := 1) hx hb dX7_act_138 (by decide) ?_
                    refine lv_iadd hx hb dX7_act_139 ?_
                    refine ri_iast X hw hR 14 rfl (cl x) (nI_cl c5.1) (by omega) dX7_act_140 (fun M9 H9 locs9 hw hR => ?_)
                    have hR : RV G g L (va_up (va_up (va_up S 15 (upd (S 15) (24 * cl x + cl (S 14 (cl x))) (y))) 16 (upd (S 16) (24 * cl x + cl (S 14 (cl x))) (v))) 14 (upd (S 14) (cl x) ((S 14 (cl x)) + 1))) cs ar K M9 := hR
                    refine lv_aload_n hx hb dX7_act_141 rfl (lv_at hl 1 rfl) ?_
                    refine rg_45 X hw hR dX7_act_142 ?_
                    refine W.eq (g2 := F0 m 145 ls [.ref (L 14)]) rfl ?_
                    refine lv_iload_n hx hb dX7_act_145 rfl (lv_at hl 2 rfl) ?_
                    refine ri_iald X hw hR 14 rfl (cl x) (nI_cl c5.1) (by omega) dX7_act_146 ?_
                    refine W.eq (g2 := F0 m 147 ls [.int ((upd (S 14) (cl x) ((S 14 (cl x)) + 1)) (cl x))]) rfl ?_
                    exact mm_iret hQ X hw (by have e9 : sp_act S x y v = (S 14 (cl x) + 1, va_up (va_up (va_up S 15 (upd (S 15) (24 * cl x + cl (S 14 (cl x))) (y))) 16 (upd (S 16) (24 * cl x + cl (S 14 (cl x))) (v))) 14 (upd (S 14) (cl x) ((S 14 (cl x)) + 1))) := (by rw [sp_act, if_neg (fun h9 => h9 c5), if_neg (fun h9 => h9 c15), if_neg (fun h9 => h9 (fun _ => c31)), if_neg (fun h9 => h9 (fun z => (show False from z.elim c49 c55).elim)), if_neg (fun h9 => h9 c77), if_neg c91]); rw [e9]; exact ⟨by rw [pk_us], _, hR⟩) (Nat.le_of_ble_eq_true rfl) (Nat.le_of_ble_eq_true rfl) dX7_act_147
                  · refine lv_bipush (v := (-4)) hx hb dX7_act_94 (by decide) ?_
                    exact mm_iret hQ X hw (by have e9 : sp_act S x y v = ((-4), S) := (by rw [sp_act, if_neg (fun h9 => h9 c5), if_neg (fun h9 => h9 c15), if_neg (fun h9 => h9 (fun _ => c31)), if_neg (fun h9 => h9 (fun z => (show False from z.elim c49 c55).elim)), if_neg (fun h9 => h9 c77), if_pos c91]); rw [e9]; exact ⟨rfl, _, hR⟩) (Nat.le_of_ble_eq_true rfl) (Nat.le_of_ble_eq_true rfl) dX7_act_96
                · refine lv_bipush (v := (-3)) hx hb dX7_act_80 (by decide) ?_
                  exact mm_iret hQ X hw (by have e9 : sp_act S x y v = ((-3), S) := (by rw [sp_act, if_neg (fun h9 => h9 c5), if_neg (fun h9 => h9 c15), if_neg (fun h9 => h9 (fun _ => c31)), if_neg (fun h9 => h9 (fun z => (show False from z.elim c49 c55).elim)), if_pos c77]); rw [e9]; exact ⟨rfl, _, hR⟩) (Nat.le_of_ble_eq_true rfl) (Nat.le_of_ble_eq_true rfl) dX7_act_82
              · refine lv_iload_n hx hb dX7_act_58 rfl (lv_at hl 4 rfl) ?_
                refine lv_iconst (v := 0) hx hb dX7_act_59 (by decide) ?_
                refine lv_iconst (v := 3) hx hb dX7_act_60 (by decide) ?_
                refine mm_callS (As := [.int v, .int 0, .int 3]) (rest := []) X hw (m_in l G _ (v) (0) (3)) wd_X7_82 ⟨Nat.le_of_ble_eq_true rfl, Nat.le_of_ble_eq_true rfl⟩ ⟨Nat.le_of_ble_eq_true rfl, Nat.le_of_ble_eq_true rfl⟩ rfl rfl (Nat.le_of_ble_eq_true rfl) hl.1 dX7_act_61 (fun v9 M9 H9 locs9 hp9 hw => ?_)
                obtain ⟨rfl, rfl⟩ := hp9
                refine W.eq (g2 := F0 m 64 ls [.int (bI (0 ≤ v ∧ v ≤ 3))]) rfl ?_
                refine mm_ifneB (tgt := 70) hx hb dX7_act_64 (by decide) (fun c64 => ?_) (fun c64 => ?_)
                · refine lv_aload_n hx hb dX7_act_70 rfl (lv_at hl 1 rfl) ?_
                  refine rg_42 X hw hR dX7_act_71 ?_
                  refine lv_iload_n hx hb dX7_act_74 rfl (lv_at hl 2 rfl) ?_
                  refine ri_iald X hw hR 13 rfl (cl x) (nI_cl c5.1) (by omega) dX7_act_75 ?_
                  refine lv_iconst (v := (-1)) hx hb dX7_act_76 (by decide) ?_
                  refine lv_icmp_eq (tgt := 83) hx hb dX7_act_77 (by decide) (fun c77 => ?_) (fun c77 => ?_)
                  · refine lv_aload_n hx hb dX7_act_83 rfl (lv_at hl 1 rfl) ?_
                    refine rg_45 X hw hR dX7_act_84 ?_
                    refine lv_iload_n hx hb dX7_act_87 rfl (lv_at hl 2 rfl) ?_
                    refine ri_iald X hw hR 14 rfl (cl x) (nI_cl c5.1) (by omega) dX7_act_88 ?_
                    refine lv_bipush (v := 24) hx hb dX7_act_89 (by decide) ?_
                    refine lv_icmp_ne (tgt := 97) hx hb dX7_act_91 (by decide) (fun c91 => ?_) (fun c91 => ?_)
                    · have q14 : j14 ≠ 24 := fun h9 => c91 (by rw [e14, h9]; rfl)
                      refine lv_aload_n hx hb dX7_act_97 rfl (lv_at hl 1 rfl) ?_
                      refine rg_48 X hw hR dX7_act_98 ?_
                      refine lv_bipush (v := 24) hx hb dX7_act_101 (by decide) ?_
                      refine lv_iload_n hx hb dX7_act_103 rfl (lv_at hl 2 rfl) ?_
                      refine lv_imul hx hb dX7_act_104 ?_
                      refine lv_aload_n hx hb dX7_act_105 rfl (lv_at hl 1 rfl) ?_
                      refine rg_45 X hw hR dX7_act_106 ?_
                      refine lv_iload_n hx hb dX7_act_109 rfl (lv_at hl 2 rfl) ?_
                      refine ri_iald X hw hR 14 rfl (cl x) (nI_cl c5.1) (by omega) dX7_act_110 ?_
                      refine lv_iadd hx hb dX7_act_111 ?_
                      refine lv_iload_n hx hb dX7_act_112 rfl (lv_at hl 3 rfl) ?_
                      refine ri_iast X hw hR 15 rfl (24 * cl x + cl (S 14 (cl x))) (jx 24 c5.1 p14) (by omega) dX7_act_113 (fun M9 H9 locs9 hw hR => ?_)
                      refine lv_aload_n hx hb dX7_act_114 rfl (lv_at hl 1 rfl) ?_
                      refine rg_51 X hw hR dX7_act_115 ?_
                      refine W.eq (g2 := F0 m 118 ls [.ref (L 16)]) rfl ?_
                      refine lv_bipush (v := 24) hx hb dX7_act_118 (by decide) ?_
                      refine lv_iload_n hx hb dX7_act_120 rfl (lv_at hl 2 rfl) ?_
                      refine lv_imul hx hb dX7_act_121 ?_
                      refine lv_aload_n hx hb dX7_act_122 rfl (lv_at hl 1 rfl) ?_
                      refine rg_45 X hw hR dX7_act_123 ?_
                      refine W.eq (g2 := F0 m 126 ls [.ref (L 14), .int (24 * x), .ref (L 16)]) rfl ?_
                      refine lv_iload_n hx hb dX7_act_126 rfl (lv_at hl 2 rfl) ?_
                      refine ri_iald X hw hR 14 rfl (cl x) (nI_cl c5.1) (by omega) dX7_act_127 ?_
                      refine W.eq (g2 := F0 m 128 ls [.int (S 14 (cl x)), .int (24 * x), .ref (L 16)]) rfl ?_
                      refine lv_iadd hx hb dX7_act_128 ?_
                      refine lv_iload_n hx hb dX7_act_129 rfl (lv_at hl 4 rfl) ?_
                      refine ri_iast X hw hR 16 rfl (24 * cl x + cl (S 14 (cl x))) (jx 24 c5.1 p14) (by omega) dX7_act_130 (fun M9 H9 locs9 hw hR => ?_)
                      have hR : RV G g L (va_up (va_up S 15 (upd (S 15) (24 * cl x + cl (S 14 (cl x))) (y))) 16 (upd (S 16) (24 * cl x + cl (S 14 (cl x))) (v))) cs ar K M9 := hR
                      refine lv_aload_n hx hb dX7_act_131 rfl (lv_at hl 1 rfl) ?_
                      refine rg_45 X hw hR dX7_act_132 ?_
                      refine W.eq (g2 := F0 m 135 ls [.ref (L 14)]) rfl ?_
                      refine lv_iload_n hx hb dX7_act_135 rfl (lv_at hl 2 rfl) ?_
                      refine lv_dup2_11 hx hb dX7_act_136 rfl rfl ?_
                      refine ri_iald X hw hR 14 rfl (cl x) (nI_cl c5.1) (by omega) dX7_act_137 ?_
                      refine W.eq (g2 := F0 m 138 ls [.int (S 14 (cl x)), .int x, .ref (L 14)]) rfl ?_
                      refine lv_iconst (v := 1) hx hb dX7_act_138 (by decide) ?_
                      refine lv_iadd hx hb dX7_act_139 ?_
                      refine ri_iast X hw hR 14 rfl (cl x) (nI_cl c5.1) (by omega) dX7_act_140 (fun M9 H9 locs9 hw hR => ?_)
                      have hR : RV G g L (va_up (va_up (va_up S 15 (upd (S 15) (24 * cl x + cl (S 14 (cl x))) (y))) 16 (upd (S 16) (24 * cl x + cl (S 14 (cl x))) (v))) 14 (upd (S 14) (cl x) ((S 14 (cl x)) + 1))) cs ar K M9 := hR
                      refine lv_aload_n hx hb dX7_act_141 rfl (lv_at hl 1 rfl) ?_
                      refine rg_45 X hw hR dX7_act_142 ?_
                      refine W.eq (g2 := F0 m 145 ls [.ref (L 14)]) rfl ?_
                      refine lv_iload_n hx hb dX7_act_145 rfl (lv_at hl 2 rfl) ?_
                      refine ri_iald X hw hR 14 rfl (cl x) (nI_cl c5.1) (by omega) dX7_act_146 ?_
                      refine W.eq (g2 := F0 m 147 ls [.int ((upd (S 14) (cl x) ((S 14 (cl x)) + 1)) (cl x))]) rfl ?_
                      exact mm_iret hQ X hw (by have e9 : sp_act S x y v = (S 14 (cl x) + 1, va_up (va_up (va_up S 15 (upd (S 15) (24 * cl x + cl (S 14 (cl x))) (y))) 16 (upd (S 16) (24 * cl x + cl (S 14 (cl x))) (v))) 14 (upd (S 14) (cl x) ((S 14 (cl x)) + 1))) := (by rw [sp_act, if_neg (fun h9 => h9 c5), if_neg (fun h9 => h9 c15), if_neg (fun h9 => h9 (fun _ => c31)), if_neg (fun h9 => h9 (fun _ => c64)), if_neg (fun h9 => h9 c77), if_neg c91]); rw [e9]; exact ⟨by rw [pk_us], _, hR⟩) (Nat.le_of_ble_eq_true rfl) (Nat.le_of_ble_eq_true rfl) dX7_act_147
                    · refine lv_bipush (v := (-4)) hx hb dX7_act_94 (by decide) ?_
                      exact mm_iret hQ X hw (by have e9 : sp_act S x y v = ((-4), S) := (by rw [sp_act, if_neg (fun h9 => h9 c5), if_neg (fun h9 => h9 c15), if_neg (fun h9 => h9 (fun _ => c31)), if_neg (fun h9 => h9 (fun _ => c64)), if_neg (fun h9 => h9 c77), if_pos c91]); rw [e9]; exact ⟨rfl, _, hR⟩) (Nat.le_of_ble_eq_true rfl) (Nat.le_of_ble_eq_true rfl) dX7_act_96
                  · refine lv_bipush (v := (-3)) hx hb dX7_act_80 (by decide) ?_
                    exact mm_iret hQ X hw (by have e9 : sp_act S x y v = ((-3), S) := (by rw [sp_act, if_neg (fun h9 => h9 c5), if_neg (fun h9 => h9 c15), if_neg (fun h9 => h9 (fun _ => c31)), if_neg (fun h9 => h9 (fun _ => c64)), if_pos c77]); rw [e9]; exact ⟨rfl, _, hR⟩) (Nat.le_of_ble_eq_true rfl) (Nat.le_of_ble_eq_true rfl) dX7_act_82
                · refine lv_bipush (v := (-2)) hx hb dX7_act_67 (by decide) ?_
                  exact mm_iret hQ X hw (by have e9 : sp_act S x y v = ((-2), S) := (by rw [sp_act, if_neg (fun h9 => h9 c5), if_neg (fun h9 => h9 c15), if_neg (fun h9 => h9 (fun _ => c31)), if_pos (fun h9 => c64 (h9 (Or.inr c55)))]); rw [e9]; exact ⟨rfl, _, hR⟩) (Nat.le_of_ble_eq_true rfl) (Nat.le_of_ble_eq_true rfl) dX7_act_69
end
section
/-! acts: what they take and lay; the check at a deploy; meanings; a run; the digest -/
def takes (a : Int32) : Int32 := if 2 ≤ a ∧ a ≤ 5 then 2 else if a = 6 ∨ a = 7 then 1 else 0
def delta (a : Int32) : Int32 := if a = 7 then -1 else 1 - takes a
def dp_go (S : sS) (e c : Nat) : Nat → Nat → Int32 → Int32
  | 0, _, _ => 0
  | r + 1, k, q => if S 15 (24 * c + k) = 6 ∧ S 2 (8 * e + cl (S 16 (24 * c + k))) = -1 then -11 else if q < takes (S 15 (24 * c + k)) then -12 else dp_go S e c r (k + 1) (q + delta (S 15 (24 * c + k)))
theorem dp_go_s (S : sS) (e c r k : Nat) (q : Int32) : dp_go S e c (r + 1) k q = if S 15 (24 * c + k) = 6 ∧ S 2 (8 * e + cl (S 16 (24 * c + k))) = -1 then -11 else if q < takes (S 15 (24 * c + k)) then -12 else dp_go S e c r (k + 1) (q + delta (S 15 (24 * c + k))) := rfl
def sp_deploy (S : sS) (x : Int32) : Int32 × sS :=
  if ¬ (0 ≤ x ∧ x < S 12 0) then (-2, S) else if S 13 (cl x) ≠ -1 then (-3, S) else if S 14 (cl x) = 0 then (-3, S)
  else if dp_go S (cl (S 6 (cl (S 5 0)))) (cl x) (cl (S 14 (cl x))) 0 0 ≠ 0 then (dp_go S (cl (S 6 (cl (S 5 0)))) (cl x) (cl (S 14 (cl x))) 0 0, S)
  else (S 6 (cl (S 5 0)), va_up S 13 (upd (S 13) (cl x) (S 6 (cl (S 5 0)))))
/-- the acts of contract i are as they may be -/
def AC (S : sS) (i n : Nat) : Prop := ∀ j, j < n → ∃ a, a ≤ 8 ∧ S 15 (24 * i + j) = nI a ∧ (a = 6 → ∃ b, b < 8 ∧ S 16 (24 * i + j) = nI b) ∧ (a = 7 ∨ a = 8 → ∃ b, b < 4 ∧ S 16 (24 * i + j) = nI b)
def on_go (v : Int64) : Nat → Int64
  | 0 => 0
  | k + 1 => on_go v k + ((v >>> ((nI k : Int32).toInt64 &&& 63)) &&& 1)
def mean (m : Int32) (v : Int64) : Int64 := if m = 0 then (if 0 ≤ v then v else -v) else if m = 1 then -v else if m = 2 then v * v else if m = 3 then v / 2 else if m = 4 then v >>> ((1 : Int32).toInt64 &&& 63) else on_go v 64
def wk (a : Int32) (x y : Int64) : Int64 := if a = 2 then x + y else if a = 3 then x - y else if a = 4 then x * y else x / y
def dg1 (d : Int32) (v : Int64) : Int32 := 31 * (31 * d + (v >>> ((32 : Int32).toInt64 &&& 63)).toInt32) + v.toInt32
def dg_go (f : Nat → Int64) (d : Int32) : Nat → Int32
  | 0 => d
  | k + 1 => dg1 (dg_go f d k) (f k)
/-- the digest behind a run -/
def dgs (cs : Nat → Int64) (c : Nat) (b a : Int32) : Int32 := dg_go (fun k => cs (4 * c + k)) (31 * b + a) 4
def tkN (a : Int32) : Nat := if 2 ≤ a ∧ a ≤ 5 then 2 else if a = 6 ∨ a = 7 then 1 else 0
def nxN (a : Int32) (d : Nat) : Nat := if a = 7 then d - 1 else d + 1 - tkN a
/-- enough lies there for each act -/
def vd (S : sS) (c : Nat) : Nat → Nat → Nat → Prop
  | 0, _, _ => True
  | r + 1, k, d => tkN (S 15 (24 * c + k)) ≤ d ∧ vd S c r (k + 1) (nxN (S 15 (24 * c + k)) d)
theorem vd_s (S : sS) (c r k d : Nat) : vd S c (r + 1) k d = (tkN (S 15 (24 * c + k)) ≤ d ∧ vd S c r (k + 1) (nxN (S 15 (24 * c + k)) d)) := rfl
def ex_go (S : sS) (c pz kp : Nat) (arg : Int64) (lim : Int32) : Nat → Nat → Int32 → List Int64 → (Nat → Int64) → Int32 × Option (Nat → Int64)
  | 0, _, cost, _, as => (cost, some as)
  | r + 1, k, cost, st, as =>
    if lim < cost + S 1 (9 * pz + cl (S 15 (24 * c + k))) then (-13, none)
    else if S 15 (24 * c + k) = 0 then ex_go S c pz kp arg lim r (k + 1) (cost + S 1 (9 * pz + cl (S 15 (24 * c + k)))) ((S 16 (24 * c + k)).toInt64 :: st) as
    else if S 15 (24 * c + k) = 1 then ex_go S c pz kp arg lim r (k + 1) (cost + S 1 (9 * pz + cl (S 15 (24 * c + k)))) (arg :: st) as
    else if S 15 (24 * c + k) = 6 then (match st with
      | [] => (0, none)
      | u :: t => ex_go S c pz kp arg lim r (k + 1) (cost + S 1 (9 * pz + cl (S 15 (24 * c + k)))) (mean (S 2 (8 * kp + cl (S 16 (24 * c + k)))) u :: t) as)
    else if S 15 (24 * c + k) = 7 then (match st with
      | [] => (0, none)
      | u :: t => ex_go S c pz kp arg lim r (k + 1) (cost + S 1 (9 * pz + cl (S 15 (24 * c + k)))) t (vp_updL as (cl (S 16 (24 * c + k))) u))
    else if S 15 (24 * c + k) = 8 then ex_go S c pz kp arg lim r (k + 1) (cost + S 1 (9 * pz + cl (S 15 (24 * c + k)))) (as (cl (S 16 (24 * c + k))) :: st) as
    else (match st with
      | u :: w :: t => if S 15 (24 * c + k) = 5 ∧ u = 0 then (-14, none) else ex_go S c pz kp arg lim r (k + 1) (cost + S 1 (9 * pz + cl (S 15 (24 * c + k)))) (wk (S 15 (24 * c + k)) w u :: t) as
      | _ => (0, none))
/-- n of four cells are laid back -/
def ly (cs : Nat → Int64) (c : Nat) (as : Nat → Int64) (n : Nat) : Nat → Int64 := fun j => if 4 * c ≤ j ∧ j < 4 * c + n then as (j - 4 * c) else cs j
def rn_end (cs : Nat → Int64) (c : Nat) (o : Int32 × Option (Nat → Int64)) : Int32 × (Nat → Int64) := (o.1, match o.2 with
  | none => cs
  | some as => ly cs c as 4)
/-- a run: what it answers, the cells behind it -/
def rn (S : sS) (cs : Nat → Int64) (c pz kp n : Nat) (arg : Int64) (lim : Int32) : Int32 × (Nat → Int64) := rn_end cs c (ex_go S c pz kp arg lim n 0 0 [] (fun j => cs (4 * c + j)))
/-- the pile f holds st, its top first -/
def pl (f : Nat → Int64) (st : List Int64) : Prop := ∀ j, j < st.length → f j = st.getD (st.length - 1 - j) 0
theorem pl_0 (f : Nat → Int64) : pl f [] := fun j h => absurd h (by simp)
theorem pl_push {f : Nat → Int64} {st : List Int64} (h : pl f st) (v : Int64) : pl (vp_updL f st.length v) (v :: st) := by
  intro j hj
  simp only [List.length_cons] at hj ⊢
  by_cases e : j = st.length
  · subst e
    rw [pk_uLs]
    simp
  · rw [pk_uLn e, h j (by omega)]
    rw [show st.length + 1 - 1 - j = (st.length - 1 - j) + 1 from by omega, List.getD_cons_succ]
theorem pl_pop {f : Nat → Int64} {u : Int64} {t : List Int64} (h : pl f (u :: t)) : pl f t ∧ f t.length = u := by
  refine ⟨fun j hj => ?_, ?_⟩
  · have := h j (by simp; omega)
    rw [this]
    simp only [List.length_cons]
    rw [show t.length + 1 - 1 - j = (t.length - 1 - j) + 1 from by omega, List.getD_cons_succ]
  · have := h t.length (by simp)
    rw [this]
    simp
theorem ly0 (cs : Nat → Int64) (c : Nat) (as : Nat → Int64) : ly cs c as 0 = cs := by
  funext j
  unfold ly
  rw [if_neg (by omega)]
theorem lyS (cs : Nat → Int64) (c : Nat) {as : Nat → Int64} {k : Nat} {x : Int64} (h : x = as k) : vp_updL (ly cs c as k) (4 * c + k) x = ly cs c as (k + 1) := by
  funext j
  unfold vp_updL ly
  by_cases e : j = 4 * c + k
  · subst e
    rw [if_pos rfl, if_pos (by omega), h]
    congr 1
    omega
  · rw [if_neg e]
    by_cases h2 : 4 * c ≤ j ∧ j < 4 * c + k
    · rw [if_pos h2, if_pos (by omega)]
    · rw [if_neg h2, if_neg (by omega)]
section EQI
variable {p : Program} {l : Launch} {e : Env} {R : Room} {s : State} {m : MethodId} {args : Array Value} {below : List Frame} {meth : Method} {c : Code} {H : Heap} {locs : List Loc} {cells slots : Nat} {Q : State → Prop}
variable {pc : Nat} {ls : Array Slot} {rest : List Value}
theorem mm_eqI {x y : Int32} (h : x = y) (k : W p l e R s m args below meth c H locs cells slots Q (F0 m pc ls (.int y :: rest))) : W p l e R s m args below meth c H locs cells slots Q (F0 m pc ls (.int x :: rest)) := by rw [h]; exact k
theorem mm_eqL {x y : Int64} (h : x = y) (k : W p l e R s m args below meth c H locs cells slots Q (F0 m pc ls (.long y :: rest))) : W p l e R s m args below meth c H locs cells slots Q (F0 m pc ls (.long x :: rest)) := by rw [h]; exact k
end EQI
end
section
set_option maxHeartbeats 4000000 in
set_option maxRecDepth 100000 in
theorem m_ones (l : Launch) (G : mG) (M : mM) (v : Int64) : Ct l yX7_ones cX7_ones 5 (some FieldType.long) (mm_r 0 0 0) G [.long v] M (fun r M1 => r = some (.long (on_go v 64)) ∧ M = M1) := by
  refine Ct.of (by decide) (Nat.le_of_ble_eq_true rfl) ?_
  intro p e s m args below meth c ls Q X hin hl hw hQ
  have hx := X.1
  have hb := X.2.1
  have hl : lv_has ls 5 [(0, .long v)] := hl
  refine lv_lconst (v := 0) hx hb dX7_ones_0 (by decide) ?_
  refine lv_lstore_n (lv' := [(2, .long 0), (0, .long v)]) hx hb dX7_ones_1 rfl hl (by decide) rfl (fun ls hl => ?_)
  refine lv_iconst (v := 0) hx hb dX7_ones_2 (by decide) ?_
  refine lv_istore (lv' := [(4, .int 0), (2, .long 0), (0, .long v)]) hx hb dX7_ones_3 hl (by decide) rfl (fun ls hl => ?_)
  have loop : ∀ (n : Nat) (k : Nat) (q : Int64) (H1 : Heap) (locs1 : List Loc) (ls1 : Array Slot), (hk : k ≤ 64) → (hn : 65 ≤ k + n) → (hq : q = on_go v k) → mm_W G.1 vwCl (ct_A M s.heap.size) s.heap M H1 locs1 → lv_has ls1 5 [(0, .long v), (2, .long q), (4, .int (nI k))] → W p l e (mm_r 0 0 0) s m args below meth c H1 locs1 0 0 Q (F0 m 5 ls1 []) := by
    intro n
    induction n with
    | zero => intro k q H1 locs1 ls hk hn hq hw hl; exact absurd hn (by omega)
    | succ n ih =>
      intro k q H1 locs1 ls hk hn hq hw hl
      refine lv_iload hx hb dX7_ones_5 (lv_at hl 2 rfl) ?_
      refine lv_bipush (v := 64) hx hb dX7_ones_7 (by decide) ?_
      refine lv_icmp_ge (tgt := 27) hx hb dX7_ones_9 (by decide) (fun c9 => ?_) (fun c9 => ?_)
      · have hk9 : k = 64 := by have := nle (a := 64) (by decide) (by omega) c9; omega
        refine lv_lload_n hx hb dX7_ones_27 rfl (lv_at hl 1 rfl) ?_
        exact mm_lret hQ X hw (⟨by rw [hq, hk9], rfl⟩) (Nat.le_of_ble_eq_true rfl) (Nat.le_of_ble_eq_true rfl) dX7_ones_28
      · have hk9 : k < 64 := nnle (a := 64) (by decide) (by omega) c9
        refine lv_lload_n hx hb dX7_ones_12 rfl (lv_at hl 1 rfl) ?_
        refine lv_lload_n hx hb dX7_ones_13 rfl (lv_at hl 0 rfl) ?_
        refine lv_iload hx hb dX7_ones_14 (lv_at hl 2 rfl) ?_
        refine lv_lshr (v := v >>> ((nI k : Int32).toInt64 &&& 63)) hx hb dX7_ones_16 rfl ?_
        refine lv_lconst (v := 1) hx hb dX7_ones_17 (by decide) ?_
        refine lv_land hx hb dX7_ones_18 ?_
        refine lv_ladd hx hb dX7_ones_19 ?_
        refine lv_lstore_n (lv' := [(2, .long (q + ((v >>> ((nI k : Int32).toInt64 &&& 63)) &&& 1))), (0, .long v), (4, .int (nI k))]) hx hb dX7_ones_20 rfl hl (by decide) rfl (fun ls hl => ?_)
        refine lv_iinc (v := nI (k + 1)) (lv' := [(4, .int (nI (k + 1))), (2, .long (q + ((v >>> ((nI k : Int32).toInt64 &&& 63)) &&& 1))), (0, .long v)]) hx hb dX7_ones_21 hl (k := 2) rfl (nI_s k) (by decide) rfl (fun ls hl => ?_)
        refine lv_goto (tgt := 5) hx hb dX7_ones_24 (by decide) ?_
        exact ih (k + 1) (q + ((v >>> ((nI k : Int32).toInt64 &&& 63)) &&& 1)) _ _ _ (by omega) (by omega) (by rw [hq]; rfl) hw  (lv_sub hl [2, 1, 0] rfl)
  exact loop 65 0 0 _ _ _ (by omega) (by omega) (rfl) hw  (lv_sub hl [2, 1, 0] rfl)
set_option maxHeartbeats 4000000 in
set_option maxRecDepth 100000 in
theorem m_meant (l : Launch) (G : mG) (M : mM) (k : Int32) (v : Int64) : Ct l yX7_meant cX7_meant 3 (some FieldType.long) (mm_r 1 0 0) G [.int k, .long v] M (fun r M1 => r = some (.long (mean k v)) ∧ M = M1) := by
  refine Ct.of (by decide) (Nat.le_of_ble_eq_true rfl) ?_
  intro p e s m args below meth c ls Q X hin hl hw hQ
  have hx := X.1
  have hb := X.2.1
  have hl : lv_has ls 3 [(0, .int k), (1, .long v)] := hl
  refine lv_iload_n hx hb dX7_meant_0 rfl (lv_at hl 0 rfl) ?_
  rcases mm_sw k 0 5 (by decide) (by decide) with ⟨k9, hk9, c1⟩ | c1
  · rcases (show k9 = 0 ∨ k9 = 1 ∨ k9 = 2 ∨ k9 = 3 ∨ k9 = 4 by omega) with rfl | rfl | rfl | rfl | rfl
    · have c1 : k = 0 := c1
      refine lv_tableIn (off := 35) (tgt := 36) hx hb dX7_meant_1 (by rw [c1]; decide) (by rw [c1]; decide) (by rw [c1]; rfl) (by decide) ?_
      refine lv_lload_n hx hb dX7_meant_36 rfl (lv_at hl 1 rfl) ?_
      refine lv_lconst (v := 0) hx hb dX7_meant_37 (by decide) ?_
      refine W.lcmp hx hb dX7_meant_38 ?_
      refine mm_lif_ge (tgt := 47) hx hb dX7_meant_39 (by decide) (fun c39 => ?_) (fun c39 => ?_)
      · refine lv_lload_n hx hb dX7_meant_47 rfl (lv_at hl 1 rfl) ?_
        exact mm_lret hQ X hw (⟨by rw [mean, if_pos c1, if_pos c39], rfl⟩) (Nat.le_of_ble_eq_true rfl) (Nat.le_of_ble_eq_true rfl) dX7_meant_48
      · refine lv_lload_n hx hb dX7_meant_42 rfl (lv_at hl 1 rfl) ?_
        refine lv_lneg hx hb dX7_meant_43 ?_
        refine lv_goto (tgt := 48) hx hb dX7_meant_44 (by decide) ?_
        exact mm_lret hQ X hw (⟨by rw [mean, if_pos c1, if_neg c39], rfl⟩) (Nat.le_of_ble_eq_true rfl) (Nat.le_of_ble_eq_true rfl) dX7_meant_48
    · have c1 : k = 1 := c1
      refine lv_tableIn (off := 48) (tgt := 49) hx hb dX7_meant_1 (by rw [c1]; decide) (by rw [c1]; decide) (by rw [c1]; rfl) (by decide) ?_
      refine lv_lload_n hx hb dX7_meant_49 rfl (lv_at hl 1 rfl) ?_
      refine lv_lneg hx hb dX7_meant_50 ?_
      exact mm_lret hQ X hw (⟨by rw [mean, if_neg (by rw [c1]; decide), if_pos c1], rfl⟩) (Nat.le_of_ble_eq_true rfl) (Nat.le_of_ble_eq_true rfl) dX7_meant_51
    · have c1 : k = 2 := c1
      refine lv_tableIn (off := 51) (tgt := 52) hx hb dX7_meant_1 (by rw [c1]; decide) (by rw [c1]; decide) (by rw [c1]; rfl) (by decide) ?_
      refine lv_lload_n hx hb dX7_meant_52 rfl (lv_at hl 1 rfl) ?_
      refine lv_lload_n hx hb dX7_meant_53 rfl (lv_at hl 1 rfl) ?_
      refine lv_lmul hx hb dX7_meant_54 ?_
      exact mm_lret hQ X hw (⟨by rw [mean, if_neg (by rw [c1]; decide), if_neg (by rw [c1]; decide), if_pos c1], rfl⟩) (Nat.le_of_ble_eq_true rfl) (Nat.le_of_ble_eq_true rfl) dX7_meant_55
    · have c1 : k = 3 := c1
      refine lv_tableIn (off := 55) (tgt := 56) hx hb dX7_meant_1 (by rw [c1]; decide) (by rw [c1]; decide) (by rw [c1]; rfl) (by decide) ?_
      refine lv_lload_n hx hb dX7_meant_56 rfl (lv_at hl 1 rfl) ?_
      refine lv_ldc2 (v := 2) hx hb X.2.2.2.1 (X.2.2.2.2.1 _ cn_X7_112) dX7_meant_57 ?_
      refine lv_ldiv hx hb dX7_meant_60 (by decide) ?_
      exact mm_lret hQ X hw (⟨by rw [mean, if_neg (by rw [c1]; decide), if_neg (by rw [c1]; decide), if_neg (by rw [c1]; decide), if_pos c1], rfl⟩) (Nat.le_of_ble_eq_true rfl) (Nat.le_of_ble_eq_true rfl) dX7_meant_61
    · have c1 : k = 4 := c1
      refine lv_tableIn (off := 61) (tgt := 62) hx hb dX7_meant_1 (by rw [c1]; decide) (by rw [c1]; decide) (by rw [c1]; rfl) (by decide) ?_
      refine lv_lload_n hx hb dX7_meant_62 rfl (lv_at hl 1 rfl) ?_
      refine lv_iconst (v := 1) hx hb dX7_meant_63 (by decide) ?_
      refine lv_lshr (v := v >>> ((1 : Int32).toInt64 &&& 63)) hx hb dX7_meant_64 rfl ?_
      exact mm_lret hQ X hw (⟨by rw [mean, if_neg (by rw [c1]; decide), if_neg (by rw [c1]; decide), if_neg (by rw [c1]; decide), if_neg (by rw [c1]; decide), if_pos c1], rfl⟩) (Nat.le_of_ble_eq_true rfl) (Nat.le_of_ble_eq_true rfl) dX7_meant_65
  · refine lv_tableOut (tgt := 66) hx hb dX7_meant_1 c1 (by decide) ?_
    refine lv_lload_n hx hb dX7_meant_66 rfl (lv_at hl 1 rfl) ?_
    refine mm_callS (As := [.long v]) (rest := []) X hw (m_ones l G _ v) wd_X7_114 ⟨Nat.le_of_ble_eq_true rfl, Nat.le_of_ble_eq_true rfl⟩ ⟨Nat.le_of_ble_eq_true rfl, Nat.le_of_ble_eq_true rfl⟩ rfl rfl (Nat.le_of_ble_eq_true rfl) hl.1 dX7_meant_67 (fun v9 M9 H9 locs9 hp9 hw => ?_)
    obtain ⟨rfl, rfl⟩ := hp9
    refine W.eq (g2 := F0 m 70 ls [.long (on_go v 64)]) rfl ?_
    exact mm_lret hQ X hw (⟨by rw [mean, if_neg (by intro h9; rw [h9] at c1; revert c1; decide), if_neg (by intro h9; rw [h9] at c1; revert c1; decide), if_neg (by intro h9; rw [h9] at c1; revert c1; decide), if_neg (by intro h9; rw [h9] at c1; revert c1; decide), if_neg (by intro h9; rw [h9] at c1; revert c1; decide)], rfl⟩) (Nat.le_of_ble_eq_true rfl) (Nat.le_of_ble_eq_true rfl) dX7_meant_70
set_option maxHeartbeats 4000000 in
set_option maxRecDepth 100000 in
theorem m_worked (l : Launch) (G : mG) (M : mM) (k : Int32) (x y : Int64) (hy : ¬ k = 2 → ¬ k = 3 → ¬ k = 4 → ¬ y = 0) : Ct l yX7_worked cX7_worked 5 (some FieldType.long) (mm_r 0 0 0) G [.int k, .long x, .long y] M (fun r M1 => r = some (.long (wk k x y)) ∧ M = M1) := by
  refine Ct.of (by decide) (Nat.le_of_ble_eq_true rfl) ?_
  intro p e s m args below meth c ls Q X hin hl hw hQ
  have hx := X.1
  have hb := X.2.1
  have hl : lv_has ls 5 [(0, .int k), (1, .long x), (3, .long y)] := hl
  refine lv_iload_n hx hb dX7_worked_0 rfl (lv_at hl 0 rfl) ?_
  refine lv_iconst (v := 2) hx hb dX7_worked_1 (by decide) ?_
  refine lv_icmp_ne (tgt := 11) hx hb dX7_worked_2 (by decide) (fun c2 => ?_) (fun c2 => ?_)
  · refine lv_iload_n hx hb dX7_worked_11 rfl (lv_at hl 0 rfl) ?_
    refine lv_iconst (v := 3) hx hb dX7_worked_12 (by decide) ?_
    refine lv_icmp_ne (tgt := 22) hx hb dX7_worked_13 (by decide) (fun c13 => ?_) (fun c13 => ?_)
    · refine lv_iload_n hx hb dX7_worked_22 rfl (lv_at hl 0 rfl) ?_
      refine lv_iconst (v := 4) hx hb dX7_worked_23 (by decide) ?_
      refine lv_icmp_ne (tgt := 33) hx hb dX7_worked_24 (by decide) (fun c24 => ?_) (fun c24 => ?_)
      · refine lv_lload_n hx hb dX7_worked_33 rfl (lv_at hl 1 rfl) ?_
        refine lv_lload_n hx hb dX7_worked_34 rfl (lv_at hl 2 rfl) ?_
        refine lv_ldiv hx hb dX7_worked_35 (hy c2 c13 c24) ?_
        exact mm_lret hQ X hw (⟨by rw [wk, if_neg c2, if_neg c13, if_neg c24], rfl⟩) (Nat.le_of_ble_eq_true rfl) (Nat.le_of_ble_eq_true rfl) dX7_worked_36
      · refine lv_lload_n hx hb dX7_worked_27 rfl (lv_at hl 1 rfl) ?_
        refine lv_lload_n hx hb dX7_worked_28 rfl (lv_at hl 2 rfl) ?_
        refine lv_lmul hx hb dX7_worked_29 ?_
        refine lv_goto (tgt := 36) hx hb dX7_worked_30 (by decide) ?_
        exact mm_lret hQ X hw (⟨by rw [wk, if_neg c2, if_neg c13, if_pos c24], rfl⟩) (Nat.le_of_ble_eq_true rfl) (Nat.le_of_ble_eq_true rfl) dX7_worked_36
    · refine lv_lload_n hx hb dX7_worked_16 rfl (lv_at hl 1 rfl) ?_
      refine lv_lload_n hx hb dX7_worked_17 rfl (lv_at hl 2 rfl) ?_
      refine lv_lsub hx hb dX7_worked_18 ?_
      refine lv_goto (tgt := 36) hx hb dX7_worked_19 (by decide) ?_
      exact mm_lret hQ X hw (⟨by rw [wk, if_neg c2, if_pos c13], rfl⟩) (Nat.le_of_ble_eq_true rfl) (Nat.le_of_ble_eq_true rfl) dX7_worked_36
  · refine lv_lload_n hx hb dX7_worked_5 rfl (lv_at hl 1 rfl) ?_
    refine lv_lload_n hx hb dX7_worked_6 rfl (lv_at hl 2 rfl) ?_
    refine lv_ladd hx hb dX7_worked_7 ?_
    refine lv_goto (tgt := 36) hx hb dX7_worked_8 (by decide) ?_
    exact mm_lret hQ X hw (⟨by rw [wk, if_pos c2], rfl⟩) (Nat.le_of_ble_eq_true rfl) (Nat.le_of_ble_eq_true rfl) dX7_worked_36
set_option maxHeartbeats 4000000 in
set_option maxRecDepth 100000 in
theorem m_digested (l : Launch) (G : mG) (M : mM) (g : Nat) (L : Nat → Nat) (S : sS) (cs ar : Nat → Int64) (K : Nat → Nat → Int64) (hR : RV G g L S cs ar K M) (b a : Int32) (c0 : Nat) (hc0 : c0 < 12) : Ct l yX7_digested cX7_digested 8 (some FieldType.int) (mm_r 0 0 0) G [.ref g, .int b, .int a, .int (nI c0)] M (fun r M1 => r = some (.int (dgs cs c0 b a)) ∧ M = M1) := by
  refine Ct.of (by decide) (Nat.le_of_ble_eq_true rfl) ?_
  intro p e s m args below meth c ls Q X hin hl hw hQ
  have hx := X.1
  have hb := X.2.1
  have hl : lv_has ls 8 [(0, .ref g), (1, .int b), (2, .int a), (3, .int (nI c0))] := hl
  refine lv_bipush (v := 31) hx hb dX7_digested_0 (by decide) ?_
  refine lv_iload_n hx hb dX7_digested_2 rfl (lv_at hl 1 rfl) ?_
  refine lv_imul hx hb dX7_digested_3 ?_
  refine lv_iload_n hx hb dX7_digested_4 rfl (lv_at hl 2 rfl) ?_
  refine lv_iadd hx hb dX7_digested_5 ?_
  refine lv_istore (lv' := [(4, .int ((31 * b) + a)), (0, .ref g), (1, .int b), (2, .int a), (3, .int (nI c0))]) hx hb dX7_digested_6 hl (by decide) rfl (fun ls hl => ?_)
  refine lv_iconst (v := 0) hx hb dX7_digested_8 (by decide) ?_
  refine lv_istore (lv' := [(5, .int 0), (4, .int ((31 * b) + a)), (0, .ref g), (1, .int b), (2, .int a), (3, .int (nI c0))]) hx hb dX7_digested_9 hl (by decide) rfl (fun ls hl => ?_)
  have loop : ∀ (n : Nat) (k : Nat) (d : Int32) (H1 : Heap) (locs1 : List Loc) (ls1 : Array Slot), (hk : k ≤ 4) → (hn : 5 ≤ k + n) → (hd : d = dg_go (fun k => cs (4 * c0 + k)) (31 * b + a) k) → mm_W G.1 vwCl (ct_A M s.heap.size) s.heap M H1 locs1 → lv_has ls1 8 [(0, .ref g), (3, .int (nI c0)), (4, .int d), (5, .int (nI k))] → W p l e (mm_r 0 0 0) s m args below meth c H1 locs1 0 0 Q (F0 m 11 ls1 []) := by
    intro n
    induction n with
    | zero => intro k d H1 locs1 ls hk hn hd hw hl; exact absurd hn (by omega)
    | succ n ih =>
      intro k d H1 locs1 ls hk hn hd hw hl
      refine lv_iload hx hb dX7_digested_11 (lv_at hl 3 rfl) ?_
      refine lv_iconst (v := 4) hx hb dX7_digested_13 (by decide) ?_
      refine lv_icmp_ge (tgt := 61) hx hb dX7_digested_14 (by decide) (fun c14 => ?_) (fun c14 => ?_)
      · have hk9 : k = 4 := by have := nle (a := 4) (by decide) (by omega) c14; omega
        refine lv_iload hx hb dX7_digested_61 (lv_at hl 2 rfl) ?_
        exact mm_iret hQ X hw (⟨by rw [hd, hk9]; rfl, rfl⟩) (Nat.le_of_ble_eq_true rfl) (Nat.le_of_ble_eq_true rfl) dX7_digested_63
      · have hk9 : k < 4 := nnle (a := 4) (by decide) (by omega) c14
        refine lv_aload_n hx hb dX7_digested_17 rfl (lv_at hl 0 rfl) ?_
        refine rg_54 X hw hR dX7_digested_18 ?_
        refine lv_iconst (v := 4) hx hb dX7_digested_21 (by decide) ?_
        refine lv_iload_n hx hb dX7_digested_22 rfl (lv_at hl 1 rfl) ?_
        refine lv_imul hx hb dX7_digested_23 ?_
        refine lv_iload hx hb dX7_digested_24 (lv_at hl 3 rfl) ?_
        refine lv_iadd hx hb dX7_digested_26 ?_
        refine rc_lald X hw hR (4 * c0 + k) (ix4 c0 k) (by omega) dX7_digested_27 ?_
        refine lv_lstore (lv' := [(6, .long (cs (4 * c0 + k))), (0, .ref g), (3, .int (nI c0)), (4, .int d), (5, .int (nI k))]) hx hb dX7_digested_28 hl (by decide) rfl (fun ls hl => ?_)
        refine lv_bipush (v := 31) hx hb dX7_digested_30 (by decide) ?_
        refine lv_iload hx hb dX7_digested_32 (lv_at hl 3 rfl) ?_
        refine lv_imul hx hb dX7_digested_34 ?_
        refine lv_lload hx hb dX7_digested_35 (lv_at hl 0 rfl) ?_
        refine lv_bipush (v := 32) hx hb dX7_digested_37 (by decide) ?_
        refine lv_lshr (v := (cs (4 * c0 + k)) >>> ((32 : Int32).toInt64 &&& 63)) hx hb dX7_digested_39 rfl ?_
        refine lv_l2i (v := ((cs (4 * c0 + k)) >>> ((32 : Int32).toInt64 &&& 63) : Int64).toInt32) hx hb dX7_digested_40 rfl ?_
        refine lv_iadd hx hb dX7_digested_41 ?_
        refine lv_istore (lv' := [(4, .int ((31 * d) + (((cs (4 * c0 + k)) >>> ((32 : Int32).toInt64 &&& 63) : Int64).toInt32))), (6, .long (cs (4 * c0 + k))), (0, .ref g), (3, .int (nI c0)), (5, .int (nI k))]) hx hb dX7_digested_42 hl (by decide) rfl (fun ls hl => ?_)
        refine lv_bipush (v := 31) hx hb dX7_digested_44 (by decide) ?_
        refine lv_iload hx hb dX7_digested_46 (lv_at hl 0 rfl) ?_
        refine lv_imul hx hb dX7_digested_48 ?_
        refine lv_lload hx hb dX7_digested_49 (lv_at hl 1 rfl) ?_
        refine lv_l2i (v := (cs (4 * c0 + k) : Int64).toInt32) hx hb dX7_digested_51 rfl ?_
        refine lv_iadd hx hb dX7_digested_52 ?_
        refine lv_istore (lv' := [(4, .int ((31 * ((31 * d) + (((cs (4 * c0 + k)) >>> ((32 : Int32).toInt64 &&& 63) : Int64).toInt32))) + ((cs (4 * c0 + k) : Int64).toInt32))), (6, .long (cs (4 * c0 + k))), (0, .ref g), (3, .int (nI c0)), (5, .int (nI k))]) hx hb dX7_digested_53 hl (by decide) rfl (fun ls hl => ?_)
        refine lv_iinc (v := nI (k + 1)) (lv' := [(5, .int (nI (k + 1))), (4, .int ((31 * ((31 * d) + (((cs (4 * c0 + k)) >>> ((32 : Int32).toInt64 &&& 63) : Int64).toInt32))) + ((cs (4 * c0 + k) : Int64).toInt32))), (6, .long (cs (4 * c0 + k))), (0, .ref g), (3, .int (nI c0))]) hx hb dX7_digested_55 hl (k := 4) rfl (nI_s k) (by decide) rfl (fun ls hl => ?_)
        refine lv_goto (tgt := 11) hx hb dX7_digested_58 (by decide) ?_
        exact ih (k + 1) _ _ _ _ (by omega) (by omega) (by rw [hd]; rfl) hw  (lv_sub hl [3, 4, 1, 0] rfl)
  exact loop 5 0 _ _ _ _ (by omega) (by omega) (rfl) hw  (lv_sub hl [2, 5, 1, 0] rfl)
set_option maxHeartbeats 4000000 in
set_option maxRecDepth 100000 in
theorem m_deploy (l : Launch) (G : mG) (M : mM) (g : Nat) (L : Nat → Nat) (S : sS) (cs ar : Nat → Int64) (K : Nat → Nat → Int64) (hR : RV G g L S cs ar K M) (ne nn nc nl ht : Nat) (hN : NM S ne nn nc nl ht) (hW : ∀ i, i < nc → ∃ k, k ≤ 24 ∧ S 14 i = nI k ∧ AC S i k) (hF : ∃ e, e < ne ∧ S 6 ht = nI e) (x : Int32) : Ct l yX7_deploy cX7_deploy 7 (some FieldType.int) (mm_r 2 0 0) G [.ref g, .int x] M (fun r M1 => r = some (.int (sp_deploy S x).1) ∧ ∃ K1, RV G g L (sp_deploy S x).2 cs ar K1 M1) := by
  refine Ct.of (by decide) (Nat.le_of_ble_eq_true rfl) ?_
  intro p e s m args below meth c ls Q X hin hl hw hQ
  have hx := X.1
  have hb := X.2.1
  have hl : lv_has ls 7 [(0, .ref g), (1, .int x)] := hl
  obtain ⟨hN0, hN1, hN2, hN7, hN8, hN12, hN13, hN18, hN19, hN5, hN6⟩ := id hN
  have h5b : cl (S 5 0) = ht := by rw [hN5, cl_n (by omega)]
  have h5c : S 5 0 = nI (cl (S 5 0)) := by rw [hN5, cl_n (by omega)]
  obtain ⟨e0, he0, ef⟩ := hF
  have pe : 0 ≤ S 6 (cl (S 5 0)) := by rw [h5b, ef]; exact nI_pos' (by omega)
  have be : cl (S 6 (cl (S 5 0))) = e0 := by rw [h5b, ef, cl_n (by omega)]
  refine lv_aload_n hx hb dX7_deploy_0 rfl (lv_at hl 0 rfl) ?_
  refine lv_iload_n hx hb dX7_deploy_1 rfl (lv_at hl 1 rfl) ?_
  refine mm_callV (As := [.int x]) (rest := []) X hw (m_isContract l G _ g L _ cs ar K hR (x) nc hN12 (by omega)) (hR.1) rfl wd_X7_109 ⟨Nat.le_of_ble_eq_true rfl, Nat.le_of_ble_eq_true rfl⟩ ⟨Nat.le_of_ble_eq_true rfl, Nat.le_of_ble_eq_true rfl⟩ rfl rfl (Nat.le_of_ble_eq_true rfl) hl.1 dX7_deploy_2 (fun v9 M9 H9 locs9 hp9 hw => ?_)
  obtain ⟨rfl, rfl⟩ := hp9
  refine W.eq (g2 := F0 m 5 ls [.int (bI (0 ≤ x ∧ x < S 12 0))]) rfl ?_
  refine mm_ifneB (tgt := 11) hx hb dX7_deploy_5 (by decide) (fun c5 => ?_) (fun c5 => ?_)
  · have b_x : cl x < nc := cl_lt hN12 (by omega) c5
    obtain ⟨j14, hj14, e14, hA⟩ := hW (cl x) b_x
    have p14 : 0 ≤ S 14 (cl x) := by rw [e14]; exact nI_pos' (by omega)
    have b14 : cl (S 14 (cl x)) = j14 := by rw [e14, cl_n (by omega)]
    refine lv_aload_n hx hb dX7_deploy_11 rfl (lv_at hl 0 rfl) ?_
    refine rg_42 X hw hR dX7_deploy_12 ?_
    refine lv_iload_n hx hb dX7_deploy_15 rfl (lv_at hl 1 rfl) ?_
    refine ri_iald X hw hR 13 rfl (cl x) (nI_cl c5.1) (by omega) dX7_deploy_16 ?_
    refine lv_iconst (v := (-1)) hx hb dX7_deploy_17 (by decide) ?_
    refine lv_icmp_ne (tgt := 30) hx hb dX7_deploy_18 (by decide) (fun c18 => ?_) (fun c18 => ?_)
    · refine lv_bipush (v := (-3)) hx hb dX7_deploy_30 (by decide) ?_
      exact mm_iret hQ X hw (by have e9 : sp_deploy S x = ((-3), S) := (by rw [sp_deploy, if_neg (fun h9 => h9 c5), if_pos c18]); rw [e9]; exact ⟨rfl, _, hR⟩) (Nat.le_of_ble_eq_true rfl) (Nat.le_of_ble_eq_true rfl) dX7_deploy_32
    · refine lv_aload_n hx hb dX7_deploy_21 rfl (lv_at hl 0 rfl) ?_
      refine rg_45 X hw hR dX7_deploy_22 ?_
      refine lv_iload_n hx hb dX7_deploy_25 rfl (lv_at hl 1 rfl) ?_
      refine ri_iald X hw hR 14 rfl (cl x) (nI_cl c5.1) (by omega) dX7_deploy_26 ?_
      refine lv_if_ne (tgt := 33) hx hb dX7_deploy_27 (by decide) (fun c27 => ?_) (fun c27 => ?_)
      · refine lv_aload_n hx hb dX7_deploy_33 rfl (lv_at hl 0 rfl) ?_
        refine rg_26 X hw hR dX7_deploy_34 ?_
        refine lv_aload_n hx hb dX7_deploy_37 rfl (lv_at hl 0 rfl) ?_
        refine rg_99 X hw hR dX7_deploy_38 ?_
        refine ri_iald X hw hR 6 rfl (cl (S 5 0)) (h5c) (by omega) dX7_deploy_41 ?_
        refine lv_istore_n (lv' := [(2, .int (S 6 (cl (S 5 0)))), (0, .ref g), (1, .int x)]) hx hb dX7_deploy_42 rfl hl (by decide) rfl (fun ls hl => ?_)
        refine lv_iconst (v := 0) hx hb dX7_deploy_43 (by decide) ?_
        refine lv_istore_n (lv' := [(3, .int 0), (2, .int (S 6 (cl (S 5 0)))), (0, .ref g), (1, .int x)]) hx hb dX7_deploy_44 rfl hl (by decide) rfl (fun ls hl => ?_)
        refine lv_bipush (v := 24) hx hb dX7_deploy_45 (by decide) ?_
        refine lv_iload_n hx hb dX7_deploy_47 rfl (lv_at hl 3 rfl) ?_
        refine lv_imul hx hb dX7_deploy_48 ?_
        refine mm_eqI (y := nI (24 * cl x + 0)) (by have h9 := m24 (cl x); rw [← nI_cl c5.1] at h9; exact h9) ?_
        refine lv_istore (lv' := [(4, .int (nI (24 * cl x + 0))), (3, .int 0), (2, .int (S 6 (cl (S 5 0)))), (0, .ref g), (1, .int x)]) hx hb dX7_deploy_49 hl (by decide) rfl (fun ls hl => ?_)
        have loop : ∀ (n : Nat) (k : Nat) (q : Int32) (H1 : Heap) (locs1 : List Loc) (ls1 : Array Slot), (hk : k ≤ j14) → (hn : j14 + 1 ≤ k + n) → (hv : dp_go S (cl (S 6 (cl (S 5 0)))) (cl x) (j14 - k) k q = dp_go S (cl (S 6 (cl (S 5 0)))) (cl x) (cl (S 14 (cl x))) 0 0) → mm_W G.1 vwCl (ct_A M s.heap.size) s.heap M H1 locs1 → lv_has ls1 7 [(0, .ref g), (1, .int x), (2, .int (S 6 (cl (S 5 0)))), (3, .int q), (4, .int (nI (24 * cl x + k)))] → W p l e (mm_r 2 0 0) s m args below meth c H1 locs1 0 0 Q (F0 m 51 ls1 []) := by
          intro n
          induction n with
          | zero => intro k q H1 locs1 ls hk hn hv hw hl; exact absurd hn (by omega)
          | succ n ih =>
            intro k q H1 locs1 ls hk hn hv hw hl
            refine lv_iload hx hb dX7_deploy_51 (lv_at hl 4 rfl) ?_
            refine lv_bipush (v := 24) hx hb dX7_deploy_53 (by decide) ?_
            refine lv_iload_n hx hb dX7_deploy_55 rfl (lv_at hl 1 rfl) ?_
            refine lv_imul hx hb dX7_deploy_56 ?_
            refine lv_aload_n hx hb dX7_deploy_57 rfl (lv_at hl 0 rfl) ?_
            refine rg_45 X hw hR dX7_deploy_58 ?_
            refine lv_iload_n hx hb dX7_deploy_61 rfl (lv_at hl 1 rfl) ?_
            refine ri_iald X hw hR 14 rfl (cl x) (nI_cl c5.1) (by omega) dX7_deploy_62 ?_
            refine lv_iadd hx hb dX7_deploy_63 ?_
            refine lv_icmp_ge (tgt := 177) hx hb dX7_deploy_64 (by decide) (fun c64 => ?_) (fun c64 => ?_)
            · rw [show (24 : Int32) * x + S 14 (cl x) = nI (24 * cl x + cl (S 14 (cl x))) from jx 24 c5.1 p14] at c64
              have hk9 : k = j14 := by have := nle (by omega) (by omega) c64; omega
              refine lv_aload_n hx hb dX7_deploy_177 rfl (lv_at hl 0 rfl) ?_
              refine rg_42 X hw hR dX7_deploy_178 ?_
              refine lv_iload_n hx hb dX7_deploy_181 rfl (lv_at hl 1 rfl) ?_
              refine lv_iload_n hx hb dX7_deploy_182 rfl (lv_at hl 2 rfl) ?_
              refine ri_iast X hw hR 13 rfl (cl x) (nI_cl c5.1) (by omega) dX7_deploy_183 (fun M9 H9 locs9 hw hR => ?_)
              refine lv_iload_n hx hb dX7_deploy_184 rfl (lv_at hl 2 rfl) ?_
              exact mm_iret hQ X hw (by rw [hk9, Nat.sub_self] at hv; have e9 : sp_deploy S x = (S 6 (cl (S 5 0)), va_up S 13 (upd (S 13) (cl x) (S 6 (cl (S 5 0))))) := (by rw [sp_deploy, if_neg (fun h9 => h9 c5), if_neg (fun h9 => h9 c18), if_neg c27, if_neg (fun h9 => h9 hv.symm)]); rw [e9]; exact ⟨rfl, _, hR⟩) (Nat.le_of_ble_eq_true rfl) (Nat.le_of_ble_eq_true rfl) dX7_deploy_185
            · rw [show (24 : Int32) * x + S 14 (cl x) = nI (24 * cl x + cl (S 14 (cl x))) from jx 24 c5.1 p14] at c64
              have hk9 : k < j14 := by have := nnle (by omega) (by omega) c64; omega
              rw [show j14 - k = (j14 - 1 - k) + 1 from by omega, dp_go_s] at hv
              refine lv_aload_n hx hb dX7_deploy_67 rfl (lv_at hl 0 rfl) ?_
              refine rg_48 X hw hR dX7_deploy_68 ?_
              refine lv_iload hx hb dX7_deploy_71 (lv_at hl 4 rfl) ?_
              refine ri_iald X hw hR 15 rfl (24 * cl x + k) (rfl) (by omega) dX7_deploy_73 ?_
              refine lv_istore (lv' := [(5, .int (S 15 (24 * cl x + k))), (0, .ref g), (1, .int x), (2, .int (S 6 (cl (S 5 0)))), (3, .int q), (4, .int (nI (24 * cl x + k)))]) hx hb dX7_deploy_74 hl (by decide) rfl (fun ls hl => ?_)
              refine lv_iload hx hb dX7_deploy_76 (lv_at hl 0 rfl) ?_
              refine lv_bipush (v := 6) hx hb dX7_deploy_78 (by decide) ?_
              refine lv_icmp_ne (tgt := 107) hx hb dX7_deploy_80 (by decide) (fun c80 => ?_) (fun c80 => ?_)
              · rw [if_neg (fun h9 => c80 h9.1)] at hv
                refine lv_iload hx hb dX7_deploy_107 (lv_at hl 0 rfl) ?_
                refine lv_iconst (v := 2) hx hb dX7_deploy_109 (by decide) ?_
                refine lv_icmp_lt (tgt := 123) hx hb dX7_deploy_110 (by decide) (fun c110 => ?_) (fun c110 => ?_)
                · refine lv_iload hx hb dX7_deploy_123 (lv_at hl 0 rfl) ?_
                  refine lv_bipush (v := 6) hx hb dX7_deploy_125 (by decide) ?_
                  refine lv_icmp_eq (tgt := 137) hx hb dX7_deploy_127 (by decide) (fun c127 => ?_) (fun c127 => ?_)
                  · refine lv_iconst (v := 1) hx hb dX7_deploy_137 (by decide) ?_
                    refine lv_goto (tgt := 142) hx hb dX7_deploy_138 (by decide) ?_
                    have tk9 : takes (S 15 (24 * cl x + k)) = 1 := by rw [takes, if_neg (fun h9 => i32_lt_nle c110 h9.1), if_pos (Or.inl c127)]
                    refine lv_istore (lv' := [(6, .int 1), (5, .int (S 15 (24 * cl x + k))), (0, .ref g), (1, .int x), (2, .int (S 6 (cl (S 5 0)))), (3, .int q), (4, .int (nI (24 * cl x + k)))]) hx hb dX7_deploy_142 hl (by decide) rfl (fun ls hl => ?_)
                    refine lv_iload_n hx hb dX7_deploy_144 rfl (lv_at hl 5 rfl) ?_
                    refine lv_iload hx hb dX7_deploy_145 (lv_at hl 0 rfl) ?_
                    refine lv_icmp_ge (tgt := 153) hx hb dX7_deploy_147 (by decide) (fun c147 => ?_) (fun c147 => ?_)
                    · rw [tk9, if_neg (fun h9 => i32_lt_nle h9 c147)] at hv
                      refine lv_iload_n hx hb dX7_deploy_153 rfl (lv_at hl 5 rfl) ?_
                      refine lv_iload hx hb dX7_deploy_154 (lv_at hl 1 rfl) ?_
                      refine lv_bipush (v := 7) hx hb dX7_deploy_156 (by decide) ?_
                      refine lv_icmp_ne (tgt := 165) hx hb dX7_deploy_158 (by decide) (fun c158 => ?_) (fun c158 => ?_)
                      · refine lv_iconst (v := 1) hx hb dX7_deploy_165 (by decide) ?_
                        refine lv_iload hx hb dX7_deploy_166 (lv_at hl 0 rfl) ?_
                        refine lv_isub hx hb dX7_deploy_168 ?_
                        refine lv_iadd hx hb dX7_deploy_169 ?_
                        refine lv_istore_n (lv' := [(3, .int (q + (1 - 1))), (6, .int 1), (5, .int (S 15 (24 * cl x + k))), (0, .ref g), (1, .int x), (2, .int (S 6 (cl (S 5 0)))), (4, .int (nI (24 * cl x + k)))]) hx hb dX7_deploy_170 rfl hl (by decide) rfl (fun ls hl => ?_)
                        refine lv_iinc (v := nI (24 * cl x + (k + 1))) (lv' := [(4, .int (nI (24 * cl x + (k + 1)))), (3, .int (q + (1 - 1))), (6, .int 1), (5, .int (S 15 (24 * cl x + k))), (0, .ref g), (1, .int x), (2, .int (S 6 (cl (S 5 0))))]) hx hb dX7_deploy_171 hl (k := 6) rfl (nI_s _) (by decide) rfl (fun ls hl => ?_)
                        refine lv_goto (tgt := 51) hx hb dX7_deploy_174 (by decide) ?_
                        exact ih (k + 1) _ _ _ _ (by omega) (by omega) (by rw [show j14 - (k + 1) = j14 - 1 - k from by omega]; rw [delta, if_neg c158, tk9] at hv; exact hv) hw  (lv_sub hl [4, 5, 6, 1, 0] rfl)
                      · refine lv_iconst (v := (-1)) hx hb dX7_deploy_161 (by decide) ?_
                        refine lv_goto (tgt := 169) hx hb dX7_deploy_162 (by decide) ?_
                        refine lv_iadd hx hb dX7_deploy_169 ?_
                        refine lv_istore_n (lv' := [(3, .int (q + ((-1)))), (6, .int 1), (5, .int (S 15 (24 * cl x + k))), (0, .ref g), (1, .int x), (2, .int (S 6 (cl (S 5 0)))), (4, .int (nI (24 * cl x + k)))]) hx hb dX7_deploy_170 rfl hl (by decide) rfl (fun ls hl => ?_)
                        refine lv_iinc (v := nI (24 * cl x + (k + 1))) (lv' := [(4, .int (nI (24 * cl x + (k + 1)))), (3, .int (q + ((-1)))), (6, .int 1), (5, .int (S 15 (24 * cl x + k))), (0, .ref g), (1, .int x), (2, .int (S 6 (cl (S 5 0))))]) hx hb dX7_deploy_171 hl (k := 6) rfl (nI_s _) (by decide) rfl (fun ls hl => ?_)
                        refine lv_goto (tgt := 51) hx hb dX7_deploy_174 (by decide) ?_
                        exact ih (k + 1) _ _ _ _ (by omega) (by omega) (by rw [show j14 - (k + 1) = j14 - 1 - k from by omega]; rw [delta, if_pos c158] at hv; exact hv) hw  (lv_sub hl [4, 5, 6, 1, 0] rfl)
                    · rw [tk9, if_pos (i32_nle c147)] at hv
                      refine lv_bipush (v := (-12)) hx hb dX7_deploy_150 (by decide) ?_
                      exact mm_iret hQ X hw (by have e9 : sp_deploy S x = ((-12), S) := (by rw [sp_deploy, if_neg (fun h9 => h9 c5), if_neg (fun h9 => h9 c18), if_neg c27, ← hv, if_pos (by decide)]); rw [e9]; exact ⟨rfl, _, hR⟩) (Nat.le_of_ble_eq_true rfl) (Nat.le_of_ble_eq_true rfl) dX7_deploy_152
                  · refine lv_iload hx hb dX7_deploy_130 (lv_at hl 0 rfl) ?_
                    refine lv_bipush (v := 7) hx hb dX7_deploy_132 (by decide) ?_
                    refine lv_icmp_ne (tgt := 141) hx hb dX7_deploy_134 (by decide) (fun c134 => ?_) (fun c134 => ?_)
                    · refine lv_iconst (v := 0) hx hb dX7_deploy_141 (by decide) ?_
                      have tk9 : takes (S 15 (24 * cl x + k)) = 0 := by rw [takes, if_neg (fun h9 => i32_lt_nle c110 h9.1), if_neg (fun h9 => h9.elim c127 c134)]
                      refine lv_istore (lv' := [(6, .int 0), (5, .int (S 15 (24 * cl x + k))), (0, .ref g), (1, .int x), (2, .int (S 6 (cl (S 5 0)))), (3, .int q), (4, .int (nI (24 * cl x + k)))]) hx hb dX7_deploy_142 hl (by decide) rfl (fun ls hl => ?_)
                      refine lv_iload_n hx hb dX7_deploy_144 rfl (lv_at hl 5 rfl) ?_
                      refine lv_iload hx hb dX7_deploy_145 (lv_at hl 0 rfl) ?_
                      refine lv_icmp_ge (tgt := 153) hx hb dX7_deploy_147 (by decide) (fun c147 => ?_) (fun c147 => ?_)
                      · rw [tk9, if_neg (fun h9 => i32_lt_nle h9 c147)] at hv
                        refine lv_iload_n hx hb dX7_deploy_153 rfl (lv_at hl 5 rfl) ?_
                        refine lv_iload hx hb dX7_deploy_154 (lv_at hl 1 rfl) ?_
                        refine lv_bipush (v := 7) hx hb dX7_deploy_156 (by decide) ?_
                        refine lv_icmp_ne (tgt := 165) hx hb dX7_deploy_158 (by decide) (fun c158 => ?_) (fun c158 => ?_)
                        · refine lv_iconst (v := 1) hx hb dX7_deploy_165 (by decide) ?_
                          refine lv_iload hx hb dX7_deploy_166 (lv_at hl 0 rfl) ?_
                          refine lv_isub hx hb dX7_deploy_168 ?_
                          refine lv_iadd hx hb dX7_deploy_169 ?_
                          refine lv_istore_n (lv' := [(3, .int (q + (1 - 0))), (6, .int 0), (5, .int (S 15 (24 * cl x + k))), (0, .ref g), (1, .int x), (2, .int (S 6 (cl (S 5 0)))), (4, .int (nI (24 * cl x + k)))]) hx hb dX7_deploy_170 rfl hl (by decide) rfl (fun ls hl => ?_)
                          refine lv_iinc (v := nI (24 * cl x + (k + 1))) (lv' := [(4, .int (nI (24 * cl x + (k + 1)))), (3, .int (q + (1 - 0))), (6, .int 0), (5, .int (S 15 (24 * cl x + k))), (0, .ref g), (1, .int x), (2, .int (S 6 (cl (S 5 0))))]) hx hb dX7_deploy_171 hl (k := 6) rfl (nI_s _) (by decide) rfl (fun ls hl => ?_)
                          refine lv_goto (tgt := 51) hx hb dX7_deploy_174 (by decide) ?_
                          exact ih (k + 1) _ _ _ _ (by omega) (by omega) (by rw [show j14 - (k + 1) = j14 - 1 - k from by omega]; rw [delta, if_neg c158, tk9] at hv; exact hv) hw  (lv_sub hl [4, 5, 6, 1, 0] rfl)
                        · refine lv_iconst (v := (-1)) hx hb dX7_deploy_161 (by decide) ?_
                          refine lv_goto (tgt := 169) hx hb dX7_deploy_162 (by decide) ?_
                          refine lv_iadd hx hb dX7_deploy_169 ?_
                          refine lv_istore_n (lv' := [(3, .int (q + ((-1)))), (6, .int 0), (5, .int (S 15 (24 * cl x + k))), (0, .ref g), (1, .int x), (2, .int (S 6 (cl (S 5 0)))), (4, .int (nI (24 * cl x + k)))]) hx hb dX7_deploy_170 rfl hl (by decide) rfl (fun ls hl => ?_)
                          refine lv_iinc (v := nI (24 * cl x + (k + 1))) (lv' := [(4, .int (nI (24 * cl x + (k + 1)))), (3, .int (q + ((-1)))), (6, .int 0), (5, .int (S 15 (24 * cl x + k))), (0, .ref g), (1, .int x), (2, .int (S 6 (cl (S 5 0))))]) hx hb dX7_deploy_171 hl (k := 6) rfl (nI_s _) (by decide) rfl (fun ls hl => ?_)
                          refine lv_goto (tgt := 51) hx hb dX7_deploy_174 (by decide) ?_
                          exact ih (k + 1) _ _ _ _ (by omega) (by omega) (by rw [show j14 - (k + 1) = j14 - 1 - k from by omega]; rw [delta, if_pos c158] at hv; exact hv) hw  (lv_sub hl [4, 5, 6, 1, 0] rfl)
                      · rw [tk9, if_pos (i32_nle c147)] at hv
                        refine lv_bipush (v := (-12)) hx hb dX7_deploy_150 (by decide) ?_
                        exact mm_iret hQ X hw (by have e9 : sp_deploy S x = ((-12), S) := (by rw [sp_deploy, if_neg (fun h9 => h9 c5), if_neg (fun h9 => h9 c18), if_neg c27, ← hv, if_pos (by decide)]); rw [e9]; exact ⟨rfl, _, hR⟩) (Nat.le_of_ble_eq_true rfl) (Nat.le_of_ble_eq_true rfl) dX7_deploy_152
                    · refine lv_iconst (v := 1) hx hb dX7_deploy_137 (by decide) ?_
                      refine lv_goto (tgt := 142) hx hb dX7_deploy_138 (by decide) ?_
                      have tk9 : takes (S 15 (24 * cl x + k)) = 1 := by rw [takes, if_neg (fun h9 => i32_lt_nle c110 h9.1), if_pos (Or.inr c134)]
                      refine lv_istore (lv' := [(6, .int 1), (5, .int (S 15 (24 * cl x + k))), (0, .ref g), (1, .int x), (2, .int (S 6 (cl (S 5 0)))), (3, .int q), (4, .int (nI (24 * cl x + k)))]) hx hb dX7_deploy_142 hl (by decide) rfl (fun ls hl => ?_)
                      refine lv_iload_n hx hb dX7_deploy_144 rfl (lv_at hl 5 rfl) ?_
                      refine lv_iload hx hb dX7_deploy_145 (lv_at hl 0 rfl) ?_
                      refine lv_icmp_ge (tgt := 153) hx hb dX7_deploy_147 (by decide) (fun c147 => ?_) (fun c147 => ?_)
                      · rw [tk9, if_neg (fun h9 => i32_lt_nle h9 c147)] at hv
                        refine lv_iload_n hx hb dX7_deploy_153 rfl (lv_at hl 5 rfl) ?_
                        refine lv_iload hx hb dX7_deploy_154 (lv_at hl 1 rfl) ?_
                        refine lv_bipush (v := 7) hx hb dX7_deploy_156 (by decide) ?_
                        refine lv_icmp_ne (tgt := 165) hx hb dX7_deploy_158 (by decide) (fun c158 => ?_) (fun c158 => ?_)
                        · refine lv_iconst (v := 1) hx hb dX7_deploy_165 (by decide) ?_
                          refine lv_iload hx hb dX7_deploy_166 (lv_at hl 0 rfl) ?_
                          refine lv_isub hx hb dX7_deploy_168 ?_
                          refine lv_iadd hx hb dX7_deploy_169 ?_
                          refine lv_istore_n (lv' := [(3, .int (q + (1 - 1))), (6, .int 1), (5, .int (S 15 (24 * cl x + k))), (0, .ref g), (1, .int x), (2, .int (S 6 (cl (S 5 0)))), (4, .int (nI (24 * cl x + k)))]) hx hb dX7_deploy_170 rfl hl (by decide) rfl (fun ls hl => ?_)
                          refine lv_iinc (v := nI (24 * cl x + (k + 1))) (lv' := [(4, .int (nI (24 * cl x + (k + 1)))), (3, .int (q + (1 - 1))), (6, .int 1), (5, .int (S 15 (24 * cl x + k))), (0, .ref g), (1, .int x), (2, .int (S 6 (cl (S 5 0))))]) hx hb dX7_deploy_171 hl (k := 6) rfl (nI_s _) (by decide) rfl (fun ls hl => ?_)
                          refine lv_goto (tgt := 51) hx hb dX7_deploy_174 (by decide) ?_
                          exact ih (k + 1) _ _ _ _ (by omega) (by omega) (by rw [show j14 - (k + 1) = j14 - 1 - k from by omega]; rw [delta, if_neg c158, tk9] at hv; exact hv) hw  (lv_sub hl [4, 5, 6, 1, 0] rfl)
                        · refine lv_iconst (v := (-1)) hx hb dX7_deploy_161 (by decide) ?_
                          refine lv_goto (tgt := 169) hx hb dX7_deploy_162 (by decide) ?_
                          refine lv_iadd hx hb dX7_deploy_169 ?_
                          refine lv_istore_n (lv' := [(3, .int (q + ((-1)))), (6, .int 1), (5, .int (S 15 (24 * cl x + k))), (0, .ref g), (1, .int x), (2, .int (S 6 (cl (S 5 0)))), (4, .int (nI (24 * cl x + k)))]) hx hb dX7_deploy_170 rfl hl (by decide) rfl (fun ls hl => ?_)
                          refine lv_iinc (v := nI (24 * cl x + (k + 1))) (lv' := [(4, .int (nI (24 * cl x + (k + 1)))), (3, .int (q + ((-1)))), (6, .int 1), (5, .int (S 15 (24 * cl x + k))), (0, .ref g), (1, .int x), (2, .int (S 6 (cl (S 5 0))))]) hx hb dX7_deploy_171 hl (k := 6) rfl (nI_s _) (by decide) rfl (fun ls hl => ?_)
                          refine lv_goto (tgt := 51) hx hb dX7_deploy_174 (by decide) ?_
                          exact ih (k + 1) _ _ _ _ (by omega) (by omega) (by rw [show j14 - (k + 1) = j14 - 1 - k from by omega]; rw [delta, if_pos c158] at hv; exact hv) hw  (lv_sub hl [4, 5, 6, 1, 0] rfl)
                      · rw [tk9, if_pos (i32_nle c147)] at hv
                        refine lv_bipush (v := (-12)) hx hb dX7_deploy_150 (by decide) ?_
                        exact mm_iret hQ X hw (by have e9 : sp_deploy S x = ((-12), S) := (by rw [sp_deploy, if_neg (fun h9 => h9 c5), if_neg (fun h9 => h9 c18), if_neg c27, ← hv, if_pos (by decide)]); rw [e9]; exact ⟨rfl, _, hR⟩) (Nat.le_of_ble_eq_true rfl) (Nat.le_of_ble_eq_true rfl) dX7_deploy_152
                · refine lv_iload hx hb dX7_deploy_113 (lv_at hl 0 rfl) ?_
                  refine lv_iconst (v := 5) hx hb dX7_deploy_115 (by decide) ?_
                  refine lv_icmp_gt (tgt := 123) hx hb dX7_deploy_116 (by decide) (fun c116 => ?_) (fun c116 => ?_)
                  · refine lv_iload hx hb dX7_deploy_123 (lv_at hl 0 rfl) ?_
                    refine lv_bipush (v := 6) hx hb dX7_deploy_125 (by decide) ?_
                    refine lv_icmp_eq (tgt := 137) hx hb dX7_deploy_127 (by decide) (fun c127 => ?_) (fun c127 => ?_)
                    · refine lv_iconst (v := 1) hx hb dX7_deploy_137 (by decide) ?_
                      refine lv_goto (tgt := 142) hx hb dX7_deploy_138 (by decide) ?_
                      have tk9 : takes (S 15 (24 * cl x + k)) = 1 := by rw [takes, if_neg (fun h9 => i32_lt_nle c116 h9.2), if_pos (Or.inl c127)]
                      refine lv_istore (lv' := [(6, .int 1), (5, .int (S 15 (24 * cl x + k))), (0, .ref g), (1, .int x), (2, .int (S 6 (cl (S 5 0)))), (3, .int q), (4, .int (nI (24 * cl x + k)))]) hx hb dX7_deploy_142 hl (by decide) rfl (fun ls hl => ?_)
                      refine lv_iload_n hx hb dX7_deploy_144 rfl (lv_at hl 5 rfl) ?_
                      refine lv_iload hx hb dX7_deploy_145 (lv_at hl 0 rfl) ?_
                      refine lv_icmp_ge (tgt := 153) hx hb dX7_deploy_147 (by decide) (fun c147 => ?_) (fun c147 => ?_)
                      · rw [tk9, if_neg (fun h9 => i32_lt_nle h9 c147)] at hv
                        refine lv_iload_n hx hb dX7_deploy_153 rfl (lv_at hl 5 rfl) ?_
                        refine lv_iload hx hb dX7_deploy_154 (lv_at hl 1 rfl) ?_
                        refine lv_bipush (v := 7) hx hb dX7_deploy_156 (by decide) ?_
                        refine lv_icmp_ne (tgt := 165) hx hb dX7_deploy_158 (by decide) (fun c158 => ?_) (fun c158 => ?_)
                        · refine lv_iconst (v := 1) hx hb dX7_deploy_165 (by decide) ?_
                          refine lv_iload hx hb dX7_deploy_166 (lv_at hl 0 rfl) ?_
                          refine lv_isub hx hb dX7_deploy_168 ?_
                          refine lv_iadd hx hb dX7_deploy_169 ?_
                          refine lv_istore_n (lv' := [(3, .int (q + (1 - 1))), (6, .int 1), (5, .int (S 15 (24 * cl x + k))), (0, .ref g), (1, .int x), (2, .int (S 6 (cl (S 5 0)))), (4, .int (nI (24 * cl x + k)))]) hx hb dX7_deploy_170 rfl hl (by decide) rfl (fun ls hl => ?_)
                          refine lv_iinc (v := nI (24 * cl x + (k + 1))) (lv' := [(4, .int (nI (24 * cl x + (k + 1)))), (3, .int (q + (1 - 1))), (6, .int 1), (5, .int (S 15 (24 * cl x + k))), (0, .ref g), (1, .int x), (2, .int (S 6 (cl (S 5 0))))]) hx hb dX7_deploy_171 hl (k := 6) rfl (nI_s _) (by decide) rfl (fun ls hl => ?_)
                          refine lv_goto (tgt := 51) hx hb dX7_deploy_174 (by decide) ?_
                          exact ih (k + 1) _ _ _ _ (by omega) (by omega) (by rw [show j14 - (k + 1) = j14 - 1 - k from by omega]; rw [delta, if_neg c158, tk9] at hv; exact hv) hw  (lv_sub hl [4, 5, 6, 1, 0] rfl)
                        · refine lv_iconst (v := (-1)) hx hb dX7_deploy_161 (by decide) ?_
                          refine lv_goto (tgt := 169) hx hb dX7_deploy_162 (by decide) ?_
                          refine lv_iadd hx hb dX7_deploy_169 ?_
                          refine lv_istore_n (lv' := [(3, .int (q + ((-1)))), (6, .int 1), (5, .int (S 15 (24 * cl x + k))), (0, .ref g), (1, .int x), (2, .int (S 6 (cl (S 5 0)))), (4, .int (nI (24 * cl x + k)))]) hx hb dX7_deploy_170 rfl hl (by decide) rfl (fun ls hl => ?_)
                          refine lv_iinc (v := nI (24 * cl x + (k + 1))) (lv' := [(4, .int (nI (24 * cl x + (k + 1)))), (3, .int (q + ((-1)))), (6, .int 1), (5, .int (S 15 (24 * cl x + k))), (0, .ref g), (1, .int x), (2, .int (S 6 (cl (S 5 0))))]) hx hb dX7_deploy_171 hl (k := 6) rfl (nI_s _) (by decide) rfl (fun ls hl => ?_)
                          refine lv_goto (tgt := 51) hx hb dX7_deploy_174 (by decide) ?_
                          exact ih (k + 1) _ _ _ _ (by omega) (by omega) (by rw [show j14 - (k + 1) = j14 - 1 - k from by omega]; rw [delta, if_pos c158] at hv; exact hv) hw  (lv_sub hl [4, 5, 6, 1, 0] rfl)
                      · rw [tk9, if_pos (i32_nle c147)] at hv
                        refine lv_bipush (v := (-12)) hx hb dX7_deploy_150 (by decide) ?_
                        exact mm_iret hQ X hw (by have e9 : sp_deploy S x = ((-12), S) := (by rw [sp_deploy, if_neg (fun h9 => h9 c5), if_neg (fun h9 => h9 c18), if_neg c27, ← hv, if_pos (by decide)]); rw [e9]; exact ⟨rfl, _, hR⟩) (Nat.le_of_ble_eq_true rfl) (Nat.le_of_ble_eq_true rfl) dX7_deploy_152
                    · refine lv_iload hx hb dX7_deploy_130 (lv_at hl 0 rfl) ?_
                      refine lv_bipush (v := 7) hx hb dX7_deploy_132 (by decide) ?_
                      refine lv_icmp_ne (tgt := 141) hx hb dX7_deploy_134 (by decide) (fun c134 => ?_) (fun c134 => ?_)
                      · refine lv_iconst (v := 0) hx hb dX7_deploy_141 (by decide) ?_
                        have tk9 : takes (S 15 (24 * cl x + k)) = 0 := by rw [takes, if_neg (fun h9 => i32_lt_nle c116 h9.2), if_neg (fun h9 => h9.elim c127 c134)]
                        refine lv_istore (lv' := [(6, .int 0), (5, .int (S 15 (24 * cl x + k))), (0, .ref g), (1, .int x), (2, .int (S 6 (cl (S 5 0)))), (3, .int q), (4, .int (nI (24 * cl x + k)))]) hx hb dX7_deploy_142 hl (by decide) rfl (fun ls hl => ?_)
                        refine lv_iload_n hx hb dX7_deploy_144 rfl (lv_at hl 5 rfl) ?_
                        refine lv_iload hx hb dX7_deploy_145 (lv_at hl 0 rfl) ?_
                        refine lv_icmp_ge (tgt := 153) hx hb dX7_deploy_147 (by decide) (fun c147 => ?_) (fun c147 => ?_)
                        · rw [tk9, if_neg (fun h9 => i32_lt_nle h9 c147)] at hv
                          refine lv_iload_n hx hb dX7_deploy_153 rfl (lv_at hl 5 rfl) ?_
                          refine lv_iload hx hb dX7_deploy_154 (lv_at hl 1 rfl) ?_
                          refine lv_bipush (v := 7) hx hb dX7_deploy_156 (by decide) ?_
                          refine lv_icmp_ne (tgt := 165) hx hb dX7_deploy_158 (by decide) (fun c158 => ?_) (fun c158 => ?_)
                          · refine lv_iconst (v := 1) hx hb dX7_deploy_165 (by decide) ?_
                            refine lv_iload hx hb dX7_deploy_166 (lv_at hl 0 rfl) ?_
                            refine lv_isub hx hb dX7_deploy_168 ?_
                            refine lv_iadd hx hb dX7_deploy_169 ?_
                            refine lv_istore_n (lv' := [(3, .int (q + (1 - 0))), (6, .int 0), (5, .int (S 15 (24 * cl x + k))), (0, .ref g), (1, .int x), (2, .int (S 6 (cl (S 5 0)))), (4, .int (nI (24 * cl x + k)))]) hx hb dX7_deploy_170 rfl hl (by decide) rfl (fun ls hl => ?_)
                            refine lv_iinc (v := nI (24 * cl x + (k + 1))) (lv' := [(4, .int (nI (24 * cl x + (k + 1)))), (3, .int (q + (1 - 0))), (6, .int 0), (5, .int (S 15 (24 * cl x + k))), (0, .ref g), (1, .int x), (2, .int (S 6 (cl (S 5 0))))]) hx hb dX7_deploy_171 hl (k := 6) rfl (nI_s _) (by decide) rfl (fun ls hl => ?_)
                            refine lv_goto (tgt := 51) hx hb dX7_deploy_174 (by decide) ?_
                            exact ih (k + 1) _ _ _ _ (by omega) (by omega) (by rw [show j14 - (k + 1) = j14 - 1 - k from by omega]; rw [delta, if_neg c158, tk9] at hv; exact hv) hw  (lv_sub hl [4, 5, 6, 1, 0] rfl)
                          · refine lv_iconst (v := (-1)) hx hb dX7_deploy_161 (by decide) ?_
                            refine lv_goto (tgt := 169) hx hb dX7_deploy_162 (by decide) ?_
                            refine lv_iadd hx hb dX7_deploy_169 ?_
                            refine lv_istore_n (lv' := [(3, .int (q + ((-1)))), (6, .int 0), (5, .int (S 15 (24 * cl x + k))), (0, .ref g), (1, .int x), (2, .int (S 6 (cl (S 5 0)))), (4, .int (nI (24 * cl x + k)))]) hx hb dX7_deploy_170 rfl hl (by decide) rfl (fun ls hl => ?_)
                            refine lv_iinc (v := nI (24 * cl x + (k + 1))) (lv' := [(4, .int (nI (24 * cl x + (k + 1)))), (3, .int (q + ((-1)))), (6, .int 0), (5, .int (S 15 (24 * cl x + k))), (0, .ref g), (1, .int x), (2, .int (S 6 (cl (S 5 0))))]) hx hb dX7_deploy_171 hl (k := 6) rfl (nI_s _) (by decide) rfl (fun ls hl => ?_)
                            refine lv_goto (tgt := 51) hx hb dX7_deploy_174 (by decide) ?_
                            exact ih (k + 1) _ _ _ _ (by omega) (by omega) (by rw [show j14 - (k + 1) = j14 - 1 - k from by omega]; rw [delta, if_pos c158] at hv; exact hv) hw  (lv_sub hl [4, 5, 6, 1, 0] rfl)
                        · rw [tk9, if_pos (i32_nle c147)] at hv
                          refine lv_bipush (v := (-12)) hx hb dX7_deploy_150 (by decide) ?_
                          exact mm_iret hQ X hw (by have e9 : sp_deploy S x = ((-12), S) := (by rw [sp_deploy, if_neg (fun h9 => h9 c5), if_neg (fun h9 => h9 c18), if_neg c27, ← hv, if_pos (by decide)]); rw [e9]; exact ⟨rfl, _, hR⟩) (Nat.le_of_ble_eq_true rfl) (Nat.le_of_ble_eq_true rfl) dX7_deploy_152
                      · refine lv_iconst (v := 1) hx hb dX7_deploy_137 (by decide) ?_
                        refine lv_goto (tgt := 142) hx hb dX7_deploy_138 (by decide) ?_
                        have tk9 : takes (S 15 (24 * cl x + k)) = 1 := by rw [takes, if_neg (fun h9 => i32_lt_nle c116 h9.2), if_pos (Or.inr c134)]
                        refine lv_istore (lv' := [(6, .int 1), (5, .int (S 15 (24 * cl x + k))), (0, .ref g), (1, .int x), (2, .int (S 6 (cl (S 5 0)))), (3, .int q), (4, .int (nI (24 * cl x + k)))]) hx hb dX7_deploy_142 hl (by decide) rfl (fun ls hl => ?_)
                        refine lv_iload_n hx hb dX7_deploy_144 rfl (lv_at hl 5 rfl) ?_
                        refine lv_iload hx hb dX7_deploy_145 (lv_at hl 0 rfl) ?_
                        refine lv_icmp_ge (tgt := 153) hx hb dX7_deploy_147 (by decide) (fun c147 => ?_) (fun c147 => ?_)
                        · rw [tk9, if_neg (fun h9 => i32_lt_nle h9 c147)] at hv
                          refine lv_iload_n hx hb dX7_deploy_153 rfl (lv_at hl 5 rfl) ?_
                          refine lv_iload hx hb dX7_deploy_154 (lv_at hl 1 rfl) ?_
                          refine lv_bipush (v := 7) hx hb dX7_deploy_156 (by decide) ?_
                          refine lv_icmp_ne (tgt := 165) hx hb dX7_deploy_158 (by decide) (fun c158 => ?_) (fun c158 => ?_)
                          · refine lv_iconst (v := 1) hx hb dX7_deploy_165 (by decide) ?_
                            refine lv_iload hx hb dX7_deploy_166 (lv_at hl 0 rfl) ?_
                            refine lv_isub hx hb dX7_deploy_168 ?_
                            refine lv_iadd hx hb dX7_deploy_169 ?_
                            refine lv_istore_n (lv' := [(3, .int (q + (1 - 1))), (6, .int 1), (5, .int (S 15 (24 * cl x + k))), (0, .ref g), (1, .int x), (2, .int (S 6 (cl (S 5 0)))), (4, .int (nI (24 * cl x + k)))]) hx hb dX7_deploy_170 rfl hl (by decide) rfl (fun ls hl => ?_)
                            refine lv_iinc (v := nI (24 * cl x + (k + 1))) (lv' := [(4, .int (nI (24 * cl x + (k + 1)))), (3, .int (q + (1 - 1))), (6, .int 1), (5, .int (S 15 (24 * cl x + k))), (0, .ref g), (1, .int x), (2, .int (S 6 (cl (S 5 0))))]) hx hb dX7_deploy_171 hl (k := 6) rfl (nI_s _) (by decide) rfl (fun ls hl => ?_)
                            refine lv_goto (tgt := 51) hx hb dX7_deploy_174 (by decide) ?_
                            exact ih (k + 1) _ _ _ _ (by omega) (by omega) (by rw [show j14 - (k + 1) = j14 - 1 - k from by omega]; rw [delta, if_neg c158, tk9] at hv; exact hv) hw  (lv_sub hl [4, 5, 6, 1, 0] rfl)
                          · refine lv_iconst (v := (-1)) hx hb dX7_deploy_161 (by decide) ?_
                            refine lv_goto (tgt := 169) hx hb dX7_deploy_162 (by decide) ?_
                            refine lv_iadd hx hb dX7_deploy_169 ?_
                            refine lv_istore_n (lv' := [(3, .int (q + ((-1)))), (6, .int 1), (5, .int (S 15 (24 * cl x + k))), (0, .ref g), (1, .int x), (2, .int (S 6 (cl (S 5 0)))), (4, .int (nI (24 * cl x + k)))]) hx hb dX7_deploy_170 rfl hl (by decide) rfl (fun ls hl => ?_)
                            refine lv_iinc (v := nI (24 * cl x + (k + 1))) (lv' := [(4, .int (nI (24 * cl x + (k + 1)))), (3, .int (q + ((-1)))), (6, .int 1), (5, .int (S 15 (24 * cl x + k))), (0, .ref g), (1, .int x), (2, .int (S 6 (cl (S 5 0))))]) hx hb dX7_deploy_171 hl (k := 6) rfl (nI_s _) (by decide) rfl (fun ls hl => ?_)
                            refine lv_goto (tgt := 51) hx hb dX7_deploy_174 (by decide) ?_
                            exact ih (k + 1) _ _ _ _ (by omega) (by omega) (by rw [show j14 - (k + 1) = j14 - 1 - k from by omega]; rw [delta, if_pos c158] at hv; exact hv) hw  (lv_sub hl [4, 5, 6, 1, 0] rfl)
                        · rw [tk9, if_pos (i32_nle c147)] at hv
                          refine lv_bipush (v := (-12)) hx hb dX7_deploy_150 (by decide) ?_
                          exact mm_iret hQ X hw (by have e9 : sp_deploy S x = ((-12), S) := (by rw [sp_deploy, if_neg (fun h9 => h9 c5), if_neg (fun h9 => h9 c18), if_neg c27, ← hv, if_pos (by decide)]); rw [e9]; exact ⟨rfl, _, hR⟩) (Nat.le_of_ble_eq_true rfl) (Nat.le_of_ble_eq_true rfl) dX7_deploy_152
                  · refine lv_iconst (v := 2) hx hb dX7_deploy_119 (by decide) ?_
                    refine lv_goto (tgt := 142) hx hb dX7_deploy_120 (by decide) ?_
                    have tk9 : takes (S 15 (24 * cl x + k)) = 2 := by rw [takes, if_pos ⟨i32_nlt c110, i32_nlt c116⟩]
                    refine lv_istore (lv' := [(6, .int 2), (5, .int (S 15 (24 * cl x + k))), (0, .ref g), (1, .int x), (2, .int (S 6 (cl (S 5 0)))), (3, .int q), (4, .int (nI (24 * cl x + k)))]) hx hb dX7_deploy_142 hl (by decide) rfl (fun ls hl => ?_)
                    refine lv_iload_n hx hb dX7_deploy_144 rfl (lv_at hl 5 rfl) ?_
                    refine lv_iload hx hb dX7_deploy_145 (lv_at hl 0 rfl) ?_
                    refine lv_icmp_ge (tgt := 153) hx hb dX7_deploy_147 (by decide) (fun c147 => ?_) (fun c147 => ?_)
                    · rw [tk9, if_neg (fun h9 => i32_lt_nle h9 c147)] at hv
                      refine lv_iload_n hx hb dX7_deploy_153 rfl (lv_at hl 5 rfl) ?_
                      refine lv_iload hx hb dX7_deploy_154 (lv_at hl 1 rfl) ?_
                      refine lv_bipush (v := 7) hx hb dX7_deploy_156 (by decide) ?_
                      refine lv_icmp_ne (tgt := 165) hx hb dX7_deploy_158 (by decide) (fun c158 => ?_) (fun c158 => ?_)
                      · refine lv_iconst (v := 1) hx hb dX7_deploy_165 (by decide) ?_
                        refine lv_iload hx hb dX7_deploy_166 (lv_at hl 0 rfl) ?_
                        refine lv_isub hx hb dX7_deploy_168 ?_
                        refine lv_iadd hx hb dX7_deploy_169 ?_
                        refine lv_istore_n (lv' := [(3, .int (q + (1 - 2))), (6, .int 2), (5, .int (S 15 (24 * cl x + k))), (0, .ref g), (1, .int x), (2, .int (S 6 (cl (S 5 0)))), (4, .int (nI (24 * cl x + k)))]) hx hb dX7_deploy_170 rfl hl (by decide) rfl (fun ls hl => ?_)
                        refine lv_iinc (v := nI (24 * cl x + (k + 1))) (lv' := [(4, .int (nI (24 * cl x + (k + 1)))), (3, .int (q + (1 - 2))), (6, .int 2), (5, .int (S 15 (24 * cl x + k))), (0, .ref g), (1, .int x), (2, .int (S 6 (cl (S 5 0))))]) hx hb dX7_deploy_171 hl (k := 6) rfl (nI_s _) (by decide) rfl (fun ls hl => ?_)
                        refine lv_goto (tgt := 51) hx hb dX7_deploy_174 (by decide) ?_
                        exact ih (k + 1) _ _ _ _ (by omega) (by omega) (by rw [show j14 - (k + 1) = j14 - 1 - k from by omega]; rw [delta, if_neg c158, tk9] at hv; exact hv) hw  (lv_sub hl [4, 5, 6, 1, 0] rfl)
                      · refine lv_iconst (v := (-1)) hx hb dX7_deploy_161 (by decide) ?_
                        refine lv_goto (tgt := 169) hx hb dX7_deploy_162 (by decide) ?_
                        refine lv_iadd hx hb dX7_deploy_169 ?_
                        refine lv_istore_n (lv' := [(3, .int (q + ((-1)))), (6, .int 2), (5, .int (S 15 (24 * cl x + k))), (0, .ref g), (1, .int x), (2, .int (S 6 (cl (S 5 0)))), (4, .int (nI (24 * cl x + k)))]) hx hb dX7_deploy_170 rfl hl (by decide) rfl (fun ls hl => ?_)
                        refine lv_iinc (v := nI (24 * cl x + (k + 1))) (lv' := [(4, .int (nI (24 * cl x + (k + 1)))), (3, .int (q + ((-1)))), (6, .int 2), (5, .int (S 15 (24 * cl x + k))), (0, .ref g), (1, .int x), (2, .int (S 6 (cl (S 5 0))))]) hx hb dX7_deploy_171 hl (k := 6) rfl (nI_s _) (by decide) rfl (fun ls hl => ?_)
                        refine lv_goto (tgt := 51) hx hb dX7_deploy_174 (by decide) ?_
                        exact ih (k + 1) _ _ _ _ (by omega) (by omega) (by rw [show j14 - (k + 1) = j14 - 1 - k from by omega]; rw [delta, if_pos c158] at hv; exact hv) hw  (lv_sub hl [4, 5, 6, 1, 0] rfl)
                    · rw [tk9, if_pos (i32_nle c147)] at hv
                      refine lv_bipush (v := (-12)) hx hb dX7_deploy_150 (by decide) ?_
                      exact mm_iret hQ X hw (by have e9 : sp_deploy S x = ((-12), S) := (by rw [sp_deploy, if_neg (fun h9 => h9 c5), if_neg (fun h9 => h9 c18), if_neg c27, ← hv, if_pos (by decide)]); rw [e9]; exact ⟨rfl, _, hR⟩) (Nat.le_of_ble_eq_true rfl) (Nat.le_of_ble_eq_true rfl) dX7_deploy_152
              · obtain ⟨a0, ha0, ea0, hb6, -⟩ := hA k hk9
                have ha6 : a0 = 6 := nI_inj (by omega) (by decide) (ea0.symm.trans c80)
                obtain ⟨b0, hb0, eb0⟩ := hb6 ha6
                have p16 : 0 ≤ S 16 (24 * cl x + k) := by rw [eb0]; exact nI_pos' (by omega)
                have b16 : cl (S 16 (24 * cl x + k)) = b0 := by rw [eb0, cl_n (by omega)]
                refine lv_aload_n hx hb dX7_deploy_83 rfl (lv_at hl 1 rfl) ?_
                refine rg_17 X hw hR dX7_deploy_84 ?_
                refine lv_bipush (v := 8) hx hb dX7_deploy_87 (by decide) ?_
                refine lv_iload_n hx hb dX7_deploy_89 rfl (lv_at hl 3 rfl) ?_
                refine lv_imul hx hb dX7_deploy_90 ?_
                refine lv_aload_n hx hb dX7_deploy_91 rfl (lv_at hl 1 rfl) ?_
                refine rg_51 X hw hR dX7_deploy_92 ?_
                refine lv_iload hx hb dX7_deploy_95 (lv_at hl 5 rfl) ?_
                refine ri_iald X hw hR 16 rfl (24 * cl x + k) (rfl) (by omega) dX7_deploy_97 ?_
                refine lv_iadd hx hb dX7_deploy_98 ?_
                refine ri_iald X hw hR 2 rfl (8 * cl (S 6 (cl (S 5 0))) + cl (S 16 (24 * cl x + k))) (jx 8 pe p16) (by omega) dX7_deploy_99 ?_
                refine lv_iconst (v := (-1)) hx hb dX7_deploy_100 (by decide) ?_
                refine lv_icmp_ne (tgt := 107) hx hb dX7_deploy_101 (by decide) (fun c101 => ?_) (fun c101 => ?_)
                · rw [if_neg (fun h9 => c101 h9.2)] at hv
                  refine lv_iload hx hb dX7_deploy_107 (lv_at hl 0 rfl) ?_
                  refine lv_iconst (v := 2) hx hb dX7_deploy_109 (by decide) ?_
                  refine lv_icmp_lt (tgt := 123) hx hb dX7_deploy_110 (by decide) (fun c110 => ?_) (fun c110 => ?_)
                  · refine lv_iload hx hb dX7_deploy_123 (lv_at hl 0 rfl) ?_
                    refine lv_bipush (v := 6) hx hb dX7_deploy_125 (by decide) ?_
                    refine lv_icmp_eq (tgt := 137) hx hb dX7_deploy_127 (by decide) (fun c127 => ?_) (fun c127 => ?_)
                    · refine lv_iconst (v := 1) hx hb dX7_deploy_137 (by decide) ?_
                      refine lv_goto (tgt := 142) hx hb dX7_deploy_138 (by decide) ?_
                      have tk9 : takes (S 15 (24 * cl x + k)) = 1 := by rw [takes, if_neg (fun h9 => i32_lt_nle c110 h9.1), if_pos (Or.inl c127)]
                      refine lv_istore (lv' := [(6, .int 1), (5, .int (S 15 (24 * cl x + k))), (0, .ref g), (1, .int x), (2, .int (S 6 (cl (S 5 0)))), (3, .int q), (4, .int (nI (24 * cl x + k)))]) hx hb dX7_deploy_142 hl (by decide) rfl (fun ls hl => ?_)
                      refine lv_iload_n hx hb dX7_deploy_144 rfl (lv_at hl 5 rfl) ?_
                      refine lv_iload hx hb dX7_deploy_145 (lv_at hl 0 rfl) ?_
                      refine lv_icmp_ge (tgt := 153) hx hb dX7_deploy_147 (by decide) (fun c147 => ?_) (fun c147 => ?_)
                      · rw [tk9, if_neg (fun h9 => i32_lt_nle h9 c147)] at hv
                        refine lv_iload_n hx hb dX7_deploy_153 rfl (lv_at hl 5 rfl) ?_
                        refine lv_iload hx hb dX7_deploy_154 (lv_at hl 1 rfl) ?_
                        refine lv_bipush (v := 7) hx hb dX7_deploy_156 (by decide) ?_
                        refine lv_icmp_ne (tgt := 165) hx hb dX7_deploy_158 (by decide) (fun c158 => ?_) (fun c158 => ?_)
                        · refine lv_iconst (v := 1) hx hb dX7_deploy_165 (by decide) ?_
                          refine lv_iload hx hb dX7_deploy_166 (lv_at hl 0 rfl) ?_
                          refine lv_isub hx hb dX7_deploy_168 ?_
                          refine lv_iadd hx hb dX7_deploy_169 ?_
                          refine lv_istore_n (lv' := [(3, .int (q + (1 - 1))), (6, .int 1), (5, .int (S 15 (24 * cl x + k))), (0, .ref g), (1, .int x), (2, .int (S 6 (cl (S 5 0)))), (4, .int (nI (24 * cl x + k)))]) hx hb dX7_deploy_170 rfl hl (by decide) rfl (fun ls hl => ?_)
                          refine lv_iinc (v := nI (24 * cl x + (k + 1))) (lv' := [(4, .int (nI (24 * cl x + (k + 1)))), (3, .int (q + (1 - 1))), (6, .int 1), (5, .int (S 15 (24 * cl x + k))), (0, .ref g), (1, .int x), (2, .int (S 6 (cl (S 5 0))))]) hx hb dX7_deploy_171 hl (k := 6) rfl (nI_s _) (by decide) rfl (fun ls hl => ?_)
                          refine lv_goto (tgt := 51) hx hb dX7_deploy_174 (by decide) ?_
                          exact ih (k + 1) _ _ _ _ (by omega) (by omega) (by rw [show j14 - (k + 1) = j14 - 1 - k from by omega]; rw [delta, if_neg c158, tk9] at hv; exact hv) hw  (lv_sub hl [4, 5, 6, 1, 0] rfl)
                        · refine lv_iconst (v := (-1)) hx hb dX7_deploy_161 (by decide) ?_
                          refine lv_goto (tgt := 169) hx hb dX7_deploy_162 (by decide) ?_
                          refine lv_iadd hx hb dX7_deploy_169 ?_
                          refine lv_istore_n (lv' := [(3, .int (q + ((-1)))), (6, .int 1), (5, .int (S 15 (24 * cl x + k))), (0, .ref g), (1, .int x), (2, .int (S 6 (cl (S 5 0)))), (4, .int (nI (24 * cl x + k)))]) hx hb dX7_deploy_170 rfl hl (by decide) rfl (fun ls hl => ?_)
                          refine lv_iinc (v := nI (24 * cl x + (k + 1))) (lv' := [(4, .int (nI (24 * cl x + (k + 1)))), (3, .int (q + ((-1)))), (6, .int 1), (5, .int (S 15 (24 * cl x + k))), (0, .ref g), (1, .int x), (2, .int (S 6 (cl (S 5 0))))]) hx hb dX7_deploy_171 hl (k := 6) rfl (nI_s _) (by decide) rfl (fun ls hl => ?_)
                          refine lv_goto (tgt := 51) hx hb dX7_deploy_174 (by decide) ?_
                          exact ih (k + 1) _ _ _ _ (by omega) (by omega) (by rw [show j14 - (k + 1) = j14 - 1 - k from by omega]; rw [delta, if_pos c158] at hv; exact hv) hw  (lv_sub hl [4, 5, 6, 1, 0] rfl)
                      · rw [tk9, if_pos (i32_nle c147)] at hv
                        refine lv_bipush (v := (-12)) hx hb dX7_deploy_150 (by decide) ?_
                        exact mm_iret hQ X hw (by have e9 : sp_deploy S x = ((-12), S) := (by rw [sp_deploy, if_neg (fun h9 => h9 c5), if_neg (fun h9 => h9 c18), if_neg c27, ← hv, if_pos (by decide)]); rw [e9]; exact ⟨rfl, _, hR⟩) (Nat.le_of_ble_eq_true rfl) (Nat.le_of_ble_eq_true rfl) dX7_deploy_152
                    · refine lv_iload hx hb dX7_deploy_130 (lv_at hl 0 rfl) ?_
                      refine lv_bipush (v := 7) hx hb dX7_deploy_132 (by decide) ?_
                      refine lv_icmp_ne (tgt := 141) hx hb dX7_deploy_134 (by decide) (fun c134 => ?_) (fun c134 => ?_)
                      · refine lv_iconst (v := 0) hx hb dX7_deploy_141 (by decide) ?_
                        have tk9 : takes (S 15 (24 * cl x + k)) = 0 := by rw [takes, if_neg (fun h9 => i32_lt_nle c110 h9.1), if_neg (fun h9 => h9.elim c127 c134)]
                        refine lv_istore (lv' := [(6, .int 0), (5, .int (S 15 (24 * cl x + k))), (0, .ref g), (1, .int x), (2, .int (S 6 (cl (S 5 0)))), (3, .int q), (4, .int (nI (24 * cl x + k)))]) hx hb dX7_deploy_142 hl (by decide) rfl (fun ls hl => ?_)
                        refine lv_iload_n hx hb dX7_deploy_144 rfl (lv_at hl 5 rfl) ?_
                        refine lv_iload hx hb dX7_deploy_145 (lv_at hl 0 rfl) ?_
                        refine lv_icmp_ge (tgt := 153) hx hb dX7_deploy_147 (by decide) (fun c147 => ?_) (fun c147 => ?_)
                        · rw [tk9, if_neg (fun h9 => i32_lt_nle h9 c147)] at hv
                          refine lv_iload_n hx hb dX7_deploy_153 rfl (lv_at hl 5 rfl) ?_
                          refine lv_iload hx hb dX7_deploy_154 (lv_at hl 1 rfl) ?_
                          refine lv_bipush (v := 7) hx hb dX7_deploy_156 (by decide) ?_
                          refine lv_icmp_ne (tgt := 165) hx hb dX7_deploy_158 (by decide) (fun c158 => ?_) (fun c158 => ?_)
                          · refine lv_iconst (v := 1) hx hb dX7_deploy_165 (by decide) ?_
                            refine lv_iload hx hb dX7_deploy_166 (lv_at hl 0 rfl) ?_
                            refine lv_isub hx hb dX7_deploy_168 ?_
                            refine lv_iadd hx hb dX7_deploy_169 ?_
                            refine lv_istore_n (lv' := [(3, .int (q + (1 - 0))), (6, .int 0), (5, .int (S 15 (24 * cl x + k))), (0, .ref g), (1, .int x), (2, .int (S 6 (cl (S 5 0)))), (4, .int (nI (24 * cl x + k)))]) hx hb dX7_deploy_170 rfl hl (by decide) rfl (fun ls hl => ?_)
                            refine lv_iinc (v := nI (24 * cl x + (k + 1))) (lv' := [(4, .int (nI (24 * cl x + (k + 1)))), (3, .int (q + (1 - 0))), (6, .int 0), (5, .int (S 15 (24 * cl x + k))), (0, .ref g), (1, .int x), (2, .int (S 6 (cl (S 5 0))))]) hx hb dX7_deploy_171 hl (k := 6) rfl (nI_s _) (by decide) rfl (fun ls hl => ?_)
                            refine lv_goto (tgt := 51) hx hb dX7_deploy_174 (by decide) ?_
                            exact ih (k + 1) _ _ _ _ (by omega) (by omega) (by rw [show j14 - (k + 1) = j14 - 1 - k from by omega]; rw [delta, if_neg c158, tk9] at hv; exact hv) hw  (lv_sub hl [4, 5, 6, 1, 0] rfl)
                          · refine lv_iconst (v := (-1)) hx hb dX7_deploy_161 (by decide) ?_
                            refine lv_goto (tgt := 169) hx hb dX7_deploy_162 (by decide) ?_
                            refine lv_iadd hx hb dX7_deploy_169 ?_
                            refine lv_istore_n (lv' := [(3, .int (q + ((-1)))), (6, .int 0), (5, .int (S 15 (24 * cl x + k))), (0, .ref g), (1, .int x), (2, .int (S 6 (cl (S 5 0)))), (4, .int (nI (24 * cl x + k)))]) hx hb dX7_deploy_170 rfl hl (by decide) rfl (fun ls hl => ?_)
                            refine lv_iinc (v := nI (24 * cl x + (k + 1))) (lv' := [(4, .int (nI (24 * cl x + (k + 1)))), (3, .int (q + ((-1)))), (6, .int 0), (5, .int (S 15 (24 * cl x + k))), (0, .ref g), (1, .int x), (2, .int (S 6 (cl (S 5 0))))]) hx hb dX7_deploy_171 hl (k := 6) rfl (nI_s _) (by decide) rfl (fun ls hl => ?_)
                            refine lv_goto (tgt := 51) hx hb dX7_deploy_174 (by decide) ?_
                            exact ih (k + 1) _ _ _ _ (by omega) (by omega) (by rw [show j14 - (k + 1) = j14 - 1 - k from by omega]; rw [delta, if_pos c158] at hv; exact hv) hw  (lv_sub hl [4, 5, 6, 1, 0] rfl)
                        · rw [tk9, if_pos (i32_nle c147)] at hv
                          refine lv_bipush (v := (-12)) hx hb dX7_deploy_150 (by decide) ?_
                          exact mm_iret hQ X hw (by have e9 : sp_deploy S x = ((-12), S) := (by rw [sp_deploy, if_neg (fun h9 => h9 c5), if_neg (fun h9 => h9 c18), if_neg c27, ← hv, if_pos (by decide)]); rw [e9]; exact ⟨rfl, _, hR⟩) (Nat.le_of_ble_eq_true rfl) (Nat.le_of_ble_eq_true rfl) dX7_deploy_152
                      · refine lv_iconst (v := 1) hx hb dX7_deploy_137 (by decide) ?_
                        refine lv_goto (tgt := 142) hx hb dX7_deploy_138 (by decide) ?_
                        have tk9 : takes (S 15 (24 * cl x + k)) = 1 := by rw [takes, if_neg (fun h9 => i32_lt_nle c110 h9.1), if_pos (Or.inr c134)]
                        refine lv_istore (lv' := [(6, .int 1), (5, .int (S 15 (24 * cl x + k))), (0, .ref g), (1, .int x), (2, .int (S 6 (cl (S 5 0)))), (3, .int q), (4, .int (nI (24 * cl x + k)))]) hx hb dX7_deploy_142 hl (by decide) rfl (fun ls hl => ?_)
                        refine lv_iload_n hx hb dX7_deploy_144 rfl (lv_at hl 5 rfl) ?_
                        refine lv_iload hx hb dX7_deploy_145 (lv_at hl 0 rfl) ?_
                        refine lv_icmp_ge (tgt := 153) hx hb dX7_deploy_147 (by decide) (fun c147 => ?_) (fun c147 => ?_)
                        · rw [tk9, if_neg (fun h9 => i32_lt_nle h9 c147)] at hv
                          refine lv_iload_n hx hb dX7_deploy_153 rfl (lv_at hl 5 rfl) ?_
                          refine lv_iload hx hb dX7_deploy_154 (lv_at hl 1 rfl) ?_
                          refine lv_bipush (v := 7) hx hb dX7_deploy_156 (by decide) ?_
                          refine lv_icmp_ne (tgt := 165) hx hb dX7_deploy_158 (by decide) (fun c158 => ?_) (fun c158 => ?_)
                          · refine lv_iconst (v := 1) hx hb dX7_deploy_165 (by decide) ?_
                            refine lv_iload hx hb dX7_deploy_166 (lv_at hl 0 rfl) ?_
                            refine lv_isub hx hb dX7_deploy_168 ?_
                            refine lv_iadd hx hb dX7_deploy_169 ?_
                            refine lv_istore_n (lv' := [(3, .int (q + (1 - 1))), (6, .int 1), (5, .int (S 15 (24 * cl x + k))), (0, .ref g), (1, .int x), (2, .int (S 6 (cl (S 5 0)))), (4, .int (nI (24 * cl x + k)))]) hx hb dX7_deploy_170 rfl hl (by decide) rfl (fun ls hl => ?_)
                            refine lv_iinc (v := nI (24 * cl x + (k + 1))) (lv' := [(4, .int (nI (24 * cl x + (k + 1)))), (3, .int (q + (1 - 1))), (6, .int 1), (5, .int (S 15 (24 * cl x + k))), (0, .ref g), (1, .int x), (2, .int (S 6 (cl (S 5 0))))]) hx hb dX7_deploy_171 hl (k := 6) rfl (nI_s _) (by decide) rfl (fun ls hl => ?_)
                            refine lv_goto (tgt := 51) hx hb dX7_deploy_174 (by decide) ?_
                            exact ih (k + 1) _ _ _ _ (by omega) (by omega) (by rw [show j14 - (k + 1) = j14 - 1 - k from by omega]; rw [delta, if_neg c158, tk9] at hv; exact hv) hw  (lv_sub hl [4, 5, 6, 1, 0] rfl)
                          · refine lv_iconst (v := (-1)) hx hb dX7_deploy_161 (by decide) ?_
                            refine lv_goto (tgt := 169) hx hb dX7_deploy_162 (by decide) ?_
                            refine lv_iadd hx hb dX7_deploy_169 ?_
                            refine lv_istore_n (lv' := [(3, .int (q + ((-1)))), (6, .int 1), (5, .int (S 15 (24 * cl x + k))), (0, .ref g), (1, .int x), (2, .int (S 6 (cl (S 5 0)))), (4, .int (nI (24 * cl x + k)))]) hx hb dX7_deploy_170 rfl hl (by decide) rfl (fun ls hl => ?_)
                            refine lv_iinc (v := nI (24 * cl x + (k + 1))) (lv' := [(4, .int (nI (24 * cl x + (k + 1)))), (3, .int (q + ((-1)))), (6, .int 1), (5, .int (S 15 (24 * cl x + k))), (0, .ref g), (1, .int x), (2, .int (S 6 (cl (S 5 0))))]) hx hb dX7_deploy_171 hl (k := 6) rfl (nI_s _) (by decide) rfl (fun ls hl => ?_)
                            refine lv_goto (tgt := 51) hx hb dX7_deploy_174 (by decide) ?_
                            exact ih (k + 1) _ _ _ _ (by omega) (by omega) (by rw [show j14 - (k + 1) = j14 - 1 - k from by omega]; rw [delta, if_pos c158] at hv; exact hv) hw  (lv_sub hl [4, 5, 6, 1, 0] rfl)
                        · rw [tk9, if_pos (i32_nle c147)] at hv
                          refine lv_bipush (v := (-12)) hx hb dX7_deploy_150 (by decide) ?_
                          exact mm_iret hQ X hw (by have e9 : sp_deploy S x = ((-12), S) := (by rw [sp_deploy, if_neg (fun h9 => h9 c5), if_neg (fun h9 => h9 c18), if_neg c27, ← hv, if_pos (by decide)]); rw [e9]; exact ⟨rfl, _, hR⟩) (Nat.le_of_ble_eq_true rfl) (Nat.le_of_ble_eq_true rfl) dX7_deploy_152
                  · refine lv_iload hx hb dX7_deploy_113 (lv_at hl 0 rfl) ?_
                    refine lv_iconst (v := 5) hx hb dX7_deploy_115 (by decide) ?_
                    refine lv_icmp_gt (tgt := 123) hx hb dX7_deploy_116 (by decide) (fun c116 => ?_) (fun c116 => ?_)
                    · refine lv_iload hx hb dX7_deploy_123 (lv_at hl 0 rfl) ?_
                      refine lv_bipush (v := 6) hx hb dX7_deploy_125 (by decide) ?_
                      refine lv_icmp_eq (tgt := 137) hx hb dX7_deploy_127 (by decide) (fun c127 => ?_) (fun c127 => ?_)
                      · refine lv_iconst (v := 1) hx hb dX7_deploy_137 (by decide) ?_
                        refine lv_goto (tgt := 142) hx hb dX7_deploy_138 (by decide) ?_
                        have tk9 : takes (S 15 (24 * cl x + k)) = 1 := by rw [takes, if_neg (fun h9 => i32_lt_nle c116 h9.2), if_pos (Or.inl c127)]
                        refine lv_istore (lv' := [(6, .int 1), (5, .int (S 15 (24 * cl x + k))), (0, .ref g), (1, .int x), (2, .int (S 6 (cl (S 5 0)))), (3, .int q), (4, .int (nI (24 * cl x + k)))]) hx hb dX7_deploy_142 hl (by decide) rfl (fun ls hl => ?_)
                        refine lv_iload_n hx hb dX7_deploy_144 rfl (lv_at hl 5 rfl) ?_
                        refine lv_iload hx hb dX7_deploy_145 (lv_at hl 0 rfl) ?_
                        refine lv_icmp_ge (tgt := 153) hx hb dX7_deploy_147 (by decide) (fun c147 => ?_) (fun c147 => ?_)
                        · rw [tk9, if_neg (fun h9 => i32_lt_nle h9 c147)] at hv
                          refine lv_iload_n hx hb dX7_deploy_153 rfl (lv_at hl 5 rfl) ?_
                          refine lv_iload hx hb dX7_deploy_154 (lv_at hl 1 rfl) ?_
                          refine lv_bipush (v := 7) hx hb dX7_deploy_156 (by decide) ?_
                          refine lv_icmp_ne (tgt := 165) hx hb dX7_deploy_158 (by decide) (fun c158 => ?_) (fun c158 => ?_)
                          · refine lv_iconst (v := 1) hx hb dX7_deploy_165 (by decide) ?_
                            refine lv_iload hx hb dX7_deploy_166 (lv_at hl 0 rfl) ?_
                            refine lv_isub hx hb dX7_deploy_168 ?_
                            refine lv_iadd hx hb dX7_deploy_169 ?_
                            refine lv_istore_n (lv' := [(3, .int (q + (1 - 1))), (6, .int 1), (5, .int (S 15 (24 * cl x + k))), (0, .ref g), (1, .int x), (2, .int (S 6 (cl (S 5 0)))), (4, .int (nI (24 * cl x + k)))]) hx hb dX7_deploy_170 rfl hl (by decide) rfl (fun ls hl => ?_)
                            refine lv_iinc (v := nI (24 * cl x + (k + 1))) (lv' := [(4, .int (nI (24 * cl x + (k + 1)))), (3, .int (q + (1 - 1))), (6, .int 1), (5, .int (S 15 (24 * cl x + k))), (0, .ref g), (1, .int x), (2, .int (S 6 (cl (S 5 0))))]) hx hb dX7_deploy_171 hl (k := 6) rfl (nI_s _) (by decide) rfl (fun ls hl => ?_)
                            refine lv_goto (tgt := 51) hx hb dX7_deploy_174 (by decide) ?_
                            exact ih (k + 1) _ _ _ _ (by omega) (by omega) (by rw [show j14 - (k + 1) = j14 - 1 - k from by omega]; rw [delta, if_neg c158, tk9] at hv; exact hv) hw  (lv_sub hl [4, 5, 6, 1, 0] rfl)
                          · refine lv_iconst (v := (-1)) hx hb dX7_deploy_161 (by decide) ?_
                            refine lv_goto (tgt := 169) hx hb dX7_deploy_162 (by decide) ?_
                            refine lv_iadd hx hb dX7_deploy_169 ?_
                            refine lv_istore_n (lv' := [(3, .int (q + ((-1)))), (6, .int 1), (5, .int (S 15 (24 * cl x + k))), (0, .ref g), (1, .int x), (2, .int (S 6 (cl (S 5 0)))), (4, .int (nI (24 * cl x + k)))]) hx hb dX7_deploy_170 rfl hl (by decide) rfl (fun ls hl => ?_)
                            refine lv_iinc (v := nI (24 * cl x + (k + 1))) (lv' := [(4, .int (nI (24 * cl x + (k + 1)))), (3, .int (q + ((-1)))), (6, .int 1), (5, .int (S 15 (24 * cl x + k))), (0, .ref g), (1, .int x), (2, .int (S 6 (cl (S 5 0))))]) hx hb dX7_deploy_171 hl (k := 6) rfl (nI_s _) (by decide) rfl (fun ls hl => ?_)
                            refine lv_goto (tgt := 51) hx hb dX7_deploy_174 (by decide) ?_
                            exact ih (k + 1) _ _ _ _ (by omega) (by omega) (by rw [show j14 - (k + 1) = j14 - 1 - k from by omega]; rw [delta, if_pos c158] at hv; exact hv) hw  (lv_sub hl [4, 5, 6, 1, 0] rfl)
                        · rw [tk9, if_pos (i32_nle c147)] at hv
                          refine lv_bipush (v := (-12)) hx hb dX7_deploy_150 (by decide) ?_
                          exact mm_iret hQ X hw (by have e9 : sp_deploy S x = ((-12), S) := (by rw [sp_deploy, if_neg (fun h9 => h9 c5), if_neg (fun h9 => h9 c18), if_neg c27, ← hv, if_pos (by decide)]); rw [e9]; exact ⟨rfl, _, hR⟩) (Nat.le_of_ble_eq_true rfl) (Nat.le_of_ble_eq_true rfl) dX7_deploy_152
                      · refine lv_iload hx hb dX7_deploy_130 (lv_at hl 0 rfl) ?_
                        refine lv_bipush (v := 7) hx hb dX7_deploy_132 (by decide) ?_
                        refine lv_icmp_ne (tgt := 141) hx hb dX7_deploy_134 (by decide) (fun c134 => ?_) (fun c134 => ?_)
                        · refine lv_iconst (v := 0) hx hb dX7_deploy_141 (by decide) ?_
                          have tk9 : takes (S 15 (24 * cl x + k)) = 0 := by rw [takes, if_neg (fun h9 => i32_lt_nle c116 h9.2), if_neg (fun h9 => h9.elim c127 c134)]
                          refine lv_istore (lv' := [(6, .int 0), (5, .int (S 15 (24 * cl x + k))), (0, .ref g), (1, .int x), (2, .int (S 6 (cl (S 5 0)))), (3, .int q), (4, .int (nI (24 * cl x + k)))]) hx hb dX7_deploy_142 hl (by decide) rfl (fun ls hl => ?_)
                          refine lv_iload_n hx hb dX7_deploy_144 rfl (lv_at hl 5 rfl) ?_
                          refine lv_iload hx hb dX7_deploy_145 (lv_at hl 0 rfl) ?_
                          refine lv_icmp_ge (tgt := 153) hx hb dX7_deploy_147 (by decide) (fun c147 => ?_) (fun c147 => ?_)
                          · rw [tk9, if_neg (fun h9 => i32_lt_nle h9 c147)] at hv
                            refine lv_iload_n hx hb dX7_deploy_153 rfl (lv_at hl 5 rfl) ?_
                            refine lv_iload hx hb dX7_deploy_154 (lv_at hl 1 rfl) ?_
                            refine lv_bipush (v := 7) hx hb dX7_deploy_156 (by decide) ?_
                            refine lv_icmp_ne (tgt := 165) hx hb dX7_deploy_158 (by decide) (fun c158 => ?_) (fun c158 => ?_)
                            · refine lv_iconst (v := 1) hx hb dX7_deploy_165 (by decide) ?_
                              refine lv_iload hx hb dX7_deploy_166 (lv_at hl 0 rfl) ?_
                              refine lv_isub hx hb dX7_deploy_168 ?_
                              refine lv_iadd hx hb dX7_deploy_169 ?_
                              refine lv_istore_n (lv' := [(3, .int (q + (1 - 0))), (6, .int 0), (5, .int (S 15 (24 * cl x + k))), (0, .ref g), (1, .int x), (2, .int (S 6 (cl (S 5 0)))), (4, .int (nI (24 * cl x + k)))]) hx hb dX7_deploy_170 rfl hl (by decide) rfl (fun ls hl => ?_)
                              refine lv_iinc (v := nI (24 * cl x + (k + 1))) (lv' := [(4, .int (nI (24 * cl x + (k + 1)))), (3, .int (q + (1 - 0))), (6, .int 0), (5, .int (S 15 (24 * cl x + k))), (0, .ref g), (1, .int x), (2, .int (S 6 (cl (S 5 0))))]) hx hb dX7_deploy_171 hl (k := 6) rfl (nI_s _) (by decide) rfl (fun ls hl => ?_)
                              refine lv_goto (tgt := 51) hx hb dX7_deploy_174 (by decide) ?_
                              exact ih (k + 1) _ _ _ _ (by omega) (by omega) (by rw [show j14 - (k + 1) = j14 - 1 - k from by omega]; rw [delta, if_neg c158, tk9] at hv; exact hv) hw  (lv_sub hl [4, 5, 6, 1, 0] rfl)
                            · refine lv_iconst (v := (-1)) hx hb dX7_deploy_161 (by decide) ?_
                              refine lv_goto (tgt := 169) hx hb dX7_deploy_162 (by decide) ?_
                              refine lv_iadd hx hb dX7_deploy_169 ?_
                              refine lv_istore_n (lv' := [(3, .int (q + ((-1)))), (6, .int 0), (5, .int (S 15 (24 * cl x + k))), (0, .ref g), (1, .int x), (2, .int (S 6 (cl (S 5 0)))), (4, .int (nI (24 * cl x + k)))]) hx hb dX7_deploy_170 rfl hl (by decide) rfl (fun ls hl => ?_)
                              refine lv_iinc (v := nI (24 * cl x + (k + 1))) (lv' := [(4, .int (nI (24 * cl x + (k + 1)))), (3, .int (q + ((-1)))), (6, .int 0), (5, .int (S 15 (24 * cl x + k))), (0, .ref g), (1, .int x), (2, .int (S 6 (cl (S 5 0))))]) hx hb dX7_deploy_171 hl (k := 6) rfl (nI_s _) (by decide) rfl (fun ls hl => ?_)
                              refine lv_goto (tgt := 51) hx hb dX7_deploy_174 (by decide) ?_
                              exact ih (k + 1) _ _ _ _ (by omega) (by omega) (by rw [show j14 - (k + 1) = j14 - 1 - k from by omega]; rw [delta, if_pos c158] at hv; exact hv) hw  (lv_sub hl [4, 5, 6, 1, 0] rfl)
                          · rw [tk9, if_pos (i32_nle c147)] at hv
                            refine lv_bipush (v := (-12)) hx hb dX7_deploy_150 (by decide) ?_
                            exact mm_iret hQ X hw (by have e9 : sp_deploy S x = ((-12), S) := (by rw [sp_deploy, if_neg (fun h9 => h9 c5), if_neg (fun h9 => h9 c18), if_neg c27, ← hv, if_pos (by decide)]); rw [e9]; exact ⟨rfl, _, hR⟩) (Nat.le_of_ble_eq_true rfl) (Nat.le_of_ble_eq_true rfl) dX7_deploy_152
                        · refine lv_iconst (v := 1) hx hb dX7_deploy_137 (by decide) ?_
                          refine lv_goto (tgt := 142) hx hb dX7_deploy_138 (by decide) ?_
                          have tk9 : takes (S 15 (24 * cl x + k)) = 1 := by rw [takes, if_neg (fun h9 => i32_lt_nle c116 h9.2), if_pos (Or.inr c134)]
                          refine lv_istore (lv' := [(6, .int 1), (5, .int (S 15 (24 * cl x + k))), (0, .ref g), (1, .int x), (2, .int (S 6 (cl (S 5 0)))), (3, .int q), (4, .int (nI (24 * cl x + k)))]) hx hb dX7_deploy_142 hl (by decide) rfl (fun ls hl => ?_)
                          refine lv_iload_n hx hb dX7_deploy_144 rfl (lv_at hl 5 rfl) ?_
                          refine lv_iload hx hb dX7_deploy_145 (lv_at hl 0 rfl) ?_
                          refine lv_icmp_ge (tgt := 153) hx hb dX7_deploy_147 (by decide) (fun c147 => ?_) (fun c147 => ?_)
                          · rw [tk9, if_neg (fun h9 => i32_lt_nle h9 c147)] at hv
                            refine lv_iload_n hx hb dX7_deploy_153 rfl (lv_at hl 5 rfl) ?_
                            refine lv_iload hx hb dX7_deploy_154 (lv_at hl 1 rfl) ?_
                            refine lv_bipush (v := 7) hx hb dX7_deploy_156 (by decide) ?_
                            refine lv_icmp_ne (tgt := 165) hx hb dX7_deploy_158 (by decide) (fun c158 => ?_) (fun c158 => ?_)
                            · refine lv_iconst (v := 1) hx hb dX7_deploy_165 (by decide) ?_
                              refine lv_iload hx hb dX7_deploy_166 (lv_at hl 0 rfl) ?_
                              refine lv_isub hx hb dX7_deploy_168 ?_
                              refine lv_iadd hx hb dX7_deploy_169 ?_
                              refine lv_istore_n (lv' := [(3, .int (q + (1 - 1))), (6, .int 1), (5, .int (S 15 (24 * cl x + k))), (0, .ref g), (1, .int x), (2, .int (S 6 (cl (S 5 0)))), (4, .int (nI (24 * cl x + k)))]) hx hb dX7_deploy_170 rfl hl (by decide) rfl (fun ls hl => ?_)
                              refine lv_iinc (v := nI (24 * cl x + (k + 1))) (lv' := [(4, .int (nI (24 * cl x + (k + 1)))), (3, .int (q + (1 - 1))), (6, .int 1), (5, .int (S 15 (24 * cl x + k))), (0, .ref g), (1, .int x), (2, .int (S 6 (cl (S 5 0))))]) hx hb dX7_deploy_171 hl (k := 6) rfl (nI_s _) (by decide) rfl (fun ls hl => ?_)
                              refine lv_goto (tgt := 51) hx hb dX7_deploy_174 (by decide) ?_
                              exact ih (k + 1) _ _ _ _ (by omega) (by omega) (by rw [show j14 - (k + 1) = j14 - 1 - k from by omega]; rw [delta, if_neg c158, tk9] at hv; exact hv) hw  (lv_sub hl [4, 5, 6, 1, 0] rfl)
                            · refine lv_iconst (v := (-1)) hx hb dX7_deploy_161 (by decide) ?_
                              refine lv_goto (tgt := 169) hx hb dX7_deploy_162 (by decide) ?_
                              refine lv_iadd hx hb dX7_deploy_169 ?_
                              refine lv_istore_n (lv' := [(3, .int (q + ((-1)))), (6, .int 1), (5, .int (S 15 (24 * cl x + k))), (0, .ref g), (1, .int x), (2, .int (S 6 (cl (S 5 0)))), (4, .int (nI (24 * cl x + k)))]) hx hb dX7_deploy_170 rfl hl (by decide) rfl (fun ls hl => ?_)
                              refine lv_iinc (v := nI (24 * cl x + (k + 1))) (lv' := [(4, .int (nI (24 * cl x + (k + 1)))), (3, .int (q + ((-1)))), (6, .int 1), (5, .int (S 15 (24 * cl x + k))), (0, .ref g), (1, .int x), (2, .int (S 6 (cl (S 5 0))))]) hx hb dX7_deploy_171 hl (k := 6) rfl (nI_s _) (by decide) rfl (fun ls hl => ?_)
                              refine lv_goto (tgt := 51) hx hb dX7_deploy_174 (by decide) ?_
                              exact ih (k + 1) _ _ _ _ (by omega) (by omega) (by rw [show j14 - (k + 1) = j14 - 1 - k from by omega]; rw [delta, if_pos c158] at hv; exact hv) hw  (lv_sub hl [4, 5, 6, 1, 0] rfl)
                          · rw [tk9, if_pos (i32_nle c147)] at hv
                            refine lv_bipush (v := (-12)) hx hb dX7_deploy_150 (by decide) ?_
                            exact mm_iret hQ X hw (by have e9 : sp_deploy S x = ((-12), S) := (by rw [sp_deploy, if_neg (fun h9 => h9 c5), if_neg (fun h9 => h9 c18), if_neg c27, ← hv, if_pos (by decide)]); rw [e9]; exact ⟨rfl, _, hR⟩) (Nat.le_of_ble_eq_true rfl) (Nat.le_of_ble_eq_true rfl) dX7_deploy_152
                    · refine lv_iconst (v := 2) hx hb dX7_deploy_119 (by decide) ?_
                      refine lv_goto (tgt := 142) hx hb dX7_deploy_120 (by decide) ?_
                      have tk9 : takes (S 15 (24 * cl x + k)) = 2 := by rw [takes, if_pos ⟨i32_nlt c110, i32_nlt c116⟩]
                      refine lv_istore (lv' := [(6, .int 2), (5, .int (S 15 (24 * cl x + k))), (0, .ref g), (1, .int x), (2, .int (S 6 (cl (S 5 0)))), (3, .int q), (4, .int (nI (24 * cl x + k)))]) hx hb dX7_deploy_142 hl (by decide) rfl (fun ls hl => ?_)
                      refine lv_iload_n hx hb dX7_deploy_144 rfl (lv_at hl 5 rfl) ?_
                      refine lv_iload hx hb dX7_deploy_145 (lv_at hl 0 rfl) ?_
                      refine lv_icmp_ge (tgt := 153) hx hb dX7_deploy_147 (by decide) (fun c147 => ?_) (fun c147 => ?_)
                      · rw [tk9, if_neg (fun h9 => i32_lt_nle h9 c147)] at hv
                        refine lv_iload_n hx hb dX7_deploy_153 rfl (lv_at hl 5 rfl) ?_
                        refine lv_iload hx hb dX7_deploy_154 (lv_at hl 1 rfl) ?_
                        refine lv_bipush (v := 7) hx hb dX7_deploy_156 (by decide) ?_
                        refine lv_icmp_ne (tgt := 165) hx hb dX7_deploy_158 (by decide) (fun c158 => ?_) (fun c158 => ?_)
                        · refine lv_iconst (v := 1) hx hb dX7_deploy_165 (by decide) ?_
                          refine lv_iload hx hb dX7_deploy_166 (lv_at hl 0 rfl) ?_
                          refine lv_isub hx hb dX7_deploy_168 ?_
                          refine lv_iadd hx hb dX7_deploy_169 ?_
                          refine lv_istore_n (lv' := [(3, .int (q + (1 - 2))), (6, .int 2), (5, .int (S 15 (24 * cl x + k))), (0, .ref g), (1, .int x), (2, .int (S 6 (cl (S 5 0)))), (4, .int (nI (24 * cl x + k)))]) hx hb dX7_deploy_170 rfl hl (by decide) rfl (fun ls hl => ?_)
                          refine lv_iinc (v := nI (24 * cl x + (k + 1))) (lv' := [(4, .int (nI (24 * cl x + (k + 1)))), (3, .int (q + (1 - 2))), (6, .int 2), (5, .int (S 15 (24 * cl x + k))), (0, .ref g), (1, .int x), (2, .int (S 6 (cl (S 5 0))))]) hx hb dX7_deploy_171 hl (k := 6) rfl (nI_s _) (by decide) rfl (fun ls hl => ?_)
                          refine lv_goto (tgt := 51) hx hb dX7_deploy_174 (by decide) ?_
                          exact ih (k + 1) _ _ _ _ (by omega) (by omega) (by rw [show j14 - (k + 1) = j14 - 1 - k from by omega]; rw [delta, if_neg c158, tk9] at hv; exact hv) hw  (lv_sub hl [4, 5, 6, 1, 0] rfl)
                        · refine lv_iconst (v := (-1)) hx hb dX7_deploy_161 (by decide) ?_
                          refine lv_goto (tgt := 169) hx hb dX7_deploy_162 (by decide) ?_
                          refine lv_iadd hx hb dX7_deploy_169 ?_
                          refine lv_istore_n (lv' := [(3, .int (q + ((-1)))), (6, .int 2), (5, .int (S 15 (24 * cl x + k))), (0, .ref g), (1, .int x), (2, .int (S 6 (cl (S 5 0)))), (4, .int (nI (24 * cl x + k)))]) hx hb dX7_deploy_170 rfl hl (by decide) rfl (fun ls hl => ?_)
                          refine lv_iinc (v := nI (24 * cl x + (k + 1))) (lv' := [(4, .int (nI (24 * cl x + (k + 1)))), (3, .int (q + ((-1)))), (6, .int 2), (5, .int (S 15 (24 * cl x + k))), (0, .ref g), (1, .int x), (2, .int (S 6 (cl (S 5 0))))]) hx hb dX7_deploy_171 hl (k := 6) rfl (nI_s _) (by decide) rfl (fun ls hl => ?_)
                          refine lv_goto (tgt := 51) hx hb dX7_deploy_174 (by decide) ?_
                          exact ih (k + 1) _ _ _ _ (by omega) (by omega) (by rw [show j14 - (k + 1) = j14 - 1 - k from by omega]; rw [delta, if_pos c158] at hv; exact hv) hw  (lv_sub hl [4, 5, 6, 1, 0] rfl)
                      · rw [tk9, if_pos (i32_nle c147)] at hv
                        refine lv_bipush (v := (-12)) hx hb dX7_deploy_150 (by decide) ?_
                        exact mm_iret hQ X hw (by have e9 : sp_deploy S x = ((-12), S) := (by rw [sp_deploy, if_neg (fun h9 => h9 c5), if_neg (fun h9 => h9 c18), if_neg c27, ← hv, if_pos (by decide)]); rw [e9]; exact ⟨rfl, _, hR⟩) (Nat.le_of_ble_eq_true rfl) (Nat.le_of_ble_eq_true rfl) dX7_deploy_152
                · rw [if_pos ⟨c80, c101⟩] at hv
                  refine lv_bipush (v := (-11)) hx hb dX7_deploy_104 (by decide) ?_
                  exact mm_iret hQ X hw (by have e9 : sp_deploy S x = ((-11), S) := (by rw [sp_deploy, if_neg (fun h9 => h9 c5), if_neg (fun h9 => h9 c18), if_neg c27, ← hv, if_pos (by decide)]); rw [e9]; exact ⟨rfl, _, hR⟩) (Nat.le_of_ble_eq_true rfl) (Nat.le_of_ble_eq_true rfl) dX7_deploy_106
        exact loop (j14 + 1) 0 0 _ _ _ (by omega) (by omega) (by rw [b14]; rfl) hw  (lv_sub hl [3, 4, 2, 1, 0] rfl)
      · refine lv_bipush (v := (-3)) hx hb dX7_deploy_30 (by decide) ?_
        exact mm_iret hQ X hw (by have e9 : sp_deploy S x = ((-3), S) := (by rw [sp_deploy, if_neg (fun h9 => h9 c5), if_neg (fun h9 => h9 c18), if_pos c27]); rw [e9]; exact ⟨rfl, _, hR⟩) (Nat.le_of_ble_eq_true rfl) (Nat.le_of_ble_eq_true rfl) dX7_deploy_32
  · refine lv_bipush (v := (-2)) hx hb dX7_deploy_8 (by decide) ?_
    exact mm_iret hQ X hw (by have e9 : sp_deploy S x = ((-2), S) := (by rw [sp_deploy, if_pos c5]); rw [e9]; exact ⟨rfl, _, hR⟩) (Nat.le_of_ble_eq_true rfl) (Nat.le_of_ble_eq_true rfl) dX7_deploy_10
end
