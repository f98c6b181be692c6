def RX0 : String := "ChainSolves$Chain"
def TX0 : u_T := fun k => match k with
  | 0 => ("ChainSolves$Chain", "weights", "[[I", true)
  | 1 => ("ChainSolves$Chain", "totals", "[I", true)
  | 2 => ("ChainSolves$Chain", "rewards", "[I", true)
  | _ => ("ChainSolves$Chain", "count", "I", false)
def tyX0 : Nat → FieldType := fun k => match k with
  | 0 => .array (.array .int)
  | 1 => .array .int
  | 2 => .array .int
  | _ => .int
abbrev wsX00 : List Cond := u_ws RX0 TX0 4
theorem nmX0 : ∀ a, a < 4 → ∀ b, b < 4 → a ≠ b → (TX0 a).2.1 ≠ (TX0 b).2.1 := by decide +kernel
theorem tyX0_ok : ∀ k, k < 4 → parseFieldDescriptor (TX0 k).2.2.1 = some (tyX0 k) := by decide +kernel
def RX1 : String := "ChainSolves$FirstSteps"
def TX1 : u_T := fun k => match k with
  | 0 => ("ChainSolves$FirstSteps", "chain", "LChainSolves$Chain;", true)
  | 1 => ("ChainSolves$FirstSteps", "gains", "[J", true)
  | 2 => ("ChainSolves$FirstSteps", "rowStates", "[I", true)
  | 3 => ("ChainSolves$FirstSteps", "rows", "[[J", true)
  | _ => ("ChainSolves$FirstSteps", "last", "I", false)
def tyX1 : Nat → FieldType := fun k => match k with
  | 0 => .object "ChainSolves$Chain"
  | 1 => .array .long
  | 2 => .array .int
  | 3 => .array (.array .long)
  | _ => .int
abbrev wsX10 : List Cond := u_ws RX1 TX1 5
theorem nmX1 : ∀ a, a < 5 → ∀ b, b < 5 → a ≠ b → (TX1 a).2.1 ≠ (TX1 b).2.1 := by decide +kernel
theorem tyX1_ok : ∀ k, k < 5 → parseFieldDescriptor (TX1 k).2.2.1 = some (tyX1 k) := by decide +kernel
def RX2 : String := "ChainSolves$Fraction"
def TX2 : u_T := fun k => match k with
  | 0 => ("ChainSolves$Fraction", "upper", "J", false)
  | _ => ("ChainSolves$Fraction", "lower", "J", false)
def tyX2 : Nat → FieldType := fun k => match k with
  | 0 => .long
  | _ => .long
abbrev wsX20 : List Cond := u_ws RX2 TX2 2
theorem nmX2 : ∀ a, a < 2 → ∀ b, b < 2 → a ≠ b → (TX2 a).2.1 ≠ (TX2 b).2.1 := by decide +kernel
theorem tyX2_ok : ∀ k, k < 2 → parseFieldDescriptor (TX2 k).2.2.1 = some (tyX2 k) := by decide +kernel
def RX3 : String := "ChainSolves$Likeness"
def TX3 : u_T := fun k => match k with
  | 0 => ("ChainSolves$Likeness", "chain", "LChainSolves$Chain;", true)
  | 1 => ("ChainSolves$Likeness", "groups", "[I", true)
  | _ => ("ChainSolves$Likeness", "finer", "[I", true)
def tyX3 : Nat → FieldType := fun k => match k with
  | 0 => .object "ChainSolves$Chain"
  | 1 => .array .int
  | _ => .array .int
abbrev wsX30 : List Cond := u_ws RX3 TX3 3
theorem nmX3 : ∀ a, a < 3 → ∀ b, b < 3 → a ≠ b → (TX3 a).2.1 ≠ (TX3 b).2.1 := by decide +kernel
theorem tyX3_ok : ∀ k, k < 3 → parseFieldDescriptor (TX3 k).2.2.1 = some (tyX3 k) := by decide +kernel
def RX4 : String := "ChainSolves$Spread"
def TX4 : u_T := fun k => match k with
  | 0 => ("ChainSolves$Spread", "chain", "LChainSolves$Chain;", true)
  | 1 => ("ChainSolves$Spread", "now", "[J", true)
  | 2 => ("ChainSolves$Spread", "next", "[J", true)
  | _ => ("ChainSolves$Spread", "whole", "J", false)
def tyX4 : Nat → FieldType := fun k => match k with
  | 0 => .object "ChainSolves$Chain"
  | 1 => .array .long
  | 2 => .array .long
  | _ => .long
abbrev wsX40 : List Cond := u_ws RX4 TX4 4
theorem nmX4 : ∀ a, a < 4 → ∀ b, b < 4 → a ≠ b → (TX4 a).2.1 ≠ (TX4 b).2.1 := by decide +kernel
theorem tyX4_ok : ∀ k, k < 4 → parseFieldDescriptor (TX4 k).2.2.1 = some (tyX4 k) := by decide +kernel
def RX5 : String := "ChainSolves$Ways"
def TX5 : u_T := fun k => match k with
  | _ => ("ChainSolves$Ways", "chain", "LChainSolves$Chain;", true)
def tyX5 : Nat → FieldType := fun k => match k with
  | _ => .object "ChainSolves$Chain"
abbrev wsX50 : List Cond := u_ws RX5 TX5 1
theorem nmX5 : ∀ a, a < 1 → ∀ b, b < 1 → a ≠ b → (TX5 a).2.1 ≠ (TX5 b).2.1 := by decide +kernel
theorem tyX5_ok : ∀ k, k < 1 → parseFieldDescriptor (TX5 k).2.2.1 = some (tyX5 k) := by decide +kernel
def RX6 : String := "ChainSolves"
def TX6 : u_T := fun k => match k with
  | 0 => ("ChainSolves", "chain", "LChainSolves$Chain;", true)
  | 1 => ("ChainSolves", "ways", "LChainSolves$Ways;", true)
  | 2 => ("ChainSolves", "likeness", "LChainSolves$Likeness;", true)
  | 3 => ("ChainSolves", "firstSteps", "LChainSolves$FirstSteps;", true)
  | 4 => ("ChainSolves", "spread", "LChainSolves$Spread;", true)
  | 5 => ("ChainSolves", "answer", "LChainSolves$Fraction;", true)
  | _ => ("ChainSolves", "meanReturn", "LChainSolves$Fraction;", true)
def tyX6 : Nat → FieldType := fun k => match k with
  | 0 => .object "ChainSolves$Chain"
  | 1 => .object "ChainSolves$Ways"
  | 2 => .object "ChainSolves$Likeness"
  | 3 => .object "ChainSolves$FirstSteps"
  | 4 => .object "ChainSolves$Spread"
  | 5 => .object "ChainSolves$Fraction"
  | _ => .object "ChainSolves$Fraction"
abbrev wsX60 : List Cond := u_ws RX6 TX6 7
theorem nmX6 : ∀ a, a < 7 → ∀ b, b < 7 → a ≠ b → (TX6 a).2.1 ≠ (TX6 b).2.1 := by decide +kernel
theorem tyX6_ok : ∀ k, k < 7 → parseFieldDescriptor (TX6 k).2.2.1 = some (tyX6 k) := by decide +kernel
def RX7 : String := "ChainSolvesModel"
def TX7 : u_T := fun k => match k with
  | 0 => ("ChainSolvesModel", "thrown", "I", false)
  | 1 => ("ChainSolvesModel", "states", "I", false)
  | 2 => ("ChainSolvesModel", "weight", "[I", false)
  | 3 => ("ChainSolvesModel", "rewards", "[I", false)
  | 4 => ("ChainSolvesModel", "up", "J", false)
  | 5 => ("ChainSolvesModel", "down", "J", false)
  | 6 => ("ChainSolvesModel", "cell", "[J", false)
  | 7 => ("ChainSolvesModel", "right", "[J", false)
  | 8 => ("ChainSolvesModel", "sum", "[J", false)
  | 9 => ("ChainSolvesModel", "group", "[I", false)
  | 10 => ("ChainSolvesModel", "best", "[I", false)
  | _ => ("ChainSolvesModel", "fewest", "I", false)
def tyX7 : Nat → FieldType := fun k => match k with
  | 0 => .int
  | 1 => .int
  | 2 => .array .int
  | 3 => .array .int
  | 4 => .long
  | 5 => .long
  | 6 => .array .long
  | 7 => .array .long
  | 8 => .array .long
  | 9 => .array .int
  | 10 => .array .int
  | _ => .int
abbrev wsX70 : List Cond := u_ws RX7 TX7 12
theorem nmX7 : ∀ a, a < 12 → ∀ b, b < 12 → a ≠ b → (TX7 a).2.1 ≠ (TX7 b).2.1 := by decide +kernel
theorem tyX7_ok : ∀ k, k < 12 → parseFieldDescriptor (TX7 k).2.2.1 = some (tyX7 k) := by decide +kernel
def RJ6 : String := "java/lang/Integer"
def RL : String := "ChainSolvesLaw"
abbrev cX6_init : ByteArray := prog_1_method_1_code
def yX6_init : MethodName := ⟨RX6, "<init>", "()V"⟩
abbrev cX0_init : ByteArray := prog_2_method_1_code
def yX0_init : MethodName := ⟨RX0, "<init>", "()V"⟩
abbrev cX5_init : ByteArray := prog_7_method_1_code
def yX5_init : MethodName := ⟨RX5, "<init>", "(LChainSolves$Chain;)V"⟩
abbrev cX3_init : ByteArray := prog_5_method_1_code
def yX3_init : MethodName := ⟨RX3, "<init>", "(LChainSolves$Chain;)V"⟩
abbrev cX1_init : ByteArray := prog_3_method_1_code
def yX1_init : MethodName := ⟨RX1, "<init>", "(LChainSolves$Chain;)V"⟩
abbrev cX4_init : ByteArray := prog_6_method_1_code
def yX4_init : MethodName := ⟨RX4, "<init>", "(LChainSolves$Chain;)V"⟩
abbrev cX2_init : ByteArray := prog_4_method_1_code
def yX2_init : MethodName := ⟨RX2, "<init>", "()V"⟩
abbrev cX6_clear : ByteArray := prog_1_method_2_code
def yX6_clear : MethodName := ⟨RX6, "clear", "()V"⟩
abbrev cX0_removeAll : ByteArray := prog_2_method_4_code
def yX0_removeAll : MethodName := ⟨RX0, "removeAll", "()V"⟩
abbrev cX2_put : ByteArray := prog_4_method_2_code
def yX2_put : MethodName := ⟨RX2, "put", "(JJ)V"⟩
abbrev cX6_commonDivisor : ByteArray := prog_1_method_23_code
def yX6_commonDivisor : MethodName := ⟨RX6, "commonDivisor", "(JJ)J"⟩
abbrev cX6_state : ByteArray := prog_1_method_3_code
def yX6_state : MethodName := ⟨RX6, "state", "()I"⟩
abbrev cX6_arc : ByteArray := prog_1_method_4_code
def yX6_arc : MethodName := ⟨RX6, "arc", "(III)I"⟩
abbrev cX0_has : ByteArray := prog_2_method_2_code
def yX0_has : MethodName := ⟨RX0, "has", "(I)Z"⟩
abbrev cX6_reward : ByteArray := prog_1_method_5_code
def yX6_reward : MethodName := ⟨RX6, "reward", "(II)I"⟩
abbrev cX6_part : ByteArray := prog_1_method_6_code
def yX6_part : MethodName := ⟨RX6, "part", "(I)I"⟩
abbrev cX5_leastOfPart : ByteArray := prog_7_method_5_code
def yX5_leastOfPart : MethodName := ⟨RX5, "leastOfPart", "(I)I"⟩
abbrev cX5_metFrom : ByteArray := prog_7_method_2_code
def yX5_metFrom : MethodName := ⟨RX5, "metFrom", "(II)I"⟩
abbrev cX6_holds : ByteArray := prog_1_method_22_code
def yX6_holds : MethodName := ⟨RX6, "holds", "(II)Z"⟩
abbrev cX0_nextOnes : ByteArray := prog_2_method_11_code
def yX0_nextOnes : MethodName := ⟨RX0, "nextOnes", "(I)I"⟩
abbrev cX0_pull : ByteArray := prog_2_method_8_code
def yX0_pull : MethodName := ⟨RX0, "pull", "(II)I"⟩
abbrev cX0_isEnd : ByteArray := prog_2_method_5_code
def yX0_isEnd : MethodName := ⟨RX0, "isEnd", "(I)Z"⟩
abbrev cX5_leadingTo : ByteArray := prog_7_method_3_code
def yX5_leadingTo : MethodName := ⟨RX5, "leadingTo", "(II)I"⟩
abbrev cX6_closed : ByteArray := prog_1_method_7_code
def yX6_closed : MethodName := ⟨RX6, "closed", "(I)I"⟩
abbrev cX5_isClosedAt : ByteArray := prog_7_method_6_code
def yX5_isClosedAt : MethodName := ⟨RX5, "isClosedAt", "(I)Z"⟩
abbrev cX6_period : ByteArray := prog_1_method_8_code
def yX6_period : MethodName := ⟨RX6, "period", "(I)I"⟩
abbrev cX5_ringDivisor : ByteArray := prog_7_method_8_code
def yX5_ringDivisor : MethodName := ⟨RX5, "ringDivisor", "(I)I"⟩
abbrev cX5_oneStepOn : ByteArray := prog_7_method_9_code
def yX5_oneStepOn : MethodName := ⟨RX5, "oneStepOn", "(I)I"⟩
abbrev cX6_alike : ByteArray := prog_1_method_9_code
def yX6_alike : MethodName := ⟨RX6, "alike", "(I)I"⟩
abbrev cX3_find : ByteArray := prog_5_method_2_code
def yX3_find : MethodName := ⟨RX3, "find", "()V"⟩
abbrev cX3_leastMate : ByteArray := prog_5_method_4_code
def yX3_leastMate : MethodName := ⟨RX3, "leastMate", "(I)I"⟩
abbrev cX3_looksLike : ByteArray := prog_5_method_5_code
def yX3_looksLike : MethodName := ⟨RX3, "looksLike", "(II)Z"⟩
abbrev cX3_membersOf : ByteArray := prog_5_method_6_code
def yX3_membersOf : MethodName := ⟨RX3, "membersOf", "(I)I"⟩
abbrev cX0_pullInto : ByteArray := prog_2_method_10_code
def yX0_pullInto : MethodName := ⟨RX0, "pullInto", "(II)I"⟩
abbrev cX0_pullOfAll : ByteArray := prog_2_method_9_code
def yX0_pullOfAll : MethodName := ⟨RX0, "pullOfAll", "(I)I"⟩
abbrev cX6_ever : ByteArray := prog_1_method_10_code
def yX6_ever : MethodName := ⟨RX6, "ever", "(II)I"⟩
abbrev cX6_answerOddsToMeet : ByteArray := prog_1_method_21_code
def yX6_answerOddsToMeet : MethodName := ⟨RX6, "answerOddsToMeet", "(III)V"⟩
abbrev cX1_gainByEntering : ByteArray := prog_3_method_2_code
def yX1_gainByEntering : MethodName := ⟨RX1, "gainByEntering", "(I)V"⟩
abbrev cX1_solve : ByteArray := prog_3_method_6_code
def yX1_solve : MethodName := ⟨RX1, "solve", "(IILChainSolves$Fraction;)V"⟩
abbrev cX1_writeRow : ByteArray := prog_3_method_7_code
def yX1_writeRow : MethodName := ⟨RX1, "writeRow", "(I)V"⟩
abbrev cX1_eliminate : ByteArray := prog_3_method_8_code
def yX1_eliminate : MethodName := ⟨RX1, "eliminate", "()V"⟩
abbrev cX1_reduceRow : ByteArray := prog_3_method_9_code
def yX1_reduceRow : MethodName := ⟨RX1, "reduceRow", "(IIJ)V"⟩
abbrev cX6_again : ByteArray := prog_1_method_11_code
def yX6_again : MethodName := ⟨RX6, "again", "(I)I"⟩
abbrev cX6_before : ByteArray := prog_1_method_12_code
def yX6_before : MethodName := ⟨RX6, "before", "(III)I"⟩
abbrev cX6_steps : ByteArray := prog_1_method_13_code
def yX6_steps : MethodName := ⟨RX6, "steps", "(II)I"⟩
abbrev cX0_all : ByteArray := prog_2_method_3_code
def yX0_all : MethodName := ⟨RX0, "all", "()I"⟩
abbrev cX5_isSureToMeet : ByteArray := prog_7_method_4_code
def yX5_isSureToMeet : MethodName := ⟨RX5, "isSureToMeet", "(II)Z"⟩
abbrev cX1_gainByStep : ByteArray := prog_3_method_3_code
def yX1_gainByStep : MethodName := ⟨RX1, "gainByStep", "()V"⟩
abbrev cX6_visits : ByteArray := prog_1_method_14_code
def yX6_visits : MethodName := ⟨RX6, "visits", "(II)I"⟩
abbrev cX1_gainByBeingIn : ByteArray := prog_3_method_4_code
def yX1_gainByBeingIn : MethodName := ⟨RX1, "gainByBeingIn", "(I)V"⟩
abbrev cX6_share : ByteArray := prog_1_method_15_code
def yX6_share : MethodName := ⟨RX6, "share", "(II)I"⟩
abbrev cX6_after : ByteArray := prog_1_method_16_code
def yX6_after : MethodName := ⟨RX6, "after", "(III)I"⟩
abbrev cX4_start : ByteArray := prog_6_method_2_code
def yX4_start : MethodName := ⟨RX4, "start", "(I)V"⟩
abbrev cX4_goOn : ByteArray := prog_6_method_3_code
def yX4_goOn : MethodName := ⟨RX4, "goOn", "()V"⟩
abbrev cX6_worth : ByteArray := prog_1_method_17_code
def yX6_worth : MethodName := ⟨RX6, "worth", "(I)I"⟩
abbrev cX0_ends : ByteArray := prog_2_method_6_code
def yX0_ends : MethodName := ⟨RX0, "ends", "()I"⟩
abbrev cX1_gainByReward : ByteArray := prog_3_method_5_code
def yX1_gainByReward : MethodName := ⟨RX1, "gainByReward", "()V"⟩
abbrev cX6_upper : ByteArray := prog_1_method_18_code
def yX6_upper : MethodName := ⟨RX6, "upper", "()J"⟩
abbrev cX6_lower : ByteArray := prog_1_method_19_code
def yX6_lower : MethodName := ⟨RX6, "lower", "()J"⟩
abbrev cX6_told : ByteArray := prog_1_method_20_code
def yX6_told : MethodName := ⟨RX6, "told", "(I)I"⟩
abbrev cX0_countWeights : ByteArray := prog_2_method_7_code
def yX0_countWeights : MethodName := ⟨RX0, "countWeights", "()I"⟩
abbrev cJ6_bitCount : ByteArray := prog_10_method_49_code
def yJ6_bitCount : MethodName := ⟨RJ6, "bitCount", "(I)I"⟩
abbrev cX5_countParts : ByteArray := prog_7_method_7_code
def yX5_countParts : MethodName := ⟨RX5, "countParts", "(Z)I"⟩
abbrev cX3_countGroups : ByteArray := prog_5_method_3_code
def yX3_countGroups : MethodName := ⟨RX3, "countGroups", "()I"⟩
abbrev cX7_init : ByteArray := prog_9_method_1_code
def yX7_init : MethodName := ⟨RX7, "<init>", "()V"⟩
abbrev cX7_clear : ByteArray := prog_9_method_11_code
def yX7_clear : MethodName := ⟨RX7, "clear", "()V"⟩
abbrev cX7_state : ByteArray := prog_9_method_12_code
def yX7_state : MethodName := ⟨RX7, "state", "()I"⟩
abbrev cX7_arc : ByteArray := prog_9_method_13_code
def yX7_arc : MethodName := ⟨RX7, "arc", "(III)I"⟩
abbrev cX7_isState : ByteArray := prog_9_method_4_code
def yX7_isState : MethodName := ⟨RX7, "isState", "(I)Z"⟩
abbrev cX7_within : ByteArray := prog_9_method_3_code
def yX7_within : MethodName := ⟨RX7, "within", "(III)Z"⟩
abbrev cX7_w : ByteArray := prog_9_method_7_code
def yX7_w : MethodName := ⟨RX7, "w", "(II)I"⟩
abbrev cX7_total : ByteArray := prog_9_method_8_code
def yX7_total : MethodName := ⟨RX7, "total", "(I)I"⟩
abbrev cX7_reward : ByteArray := prog_9_method_14_code
def yX7_reward : MethodName := ⟨RX7, "reward", "(II)I"⟩
abbrev cX7_part : ByteArray := prog_9_method_20_code
def yX7_part : MethodName := ⟨RX7, "part", "(I)I"⟩
abbrev cX7_partOf : ByteArray := prog_9_method_17_code
def yX7_partOf : MethodName := ⟨RX7, "partOf", "(I)I"⟩
abbrev cX7_reach : ByteArray := prog_9_method_15_code
def yX7_reach : MethodName := ⟨RX7, "reach", "(II)I"⟩
abbrev cX7_has : ByteArray := prog_9_method_5_code
def yX7_has : MethodName := ⟨RX7, "has", "(II)Z"⟩
abbrev cX7_whence : ByteArray := prog_9_method_16_code
def yX7_whence : MethodName := ⟨RX7, "whence", "(II)I"⟩
abbrev cX7_least : ByteArray := prog_9_method_19_code
def yX7_least : MethodName := ⟨RX7, "least", "(I)I"⟩
abbrev cX7_closed : ByteArray := prog_9_method_21_code
def yX7_closed : MethodName := ⟨RX7, "closed", "(I)I"⟩
abbrev cX7_isClosed : ByteArray := prog_9_method_18_code
def yX7_isClosed : MethodName := ⟨RX7, "isClosed", "(I)Z"⟩
abbrev cX7_period : ByteArray := prog_9_method_22_code
def yX7_period : MethodName := ⟨RX7, "period", "(I)I"⟩
abbrev cX7_isEnd : ByteArray := prog_9_method_9_code
def yX7_isEnd : MethodName := ⟨RX7, "isEnd", "(I)Z"⟩
abbrev cX7_ever : ByteArray := prog_9_method_28_code
def yX7_ever : MethodName := ⟨RX7, "ever", "(II)I"⟩
abbrev cX7_layOdds : ByteArray := prog_9_method_27_code
def yX7_layOdds : MethodName := ⟨RX7, "layOdds", "(II)V"⟩
abbrev cX7_fix : ByteArray := prog_9_method_23_code
def yX7_fix : MethodName := ⟨RX7, "fix", "(IJ)V"⟩
abbrev cX7_lay : ByteArray := prog_9_method_24_code
def yX7_lay : MethodName := ⟨RX7, "lay", "(IJ)V"⟩
abbrev cX7_solved : ByteArray := prog_9_method_26_code
def yX7_solved : MethodName := ⟨RX7, "solved", "(I)I"⟩
abbrev cX7_all : ByteArray := prog_9_method_25_code
def yX7_all : MethodName := ⟨RX7, "all", "(I)J"⟩
abbrev cX7_many : ByteArray := prog_9_method_6_code
def yX7_many : MethodName := ⟨RX7, "many", "(I)I"⟩
abbrev cX7_answer : ByteArray := prog_9_method_10_code
def yX7_answer : MethodName := ⟨RX7, "answer", "(JJ)I"⟩
abbrev cX7_again : ByteArray := prog_9_method_29_code
def yX7_again : MethodName := ⟨RX7, "again", "(I)I"⟩
abbrev cX7_before : ByteArray := prog_9_method_30_code
def yX7_before : MethodName := ⟨RX7, "before", "(III)I"⟩
abbrev cX7_steps : ByteArray := prog_9_method_32_code
def yX7_steps : MethodName := ⟨RX7, "steps", "(II)I"⟩
abbrev cX7_isSure : ByteArray := prog_9_method_31_code
def yX7_isSure : MethodName := ⟨RX7, "isSure", "(II)Z"⟩
abbrev cX7_visits : ByteArray := prog_9_method_33_code
def yX7_visits : MethodName := ⟨RX7, "visits", "(II)I"⟩
abbrev cX7_share : ByteArray := prog_9_method_34_code
def yX7_share : MethodName := ⟨RX7, "share", "(II)I"⟩
abbrev cX7_after : ByteArray := prog_9_method_35_code
def yX7_after : MethodName := ⟨RX7, "after", "(III)I"⟩
abbrev cX7_worth : ByteArray := prog_9_method_37_code
def yX7_worth : MethodName := ⟨RX7, "worth", "(I)I"⟩
abbrev cX7_ends : ByteArray := prog_9_method_36_code
def yX7_ends : MethodName := ⟨RX7, "ends", "()I"⟩
abbrev cX7_alike : ByteArray := prog_9_method_43_code
def yX7_alike : MethodName := ⟨RX7, "alike", "(I)I"⟩
abbrev cX7_layGroups : ByteArray := prog_9_method_41_code
def yX7_layGroups : MethodName := ⟨RX7, "layGroups", "()V"⟩
abbrev cX7_isParting : ByteArray := prog_9_method_40_code
def yX7_isParting : MethodName := ⟨RX7, "isParting", "(I)Z"⟩
abbrev cX7_fits : ByteArray := prog_9_method_39_code
def yX7_fits : MethodName := ⟨RX7, "fits", "(III)Z"⟩
abbrev cX7_weightTo : ByteArray := prog_9_method_38_code
def yX7_weightTo : MethodName := ⟨RX7, "weightTo", "(II)I"⟩
abbrev cX7_next : ByteArray := prog_9_method_42_code
def yX7_next : MethodName := ⟨RX7, "next", "()Z"⟩
abbrev cX7_upper : ByteArray := prog_9_method_44_code
def yX7_upper : MethodName := ⟨RX7, "upper", "()J"⟩
abbrev cX7_lower : ByteArray := prog_9_method_45_code
def yX7_lower : MethodName := ⟨RX7, "lower", "()J"⟩
abbrev cX7_told : ByteArray := prog_9_method_46_code
def yX7_told : MethodName := ⟨RX7, "told", "(I)I"⟩
abbrev cL_law : ByteArray := code
def yL_law : MethodName := ⟨RL, "law", "([I)Z"⟩
abbrev vwCl : List vw_C := [(RX0, TX0, 4), (RX1, TX1, 5), (RX2, TX2, 2), (RX3, TX3, 3), (RX4, TX4, 4), (RX5, TX5, 1), (RX6, TX6, 7), (RX7, TX7, 12)]
def nwF : List (String × Nat × String × String × String × String) := [(RX6, 71, "ChainSolves$Chain", "weights", "[[I", RX6), (RX6, 75, "ChainSolves$Chain", "totals", "[I", RX6), (RX3, 40, "ChainSolves$Chain", "rewards", "[I", RX6), (RX1, 45, "ChainSolves$Chain", "rewards", "[I", RX6), (RX6, 79, "ChainSolves$Chain", "rewards", "[I", RX6), (RX3, 22, "ChainSolves$Chain", "count", "I", RX6), (RX1, 32, "ChainSolves$Chain", "count", "I", RX6), (RX5, 13, "ChainSolves$Chain", "count", "I", RX6), (RX6, 63, "ChainSolves$Chain", "count", "I", RX6), (RX4, 26, "ChainSolves$Chain", "count", "I", RX6), (RX6, 95, "ChainSolves$Likeness", "groups", "[I", RX6), (RX6, 147, "ChainSolves$Spread", "now", "[J", RX6), (RX6, 151, "ChainSolves$Spread", "whole", "J", RX6), (RX6, 134, "ChainSolves$Fraction", "upper", "J", RX6), (RX6, 138, "ChainSolves$Fraction", "lower", "J", RX6)]
def nwM : List (String × Nat × MethodName × String) := [(RX6, 9, yX0_init, RX6), (RX6, 48, yX2_init, RX6), (RX2, 16, yX6_commonDivisor, RX6), (RX5, 19, yX6_holds, RX6), (RX5, 46, yX6_commonDivisor, RX6), (RX0, 31, yX6_holds, RX6), (RX1, 48, yX6_holds, RX6)]
def NW (U : State) : Prop := (∀ q ∈ nwF, va_Nw (.fieldLinkNest q.1 q.2.1 q.2.2.1 q.2.2.2.1 q.2.2.2.2.1 q.2.2.2.2.2) U) ∧ (∀ q ∈ nwM, va_Nw (.methodLinkNest q.1 q.2.1 q.2.2.1 q.2.2.2) U)
theorem NW.warm {s U : State} (hW : s.WarmedH U.vm) (h : NW s) : NW U := ⟨fun q hq => va_Nw.warmF hW (h.1 q hq), fun q hq => va_Nw.warmM hW (h.2 q hq)⟩
theorem NW.same {u U : State} (e : u.vm = U.vm) (h : NW u) : NW U := ⟨fun q hq => va_Nw.same rfl e (h.1 q hq), fun q hq => va_Nw.same rfl e (h.2 q hq)⟩
theorem nf_0 {U : State} (h : NW U) : va_Nw (.fieldLinkNest RX6 71 "ChainSolves$Chain" "weights" "[[I" RX6) U := h.1 (RX6, 71, "ChainSolves$Chain", "weights", "[[I", RX6) (List.mem_of_getElem? (i := 0) rfl)
theorem nf_1 {U : State} (h : NW U) : va_Nw (.fieldLinkNest RX6 75 "ChainSolves$Chain" "totals" "[I" RX6) U := h.1 (RX6, 75, "ChainSolves$Chain", "totals", "[I", RX6) (List.mem_of_getElem? (i := 1) rfl)
theorem nf_2 {U : State} (h : NW U) : va_Nw (.fieldLinkNest RX3 40 "ChainSolves$Chain" "rewards" "[I" RX6) U := h.1 (RX3, 40, "ChainSolves$Chain", "rewards", "[I", RX6) (List.mem_of_getElem? (i := 2) rfl)
theorem nf_3 {U : State} (h : NW U) : va_Nw (.fieldLinkNest RX1 45 "ChainSolves$Chain" "rewards" "[I" RX6) U := h.1 (RX1, 45, "ChainSolves$Chain", "rewards", "[I", RX6) (List.mem_of_getElem? (i := 3) rfl)
theorem nf_4 {U : State} (h : NW U) : va_Nw (.fieldLinkNest RX6 79 "ChainSolves$Chain" "rewards" "[I" RX6) U := h.1 (RX6, 79, "ChainSolves$Chain", "rewards", "[I", RX6) (List.mem_of_getElem? (i := 4) rfl)
theorem nf_5 {U : State} (h : NW U) : va_Nw (.fieldLinkNest RX3 22 "ChainSolves$Chain" "count" "I" RX6) U := h.1 (RX3, 22, "ChainSolves$Chain", "count", "I", RX6) (List.mem_of_getElem? (i := 5) rfl)
theorem nf_6 {U : State} (h : NW U) : va_Nw (.fieldLinkNest RX1 32 "ChainSolves$Chain" "count" "I" RX6) U := h.1 (RX1, 32, "ChainSolves$Chain", "count", "I", RX6) (List.mem_of_getElem? (i := 6) rfl)
theorem nf_7 {U : State} (h : NW U) : va_Nw (.fieldLinkNest RX5 13 "ChainSolves$Chain" "count" "I" RX6) U := h.1 (RX5, 13, "ChainSolves$Chain", "count", "I", RX6) (List.mem_of_getElem? (i := 7) rfl)
theorem nf_8 {U : State} (h : NW U) : va_Nw (.fieldLinkNest RX6 63 "ChainSolves$Chain" "count" "I" RX6) U := h.1 (RX6, 63, "ChainSolves$Chain", "count", "I", RX6) (List.mem_of_getElem? (i := 8) rfl)
theorem nf_9 {U : State} (h : NW U) : va_Nw (.fieldLinkNest RX4 26 "ChainSolves$Chain" "count" "I" RX6) U := h.1 (RX4, 26, "ChainSolves$Chain", "count", "I", RX6) (List.mem_of_getElem? (i := 9) rfl)
theorem nf_10 {U : State} (h : NW U) : va_Nw (.fieldLinkNest RX6 95 "ChainSolves$Likeness" "groups" "[I" RX6) U := h.1 (RX6, 95, "ChainSolves$Likeness", "groups", "[I", RX6) (List.mem_of_getElem? (i := 10) rfl)
theorem nf_11 {U : State} (h : NW U) : va_Nw (.fieldLinkNest RX6 147 "ChainSolves$Spread" "now" "[J" RX6) U := h.1 (RX6, 147, "ChainSolves$Spread", "now", "[J", RX6) (List.mem_of_getElem? (i := 11) rfl)
theorem nf_12 {U : State} (h : NW U) : va_Nw (.fieldLinkNest RX6 151 "ChainSolves$Spread" "whole" "J" RX6) U := h.1 (RX6, 151, "ChainSolves$Spread", "whole", "J", RX6) (List.mem_of_getElem? (i := 12) rfl)
theorem nf_13 {U : State} (h : NW U) : va_Nw (.fieldLinkNest RX6 134 "ChainSolves$Fraction" "upper" "J" RX6) U := h.1 (RX6, 134, "ChainSolves$Fraction", "upper", "J", RX6) (List.mem_of_getElem? (i := 13) rfl)
theorem nf_14 {U : State} (h : NW U) : va_Nw (.fieldLinkNest RX6 138 "ChainSolves$Fraction" "lower" "J" RX6) U := h.1 (RX6, 138, "ChainSolves$Fraction", "lower", "J", RX6) (List.mem_of_getElem? (i := 14) rfl)
theorem nm_0 {U : State} (h : NW U) : va_Nw (.methodLinkNest RX6 9 yX0_init RX6) U := h.2 (RX6, 9, yX0_init, RX6) (List.mem_of_getElem? (i := 0) rfl)
theorem nm_1 {U : State} (h : NW U) : va_Nw (.methodLinkNest RX6 48 yX2_init RX6) U := h.2 (RX6, 48, yX2_init, RX6) (List.mem_of_getElem? (i := 1) rfl)
theorem nm_2 {U : State} (h : NW U) : va_Nw (.methodLinkNest RX2 16 yX6_commonDivisor RX6) U := h.2 (RX2, 16, yX6_commonDivisor, RX6) (List.mem_of_getElem? (i := 2) rfl)
theorem nm_3 {U : State} (h : NW U) : va_Nw (.methodLinkNest RX5 19 yX6_holds RX6) U := h.2 (RX5, 19, yX6_holds, RX6) (List.mem_of_getElem? (i := 3) rfl)
theorem nm_4 {U : State} (h : NW U) : va_Nw (.methodLinkNest RX5 46 yX6_commonDivisor RX6) U := h.2 (RX5, 46, yX6_commonDivisor, RX6) (List.mem_of_getElem? (i := 4) rfl)
theorem nm_5 {U : State} (h : NW U) : va_Nw (.methodLinkNest RX0 31 yX6_holds RX6) U := h.2 (RX0, 31, yX6_holds, RX6) (List.mem_of_getElem? (i := 5) rfl)
theorem nm_6 {U : State} (h : NW U) : va_Nw (.methodLinkNest RX1 48 yX6_holds RX6) U := h.2 (RX1, 48, yX6_holds, RX6) (List.mem_of_getElem? (i := 6) rfl)
