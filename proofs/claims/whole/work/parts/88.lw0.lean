/-! LW0: the words of the constructors, and what of all words the tables hold -/
def tN : List Cond := [.instanceMethod objectInit, .code objectInit ⟨#[0xb1]⟩ 1 none, .methodLink RX0 3 objectInit, .methodLink RX1 3 objectInit, .methodLink RX2 1 objectInit, .methodLink RX3 3 objectInit, .methodLink RX4 3 objectInit, .methodLink RX5 1 objectInit, .methodLink RX6 1 objectInit, .methodLink RX7 1 objectInit, .arrayClass .int, .arrayClass .long, .classLink RX0 9 "[[I", .classLink RX1 19 "[[J", .classLink RX6 7 RX0, .instantiable RX0 4, .initialized RX0, .classLink RX6 16 RX5, .instantiable RX5 1, .initialized RX5, .classLink RX6 25 RX3, .instantiable RX3 3, .initialized RX3, .classLink RX6 32 RX1, .instantiable RX1 5, .initialized RX1, .classLink RX6 39 RX4, .instantiable RX4 4, .initialized RX4, .classLink RX6 46 RX2, .instantiable RX2 2, .initialized RX2, .code yX0_init cX0_init 1 none, .instanceMethod yX0_init, .code yX1_init cX1_init 2 none, .instanceMethod yX1_init, .code yX2_init cX2_init 1 none, .instanceMethod yX2_init, .code yX3_init cX3_init 2 none, .instanceMethod yX3_init, .code yX4_init cX4_init 2 none, .instanceMethod yX4_init, .code yX5_init cX5_init 2 none, .instanceMethod yX5_init, .methodLink RX6 18 yX5_init, .methodLink RX6 27 yX3_init, .methodLink RX6 34 yX1_init, .methodLink RX6 41 yX4_init, .fieldLink RX0 11 "ChainSolves$Chain" "weights" "[[I", .fieldLink RX0 16 "ChainSolves$Chain" "totals" "[I", .fieldLink RX0 20 "ChainSolves$Chain" "rewards" "[I", .fieldLink RX0 23 "ChainSolves$Chain" "count" "I", .fieldLink RX1 9 "ChainSolves$FirstSteps" "gains" "[J", .fieldLink RX1 15 "ChainSolves$FirstSteps" "rowStates" "[I", .fieldLink RX1 21 "ChainSolves$FirstSteps" "rows" "[[J", .fieldLink RX1 24 "ChainSolves$FirstSteps" "last" "I", .fieldLink RX1 28 "ChainSolves$FirstSteps" "chain" "LChainSolves$Chain;", .fieldLink RX2 7 "ChainSolves$Fraction" "upper" "J", .fieldLink RX2 13 "ChainSolves$Fraction" "lower" "J", .fieldLink RX3 9 "ChainSolves$Likeness" "groups" "[I", .fieldLink RX3 15 "ChainSolves$Likeness" "finer" "[I", .fieldLink RX3 18 "ChainSolves$Likeness" "chain" "LChainSolves$Chain;", .fieldLink RX4 9 "ChainSolves$Spread" "now" "[J", .fieldLink RX4 15 "ChainSolves$Spread" "next" "[J", .fieldLink RX4 18 "ChainSolves$Spread" "whole" "J", .fieldLink RX4 22 "ChainSolves$Spread" "chain" "LChainSolves$Chain;", .fieldLink RX5 7 "ChainSolves$Ways" "chain" "LChainSolves$Chain;", .fieldLink RX6 10 "ChainSolves" "chain" "LChainSolves$Chain;", .fieldLink RX6 21 "ChainSolves" "ways" "LChainSolves$Ways;", .fieldLink RX6 28 "ChainSolves" "likeness" "LChainSolves$Likeness;", .fieldLink RX6 35 "ChainSolves" "firstSteps" "LChainSolves$FirstSteps;", .fieldLink RX6 42 "ChainSolves" "spread" "LChainSolves$Spread;", .fieldLink RX6 49 "ChainSolves" "answer" "LChainSolves$Fraction;", .fieldLink RX6 53 "ChainSolves" "meanReturn" "LChainSolves$Fraction;", .fieldLink RX7 7 "ChainSolvesModel" "weight" "[I", .fieldLink RX7 13 "ChainSolvesModel" "rewards" "[I", .fieldLink RX7 16 "ChainSolvesModel" "down" "J", .fieldLink RX7 20 "ChainSolvesModel" "cell" "[J", .fieldLink RX7 24 "ChainSolvesModel" "right" "[J", .fieldLink RX7 27 "ChainSolvesModel" "sum" "[J", .fieldLink RX7 30 "ChainSolvesModel" "group" "[I", .fieldLink RX7 33 "ChainSolvesModel" "best" "[I"]
def tblN : List Cond := tN ++ tblU
theorem kn_0 : (.instanceMethod objectInit : Cond) ∈ tblN := List.mem_append_left _ (List.mem_of_getElem? (i := 0) rfl)
theorem kn_1 : (.code objectInit ⟨#[0xb1]⟩ 1 none : Cond) ∈ tblN := List.mem_append_left _ (List.mem_of_getElem? (i := 1) rfl)
theorem kn_2 : (.methodLink RX0 3 objectInit : Cond) ∈ tblN := List.mem_append_left _ (List.mem_of_getElem? (i := 2) rfl)
theorem kn_3 : (.methodLink RX1 3 objectInit : Cond) ∈ tblN := List.mem_append_left _ (List.mem_of_getElem? (i := 3) rfl)
theorem kn_4 : (.methodLink RX2 1 objectInit : Cond) ∈ tblN := List.mem_append_left _ (List.mem_of_getElem? (i := 4) rfl)
theorem kn_5 : (.methodLink RX3 3 objectInit : Cond) ∈ tblN := List.mem_append_left _ (List.mem_of_getElem? (i := 5) rfl)
theorem kn_6 : (.methodLink RX4 3 objectInit : Cond) ∈ tblN := List.mem_append_left _ (List.mem_of_getElem? (i := 6) rfl)
theorem kn_7 : (.methodLink RX5 1 objectInit : Cond) ∈ tblN := List.mem_append_left _ (List.mem_of_getElem? (i := 7) rfl)
theorem kn_8 : (.methodLink RX6 1 objectInit : Cond) ∈ tblN := List.mem_append_left _ (List.mem_of_getElem? (i := 8) rfl)
theorem kn_9 : (.methodLink RX7 1 objectInit : Cond) ∈ tblN := List.mem_append_left _ (List.mem_of_getElem? (i := 9) rfl)
theorem kn_10 : (.arrayClass .int : Cond) ∈ tblN := List.mem_append_left _ (List.mem_of_getElem? (i := 10) rfl)
theorem kn_11 : (.arrayClass .long : Cond) ∈ tblN := List.mem_append_left _ (List.mem_of_getElem? (i := 11) rfl)
theorem kn_12 : (.classLink RX0 9 "[[I" : Cond) ∈ tblN := List.mem_append_left _ (List.mem_of_getElem? (i := 12) rfl)
theorem kn_13 : (.classLink RX1 19 "[[J" : Cond) ∈ tblN := List.mem_append_left _ (List.mem_of_getElem? (i := 13) rfl)
theorem kn_14 : (.classLink RX6 7 RX0 : Cond) ∈ tblN := List.mem_append_left _ (List.mem_of_getElem? (i := 14) rfl)
theorem kn_15 : (.instantiable RX0 4 : Cond) ∈ tblN := List.mem_append_left _ (List.mem_of_getElem? (i := 15) rfl)
theorem kn_16 : (.initialized RX0 : Cond) ∈ tblN := List.mem_append_left _ (List.mem_of_getElem? (i := 16) rfl)
theorem kn_17 : (.classLink RX6 16 RX5 : Cond) ∈ tblN := List.mem_append_left _ (List.mem_of_getElem? (i := 17) rfl)
theorem kn_18 : (.instantiable RX5 1 : Cond) ∈ tblN := List.mem_append_left _ (List.mem_of_getElem? (i := 18) rfl)
theorem kn_19 : (.initialized RX5 : Cond) ∈ tblN := List.mem_append_left _ (List.mem_of_getElem? (i := 19) rfl)
theorem kn_20 : (.classLink RX6 25 RX3 : Cond) ∈ tblN := List.mem_append_left _ (List.mem_of_getElem? (i := 20) rfl)
theorem kn_21 : (.instantiable RX3 3 : Cond) ∈ tblN := List.mem_append_left _ (List.mem_of_getElem? (i := 21) rfl)
theorem kn_22 : (.initialized RX3 : Cond) ∈ tblN := List.mem_append_left _ (List.mem_of_getElem? (i := 22) rfl)
theorem kn_23 : (.classLink RX6 32 RX1 : Cond) ∈ tblN := List.mem_append_left _ (List.mem_of_getElem? (i := 23) rfl)
theorem kn_24 : (.instantiable RX1 5 : Cond) ∈ tblN := List.mem_append_left _ (List.mem_of_getElem? (i := 24) rfl)
theorem kn_25 : (.initialized RX1 : Cond) ∈ tblN := List.mem_append_left _ (List.mem_of_getElem? (i := 25) rfl)
theorem kn_26 : (.classLink RX6 39 RX4 : Cond) ∈ tblN := List.mem_append_left _ (List.mem_of_getElem? (i := 26) rfl)
theorem kn_27 : (.instantiable RX4 4 : Cond) ∈ tblN := List.mem_append_left _ (List.mem_of_getElem? (i := 27) rfl)
theorem kn_28 : (.initialized RX4 : Cond) ∈ tblN := List.mem_append_left _ (List.mem_of_getElem? (i := 28) rfl)
theorem kn_29 : (.classLink RX6 46 RX2 : Cond) ∈ tblN := List.mem_append_left _ (List.mem_of_getElem? (i := 29) rfl)
theorem kn_30 : (.instantiable RX2 2 : Cond) ∈ tblN := List.mem_append_left _ (List.mem_of_getElem? (i := 30) rfl)
theorem kn_31 : (.initialized RX2 : Cond) ∈ tblN := List.mem_append_left _ (List.mem_of_getElem? (i := 31) rfl)
theorem kn_32 : (.code yX0_init cX0_init 1 none : Cond) ∈ tblN := List.mem_append_left _ (List.mem_of_getElem? (i := 32) rfl)
theorem kn_33 : (.instanceMethod yX0_init : Cond) ∈ tblN := List.mem_append_left _ (List.mem_of_getElem? (i := 33) rfl)
theorem kn_34 : (.code yX1_init cX1_init 2 none : Cond) ∈ tblN := List.mem_append_left _ (List.mem_of_getElem? (i := 34) rfl)
theorem kn_35 : (.instanceMethod yX1_init : Cond) ∈ tblN := List.mem_append_left _ (List.mem_of_getElem? (i := 35) rfl)
theorem kn_36 : (.code yX2_init cX2_init 1 none : Cond) ∈ tblN := List.mem_append_left _ (List.mem_of_getElem? (i := 36) rfl)
theorem kn_37 : (.instanceMethod yX2_init : Cond) ∈ tblN := List.mem_append_left _ (List.mem_of_getElem? (i := 37) rfl)
theorem kn_38 : (.code yX3_init cX3_init 2 none : Cond) ∈ tblN := List.mem_append_left _ (List.mem_of_getElem? (i := 38) rfl)
theorem kn_39 : (.instanceMethod yX3_init : Cond) ∈ tblN := List.mem_append_left _ (List.mem_of_getElem? (i := 39) rfl)
theorem kn_40 : (.code yX4_init cX4_init 2 none : Cond) ∈ tblN := List.mem_append_left _ (List.mem_of_getElem? (i := 40) rfl)
theorem kn_41 : (.instanceMethod yX4_init : Cond) ∈ tblN := List.mem_append_left _ (List.mem_of_getElem? (i := 41) rfl)
theorem kn_42 : (.code yX5_init cX5_init 2 none : Cond) ∈ tblN := List.mem_append_left _ (List.mem_of_getElem? (i := 42) rfl)
theorem kn_43 : (.instanceMethod yX5_init : Cond) ∈ tblN := List.mem_append_left _ (List.mem_of_getElem? (i := 43) rfl)
theorem kn_44 : (.methodLink RX6 18 yX5_init : Cond) ∈ tblN := List.mem_append_left _ (List.mem_of_getElem? (i := 44) rfl)
theorem kn_45 : (.methodLink RX6 27 yX3_init : Cond) ∈ tblN := List.mem_append_left _ (List.mem_of_getElem? (i := 45) rfl)
theorem kn_46 : (.methodLink RX6 34 yX1_init : Cond) ∈ tblN := List.mem_append_left _ (List.mem_of_getElem? (i := 46) rfl)
theorem kn_47 : (.methodLink RX6 41 yX4_init : Cond) ∈ tblN := List.mem_append_left _ (List.mem_of_getElem? (i := 47) rfl)
theorem kn_48 : (.fieldLink RX0 11 "ChainSolves$Chain" "weights" "[[I" : Cond) ∈ tblN := List.mem_append_left _ (List.mem_of_getElem? (i := 48) rfl)
theorem kn_49 : (.fieldLink RX0 16 "ChainSolves$Chain" "totals" "[I" : Cond) ∈ tblN := List.mem_append_left _ (List.mem_of_getElem? (i := 49) rfl)
theorem kn_50 : (.fieldLink RX0 20 "ChainSolves$Chain" "rewards" "[I" : Cond) ∈ tblN := List.mem_append_left _ (List.mem_of_getElem? (i := 50) rfl)
theorem kn_51 : (.fieldLink RX0 23 "ChainSolves$Chain" "count" "I" : Cond) ∈ tblN := List.mem_append_left _ (List.mem_of_getElem? (i := 51) rfl)
theorem kn_52 : (.fieldLink RX1 9 "ChainSolves$FirstSteps" "gains" "[J" : Cond) ∈ tblN := List.mem_append_left _ (List.mem_of_getElem? (i := 52) rfl)
theorem kn_53 : (.fieldLink RX1 15 "ChainSolves$FirstSteps" "rowStates" "[I" : Cond) ∈ tblN := List.mem_append_left _ (List.mem_of_getElem? (i := 53) rfl)
theorem kn_54 : (.fieldLink RX1 21 "ChainSolves$FirstSteps" "rows" "[[J" : Cond) ∈ tblN := List.mem_append_left _ (List.mem_of_getElem? (i := 54) rfl)
theorem kn_55 : (.fieldLink RX1 24 "ChainSolves$FirstSteps" "last" "I" : Cond) ∈ tblN := List.mem_append_left _ (List.mem_of_getElem? (i := 55) rfl)
theorem kn_56 : (.fieldLink RX1 28 "ChainSolves$FirstSteps" "chain" "LChainSolves$Chain;" : Cond) ∈ tblN := List.mem_append_left _ (List.mem_of_getElem? (i := 56) rfl)
theorem kn_57 : (.fieldLink RX2 7 "ChainSolves$Fraction" "upper" "J" : Cond) ∈ tblN := List.mem_append_left _ (List.mem_of_getElem? (i := 57) rfl)
theorem kn_58 : (.fieldLink RX2 13 "ChainSolves$Fraction" "lower" "J" : Cond) ∈ tblN := List.mem_append_left _ (List.mem_of_getElem? (i := 58) rfl)
theorem kn_59 : (.fieldLink RX3 9 "ChainSolves$Likeness" "groups" "[I" : Cond) ∈ tblN := List.mem_append_left _ (List.mem_of_getElem? (i := 59) rfl)
theorem kn_60 : (.fieldLink RX3 15 "ChainSolves$Likeness" "finer" "[I" : Cond) ∈ tblN := List.mem_append_left _ (List.mem_of_getElem? (i := 60) rfl)
theorem kn_61 : (.fieldLink RX3 18 "ChainSolves$Likeness" "chain" "LChainSolves$Chain;" : Cond) ∈ tblN := List.mem_append_left _ (List.mem_of_getElem? (i := 61) rfl)
theorem kn_62 : (.fieldLink RX4 9 "ChainSolves$Spread" "now" "[J" : Cond) ∈ tblN := List.mem_append_left _ (List.mem_of_getElem? (i := 62) rfl)
theorem kn_63 : (.fieldLink RX4 15 "ChainSolves$Spread" "next" "[J" : Cond) ∈ tblN := List.mem_append_left _ (List.mem_of_getElem? (i := 63) rfl)
theorem kn_64 : (.fieldLink RX4 18 "ChainSolves$Spread" "whole" "J" : Cond) ∈ tblN := List.mem_append_left _ (List.mem_of_getElem? (i := 64) rfl)
theorem kn_65 : (.fieldLink RX4 22 "ChainSolves$Spread" "chain" "LChainSolves$Chain;" : Cond) ∈ tblN := List.mem_append_left _ (List.mem_of_getElem? (i := 65) rfl)
theorem kn_66 : (.fieldLink RX5 7 "ChainSolves$Ways" "chain" "LChainSolves$Chain;" : Cond) ∈ tblN := List.mem_append_left _ (List.mem_of_getElem? (i := 66) rfl)
theorem kn_67 : (.fieldLink RX6 10 "ChainSolves" "chain" "LChainSolves$Chain;" : Cond) ∈ tblN := List.mem_append_left _ (List.mem_of_getElem? (i := 67) rfl)
theorem kn_68 : (.fieldLink RX6 21 "ChainSolves" "ways" "LChainSolves$Ways;" : Cond) ∈ tblN := List.mem_append_left _ (List.mem_of_getElem? (i := 68) rfl)
theorem kn_69 : (.fieldLink RX6 28 "ChainSolves" "likeness" "LChainSolves$Likeness;" : Cond) ∈ tblN := List.mem_append_left _ (List.mem_of_getElem? (i := 69) rfl)
theorem kn_70 : (.fieldLink RX6 35 "ChainSolves" "firstSteps" "LChainSolves$FirstSteps;" : Cond) ∈ tblN := List.mem_append_left _ (List.mem_of_getElem? (i := 70) rfl)
theorem kn_71 : (.fieldLink RX6 42 "ChainSolves" "spread" "LChainSolves$Spread;" : Cond) ∈ tblN := List.mem_append_left _ (List.mem_of_getElem? (i := 71) rfl)
theorem kn_72 : (.fieldLink RX6 49 "ChainSolves" "answer" "LChainSolves$Fraction;" : Cond) ∈ tblN := List.mem_append_left _ (List.mem_of_getElem? (i := 72) rfl)
theorem kn_73 : (.fieldLink RX6 53 "ChainSolves" "meanReturn" "LChainSolves$Fraction;" : Cond) ∈ tblN := List.mem_append_left _ (List.mem_of_getElem? (i := 73) rfl)
theorem kn_74 : (.fieldLink RX7 7 "ChainSolvesModel" "weight" "[I" : Cond) ∈ tblN := List.mem_append_left _ (List.mem_of_getElem? (i := 74) rfl)
theorem kn_75 : (.fieldLink RX7 13 "ChainSolvesModel" "rewards" "[I" : Cond) ∈ tblN := List.mem_append_left _ (List.mem_of_getElem? (i := 75) rfl)
theorem kn_76 : (.fieldLink RX7 16 "ChainSolvesModel" "down" "J" : Cond) ∈ tblN := List.mem_append_left _ (List.mem_of_getElem? (i := 76) rfl)
theorem kn_77 : (.fieldLink RX7 20 "ChainSolvesModel" "cell" "[J" : Cond) ∈ tblN := List.mem_append_left _ (List.mem_of_getElem? (i := 77) rfl)
theorem kn_78 : (.fieldLink RX7 24 "ChainSolvesModel" "right" "[J" : Cond) ∈ tblN := List.mem_append_left _ (List.mem_of_getElem? (i := 78) rfl)
theorem kn_79 : (.fieldLink RX7 27 "ChainSolvesModel" "sum" "[J" : Cond) ∈ tblN := List.mem_append_left _ (List.mem_of_getElem? (i := 79) rfl)
theorem kn_80 : (.fieldLink RX7 30 "ChainSolvesModel" "group" "[I" : Cond) ∈ tblN := List.mem_append_left _ (List.mem_of_getElem? (i := 80) rfl)
theorem kn_81 : (.fieldLink RX7 33 "ChainSolvesModel" "best" "[I" : Cond) ∈ tblN := List.mem_append_left _ (List.mem_of_getElem? (i := 81) rfl)
theorem hinN0 : ∀ w ∈ u_ws RX0 TX0 4, w ∈ tblN := fun w h => List.mem_append_right _ (List.mem_append_left _ h)
theorem hinN1 : ∀ w ∈ u_ws RX1 TX1 5, w ∈ tblN := fun w h => List.mem_append_right _ (List.mem_append_right _ (List.mem_append_left _ h))
theorem hinN2 : ∀ w ∈ u_ws RX2 TX2 2, w ∈ tblN := fun w h => List.mem_append_right _ (List.mem_append_right _ (List.mem_append_right _ (List.mem_append_left _ h)))
theorem hinN3 : ∀ w ∈ u_ws RX3 TX3 3, w ∈ tblN := fun w h => List.mem_append_right _ (List.mem_append_right _ (List.mem_append_right _ (List.mem_append_right _ (List.mem_append_left _ h))))
theorem hinN4 : ∀ w ∈ u_ws RX4 TX4 4, w ∈ tblN := fun w h => List.mem_append_right _ (List.mem_append_right _ (List.mem_append_right _ (List.mem_append_right _ (List.mem_append_right _ (List.mem_append_left _ h)))))
theorem hinN5 : ∀ w ∈ u_ws RX5 TX5 1, w ∈ tblN := fun w h => List.mem_append_right _ (List.mem_append_right _ (List.mem_append_right _ (List.mem_append_right _ (List.mem_append_right _ (List.mem_append_right _ (List.mem_append_left _ h))))))
theorem hinN6 : ∀ w ∈ u_ws RX6 TX6 7, w ∈ tblN := fun w h => List.mem_append_right _ (List.mem_append_right _ (List.mem_append_right _ (List.mem_append_right _ (List.mem_append_right _ (List.mem_append_right _ (List.mem_append_right _ (List.mem_append_left _ h)))))))
theorem hinN7 : ∀ w ∈ u_ws RX7 TX7 12, w ∈ tblN := fun w h => List.mem_append_right _ (List.mem_append_right _ (List.mem_append_right _ (List.mem_append_right _ (List.mem_append_right _ (List.mem_append_right _ (List.mem_append_right _ (List.mem_append_right _ h)))))))
set_option maxRecDepth 100000 in
theorem tblN_good : tblN.all goodWord = true := by decide +kernel
theorem goodN {w : Cond} (h : w ∈ tblN) : GoodIn tblN (w :: tblN) := goodIn_sub (fun v hv => (List.mem_cons.mp hv).elim (fun e => by rw [e]; exact h) id) (by rw [List.all_cons, tblN_good, Bool.and_true]; exact List.all_eq_true.mp tblN_good w h)
set_option maxRecDepth 100000 in
theorem tA0_in : ∀ w ∈ tA0, w ∈ lw_tbl := by decide +kernel
set_option maxRecDepth 100000 in
theorem tA1_in : ∀ w ∈ tA1, w ∈ lw_tbl := by decide +kernel
set_option maxRecDepth 100000 in
theorem tA2_in : ∀ w ∈ tA2, w ∈ lw_tbl := by decide +kernel
set_option maxRecDepth 100000 in
theorem tA3_in : ∀ w ∈ tA3, w ∈ lw_tbl := by decide +kernel
set_option maxRecDepth 100000 in
theorem tA4_in : ∀ w ∈ tA4, w ∈ lw_tbl := by decide +kernel
set_option maxRecDepth 100000 in
theorem tA5_in : ∀ w ∈ tA5, w ∈ lw_tbl := by decide +kernel
set_option maxRecDepth 100000 in
theorem tA6_in : ∀ w ∈ tA6, w ∈ lw_tbl := by decide +kernel
set_option maxRecDepth 100000 in
theorem tA7_in : ∀ w ∈ tA7, w ∈ lw_tbl := by decide +kernel
set_option maxRecDepth 100000 in
theorem tA8_in : ∀ w ∈ tA8, w ∈ lw_tbl := by decide +kernel
set_option maxRecDepth 100000 in
theorem tA9_in : ∀ w ∈ tA9, w ∈ lw_tbl := by decide +kernel
set_option maxRecDepth 100000 in
theorem tU_in : ∀ w ∈ tblU, w ∈ lw_tbl := by decide +kernel
set_option maxRecDepth 100000 in
theorem tN_in : ∀ w ∈ tN, w ∈ lw_tbl := by decide +kernel
theorem tblA_in : ∀ w ∈ tblA, w ∈ lw_tbl := by
  show ∀ w ∈ tA0 ++ (tA1 ++ (tA2 ++ (tA3 ++ (tA4 ++ (tA5 ++ (tA6 ++ (tA7 ++ (tA8 ++ tA9)))))))), w ∈ lw_tbl
  exact List.forall_mem_append.mpr ⟨tA0_in, List.forall_mem_append.mpr ⟨tA1_in, List.forall_mem_append.mpr ⟨tA2_in, List.forall_mem_append.mpr ⟨tA3_in, List.forall_mem_append.mpr ⟨tA4_in, List.forall_mem_append.mpr ⟨tA5_in, List.forall_mem_append.mpr ⟨tA6_in, List.forall_mem_append.mpr ⟨tA7_in, List.forall_mem_append.mpr ⟨tA8_in, tA9_in⟩⟩⟩⟩⟩⟩⟩⟩⟩
theorem tblG_in : ∀ w ∈ tblG, w ∈ lw_tbl := by
  show ∀ w ∈ tblA ++ tblU, w ∈ lw_tbl
  exact List.forall_mem_append.mpr ⟨tblA_in, tU_in⟩
theorem tblN_in : ∀ w ∈ tblN, w ∈ lw_tbl := by
  show ∀ w ∈ tN ++ tblU, w ∈ lw_tbl
  exact List.forall_mem_append.mpr ⟨tN_in, tU_in⟩
theorem goodL {w : Cond} (h : w ∈ lw_tbl) (hg : goodWord w = true) : GoodIn lw_tbl (w :: tblG) := goodIn_sub (fun v hv => (List.mem_cons.mp hv).elim (fun e => by rw [e]; exact h) (tblG_in v)) (by rw [List.all_cons, tblG_good, Bool.and_true]; exact hg)
theorem goodLN {w : Cond} (h : w ∈ lw_tbl) (hg : goodWord w = true) : GoodIn lw_tbl (w :: tblN) := goodIn_sub (fun v hv => (List.mem_cons.mp hv).elim (fun e => by rw [e]; exact h) (tblN_in v)) (by rw [List.all_cons, tblN_good, Bool.and_true]; exact hg)
set_option maxRecDepth 100000 in
theorem nwF_in : ∀ q ∈ nwF, (Cond.fieldLinkNest q.1 q.2.1 q.2.2.1 q.2.2.2.1 q.2.2.2.2.1 q.2.2.2.2.2) ∈ lw_tbl := by decide +kernel
set_option maxRecDepth 100000 in
theorem nwM_in : ∀ q ∈ nwM, (Cond.methodLinkNest q.1 q.2.1 q.2.2.1 q.2.2.2) ∈ lw_tbl := by decide +kernel
