/-! LW2: the cases of the law -/
abbrev wM0 (ad : Nat → Nat) (tI tL tII tLL : ClassId) : va_W := wM ad tI tL tII tLL 0 0 (fun _ => 0) (fun _ => 0) 0 1 (fun _ => 0) (fun _ => 0) (fun _ => 0) (fun _ => 0) (fun _ => 0) 0
def tL0 : List Cond := [.code yX6_clear cX6_clear 1 none, .initialized RX6, .methodLink RL 13 yX6_clear, .instanceMethod yX6_clear, .selects RX6 yX6_clear yX6_clear, .code yX7_clear cX7_clear 2 none, .initialized RX7, .methodLink RL 16 yX7_clear, .instanceMethod yX7_clear, .selects RX7 yX7_clear yX7_clear, .code yX6_state cX6_state 1 (some .int), .methodLink RL 17 yX6_state, .instanceMethod yX6_state, .selects RX6 yX6_state yX6_state, .code yX7_state cX7_state 1 (some .int), .methodLink RL 21 yX7_state, .instanceMethod yX7_state, .selects RX7 yX7_state yX7_state, .code yX6_arc cX6_arc 6 (some .int), .methodLink RL 22 yX6_arc, .instanceMethod yX6_arc, .selects RX6 yX6_arc yX6_arc, .code yX7_arc cX7_arc 5 (some .int), .methodLink RL 26 yX7_arc, .instanceMethod yX7_arc, .selects RX7 yX7_arc yX7_arc, .code yX6_reward cX6_reward 4 (some .int), .methodLink RL 27 yX6_reward, .instanceMethod yX6_reward, .selects RX6 yX6_reward yX6_reward, .code yX7_reward cX7_reward 4 (some .int), .methodLink RL 31 yX7_reward, .instanceMethod yX7_reward, .selects RX7 yX7_reward yX7_reward, .code yX6_part cX6_part 2 (some .int), .methodLink RL 32 yX6_part, .instanceMethod yX6_part, .selects RX6 yX6_part yX6_part, .code yX7_part cX7_part 2 (some .int), .methodLink RL 36 yX7_part]
set_option maxRecDepth 100000 in
theorem tL0_in : ∀ w ∈ tL0, w ∈ lw_tbl := by decide +kernel
def tL1 : List Cond := [.instanceMethod yX7_part, .selects RX7 yX7_part yX7_part, .code yX6_closed cX6_closed 2 (some .int), .methodLink RL 37 yX6_closed, .instanceMethod yX6_closed, .selects RX6 yX6_closed yX6_closed, .code yX7_closed cX7_closed 2 (some .int), .methodLink RL 40 yX7_closed, .instanceMethod yX7_closed, .selects RX7 yX7_closed yX7_closed, .code yX6_period cX6_period 2 (some .int), .methodLink RL 41 yX6_period, .instanceMethod yX6_period, .selects RX6 yX6_period yX6_period, .code yX7_period cX7_period 8 (some .int), .methodLink RL 44 yX7_period, .instanceMethod yX7_period, .selects RX7 yX7_period yX7_period, .code yX6_alike cX6_alike 2 (some .int), .methodLink RL 45 yX6_alike, .instanceMethod yX6_alike, .selects RX6 yX6_alike yX6_alike, .code yX7_alike cX7_alike 3 (some .int), .methodLink RL 48 yX7_alike, .instanceMethod yX7_alike, .selects RX7 yX7_alike yX7_alike, .code yX6_ever cX6_ever 3 (some .int), .methodLink RL 49 yX6_ever, .instanceMethod yX6_ever, .selects RX6 yX6_ever yX6_ever, .code yX7_ever cX7_ever 3 (some .int), .methodLink RL 52 yX7_ever, .instanceMethod yX7_ever, .selects RX7 yX7_ever yX7_ever, .code yX6_again cX6_again 3 (some .int), .methodLink RL 53 yX6_again, .instanceMethod yX6_again, .selects RX6 yX6_again yX6_again, .code yX7_again cX7_again 7 (some .int), .methodLink RL 56 yX7_again]
set_option maxRecDepth 100000 in
theorem tL1_in : ∀ w ∈ tL1, w ∈ lw_tbl := by decide +kernel
def tL2 : List Cond := [.instanceMethod yX7_again, .selects RX7 yX7_again yX7_again, .code yX6_before cX6_before 4 (some .int), .methodLink RL 57 yX6_before, .instanceMethod yX6_before, .selects RX6 yX6_before yX6_before, .code yX7_before cX7_before 4 (some .int), .methodLink RL 60 yX7_before, .instanceMethod yX7_before, .selects RX7 yX7_before yX7_before, .code yX6_steps cX6_steps 3 (some .int), .methodLink RL 61 yX6_steps, .instanceMethod yX6_steps, .selects RX6 yX6_steps yX6_steps, .code yX7_steps cX7_steps 5 (some .int), .methodLink RL 64 yX7_steps, .instanceMethod yX7_steps, .selects RX7 yX7_steps yX7_steps, .code yX6_visits cX6_visits 4 (some .int), .methodLink RL 65 yX6_visits, .instanceMethod yX6_visits, .selects RX6 yX6_visits yX6_visits, .code yX7_visits cX7_visits 5 (some .int), .methodLink RL 68 yX7_visits, .instanceMethod yX7_visits, .selects RX7 yX7_visits yX7_visits, .code yX6_share cX6_share 4 (some .int), .methodLink RL 69 yX6_share, .instanceMethod yX6_share, .selects RX6 yX6_share yX6_share, .code yX7_share cX7_share 15 (some .int), .methodLink RL 72 yX7_share, .instanceMethod yX7_share, .selects RX7 yX7_share yX7_share, .code yX6_after cX6_after 5 (some .int), .methodLink RL 73 yX6_after, .instanceMethod yX6_after, .selects RX6 yX6_after yX6_after, .code yX7_after cX7_after 9 (some .int), .methodLink RL 76 yX7_after]
set_option maxRecDepth 100000 in
theorem tL2_in : ∀ w ∈ tL2, w ∈ lw_tbl := by decide +kernel
def tL3 : List Cond := [.instanceMethod yX7_after, .selects RX7 yX7_after yX7_after, .code yX6_worth cX6_worth 3 (some .int), .methodLink RL 77 yX6_worth, .instanceMethod yX6_worth, .selects RX6 yX6_worth yX6_worth, .code yX7_worth cX7_worth 4 (some .int), .methodLink RL 80 yX7_worth, .instanceMethod yX7_worth, .selects RX7 yX7_worth yX7_worth, .code yX6_upper cX6_upper 1 (some .long), .methodLink RL 81 yX6_upper, .instanceMethod yX6_upper, .selects RX6 yX6_upper yX6_upper, .code yX7_upper cX7_upper 1 (some .long), .methodLink RL 85 yX7_upper, .instanceMethod yX7_upper, .selects RX7 yX7_upper yX7_upper, .code yX6_lower cX6_lower 1 (some .long), .methodLink RL 86 yX6_lower, .instanceMethod yX6_lower, .selects RX6 yX6_lower yX6_lower, .code yX7_lower cX7_lower 1 (some .long), .methodLink RL 89 yX7_lower, .instanceMethod yX7_lower, .selects RX7 yX7_lower yX7_lower, .code yX6_told cX6_told 2 (some .int), .methodLink RL 90 yX6_told, .instanceMethod yX6_told, .selects RX6 yX6_told yX6_told, .code yX7_told cX7_told 4 (some .int), .methodLink RL 93 yX7_told, .instanceMethod yX7_told, .selects RX7 yX7_told yX7_told, .classLink RL 7 RX6, .instantiable RX6 7, .classLink RL 10 RX7, .instantiable RX7 12, .methodLink RL 9 yX6_init, .methodLink RL 12 yX7_init]
set_option maxRecDepth 100000 in
theorem tL3_in : ∀ w ∈ tL3, w ∈ lw_tbl := by decide +kernel
def tL4 : List Cond := [.instanceMethod yX6_init, .instanceMethod yX7_init, .code yX6_init cX6_init 1 none, .code yX7_init cX7_init 1 none]
set_option maxRecDepth 100000 in
theorem tL4_in : ∀ w ∈ tL4, w ∈ lw_tbl := by decide +kernel
theorem kl_0 : (.code yX6_clear cX6_clear 1 none : Cond) ∈ lw_tbl := tL0_in _ (List.mem_of_getElem? (i := 0) rfl)
theorem kl_1 : (.initialized RX6 : Cond) ∈ lw_tbl := tL0_in _ (List.mem_of_getElem? (i := 1) rfl)
theorem kl_2 : (.methodLink RL 13 yX6_clear : Cond) ∈ lw_tbl := tL0_in _ (List.mem_of_getElem? (i := 2) rfl)
theorem kl_3 : (.instanceMethod yX6_clear : Cond) ∈ lw_tbl := tL0_in _ (List.mem_of_getElem? (i := 3) rfl)
theorem kl_4 : (.selects RX6 yX6_clear yX6_clear : Cond) ∈ lw_tbl := tL0_in _ (List.mem_of_getElem? (i := 4) rfl)
theorem kl_5 : (.code yX7_clear cX7_clear 2 none : Cond) ∈ lw_tbl := tL0_in _ (List.mem_of_getElem? (i := 5) rfl)
theorem kl_6 : (.initialized RX7 : Cond) ∈ lw_tbl := tL0_in _ (List.mem_of_getElem? (i := 6) rfl)
theorem kl_7 : (.methodLink RL 16 yX7_clear : Cond) ∈ lw_tbl := tL0_in _ (List.mem_of_getElem? (i := 7) rfl)
theorem kl_8 : (.instanceMethod yX7_clear : Cond) ∈ lw_tbl := tL0_in _ (List.mem_of_getElem? (i := 8) rfl)
theorem kl_9 : (.selects RX7 yX7_clear yX7_clear : Cond) ∈ lw_tbl := tL0_in _ (List.mem_of_getElem? (i := 9) rfl)
theorem kl_10 : (.code yX6_state cX6_state 1 (some .int) : Cond) ∈ lw_tbl := tL0_in _ (List.mem_of_getElem? (i := 10) rfl)
theorem kl_11 : (.methodLink RL 17 yX6_state : Cond) ∈ lw_tbl := tL0_in _ (List.mem_of_getElem? (i := 11) rfl)
theorem kl_12 : (.instanceMethod yX6_state : Cond) ∈ lw_tbl := tL0_in _ (List.mem_of_getElem? (i := 12) rfl)
theorem kl_13 : (.selects RX6 yX6_state yX6_state : Cond) ∈ lw_tbl := tL0_in _ (List.mem_of_getElem? (i := 13) rfl)
theorem kl_14 : (.code yX7_state cX7_state 1 (some .int) : Cond) ∈ lw_tbl := tL0_in _ (List.mem_of_getElem? (i := 14) rfl)
theorem kl_15 : (.methodLink RL 21 yX7_state : Cond) ∈ lw_tbl := tL0_in _ (List.mem_of_getElem? (i := 15) rfl)
theorem kl_16 : (.instanceMethod yX7_state : Cond) ∈ lw_tbl := tL0_in _ (List.mem_of_getElem? (i := 16) rfl)
theorem kl_17 : (.selects RX7 yX7_state yX7_state : Cond) ∈ lw_tbl := tL0_in _ (List.mem_of_getElem? (i := 17) rfl)
theorem kl_18 : (.code yX6_arc cX6_arc 6 (some .int) : Cond) ∈ lw_tbl := tL0_in _ (List.mem_of_getElem? (i := 18) rfl)
theorem kl_19 : (.methodLink RL 22 yX6_arc : Cond) ∈ lw_tbl := tL0_in _ (List.mem_of_getElem? (i := 19) rfl)
theorem kl_20 : (.instanceMethod yX6_arc : Cond) ∈ lw_tbl := tL0_in _ (List.mem_of_getElem? (i := 20) rfl)
theorem kl_21 : (.selects RX6 yX6_arc yX6_arc : Cond) ∈ lw_tbl := tL0_in _ (List.mem_of_getElem? (i := 21) rfl)
theorem kl_22 : (.code yX7_arc cX7_arc 5 (some .int) : Cond) ∈ lw_tbl := tL0_in _ (List.mem_of_getElem? (i := 22) rfl)
theorem kl_23 : (.methodLink RL 26 yX7_arc : Cond) ∈ lw_tbl := tL0_in _ (List.mem_of_getElem? (i := 23) rfl)
theorem kl_24 : (.instanceMethod yX7_arc : Cond) ∈ lw_tbl := tL0_in _ (List.mem_of_getElem? (i := 24) rfl)
theorem kl_25 : (.selects RX7 yX7_arc yX7_arc : Cond) ∈ lw_tbl := tL0_in _ (List.mem_of_getElem? (i := 25) rfl)
theorem kl_26 : (.code yX6_reward cX6_reward 4 (some .int) : Cond) ∈ lw_tbl := tL0_in _ (List.mem_of_getElem? (i := 26) rfl)
theorem kl_27 : (.methodLink RL 27 yX6_reward : Cond) ∈ lw_tbl := tL0_in _ (List.mem_of_getElem? (i := 27) rfl)
theorem kl_28 : (.instanceMethod yX6_reward : Cond) ∈ lw_tbl := tL0_in _ (List.mem_of_getElem? (i := 28) rfl)
theorem kl_29 : (.selects RX6 yX6_reward yX6_reward : Cond) ∈ lw_tbl := tL0_in _ (List.mem_of_getElem? (i := 29) rfl)
theorem kl_30 : (.code yX7_reward cX7_reward 4 (some .int) : Cond) ∈ lw_tbl := tL0_in _ (List.mem_of_getElem? (i := 30) rfl)
theorem kl_31 : (.methodLink RL 31 yX7_reward : Cond) ∈ lw_tbl := tL0_in _ (List.mem_of_getElem? (i := 31) rfl)
theorem kl_32 : (.instanceMethod yX7_reward : Cond) ∈ lw_tbl := tL0_in _ (List.mem_of_getElem? (i := 32) rfl)
theorem kl_33 : (.selects RX7 yX7_reward yX7_reward : Cond) ∈ lw_tbl := tL0_in _ (List.mem_of_getElem? (i := 33) rfl)
theorem kl_34 : (.code yX6_part cX6_part 2 (some .int) : Cond) ∈ lw_tbl := tL0_in _ (List.mem_of_getElem? (i := 34) rfl)
theorem kl_35 : (.methodLink RL 32 yX6_part : Cond) ∈ lw_tbl := tL0_in _ (List.mem_of_getElem? (i := 35) rfl)
theorem kl_36 : (.instanceMethod yX6_part : Cond) ∈ lw_tbl := tL0_in _ (List.mem_of_getElem? (i := 36) rfl)
theorem kl_37 : (.selects RX6 yX6_part yX6_part : Cond) ∈ lw_tbl := tL0_in _ (List.mem_of_getElem? (i := 37) rfl)
theorem kl_38 : (.code yX7_part cX7_part 2 (some .int) : Cond) ∈ lw_tbl := tL0_in _ (List.mem_of_getElem? (i := 38) rfl)
theorem kl_39 : (.methodLink RL 36 yX7_part : Cond) ∈ lw_tbl := tL0_in _ (List.mem_of_getElem? (i := 39) rfl)
theorem kl_40 : (.instanceMethod yX7_part : Cond) ∈ lw_tbl := tL1_in _ (List.mem_of_getElem? (i := 0) rfl)
theorem kl_41 : (.selects RX7 yX7_part yX7_part : Cond) ∈ lw_tbl := tL1_in _ (List.mem_of_getElem? (i := 1) rfl)
theorem kl_42 : (.code yX6_closed cX6_closed 2 (some .int) : Cond) ∈ lw_tbl := tL1_in _ (List.mem_of_getElem? (i := 2) rfl)
theorem kl_43 : (.methodLink RL 37 yX6_closed : Cond) ∈ lw_tbl := tL1_in _ (List.mem_of_getElem? (i := 3) rfl)
theorem kl_44 : (.instanceMethod yX6_closed : Cond) ∈ lw_tbl := tL1_in _ (List.mem_of_getElem? (i := 4) rfl)
theorem kl_45 : (.selects RX6 yX6_closed yX6_closed : Cond) ∈ lw_tbl := tL1_in _ (List.mem_of_getElem? (i := 5) rfl)
theorem kl_46 : (.code yX7_closed cX7_closed 2 (some .int) : Cond) ∈ lw_tbl := tL1_in _ (List.mem_of_getElem? (i := 6) rfl)
theorem kl_47 : (.methodLink RL 40 yX7_closed : Cond) ∈ lw_tbl := tL1_in _ (List.mem_of_getElem? (i := 7) rfl)
theorem kl_48 : (.instanceMethod yX7_closed : Cond) ∈ lw_tbl := tL1_in _ (List.mem_of_getElem? (i := 8) rfl)
theorem kl_49 : (.selects RX7 yX7_closed yX7_closed : Cond) ∈ lw_tbl := tL1_in _ (List.mem_of_getElem? (i := 9) rfl)
theorem kl_50 : (.code yX6_period cX6_period 2 (some .int) : Cond) ∈ lw_tbl := tL1_in _ (List.mem_of_getElem? (i := 10) rfl)
theorem kl_51 : (.methodLink RL 41 yX6_period : Cond) ∈ lw_tbl := tL1_in _ (List.mem_of_getElem? (i := 11) rfl)
theorem kl_52 : (.instanceMethod yX6_period : Cond) ∈ lw_tbl := tL1_in _ (List.mem_of_getElem? (i := 12) rfl)
theorem kl_53 : (.selects RX6 yX6_period yX6_period : Cond) ∈ lw_tbl := tL1_in _ (List.mem_of_getElem? (i := 13) rfl)
theorem kl_54 : (.code yX7_period cX7_period 8 (some .int) : Cond) ∈ lw_tbl := tL1_in _ (List.mem_of_getElem? (i := 14) rfl)
theorem kl_55 : (.methodLink RL 44 yX7_period : Cond) ∈ lw_tbl := tL1_in _ (List.mem_of_getElem? (i := 15) rfl)
theorem kl_56 : (.instanceMethod yX7_period : Cond) ∈ lw_tbl := tL1_in _ (List.mem_of_getElem? (i := 16) rfl)
theorem kl_57 : (.selects RX7 yX7_period yX7_period : Cond) ∈ lw_tbl := tL1_in _ (List.mem_of_getElem? (i := 17) rfl)
theorem kl_58 : (.code yX6_alike cX6_alike 2 (some .int) : Cond) ∈ lw_tbl := tL1_in _ (List.mem_of_getElem? (i := 18) rfl)
theorem kl_59 : (.methodLink RL 45 yX6_alike : Cond) ∈ lw_tbl := tL1_in _ (List.mem_of_getElem? (i := 19) rfl)
theorem kl_60 : (.instanceMethod yX6_alike : Cond) ∈ lw_tbl := tL1_in _ (List.mem_of_getElem? (i := 20) rfl)
theorem kl_61 : (.selects RX6 yX6_alike yX6_alike : Cond) ∈ lw_tbl := tL1_in _ (List.mem_of_getElem? (i := 21) rfl)
theorem kl_62 : (.code yX7_alike cX7_alike 3 (some .int) : Cond) ∈ lw_tbl := tL1_in _ (List.mem_of_getElem? (i := 22) rfl)
theorem kl_63 : (.methodLink RL 48 yX7_alike : Cond) ∈ lw_tbl := tL1_in _ (List.mem_of_getElem? (i := 23) rfl)
theorem kl_64 : (.instanceMethod yX7_alike : Cond) ∈ lw_tbl := tL1_in _ (List.mem_of_getElem? (i := 24) rfl)
theorem kl_65 : (.selects RX7 yX7_alike yX7_alike : Cond) ∈ lw_tbl := tL1_in _ (List.mem_of_getElem? (i := 25) rfl)
theorem kl_66 : (.code yX6_ever cX6_ever 3 (some .int) : Cond) ∈ lw_tbl := tL1_in _ (List.mem_of_getElem? (i := 26) rfl)
theorem kl_67 : (.methodLink RL 49 yX6_ever : Cond) ∈ lw_tbl := tL1_in _ (List.mem_of_getElem? (i := 27) rfl)
theorem kl_68 : (.instanceMethod yX6_ever : Cond) ∈ lw_tbl := tL1_in _ (List.mem_of_getElem? (i := 28) rfl)
theorem kl_69 : (.selects RX6 yX6_ever yX6_ever : Cond) ∈ lw_tbl := tL1_in _ (List.mem_of_getElem? (i := 29) rfl)
theorem kl_70 : (.code yX7_ever cX7_ever 3 (some .int) : Cond) ∈ lw_tbl := tL1_in _ (List.mem_of_getElem? (i := 30) rfl)
theorem kl_71 : (.methodLink RL 52 yX7_ever : Cond) ∈ lw_tbl := tL1_in _ (List.mem_of_getElem? (i := 31) rfl)
theorem kl_72 : (.instanceMethod yX7_ever : Cond) ∈ lw_tbl := tL1_in _ (List.mem_of_getElem? (i := 32) rfl)
theorem kl_73 : (.selects RX7 yX7_ever yX7_ever : Cond) ∈ lw_tbl := tL1_in _ (List.mem_of_getElem? (i := 33) rfl)
theorem kl_74 : (.code yX6_again cX6_again 3 (some .int) : Cond) ∈ lw_tbl := tL1_in _ (List.mem_of_getElem? (i := 34) rfl)
theorem kl_75 : (.methodLink RL 53 yX6_again : Cond) ∈ lw_tbl := tL1_in _ (List.mem_of_getElem? (i := 35) rfl)
theorem kl_76 : (.instanceMethod yX6_again : Cond) ∈ lw_tbl := tL1_in _ (List.mem_of_getElem? (i := 36) rfl)
theorem kl_77 : (.selects RX6 yX6_again yX6_again : Cond) ∈ lw_tbl := tL1_in _ (List.mem_of_getElem? (i := 37) rfl)
theorem kl_78 : (.code yX7_again cX7_again 7 (some .int) : Cond) ∈ lw_tbl := tL1_in _ (List.mem_of_getElem? (i := 38) rfl)
theorem kl_79 : (.methodLink RL 56 yX7_again : Cond) ∈ lw_tbl := tL1_in _ (List.mem_of_getElem? (i := 39) rfl)
theorem kl_80 : (.instanceMethod yX7_again : Cond) ∈ lw_tbl := tL2_in _ (List.mem_of_getElem? (i := 0) rfl)
theorem kl_81 : (.selects RX7 yX7_again yX7_again : Cond) ∈ lw_tbl := tL2_in _ (List.mem_of_getElem? (i := 1) rfl)
theorem kl_82 : (.code yX6_before cX6_before 4 (some .int) : Cond) ∈ lw_tbl := tL2_in _ (List.mem_of_getElem? (i := 2) rfl)
theorem kl_83 : (.methodLink RL 57 yX6_before : Cond) ∈ lw_tbl := tL2_in _ (List.mem_of_getElem? (i := 3) rfl)
theorem kl_84 : (.instanceMethod yX6_before : Cond) ∈ lw_tbl := tL2_in _ (List.mem_of_getElem? (i := 4) rfl)
theorem kl_85 : (.selects RX6 yX6_before yX6_before : Cond) ∈ lw_tbl := tL2_in _ (List.mem_of_getElem? (i := 5) rfl)
theorem kl_86 : (.code yX7_before cX7_before 4 (some .int) : Cond) ∈ lw_tbl := tL2_in _ (List.mem_of_getElem? (i := 6) rfl)
theorem kl_87 : (.methodLink RL 60 yX7_before : Cond) ∈ lw_tbl := tL2_in _ (List.mem_of_getElem? (i := 7) rfl)
theorem kl_88 : (.instanceMethod yX7_before : Cond) ∈ lw_tbl := tL2_in _ (List.mem_of_getElem? (i := 8) rfl)
theorem kl_89 : (.selects RX7 yX7_before yX7_before : Cond) ∈ lw_tbl := tL2_in _ (List.mem_of_getElem? (i := 9) rfl)
theorem kl_90 : (.code yX6_steps cX6_steps 3 (some .int) : Cond) ∈ lw_tbl := tL2_in _ (List.mem_of_getElem? (i := 10) rfl)
theorem kl_91 : (.methodLink RL 61 yX6_steps : Cond) ∈ lw_tbl := tL2_in _ (List.mem_of_getElem? (i := 11) rfl)
theorem kl_92 : (.instanceMethod yX6_steps : Cond) ∈ lw_tbl := tL2_in _ (List.mem_of_getElem? (i := 12) rfl)
theorem kl_93 : (.selects RX6 yX6_steps yX6_steps : Cond) ∈ lw_tbl := tL2_in _ (List.mem_of_getElem? (i := 13) rfl)
theorem kl_94 : (.code yX7_steps cX7_steps 5 (some .int) : Cond) ∈ lw_tbl := tL2_in _ (List.mem_of_getElem? (i := 14) rfl)
theorem kl_95 : (.methodLink RL 64 yX7_steps : Cond) ∈ lw_tbl := tL2_in _ (List.mem_of_getElem? (i := 15) rfl)
theorem kl_96 : (.instanceMethod yX7_steps : Cond) ∈ lw_tbl := tL2_in _ (List.mem_of_getElem? (i := 16) rfl)
theorem kl_97 : (.selects RX7 yX7_steps yX7_steps : Cond) ∈ lw_tbl := tL2_in _ (List.mem_of_getElem? (i := 17) rfl)
theorem kl_98 : (.code yX6_visits cX6_visits 4 (some .int) : Cond) ∈ lw_tbl := tL2_in _ (List.mem_of_getElem? (i := 18) rfl)
theorem kl_99 : (.methodLink RL 65 yX6_visits : Cond) ∈ lw_tbl := tL2_in _ (List.mem_of_getElem? (i := 19) rfl)
theorem kl_100 : (.instanceMethod yX6_visits : Cond) ∈ lw_tbl := tL2_in _ (List.mem_of_getElem? (i := 20) rfl)
theorem kl_101 : (.selects RX6 yX6_visits yX6_visits : Cond) ∈ lw_tbl := tL2_in _ (List.mem_of_getElem? (i := 21) rfl)
theorem kl_102 : (.code yX7_visits cX7_visits 5 (some .int) : Cond) ∈ lw_tbl := tL2_in _ (List.mem_of_getElem? (i := 22) rfl)
theorem kl_103 : (.methodLink RL 68 yX7_visits : Cond) ∈ lw_tbl := tL2_in _ (List.mem_of_getElem? (i := 23) rfl)
theorem kl_104 : (.instanceMethod yX7_visits : Cond) ∈ lw_tbl := tL2_in _ (List.mem_of_getElem? (i := 24) rfl)
theorem kl_105 : (.selects RX7 yX7_visits yX7_visits : Cond) ∈ lw_tbl := tL2_in _ (List.mem_of_getElem? (i := 25) rfl)
theorem kl_106 : (.code yX6_share cX6_share 4 (some .int) : Cond) ∈ lw_tbl := tL2_in _ (List.mem_of_getElem? (i := 26) rfl)
theorem kl_107 : (.methodLink RL 69 yX6_share : Cond) ∈ lw_tbl := tL2_in _ (List.mem_of_getElem? (i := 27) rfl)
theorem kl_108 : (.instanceMethod yX6_share : Cond) ∈ lw_tbl := tL2_in _ (List.mem_of_getElem? (i := 28) rfl)
theorem kl_109 : (.selects RX6 yX6_share yX6_share : Cond) ∈ lw_tbl := tL2_in _ (List.mem_of_getElem? (i := 29) rfl)
theorem kl_110 : (.code yX7_share cX7_share 15 (some .int) : Cond) ∈ lw_tbl := tL2_in _ (List.mem_of_getElem? (i := 30) rfl)
theorem kl_111 : (.methodLink RL 72 yX7_share : Cond) ∈ lw_tbl := tL2_in _ (List.mem_of_getElem? (i := 31) rfl)
theorem kl_112 : (.instanceMethod yX7_share : Cond) ∈ lw_tbl := tL2_in _ (List.mem_of_getElem? (i := 32) rfl)
theorem kl_113 : (.selects RX7 yX7_share yX7_share : Cond) ∈ lw_tbl := tL2_in _ (List.mem_of_getElem? (i := 33) rfl)
theorem kl_114 : (.code yX6_after cX6_after 5 (some .int) : Cond) ∈ lw_tbl := tL2_in _ (List.mem_of_getElem? (i := 34) rfl)
theorem kl_115 : (.methodLink RL 73 yX6_after : Cond) ∈ lw_tbl := tL2_in _ (List.mem_of_getElem? (i := 35) rfl)
theorem kl_116 : (.instanceMethod yX6_after : Cond) ∈ lw_tbl := tL2_in _ (List.mem_of_getElem? (i := 36) rfl)
theorem kl_117 : (.selects RX6 yX6_after yX6_after : Cond) ∈ lw_tbl := tL2_in _ (List.mem_of_getElem? (i := 37) rfl)
theorem kl_118 : (.code yX7_after cX7_after 9 (some .int) : Cond) ∈ lw_tbl := tL2_in _ (List.mem_of_getElem? (i := 38) rfl)
theorem kl_119 : (.methodLink RL 76 yX7_after : Cond) ∈ lw_tbl := tL2_in _ (List.mem_of_getElem? (i := 39) rfl)
theorem kl_120 : (.instanceMethod yX7_after : Cond) ∈ lw_tbl := tL3_in _ (List.mem_of_getElem? (i := 0) rfl)
theorem kl_121 : (.selects RX7 yX7_after yX7_after : Cond) ∈ lw_tbl := tL3_in _ (List.mem_of_getElem? (i := 1) rfl)
theorem kl_122 : (.code yX6_worth cX6_worth 3 (some .int) : Cond) ∈ lw_tbl := tL3_in _ (List.mem_of_getElem? (i := 2) rfl)
theorem kl_123 : (.methodLink RL 77 yX6_worth : Cond) ∈ lw_tbl := tL3_in _ (List.mem_of_getElem? (i := 3) rfl)
theorem kl_124 : (.instanceMethod yX6_worth : Cond) ∈ lw_tbl := tL3_in _ (List.mem_of_getElem? (i := 4) rfl)
theorem kl_125 : (.selects RX6 yX6_worth yX6_worth : Cond) ∈ lw_tbl := tL3_in _ (List.mem_of_getElem? (i := 5) rfl)
theorem kl_126 : (.code yX7_worth cX7_worth 4 (some .int) : Cond) ∈ lw_tbl := tL3_in _ (List.mem_of_getElem? (i := 6) rfl)
theorem kl_127 : (.methodLink RL 80 yX7_worth : Cond) ∈ lw_tbl := tL3_in _ (List.mem_of_getElem? (i := 7) rfl)
theorem kl_128 : (.instanceMethod yX7_worth : Cond) ∈ lw_tbl := tL3_in _ (List.mem_of_getElem? (i := 8) rfl)
theorem kl_129 : (.selects RX7 yX7_worth yX7_worth : Cond) ∈ lw_tbl := tL3_in _ (List.mem_of_getElem? (i := 9) rfl)
theorem kl_130 : (.code yX6_upper cX6_upper 1 (some .long) : Cond) ∈ lw_tbl := tL3_in _ (List.mem_of_getElem? (i := 10) rfl)
theorem kl_131 : (.methodLink RL 81 yX6_upper : Cond) ∈ lw_tbl := tL3_in _ (List.mem_of_getElem? (i := 11) rfl)
theorem kl_132 : (.instanceMethod yX6_upper : Cond) ∈ lw_tbl := tL3_in _ (List.mem_of_getElem? (i := 12) rfl)
theorem kl_133 : (.selects RX6 yX6_upper yX6_upper : Cond) ∈ lw_tbl := tL3_in _ (List.mem_of_getElem? (i := 13) rfl)
theorem kl_134 : (.code yX7_upper cX7_upper 1 (some .long) : Cond) ∈ lw_tbl := tL3_in _ (List.mem_of_getElem? (i := 14) rfl)
theorem kl_135 : (.methodLink RL 85 yX7_upper : Cond) ∈ lw_tbl := tL3_in _ (List.mem_of_getElem? (i := 15) rfl)
theorem kl_136 : (.instanceMethod yX7_upper : Cond) ∈ lw_tbl := tL3_in _ (List.mem_of_getElem? (i := 16) rfl)
theorem kl_137 : (.selects RX7 yX7_upper yX7_upper : Cond) ∈ lw_tbl := tL3_in _ (List.mem_of_getElem? (i := 17) rfl)
theorem kl_138 : (.code yX6_lower cX6_lower 1 (some .long) : Cond) ∈ lw_tbl := tL3_in _ (List.mem_of_getElem? (i := 18) rfl)
theorem kl_139 : (.methodLink RL 86 yX6_lower : Cond) ∈ lw_tbl := tL3_in _ (List.mem_of_getElem? (i := 19) rfl)
theorem kl_140 : (.instanceMethod yX6_lower : Cond) ∈ lw_tbl := tL3_in _ (List.mem_of_getElem? (i := 20) rfl)
theorem kl_141 : (.selects RX6 yX6_lower yX6_lower : Cond) ∈ lw_tbl := tL3_in _ (List.mem_of_getElem? (i := 21) rfl)
theorem kl_142 : (.code yX7_lower cX7_lower 1 (some .long) : Cond) ∈ lw_tbl := tL3_in _ (List.mem_of_getElem? (i := 22) rfl)
theorem kl_143 : (.methodLink RL 89 yX7_lower : Cond) ∈ lw_tbl := tL3_in _ (List.mem_of_getElem? (i := 23) rfl)
theorem kl_144 : (.instanceMethod yX7_lower : Cond) ∈ lw_tbl := tL3_in _ (List.mem_of_getElem? (i := 24) rfl)
theorem kl_145 : (.selects RX7 yX7_lower yX7_lower : Cond) ∈ lw_tbl := tL3_in _ (List.mem_of_getElem? (i := 25) rfl)
theorem kl_146 : (.code yX6_told cX6_told 2 (some .int) : Cond) ∈ lw_tbl := tL3_in _ (List.mem_of_getElem? (i := 26) rfl)
theorem kl_147 : (.methodLink RL 90 yX6_told : Cond) ∈ lw_tbl := tL3_in _ (List.mem_of_getElem? (i := 27) rfl)
theorem kl_148 : (.instanceMethod yX6_told : Cond) ∈ lw_tbl := tL3_in _ (List.mem_of_getElem? (i := 28) rfl)
theorem kl_149 : (.selects RX6 yX6_told yX6_told : Cond) ∈ lw_tbl := tL3_in _ (List.mem_of_getElem? (i := 29) rfl)
theorem kl_150 : (.code yX7_told cX7_told 4 (some .int) : Cond) ∈ lw_tbl := tL3_in _ (List.mem_of_getElem? (i := 30) rfl)
theorem kl_151 : (.methodLink RL 93 yX7_told : Cond) ∈ lw_tbl := tL3_in _ (List.mem_of_getElem? (i := 31) rfl)
theorem kl_152 : (.instanceMethod yX7_told : Cond) ∈ lw_tbl := tL3_in _ (List.mem_of_getElem? (i := 32) rfl)
theorem kl_153 : (.selects RX7 yX7_told yX7_told : Cond) ∈ lw_tbl := tL3_in _ (List.mem_of_getElem? (i := 33) rfl)
theorem kl_154 : (.classLink RL 7 RX6 : Cond) ∈ lw_tbl := tL3_in _ (List.mem_of_getElem? (i := 34) rfl)
theorem kl_155 : (.instantiable RX6 7 : Cond) ∈ lw_tbl := tL3_in _ (List.mem_of_getElem? (i := 35) rfl)
theorem kl_156 : (.classLink RL 10 RX7 : Cond) ∈ lw_tbl := tL3_in _ (List.mem_of_getElem? (i := 36) rfl)
theorem kl_157 : (.instantiable RX7 12 : Cond) ∈ lw_tbl := tL3_in _ (List.mem_of_getElem? (i := 37) rfl)
theorem kl_158 : (.methodLink RL 9 yX6_init : Cond) ∈ lw_tbl := tL3_in _ (List.mem_of_getElem? (i := 38) rfl)
theorem kl_159 : (.methodLink RL 12 yX7_init : Cond) ∈ lw_tbl := tL3_in _ (List.mem_of_getElem? (i := 39) rfl)
theorem kl_160 : (.instanceMethod yX6_init : Cond) ∈ lw_tbl := tL4_in _ (List.mem_of_getElem? (i := 0) rfl)
theorem kl_161 : (.instanceMethod yX7_init : Cond) ∈ lw_tbl := tL4_in _ (List.mem_of_getElem? (i := 1) rfl)
theorem kl_162 : (.code yX6_init cX6_init 1 none : Cond) ∈ lw_tbl := tL4_in _ (List.mem_of_getElem? (i := 2) rfl)
theorem kl_163 : (.code yX7_init cX7_init 1 none : Cond) ∈ lw_tbl := tL4_in _ (List.mem_of_getElem? (i := 3) rfl)
/-- both worlds, told alike -/
def LI (D : va_G) (tI tL tII tLL : ClassId) (adC adM : Nat → Nat) (H : Heap) : Prop := ∃ (n : Nat) (Wt : Nat → Nat → Nat) (Rw : Nat → Int) (cnt : Int32) (w : Nat → Nat → Int32) (tot : Nat → Int32) (rew : Nat → Int32) (grp : Nat → Int32) (fin : Nat → Int32) (gns : Nat → Int64) (rst : Nat → Int32) (rws : Nat → Nat → Int64) (last : Int32) (now : Nat → Int64) (nxt : Nat → Int64) (whl : Int64) (au : Int64) (al : Int64) (mu : Int64) (ml : Int64) (thr : Int32) (sts : Int32) (wgt : Nat → Int32) (rwd : Nat → Int32) (cel : Nat → Int64) (rig : Nat → Int64) (sum : Nat → Int64) (gp : Nat → Int32) (bst : Nat → Int32) (few : Int32), va_P D vwCl ((wC adC tI tL tII tLL cnt w tot rew grp fin gns rst rws last now nxt whl au al mu ml) ++ (wM adM tI tL tII tLL thr sts wgt rwd au al cel rig sum gp bst few)) H ∧ Rel n Wt Rw cnt w tot rew sts wgt rwd
theorem lg_cmp_self (x : Int64) : lg_cmp x x = 0 := by unfold lg_cmp; rw [if_neg (Int64.lt_irrefl), if_pos rfl]
section LC
variable {p : Program} {e : Env} {s : State} {m : MethodId} {below : List Frame} {meth : Method} {c : Code} {b L : Nat} {xs : Nat → Int32} {Q : State → Prop} {ls : Array Slot} {dC : Nat → ClassId} {dI : Nat → Nat → Nat} {tI tL tII tLL : ClassId} {adC adM : Nat → Nat} {x : Int32} {H : Heap} {locs : List Loc}
set_option maxHeartbeats 4000000 in
set_option maxRecDepth 100000 in
theorem law_clear (l : Launch) (C0 : lw_At p s m meth c b L xs) (hin : ∀ k : Nat, k < 4 → vp_in (x + nI k) L) (hK : va_K (dC, dI) vwCl (tysA tI tL tII tLL) s) (hN : NW s) (hI : LI (dC, dI) tI tL tII tLL adC adM H) (hD : va_D (fun q : Nat => s.heap.size ≤ q) (wC0 adC tI tL tII tLL ++ wM0 adM tI tL tII tLL)) (hS : va_S (fun q : Nat => s.heap.size ≤ q) s.heap H locs) (hl : lv_has ls 4 [(0, .ref b), (1, .ref (adC 0)), (2, .ref (adM 0)), (3, .int x)]) (kk : ∀ (H : Heap) (locs : List Loc), LI (dC, dI) tI tL tII tLL adC adM H → va_S (fun q : Nat => s.heap.size ≤ q) s.heap H locs → W p l e room_1 s m #[Value.ref b] below meth c H locs 41 487 Q (F0 m 631 ls [])) : W p l e room_1 s m #[Value.ref b] below meth c H locs 41 487 Q (F0 m 124 ls []) := by
  obtain ⟨hx, hb, hr, hml, hown, hts, hX, hbl, hlocks, hgv⟩ := C0
  have hbA : ¬ (fun q : Nat => s.heap.size ≤ q) b := Nat.not_le.mpr hbl
  have hown : s.vm.findClass RL = some m.cls := hown
  obtain ⟨n, Wt, Rw, cnt, w, tot, rew, grp, fin, gns, rst, rws, last, now, nxt, whl, au, al, mu, ml, thr, sts, wgt, rwd, cel, rig, sum, gp, bst, few, hP, hR⟩ := hI
  have hD : va_D (fun q : Nat => s.heap.size ≤ q) ((wC adC tI tL tII tLL cnt w tot rew grp fin gns rst rws last now nxt whl au al mu ml) ++ (wM adM tI tL tII tLL thr sts wgt rwd au al cel rig sum gp bst few)) := hD.same rfl
  obtain ⟨cnt', w', tot', rew', au', al', sts', wgt', rwd', n', Wt', Rw', e1, e2, hR'⟩ := e_clear w tot rew wgt rwd
  refine lv_aload_n hx hb dL_law_124 rfl (lv_at hl 1 rfl) ?_
  refine rw_callL (va_runV (As := []) (rest := []) ⟨hx, hb, hml, hown, hts⟩ (c_CS_clear l dC dI adC tI tL tII tLL cnt w tot rew grp fin gns rst rws last now nxt whl au al mu ml  cnt' w' tot' rew' au' al' e1.symm) ⟨callB_of 0 hts (goodL kl_0 (by decide +kernel)) rfl rfl rfl (hts _ kl_1) (hts _ kl_2) (by decide +kernel) ⟨Nat.le_of_ble_eq_true rfl, Nat.le_of_ble_eq_true rfl⟩, (hts _ kl_3), (hts _ kl_4)⟩ (pre_vw hK hN hP.l hD.l (q0 := 0) (ci := 6) rfl rfl) rfl rfl hl.1 rfl (lv_room (Nat.le_of_ble_eq_true rfl)) dL_law_125 ⟨Nat.le_of_ble_eq_true rfl, Nat.le_of_ble_eq_true rfl⟩) hP hD hS rfl (fun H locs hP hD hS => ?_)
  refine W.eq (g2 := F0 m 128 ls []) rfl ?_
  refine lv_aload_n hx hb dL_law_128 rfl (lv_at hl 2 rfl) ?_
  refine rw_callR (va_runV (As := []) (rest := []) ⟨hx, hb, hml, hown, hts⟩ (c_M_clear l dC dI adM tI tL tII tLL thr sts wgt rwd au al cel rig sum gp bst few  0 sts' wgt' rwd' au' al' e2.symm) ⟨callB_of 0 hts (goodL kl_5 (by decide +kernel)) rfl rfl rfl (hts _ kl_6) (hts _ kl_7) (by decide +kernel) ⟨Nat.le_of_ble_eq_true rfl, Nat.le_of_ble_eq_true rfl⟩, (hts _ kl_8), (hts _ kl_9)⟩ (pre_vw hK hN hP.r hD.r (q0 := 0) (ci := 7) rfl rfl) rfl rfl hl.1 rfl (lv_room (Nat.le_of_ble_eq_true rfl)) dL_law_129 ⟨Nat.le_of_ble_eq_true rfl, Nat.le_of_ble_eq_true rfl⟩) hP hD hS rfl (fun H locs hP hD hS => ?_)
  refine W.eq (g2 := F0 m 132 ls []) rfl ?_
  refine lv_goto (tgt := 631) hx hb dL_law_132 (by decide) ?_
  exact kk H locs ⟨n', Wt', Rw', cnt', w', tot', rew', grp, fin, gns, rst, rws, last, now, nxt, whl, au', al', mu, ml, 0, sts', wgt', rwd', cel, rig, sum, gp, bst, few, hP, hR'⟩ hS
set_option maxHeartbeats 4000000 in
set_option maxRecDepth 100000 in
theorem law_state (l : Launch) (C0 : lw_At p s m meth c b L xs) (hin : ∀ k : Nat, k < 4 → vp_in (x + nI k) L) (hK : va_K (dC, dI) vwCl (tysA tI tL tII tLL) s) (hN : NW s) (hI : LI (dC, dI) tI tL tII tLL adC adM H) (hD : va_D (fun q : Nat => s.heap.size ≤ q) (wC0 adC tI tL tII tLL ++ wM0 adM tI tL tII tLL)) (hS : va_S (fun q : Nat => s.heap.size ≤ q) s.heap H locs) (hl : lv_has ls 4 [(0, .ref b), (1, .ref (adC 0)), (2, .ref (adM 0)), (3, .int x)]) (kk : ∀ (H : Heap) (locs : List Loc), LI (dC, dI) tI tL tII tLL adC adM H → va_S (fun q : Nat => s.heap.size ≤ q) s.heap H locs → W p l e room_1 s m #[Value.ref b] below meth c H locs 41 487 Q (F0 m 631 ls [])) : W p l e room_1 s m #[Value.ref b] below meth c H locs 41 487 Q (F0 m 135 ls []) := by
  obtain ⟨hx, hb, hr, hml, hown, hts, hX, hbl, hlocks, hgv⟩ := C0
  have hbA : ¬ (fun q : Nat => s.heap.size ≤ q) b := Nat.not_le.mpr hbl
  have hown : s.vm.findClass RL = some m.cls := hown
  obtain ⟨n, Wt, Rw, cnt, w, tot, rew, grp, fin, gns, rst, rws, last, now, nxt, whl, au, al, mu, ml, thr, sts, wgt, rwd, cel, rig, sum, gp, bst, few, hP, hR⟩ := hI
  have hD : va_D (fun q : Nat => s.heap.size ≤ q) ((wC adC tI tL tII tLL cnt w tot rew grp fin gns rst rws last now nxt whl au al mu ml) ++ (wM adM tI tL tII tLL thr sts wgt rwd au al cel rig sum gp bst few)) := hD.same rfl
  obtain ⟨r, cnt', sts', n', e1, e2, hR'⟩ := e_state hR
  refine lv_aload_n hx hb dL_law_135 rfl (lv_at hl 1 rfl) ?_
  refine rw_callL (va_runV (As := []) (rest := []) ⟨hx, hb, hml, hown, hts⟩ (c_CS_state l dC dI adC tI tL tII tLL cnt w tot rew grp fin gns rst rws last now nxt whl au al mu ml  r cnt' e1.symm) ⟨callB_of 0 hts (goodL kl_10 (by decide +kernel)) rfl rfl rfl (hts _ kl_1) (hts _ kl_11) (by decide +kernel) ⟨Nat.le_of_ble_eq_true rfl, Nat.le_of_ble_eq_true rfl⟩, (hts _ kl_12), (hts _ kl_13)⟩ (pre_vw hK hN hP.l hD.l (q0 := 0) (ci := 6) rfl rfl) rfl rfl hl.1 rfl (lv_room (Nat.le_of_ble_eq_true rfl)) dL_law_136 ⟨Nat.le_of_ble_eq_true rfl, Nat.le_of_ble_eq_true rfl⟩) hP hD hS rfl (fun H locs hP hD hS => ?_)
  refine W.eq (g2 := F0 m 139 ls [.int r]) rfl ?_
  refine lv_aload_n hx hb dL_law_139 rfl (lv_at hl 2 rfl) ?_
  refine rw_callR (va_runV (As := []) (rest := [.int r]) ⟨hx, hb, hml, hown, hts⟩ (c_M_state l dC dI adM tI tL tII tLL thr sts wgt rwd au al cel rig sum gp bst few  r 0 sts' e2.symm) ⟨callB_of 0 hts (goodL kl_14 (by decide +kernel)) rfl rfl rfl (hts _ kl_6) (hts _ kl_15) (by decide +kernel) ⟨Nat.le_of_ble_eq_true rfl, Nat.le_of_ble_eq_true rfl⟩, (hts _ kl_16), (hts _ kl_17)⟩ (pre_vw hK hN hP.r hD.r (q0 := 0) (ci := 7) rfl rfl) rfl rfl hl.1 rfl (lv_room (Nat.le_of_ble_eq_true rfl)) dL_law_140 ⟨Nat.le_of_ble_eq_true rfl, Nat.le_of_ble_eq_true rfl⟩) hP hD hS rfl (fun H locs hP hD hS => ?_)
  refine W.eq (g2 := F0 m 143 ls [.int r, .int r]) rfl ?_
  refine lv_icmp_eq (tgt := 631) hx hb dL_law_143 (by decide) (fun c1 => ?_) (fun c1 => absurd rfl c1)
  exact kk H locs ⟨n', Wt, Rw, cnt', w, tot, rew, grp, fin, gns, rst, rws, last, now, nxt, whl, au, al, mu, ml, 0, sts', wgt, rwd, cel, rig, sum, gp, bst, few, hP, hR'⟩ hS
set_option maxHeartbeats 4000000 in
set_option maxRecDepth 100000 in
theorem law_arc (l : Launch) (C0 : lw_At p s m meth c b L xs) (hin : ∀ k : Nat, k < 4 → vp_in (x + nI k) L) (hK : va_K (dC, dI) vwCl (tysA tI tL tII tLL) s) (hN : NW s) (hI : LI (dC, dI) tI tL tII tLL adC adM H) (hD : va_D (fun q : Nat => s.heap.size ≤ q) (wC0 adC tI tL tII tLL ++ wM0 adM tI tL tII tLL)) (hS : va_S (fun q : Nat => s.heap.size ≤ q) s.heap H locs) (hl : lv_has ls 4 [(0, .ref b), (1, .ref (adC 0)), (2, .ref (adM 0)), (3, .int x)]) (kk : ∀ (H : Heap) (locs : List Loc), LI (dC, dI) tI tL tII tLL adC adM H → va_S (fun q : Nat => s.heap.size ≤ q) s.heap H locs → W p l e room_1 s m #[Value.ref b] below meth c H locs 41 487 Q (F0 m 631 ls [])) : W p l e room_1 s m #[Value.ref b] below meth c H locs 41 487 Q (F0 m 148 ls []) := by
  obtain ⟨hx, hb, hr, hml, hown, hts, hX, hbl, hlocks, hgv⟩ := C0
  have hbA : ¬ (fun q : Nat => s.heap.size ≤ q) b := Nat.not_le.mpr hbl
  have hown : s.vm.findClass RL = some m.cls := hown
  obtain ⟨n, Wt, Rw, cnt, w, tot, rew, grp, fin, gns, rst, rws, last, now, nxt, whl, au, al, mu, ml, thr, sts, wgt, rwd, cel, rig, sum, gp, bst, few, hP, hR⟩ := hI
  have hD : va_D (fun q : Nat => s.heap.size ≤ q) ((wC adC tI tL tII tLL cnt w tot rew grp fin gns rst rws last now nxt whl au al mu ml) ++ (wM adM tI tL tII tLL thr sts wgt rwd au al cel rig sum gp bst few)) := hD.same rfl
  obtain ⟨r, w', tot', wgt', Wt', e1, e2, hR'⟩ := e_arc hR (xs (x + nI 1).toNatClampNeg) (xs (x + nI 2).toNatClampNeg) (xs (x + nI 3).toNatClampNeg)
  refine lv_aload_n hx hb dL_law_148 rfl (lv_at hl 1 rfl) ?_
  refine lv_aload_n hx hb dL_law_149 rfl (lv_at hl 0 rfl) ?_
  refine lv_iload_n hx hb dL_law_150 rfl (lv_at hl 3 rfl) ?_
  refine lv_iconst (v := 1) hx hb dL_law_151 (by decide) ?_
  refine lv_iadd hx hb dL_law_152 ?_
  refine va_sld hx hb hX hbl hbA hS (hin 1 (by omega)) dL_law_153 ?_
  refine lv_aload_n hx hb dL_law_154 rfl (lv_at hl 0 rfl) ?_
  refine lv_iload_n hx hb dL_law_155 rfl (lv_at hl 3 rfl) ?_
  refine lv_iconst (v := 2) hx hb dL_law_156 (by decide) ?_
  refine lv_iadd hx hb dL_law_157 ?_
  refine va_sld hx hb hX hbl hbA hS (hin 2 (by omega)) dL_law_158 ?_
  refine lv_aload_n hx hb dL_law_159 rfl (lv_at hl 0 rfl) ?_
  refine lv_iload_n hx hb dL_law_160 rfl (lv_at hl 3 rfl) ?_
  refine lv_iconst (v := 3) hx hb dL_law_161 (by decide) ?_
  refine lv_iadd hx hb dL_law_162 ?_
  refine va_sld hx hb hX hbl hbA hS (hin 3 (by omega)) dL_law_163 ?_
  refine rw_callL (va_runV (As := [.int (xs (x + nI 1).toNatClampNeg), .int (xs (x + nI 2).toNatClampNeg), .int (xs (x + nI 3).toNatClampNeg)]) (rest := []) ⟨hx, hb, hml, hown, hts⟩ (c_CS_arc l dC dI adC tI tL tII tLL cnt w tot rew grp fin gns rst rws last now nxt whl au al mu ml (xs (x + nI 1).toNatClampNeg) (xs (x + nI 2).toNatClampNeg) (xs (x + nI 3).toNatClampNeg) r w' tot' e1.symm) ⟨callB_of 3 hts (goodL kl_18 (by decide +kernel)) rfl rfl rfl (hts _ kl_1) (hts _ kl_19) (by decide +kernel) ⟨Nat.le_of_ble_eq_true rfl, Nat.le_of_ble_eq_true rfl⟩, (hts _ kl_20), (hts _ kl_21)⟩ (pre_vw hK hN hP.l hD.l (q0 := 0) (ci := 6) rfl rfl) rfl rfl hl.1 rfl (lv_room (Nat.le_of_ble_eq_true rfl)) dL_law_164 ⟨Nat.le_of_ble_eq_true rfl, Nat.le_of_ble_eq_true rfl⟩) hP hD hS rfl (fun H locs hP hD hS => ?_)
  refine W.eq (g2 := F0 m 167 ls [.int r]) rfl ?_
  refine lv_aload_n hx hb dL_law_167 rfl (lv_at hl 2 rfl) ?_
  refine lv_aload_n hx hb dL_law_168 rfl (lv_at hl 0 rfl) ?_
  refine lv_iload_n hx hb dL_law_169 rfl (lv_at hl 3 rfl) ?_
  refine lv_iconst (v := 1) hx hb dL_law_170 (by decide) ?_
  refine lv_iadd hx hb dL_law_171 ?_
  refine va_sld hx hb hX hbl hbA hS (hin 1 (by omega)) dL_law_172 ?_
  refine lv_aload_n hx hb dL_law_173 rfl (lv_at hl 0 rfl) ?_
  refine lv_iload_n hx hb dL_law_174 rfl (lv_at hl 3 rfl) ?_
  refine lv_iconst (v := 2) hx hb dL_law_175 (by decide) ?_
  refine lv_iadd hx hb dL_law_176 ?_
  refine va_sld hx hb hX hbl hbA hS (hin 2 (by omega)) dL_law_177 ?_
  refine lv_aload_n hx hb dL_law_178 rfl (lv_at hl 0 rfl) ?_
  refine lv_iload_n hx hb dL_law_179 rfl (lv_at hl 3 rfl) ?_
  refine lv_iconst (v := 3) hx hb dL_law_180 (by decide) ?_
  refine lv_iadd hx hb dL_law_181 ?_
  refine va_sld hx hb hX hbl hbA hS (hin 3 (by omega)) dL_law_182 ?_
  refine rw_callR (va_runV (As := [.int (xs (x + nI 1).toNatClampNeg), .int (xs (x + nI 2).toNatClampNeg), .int (xs (x + nI 3).toNatClampNeg)]) (rest := [.int r]) ⟨hx, hb, hml, hown, hts⟩ (c_M_arc l dC dI adM tI tL tII tLL thr sts wgt rwd au al cel rig sum gp bst few (xs (x + nI 1).toNatClampNeg) (xs (x + nI 2).toNatClampNeg) (xs (x + nI 3).toNatClampNeg) r 0 wgt' e2.symm) ⟨callB_of 3 hts (goodL kl_22 (by decide +kernel)) rfl rfl rfl (hts _ kl_6) (hts _ kl_23) (by decide +kernel) ⟨Nat.le_of_ble_eq_true rfl, Nat.le_of_ble_eq_true rfl⟩, (hts _ kl_24), (hts _ kl_25)⟩ (pre_vw hK hN hP.r hD.r (q0 := 0) (ci := 7) rfl rfl) rfl rfl hl.1 rfl (lv_room (Nat.le_of_ble_eq_true rfl)) dL_law_183 ⟨Nat.le_of_ble_eq_true rfl, Nat.le_of_ble_eq_true rfl⟩) hP hD hS rfl (fun H locs hP hD hS => ?_)
  refine W.eq (g2 := F0 m 186 ls [.int r, .int r]) rfl ?_
  refine lv_icmp_eq (tgt := 631) hx hb dL_law_186 (by decide) (fun c1 => ?_) (fun c1 => absurd rfl c1)
  exact kk H locs ⟨n, Wt', Rw, cnt, w', tot', rew, grp, fin, gns, rst, rws, last, now, nxt, whl, au, al, mu, ml, 0, sts, wgt', rwd, cel, rig, sum, gp, bst, few, hP, hR'⟩ hS
set_option maxHeartbeats 4000000 in
set_option maxRecDepth 100000 in
theorem law_reward (l : Launch) (C0 : lw_At p s m meth c b L xs) (hin : ∀ k : Nat, k < 4 → vp_in (x + nI k) L) (hK : va_K (dC, dI) vwCl (tysA tI tL tII tLL) s) (hN : NW s) (hI : LI (dC, dI) tI tL tII tLL adC adM H) (hD : va_D (fun q : Nat => s.heap.size ≤ q) (wC0 adC tI tL tII tLL ++ wM0 adM tI tL tII tLL)) (hS : va_S (fun q : Nat => s.heap.size ≤ q) s.heap H locs) (hl : lv_has ls 4 [(0, .ref b), (1, .ref (adC 0)), (2, .ref (adM 0)), (3, .int x)]) (kk : ∀ (H : Heap) (locs : List Loc), LI (dC, dI) tI tL tII tLL adC adM H → va_S (fun q : Nat => s.heap.size ≤ q) s.heap H locs → W p l e room_1 s m #[Value.ref b] below meth c H locs 41 487 Q (F0 m 631 ls [])) : W p l e room_1 s m #[Value.ref b] below meth c H locs 41 487 Q (F0 m 191 ls []) := by
  obtain ⟨hx, hb, hr, hml, hown, hts, hX, hbl, hlocks, hgv⟩ := C0
  have hbA : ¬ (fun q : Nat => s.heap.size ≤ q) b := Nat.not_le.mpr hbl
  have hown : s.vm.findClass RL = some m.cls := hown
  obtain ⟨n, Wt, Rw, cnt, w, tot, rew, grp, fin, gns, rst, rws, last, now, nxt, whl, au, al, mu, ml, thr, sts, wgt, rwd, cel, rig, sum, gp, bst, few, hP, hR⟩ := hI
  have hD : va_D (fun q : Nat => s.heap.size ≤ q) ((wC adC tI tL tII tLL cnt w tot rew grp fin gns rst rws last now nxt whl au al mu ml) ++ (wM adM tI tL tII tLL thr sts wgt rwd au al cel rig sum gp bst few)) := hD.same rfl
  obtain ⟨r, rew', rwd', Rw', e1, e2, hR'⟩ := e_reward hR (xs (x + nI 1).toNatClampNeg) (xs (x + nI 2).toNatClampNeg)
  refine lv_aload_n hx hb dL_law_191 rfl (lv_at hl 1 rfl) ?_
  refine lv_aload_n hx hb dL_law_192 rfl (lv_at hl 0 rfl) ?_
  refine lv_iload_n hx hb dL_law_193 rfl (lv_at hl 3 rfl) ?_
  refine lv_iconst (v := 1) hx hb dL_law_194 (by decide) ?_
  refine lv_iadd hx hb dL_law_195 ?_
  refine va_sld hx hb hX hbl hbA hS (hin 1 (by omega)) dL_law_196 ?_
  refine lv_aload_n hx hb dL_law_197 rfl (lv_at hl 0 rfl) ?_
  refine lv_iload_n hx hb dL_law_198 rfl (lv_at hl 3 rfl) ?_
  refine lv_iconst (v := 2) hx hb dL_law_199 (by decide) ?_
  refine lv_iadd hx hb dL_law_200 ?_
  refine va_sld hx hb hX hbl hbA hS (hin 2 (by omega)) dL_law_201 ?_
  refine rw_callL (va_runV (As := [.int (xs (x + nI 1).toNatClampNeg), .int (xs (x + nI 2).toNatClampNeg)]) (rest := []) ⟨hx, hb, hml, hown, hts⟩ (c_CS_reward l dC dI adC tI tL tII tLL cnt w tot rew grp fin gns rst rws last now nxt whl au al mu ml (xs (x + nI 1).toNatClampNeg) (xs (x + nI 2).toNatClampNeg) r rew' e1.symm) ⟨callB_of 2 hts (goodL kl_26 (by decide +kernel)) rfl rfl rfl (hts _ kl_1) (hts _ kl_27) (by decide +kernel) ⟨Nat.le_of_ble_eq_true rfl, Nat.le_of_ble_eq_true rfl⟩, (hts _ kl_28), (hts _ kl_29)⟩ (pre_vw hK hN hP.l hD.l (q0 := 0) (ci := 6) rfl rfl) rfl rfl hl.1 rfl (lv_room (Nat.le_of_ble_eq_true rfl)) dL_law_202 ⟨Nat.le_of_ble_eq_true rfl, Nat.le_of_ble_eq_true rfl⟩) hP hD hS rfl (fun H locs hP hD hS => ?_)
  refine W.eq (g2 := F0 m 205 ls [.int r]) rfl ?_
  refine lv_aload_n hx hb dL_law_205 rfl (lv_at hl 2 rfl) ?_
  refine lv_aload_n hx hb dL_law_206 rfl (lv_at hl 0 rfl) ?_
  refine lv_iload_n hx hb dL_law_207 rfl (lv_at hl 3 rfl) ?_
  refine lv_iconst (v := 1) hx hb dL_law_208 (by decide) ?_
  refine lv_iadd hx hb dL_law_209 ?_
  refine va_sld hx hb hX hbl hbA hS (hin 1 (by omega)) dL_law_210 ?_
  refine lv_aload_n hx hb dL_law_211 rfl (lv_at hl 0 rfl) ?_
  refine lv_iload_n hx hb dL_law_212 rfl (lv_at hl 3 rfl) ?_
  refine lv_iconst (v := 2) hx hb dL_law_213 (by decide) ?_
  refine lv_iadd hx hb dL_law_214 ?_
  refine va_sld hx hb hX hbl hbA hS (hin 2 (by omega)) dL_law_215 ?_
  refine rw_callR (va_runV (As := [.int (xs (x + nI 1).toNatClampNeg), .int (xs (x + nI 2).toNatClampNeg)]) (rest := [.int r]) ⟨hx, hb, hml, hown, hts⟩ (c_M_reward l dC dI adM tI tL tII tLL thr sts wgt rwd au al cel rig sum gp bst few (xs (x + nI 1).toNatClampNeg) (xs (x + nI 2).toNatClampNeg) r 0 rwd' e2.symm) ⟨callB_of 2 hts (goodL kl_30 (by decide +kernel)) rfl rfl rfl (hts _ kl_6) (hts _ kl_31) (by decide +kernel) ⟨Nat.le_of_ble_eq_true rfl, Nat.le_of_ble_eq_true rfl⟩, (hts _ kl_32), (hts _ kl_33)⟩ (pre_vw hK hN hP.r hD.r (q0 := 0) (ci := 7) rfl rfl) rfl rfl hl.1 rfl (lv_room (Nat.le_of_ble_eq_true rfl)) dL_law_216 ⟨Nat.le_of_ble_eq_true rfl, Nat.le_of_ble_eq_true rfl⟩) hP hD hS rfl (fun H locs hP hD hS => ?_)
  refine W.eq (g2 := F0 m 219 ls [.int r, .int r]) rfl ?_
  refine lv_icmp_eq (tgt := 631) hx hb dL_law_219 (by decide) (fun c1 => ?_) (fun c1 => absurd rfl c1)
  exact kk H locs ⟨n, Wt, Rw', cnt, w, tot, rew', grp, fin, gns, rst, rws, last, now, nxt, whl, au, al, mu, ml, 0, sts, wgt, rwd', cel, rig, sum, gp, bst, few, hP, hR'⟩ hS
set_option maxHeartbeats 4000000 in
set_option maxRecDepth 100000 in
theorem law_part (l : Launch) (C0 : lw_At p s m meth c b L xs) (hin : ∀ k : Nat, k < 4 → vp_in (x + nI k) L) (hK : va_K (dC, dI) vwCl (tysA tI tL tII tLL) s) (hN : NW s) (hI : LI (dC, dI) tI tL tII tLL adC adM H) (hD : va_D (fun q : Nat => s.heap.size ≤ q) (wC0 adC tI tL tII tLL ++ wM0 adM tI tL tII tLL)) (hS : va_S (fun q : Nat => s.heap.size ≤ q) s.heap H locs) (hl : lv_has ls 4 [(0, .ref b), (1, .ref (adC 0)), (2, .ref (adM 0)), (3, .int x)]) (kk : ∀ (H : Heap) (locs : List Loc), LI (dC, dI) tI tL tII tLL adC adM H → va_S (fun q : Nat => s.heap.size ≤ q) s.heap H locs → W p l e room_1 s m #[Value.ref b] below meth c H locs 41 487 Q (F0 m 631 ls [])) : W p l e room_1 s m #[Value.ref b] below meth c H locs 41 487 Q (F0 m 224 ls []) := by
  obtain ⟨hx, hb, hr, hml, hown, hts, hX, hbl, hlocks, hgv⟩ := C0
  have hbA : ¬ (fun q : Nat => s.heap.size ≤ q) b := Nat.not_le.mpr hbl
  have hown : s.vm.findClass RL = some m.cls := hown
  obtain ⟨n, Wt, Rw, cnt, w, tot, rew, grp, fin, gns, rst, rws, last, now, nxt, whl, au, al, mu, ml, thr, sts, wgt, rwd, cel, rig, sum, gp, bst, few, hP, hR⟩ := hI
  have hD : va_D (fun q : Nat => s.heap.size ≤ q) ((wC adC tI tL tII tLL cnt w tot rew grp fin gns rst rws last now nxt whl au al mu ml) ++ (wM adM tI tL tII tLL thr sts wgt rwd au al cel rig sum gp bst few)) := hD.same rfl
  obtain ⟨r, e1, e2⟩ := e_part hR.1 hR.2.1 (xs (x + nI 1).toNatClampNeg)
  refine lv_aload_n hx hb dL_law_224 rfl (lv_at hl 1 rfl) ?_
  refine lv_aload_n hx hb dL_law_225 rfl (lv_at hl 0 rfl) ?_
  refine lv_iload_n hx hb dL_law_226 rfl (lv_at hl 3 rfl) ?_
  refine lv_iconst (v := 1) hx hb dL_law_227 (by decide) ?_
  refine lv_iadd hx hb dL_law_228 ?_
  refine va_sld hx hb hX hbl hbA hS (hin 1 (by omega)) dL_law_229 ?_
  refine ro_calli (va_runV (As := [.int (xs (x + nI 1).toNatClampNeg)]) (rest := []) ⟨hx, hb, hml, hown, hts⟩ (c_CS_part l dC dI adC tI tL tII tLL cnt w tot rew grp fin gns rst rws last now nxt whl au al mu ml (xs (x + nI 1).toNatClampNeg) r e1.symm) ⟨callB_of 1 hts (goodL kl_34 (by decide +kernel)) rfl rfl rfl (hts _ kl_1) (hts _ kl_35) (by decide +kernel) ⟨Nat.le_of_ble_eq_true rfl, Nat.le_of_ble_eq_true rfl⟩, (hts _ kl_36), (hts _ kl_37)⟩ (pre_v hK hN hP.l (q0 := 0) (ci := 6) rfl rfl) rfl rfl hl.1 rfl (lv_room (Nat.le_of_ble_eq_true rfl)) dL_law_230 ⟨Nat.le_of_ble_eq_true rfl, Nat.le_of_ble_eq_true rfl⟩) ?_
  refine W.eq (g2 := F0 m 233 ls [.int r]) rfl ?_
  refine lv_aload_n hx hb dL_law_233 rfl (lv_at hl 2 rfl) ?_
  refine lv_aload_n hx hb dL_law_234 rfl (lv_at hl 0 rfl) ?_
  refine lv_iload_n hx hb dL_law_235 rfl (lv_at hl 3 rfl) ?_
  refine lv_iconst (v := 1) hx hb dL_law_236 (by decide) ?_
  refine lv_iadd hx hb dL_law_237 ?_
  refine va_sld hx hb hX hbl hbA hS (hin 1 (by omega)) dL_law_238 ?_
  refine rw_callR (va_runV (As := [.int (xs (x + nI 1).toNatClampNeg)]) (rest := [.int r]) ⟨hx, hb, hml, hown, hts⟩ (c_M_part l dC dI adM tI tL tII tLL thr sts wgt rwd au al cel rig sum gp bst few (xs (x + nI 1).toNatClampNeg) r 0 e2.symm) ⟨callB_of 1 hts (goodL kl_38 (by decide +kernel)) rfl rfl rfl (hts _ kl_6) (hts _ kl_39) (by decide +kernel) ⟨Nat.le_of_ble_eq_true rfl, Nat.le_of_ble_eq_true rfl⟩, (hts _ kl_40), (hts _ kl_41)⟩ (pre_vw hK hN hP.r hD.r (q0 := 0) (ci := 7) rfl rfl) rfl rfl hl.1 rfl (lv_room (Nat.le_of_ble_eq_true rfl)) dL_law_239 ⟨Nat.le_of_ble_eq_true rfl, Nat.le_of_ble_eq_true rfl⟩) hP hD hS rfl (fun H locs hP hD hS => ?_)
  refine W.eq (g2 := F0 m 242 ls [.int r, .int r]) rfl ?_
  refine lv_icmp_eq (tgt := 631) hx hb dL_law_242 (by decide) (fun c1 => ?_) (fun c1 => absurd rfl c1)
  exact kk H locs ⟨n, Wt, Rw, cnt, w, tot, rew, grp, fin, gns, rst, rws, last, now, nxt, whl, au, al, mu, ml, 0, sts, wgt, rwd, cel, rig, sum, gp, bst, few, hP, hR⟩ hS
set_option maxHeartbeats 4000000 in
set_option maxRecDepth 100000 in
theorem law_closed (l : Launch) (C0 : lw_At p s m meth c b L xs) (hin : ∀ k : Nat, k < 4 → vp_in (x + nI k) L) (hK : va_K (dC, dI) vwCl (tysA tI tL tII tLL) s) (hN : NW s) (hI : LI (dC, dI) tI tL tII tLL adC adM H) (hD : va_D (fun q : Nat => s.heap.size ≤ q) (wC0 adC tI tL tII tLL ++ wM0 adM tI tL tII tLL)) (hS : va_S (fun q : Nat => s.heap.size ≤ q) s.heap H locs) (hl : lv_has ls 4 [(0, .ref b), (1, .ref (adC 0)), (2, .ref (adM 0)), (3, .int x)]) (kk : ∀ (H : Heap) (locs : List Loc), LI (dC, dI) tI tL tII tLL adC adM H → va_S (fun q : Nat => s.heap.size ≤ q) s.heap H locs → W p l e room_1 s m #[Value.ref b] below meth c H locs 41 487 Q (F0 m 631 ls [])) : W p l e room_1 s m #[Value.ref b] below meth c H locs 41 487 Q (F0 m 247 ls []) := by
  obtain ⟨hx, hb, hr, hml, hown, hts, hX, hbl, hlocks, hgv⟩ := C0
  have hbA : ¬ (fun q : Nat => s.heap.size ≤ q) b := Nat.not_le.mpr hbl
  have hown : s.vm.findClass RL = some m.cls := hown
  obtain ⟨n, Wt, Rw, cnt, w, tot, rew, grp, fin, gns, rst, rws, last, now, nxt, whl, au, al, mu, ml, thr, sts, wgt, rwd, cel, rig, sum, gp, bst, few, hP, hR⟩ := hI
  have hD : va_D (fun q : Nat => s.heap.size ≤ q) ((wC adC tI tL tII tLL cnt w tot rew grp fin gns rst rws last now nxt whl au al mu ml) ++ (wM adM tI tL tII tLL thr sts wgt rwd au al cel rig sum gp bst few)) := hD.same rfl
  obtain ⟨r, e1, e2⟩ := e_closed hR.1 hR.2.1 (xs (x + nI 1).toNatClampNeg)
  refine lv_aload_n hx hb dL_law_247 rfl (lv_at hl 1 rfl) ?_
  refine lv_aload_n hx hb dL_law_248 rfl (lv_at hl 0 rfl) ?_
  refine lv_iload_n hx hb dL_law_249 rfl (lv_at hl 3 rfl) ?_
  refine lv_iconst (v := 1) hx hb dL_law_250 (by decide) ?_
  refine lv_iadd hx hb dL_law_251 ?_
  refine va_sld hx hb hX hbl hbA hS (hin 1 (by omega)) dL_law_252 ?_
  refine ro_calli (va_runV (As := [.int (xs (x + nI 1).toNatClampNeg)]) (rest := []) ⟨hx, hb, hml, hown, hts⟩ (c_CS_closed l dC dI adC tI tL tII tLL cnt w tot rew grp fin gns rst rws last now nxt whl au al mu ml (xs (x + nI 1).toNatClampNeg) r e1.symm) ⟨callB_of 1 hts (goodL kl_42 (by decide +kernel)) rfl rfl rfl (hts _ kl_1) (hts _ kl_43) (by decide +kernel) ⟨Nat.le_of_ble_eq_true rfl, Nat.le_of_ble_eq_true rfl⟩, (hts _ kl_44), (hts _ kl_45)⟩ (pre_v hK hN hP.l (q0 := 0) (ci := 6) rfl rfl) rfl rfl hl.1 rfl (lv_room (Nat.le_of_ble_eq_true rfl)) dL_law_253 ⟨Nat.le_of_ble_eq_true rfl, Nat.le_of_ble_eq_true rfl⟩) ?_
  refine W.eq (g2 := F0 m 256 ls [.int r]) rfl ?_
  refine lv_aload_n hx hb dL_law_256 rfl (lv_at hl 2 rfl) ?_
  refine lv_aload_n hx hb dL_law_257 rfl (lv_at hl 0 rfl) ?_
  refine lv_iload_n hx hb dL_law_258 rfl (lv_at hl 3 rfl) ?_
  refine lv_iconst (v := 1) hx hb dL_law_259 (by decide) ?_
  refine lv_iadd hx hb dL_law_260 ?_
  refine va_sld hx hb hX hbl hbA hS (hin 1 (by omega)) dL_law_261 ?_
  refine rw_callR (va_runV (As := [.int (xs (x + nI 1).toNatClampNeg)]) (rest := [.int r]) ⟨hx, hb, hml, hown, hts⟩ (c_M_closed l dC dI adM tI tL tII tLL thr sts wgt rwd au al cel rig sum gp bst few (xs (x + nI 1).toNatClampNeg) r 0 e2.symm) ⟨callB_of 1 hts (goodL kl_46 (by decide +kernel)) rfl rfl rfl (hts _ kl_6) (hts _ kl_47) (by decide +kernel) ⟨Nat.le_of_ble_eq_true rfl, Nat.le_of_ble_eq_true rfl⟩, (hts _ kl_48), (hts _ kl_49)⟩ (pre_vw hK hN hP.r hD.r (q0 := 0) (ci := 7) rfl rfl) rfl rfl hl.1 rfl (lv_room (Nat.le_of_ble_eq_true rfl)) dL_law_262 ⟨Nat.le_of_ble_eq_true rfl, Nat.le_of_ble_eq_true rfl⟩) hP hD hS rfl (fun H locs hP hD hS => ?_)
  refine W.eq (g2 := F0 m 265 ls [.int r, .int r]) rfl ?_
  refine lv_icmp_eq (tgt := 631) hx hb dL_law_265 (by decide) (fun c1 => ?_) (fun c1 => absurd rfl c1)
  exact kk H locs ⟨n, Wt, Rw, cnt, w, tot, rew, grp, fin, gns, rst, rws, last, now, nxt, whl, au, al, mu, ml, 0, sts, wgt, rwd, cel, rig, sum, gp, bst, few, hP, hR⟩ hS
set_option maxHeartbeats 4000000 in
set_option maxRecDepth 100000 in
theorem law_period (l : Launch) (C0 : lw_At p s m meth c b L xs) (hin : ∀ k : Nat, k < 4 → vp_in (x + nI k) L) (hK : va_K (dC, dI) vwCl (tysA tI tL tII tLL) s) (hN : NW s) (hI : LI (dC, dI) tI tL tII tLL adC adM H) (hD : va_D (fun q : Nat => s.heap.size ≤ q) (wC0 adC tI tL tII tLL ++ wM0 adM tI tL tII tLL)) (hS : va_S (fun q : Nat => s.heap.size ≤ q) s.heap H locs) (hl : lv_has ls 4 [(0, .ref b), (1, .ref (adC 0)), (2, .ref (adM 0)), (3, .int x)]) (kk : ∀ (H : Heap) (locs : List Loc), LI (dC, dI) tI tL tII tLL adC adM H → va_S (fun q : Nat => s.heap.size ≤ q) s.heap H locs → W p l e room_1 s m #[Value.ref b] below meth c H locs 41 487 Q (F0 m 631 ls [])) : W p l e room_1 s m #[Value.ref b] below meth c H locs 41 487 Q (F0 m 270 ls []) := by
  obtain ⟨hx, hb, hr, hml, hown, hts, hX, hbl, hlocks, hgv⟩ := C0
  have hbA : ¬ (fun q : Nat => s.heap.size ≤ q) b := Nat.not_le.mpr hbl
  have hown : s.vm.findClass RL = some m.cls := hown
  obtain ⟨n, Wt, Rw, cnt, w, tot, rew, grp, fin, gns, rst, rws, last, now, nxt, whl, au, al, mu, ml, thr, sts, wgt, rwd, cel, rig, sum, gp, bst, few, hP, hR⟩ := hI
  have hD : va_D (fun q : Nat => s.heap.size ≤ q) ((wC adC tI tL tII tLL cnt w tot rew grp fin gns rst rws last now nxt whl au al mu ml) ++ (wM adM tI tL tII tLL thr sts wgt rwd au al cel rig sum gp bst few)) := hD.same rfl
  obtain ⟨r, e1, e2⟩ := e_period hR.1 hR.2.1 (xs (x + nI 1).toNatClampNeg)
  refine lv_aload_n hx hb dL_law_270 rfl (lv_at hl 1 rfl) ?_
  refine lv_aload_n hx hb dL_law_271 rfl (lv_at hl 0 rfl) ?_
  refine lv_iload_n hx hb dL_law_272 rfl (lv_at hl 3 rfl) ?_
  refine lv_iconst (v := 1) hx hb dL_law_273 (by decide) ?_
  refine lv_iadd hx hb dL_law_274 ?_
  refine va_sld hx hb hX hbl hbA hS (hin 1 (by omega)) dL_law_275 ?_
  refine ro_calli (va_runV (As := [.int (xs (x + nI 1).toNatClampNeg)]) (rest := []) ⟨hx, hb, hml, hown, hts⟩ (c_CS_period l dC dI adC tI tL tII tLL cnt w tot rew grp fin gns rst rws last now nxt whl au al mu ml (xs (x + nI 1).toNatClampNeg) r e1.symm) ⟨callB_of 1 hts (goodL kl_50 (by decide +kernel)) rfl rfl rfl (hts _ kl_1) (hts _ kl_51) (by decide +kernel) ⟨Nat.le_of_ble_eq_true rfl, Nat.le_of_ble_eq_true rfl⟩, (hts _ kl_52), (hts _ kl_53)⟩ (pre_v hK hN hP.l (q0 := 0) (ci := 6) rfl rfl) rfl rfl hl.1 rfl (lv_room (Nat.le_of_ble_eq_true rfl)) dL_law_276 ⟨Nat.le_of_ble_eq_true rfl, Nat.le_of_ble_eq_true rfl⟩) ?_
  refine W.eq (g2 := F0 m 279 ls [.int r]) rfl ?_
  refine lv_aload_n hx hb dL_law_279 rfl (lv_at hl 2 rfl) ?_
  refine lv_aload_n hx hb dL_law_280 rfl (lv_at hl 0 rfl) ?_
  refine lv_iload_n hx hb dL_law_281 rfl (lv_at hl 3 rfl) ?_
  refine lv_iconst (v := 1) hx hb dL_law_282 (by decide) ?_
  refine lv_iadd hx hb dL_law_283 ?_
  refine va_sld hx hb hX hbl hbA hS (hin 1 (by omega)) dL_law_284 ?_
  refine rw_callR (va_runV (As := [.int (xs (x + nI 1).toNatClampNeg)]) (rest := [.int r]) ⟨hx, hb, hml, hown, hts⟩ (c_M_period l dC dI adM tI tL tII tLL thr sts wgt rwd au al cel rig sum gp bst few (xs (x + nI 1).toNatClampNeg) r 0 e2.symm) ⟨callB_of 1 hts (goodL kl_54 (by decide +kernel)) rfl rfl rfl (hts _ kl_6) (hts _ kl_55) (by decide +kernel) ⟨Nat.le_of_ble_eq_true rfl, Nat.le_of_ble_eq_true rfl⟩, (hts _ kl_56), (hts _ kl_57)⟩ (pre_vw hK hN hP.r hD.r (q0 := 0) (ci := 7) rfl rfl) rfl rfl hl.1 rfl (lv_room (Nat.le_of_ble_eq_true rfl)) dL_law_285 ⟨Nat.le_of_ble_eq_true rfl, Nat.le_of_ble_eq_true rfl⟩) hP hD hS rfl (fun H locs hP hD hS => ?_)
  refine W.eq (g2 := F0 m 288 ls [.int r, .int r]) rfl ?_
  refine lv_icmp_eq (tgt := 631) hx hb dL_law_288 (by decide) (fun c1 => ?_) (fun c1 => absurd rfl c1)
  exact kk H locs ⟨n, Wt, Rw, cnt, w, tot, rew, grp, fin, gns, rst, rws, last, now, nxt, whl, au, al, mu, ml, 0, sts, wgt, rwd, cel, rig, sum, gp, bst, few, hP, hR⟩ hS
set_option maxHeartbeats 4000000 in
set_option maxRecDepth 100000 in
theorem law_alike (l : Launch) (C0 : lw_At p s m meth c b L xs) (hin : ∀ k : Nat, k < 4 → vp_in (x + nI k) L) (hK : va_K (dC, dI) vwCl (tysA tI tL tII tLL) s) (hN : NW s) (hI : LI (dC, dI) tI tL tII tLL adC adM H) (hD : va_D (fun q : Nat => s.heap.size ≤ q) (wC0 adC tI tL tII tLL ++ wM0 adM tI tL tII tLL)) (hS : va_S (fun q : Nat => s.heap.size ≤ q) s.heap H locs) (hl : lv_has ls 4 [(0, .ref b), (1, .ref (adC 0)), (2, .ref (adM 0)), (3, .int x)]) (kk : ∀ (H : Heap) (locs : List Loc), LI (dC, dI) tI tL tII tLL adC adM H → va_S (fun q : Nat => s.heap.size ≤ q) s.heap H locs → W p l e room_1 s m #[Value.ref b] below meth c H locs 41 487 Q (F0 m 631 ls [])) : W p l e room_1 s m #[Value.ref b] below meth c H locs 41 487 Q (F0 m 293 ls []) := by
  obtain ⟨hx, hb, hr, hml, hown, hts, hX, hbl, hlocks, hgv⟩ := C0
  have hbA : ¬ (fun q : Nat => s.heap.size ≤ q) b := Nat.not_le.mpr hbl
  have hown : s.vm.findClass RL = some m.cls := hown
  obtain ⟨n, Wt, Rw, cnt, w, tot, rew, grp, fin, gns, rst, rws, last, now, nxt, whl, au, al, mu, ml, thr, sts, wgt, rwd, cel, rig, sum, gp, bst, few, hP, hR⟩ := hI
  have hD : va_D (fun q : Nat => s.heap.size ≤ q) ((wC adC tI tL tII tLL cnt w tot rew grp fin gns rst rws last now nxt whl au al mu ml) ++ (wM adM tI tL tII tLL thr sts wgt rwd au al cel rig sum gp bst few)) := hD.same rfl
  obtain ⟨r, grp', fin', gp', bst', few', e1, e2⟩ := e_alike hR grp fin gp bst few (xs (x + nI 1).toNatClampNeg)
  refine lv_aload_n hx hb dL_law_293 rfl (lv_at hl 1 rfl) ?_
  refine lv_aload_n hx hb dL_law_294 rfl (lv_at hl 0 rfl) ?_
  refine lv_iload_n hx hb dL_law_295 rfl (lv_at hl 3 rfl) ?_
  refine lv_iconst (v := 1) hx hb dL_law_296 (by decide) ?_
  refine lv_iadd hx hb dL_law_297 ?_
  refine va_sld hx hb hX hbl hbA hS (hin 1 (by omega)) dL_law_298 ?_
  refine rw_callL (va_runV (As := [.int (xs (x + nI 1).toNatClampNeg)]) (rest := []) ⟨hx, hb, hml, hown, hts⟩ (c_CS_alike l dC dI adC tI tL tII tLL cnt w tot rew grp fin gns rst rws last now nxt whl au al mu ml (xs (x + nI 1).toNatClampNeg) r grp' fin' e1.symm) ⟨callB_of 1 hts (goodL kl_58 (by decide +kernel)) rfl rfl rfl (hts _ kl_1) (hts _ kl_59) (by decide +kernel) ⟨Nat.le_of_ble_eq_true rfl, Nat.le_of_ble_eq_true rfl⟩, (hts _ kl_60), (hts _ kl_61)⟩ (pre_vw hK hN hP.l hD.l (q0 := 0) (ci := 6) rfl rfl) rfl rfl hl.1 rfl (lv_room (Nat.le_of_ble_eq_true rfl)) dL_law_299 ⟨Nat.le_of_ble_eq_true rfl, Nat.le_of_ble_eq_true rfl⟩) hP hD hS rfl (fun H locs hP hD hS => ?_)
  refine W.eq (g2 := F0 m 302 ls [.int r]) rfl ?_
  refine lv_aload_n hx hb dL_law_302 rfl (lv_at hl 2 rfl) ?_
  refine lv_aload_n hx hb dL_law_303 rfl (lv_at hl 0 rfl) ?_
  refine lv_iload_n hx hb dL_law_304 rfl (lv_at hl 3 rfl) ?_
  refine lv_iconst (v := 1) hx hb dL_law_305 (by decide) ?_
  refine lv_iadd hx hb dL_law_306 ?_
  refine va_sld hx hb hX hbl hbA hS (hin 1 (by omega)) dL_law_307 ?_
  refine rw_callR (va_runV (As := [.int (xs (x + nI 1).toNatClampNeg)]) (rest := [.int r]) ⟨hx, hb, hml, hown, hts⟩ (c_M_alike l dC dI adM tI tL tII tLL thr sts wgt rwd au al cel rig sum gp bst few (xs (x + nI 1).toNatClampNeg) r 0 gp' bst' few' e2.symm) ⟨callB_of 1 hts (goodL kl_62 (by decide +kernel)) rfl rfl rfl (hts _ kl_6) (hts _ kl_63) (by decide +kernel) ⟨Nat.le_of_ble_eq_true rfl, Nat.le_of_ble_eq_true rfl⟩, (hts _ kl_64), (hts _ kl_65)⟩ (pre_vw hK hN hP.r hD.r (q0 := 0) (ci := 7) rfl rfl) rfl rfl hl.1 rfl (lv_room (Nat.le_of_ble_eq_true rfl)) dL_law_308 ⟨Nat.le_of_ble_eq_true rfl, Nat.le_of_ble_eq_true rfl⟩) hP hD hS rfl (fun H locs hP hD hS => ?_)
  refine W.eq (g2 := F0 m 311 ls [.int r, .int r]) rfl ?_
  refine lv_icmp_eq (tgt := 631) hx hb dL_law_311 (by decide) (fun c1 => ?_) (fun c1 => absurd rfl c1)
  exact kk H locs ⟨n, Wt, Rw, cnt, w, tot, rew, grp', fin', gns, rst, rws, last, now, nxt, whl, au, al, mu, ml, 0, sts, wgt, rwd, cel, rig, sum, gp', bst', few', hP, hR⟩ hS
set_option maxHeartbeats 4000000 in
set_option maxRecDepth 100000 in
theorem law_ever (l : Launch) (C0 : lw_At p s m meth c b L xs) (hin : ∀ k : Nat, k < 4 → vp_in (x + nI k) L) (hK : va_K (dC, dI) vwCl (tysA tI tL tII tLL) s) (hN : NW s) (hI : LI (dC, dI) tI tL tII tLL adC adM H) (hD : va_D (fun q : Nat => s.heap.size ≤ q) (wC0 adC tI tL tII tLL ++ wM0 adM tI tL tII tLL)) (hS : va_S (fun q : Nat => s.heap.size ≤ q) s.heap H locs) (hl : lv_has ls 4 [(0, .ref b), (1, .ref (adC 0)), (2, .ref (adM 0)), (3, .int x)]) (kk : ∀ (H : Heap) (locs : List Loc), LI (dC, dI) tI tL tII tLL adC adM H → va_S (fun q : Nat => s.heap.size ≤ q) s.heap H locs → W p l e room_1 s m #[Value.ref b] below meth c H locs 41 487 Q (F0 m 631 ls [])) : W p l e room_1 s m #[Value.ref b] below meth c H locs 41 487 Q (F0 m 316 ls []) := by
  obtain ⟨hx, hb, hr, hml, hown, hts, hX, hbl, hlocks, hgv⟩ := C0
  have hbA : ¬ (fun q : Nat => s.heap.size ≤ q) b := Nat.not_le.mpr hbl
  have hown : s.vm.findClass RL = some m.cls := hown
  obtain ⟨n, Wt, Rw, cnt, w, tot, rew, grp, fin, gns, rst, rws, last, now, nxt, whl, au, al, mu, ml, thr, sts, wgt, rwd, cel, rig, sum, gp, bst, few, hP, hR⟩ := hI
  have hD : va_D (fun q : Nat => s.heap.size ≤ q) ((wC adC tI tL tII tLL cnt w tot rew grp fin gns rst rws last now nxt whl au al mu ml) ++ (wM adM tI tL tII tLL thr sts wgt rwd au al cel rig sum gp bst few)) := hD.same rfl
  obtain ⟨r, gns', rst', rws', last', au', al', cel', rig', sum', e1, e2⟩ := e_ever hR.1 hR.2.1 gns rst rws last au al cel rig sum (xs (x + nI 1).toNatClampNeg) (xs (x + nI 2).toNatClampNeg)
  refine lv_aload_n hx hb dL_law_316 rfl (lv_at hl 1 rfl) ?_
  refine lv_aload_n hx hb dL_law_317 rfl (lv_at hl 0 rfl) ?_
  refine lv_iload_n hx hb dL_law_318 rfl (lv_at hl 3 rfl) ?_
  refine lv_iconst (v := 1) hx hb dL_law_319 (by decide) ?_
  refine lv_iadd hx hb dL_law_320 ?_
  refine va_sld hx hb hX hbl hbA hS (hin 1 (by omega)) dL_law_321 ?_
  refine lv_aload_n hx hb dL_law_322 rfl (lv_at hl 0 rfl) ?_
  refine lv_iload_n hx hb dL_law_323 rfl (lv_at hl 3 rfl) ?_
  refine lv_iconst (v := 2) hx hb dL_law_324 (by decide) ?_
  refine lv_iadd hx hb dL_law_325 ?_
  refine va_sld hx hb hX hbl hbA hS (hin 2 (by omega)) dL_law_326 ?_
  refine rw_callL (va_runV (As := [.int (xs (x + nI 1).toNatClampNeg), .int (xs (x + nI 2).toNatClampNeg)]) (rest := []) ⟨hx, hb, hml, hown, hts⟩ (c_CS_ever l dC dI adC tI tL tII tLL cnt w tot rew grp fin gns rst rws last now nxt whl au al mu ml (xs (x + nI 1).toNatClampNeg) (xs (x + nI 2).toNatClampNeg) r gns' rst' rws' last' au' al' e1.symm) ⟨callB_of 2 hts (goodL kl_66 (by decide +kernel)) rfl rfl rfl (hts _ kl_1) (hts _ kl_67) (by decide +kernel) ⟨Nat.le_of_ble_eq_true rfl, Nat.le_of_ble_eq_true rfl⟩, (hts _ kl_68), (hts _ kl_69)⟩ (pre_vw hK hN hP.l hD.l (q0 := 0) (ci := 6) rfl rfl) rfl rfl hl.1 rfl (lv_room (Nat.le_of_ble_eq_true rfl)) dL_law_327 ⟨Nat.le_of_ble_eq_true rfl, Nat.le_of_ble_eq_true rfl⟩) hP hD hS rfl (fun H locs hP hD hS => ?_)
  refine W.eq (g2 := F0 m 330 ls [.int r]) rfl ?_
  refine lv_aload_n hx hb dL_law_330 rfl (lv_at hl 2 rfl) ?_
  refine lv_aload_n hx hb dL_law_331 rfl (lv_at hl 0 rfl) ?_
  refine lv_iload_n hx hb dL_law_332 rfl (lv_at hl 3 rfl) ?_
  refine lv_iconst (v := 1) hx hb dL_law_333 (by decide) ?_
  refine lv_iadd hx hb dL_law_334 ?_
  refine va_sld hx hb hX hbl hbA hS (hin 1 (by omega)) dL_law_335 ?_
  refine lv_aload_n hx hb dL_law_336 rfl (lv_at hl 0 rfl) ?_
  refine lv_iload_n hx hb dL_law_337 rfl (lv_at hl 3 rfl) ?_
  refine lv_iconst (v := 2) hx hb dL_law_338 (by decide) ?_
  refine lv_iadd hx hb dL_law_339 ?_
  refine va_sld hx hb hX hbl hbA hS (hin 2 (by omega)) dL_law_340 ?_
  refine rw_callR (va_runV (As := [.int (xs (x + nI 1).toNatClampNeg), .int (xs (x + nI 2).toNatClampNeg)]) (rest := [.int r]) ⟨hx, hb, hml, hown, hts⟩ (c_M_ever l dC dI adM tI tL tII tLL thr sts wgt rwd au al cel rig sum gp bst few (xs (x + nI 1).toNatClampNeg) (xs (x + nI 2).toNatClampNeg) r 0 au' al' cel' rig' sum' e2.symm) ⟨callB_of 2 hts (goodL kl_70 (by decide +kernel)) rfl rfl rfl (hts _ kl_6) (hts _ kl_71) (by decide +kernel) ⟨Nat.le_of_ble_eq_true rfl, Nat.le_of_ble_eq_true rfl⟩, (hts _ kl_72), (hts _ kl_73)⟩ (pre_vw hK hN hP.r hD.r (q0 := 0) (ci := 7) rfl rfl) rfl rfl hl.1 rfl (lv_room (Nat.le_of_ble_eq_true rfl)) dL_law_341 ⟨Nat.le_of_ble_eq_true rfl, Nat.le_of_ble_eq_true rfl⟩) hP hD hS rfl (fun H locs hP hD hS => ?_)
  refine W.eq (g2 := F0 m 344 ls [.int r, .int r]) rfl ?_
  refine lv_icmp_eq (tgt := 631) hx hb dL_law_344 (by decide) (fun c1 => ?_) (fun c1 => absurd rfl c1)
  exact kk H locs ⟨n, Wt, Rw, cnt, w, tot, rew, grp, fin, gns', rst', rws', last', now, nxt, whl, au', al', mu, ml, 0, sts, wgt, rwd, cel', rig', sum', gp, bst, few, hP, hR⟩ hS
set_option maxHeartbeats 4000000 in
set_option maxRecDepth 100000 in
theorem law_again (l : Launch) (C0 : lw_At p s m meth c b L xs) (hin : ∀ k : Nat, k < 4 → vp_in (x + nI k) L) (hK : va_K (dC, dI) vwCl (tysA tI tL tII tLL) s) (hN : NW s) (hI : LI (dC, dI) tI tL tII tLL adC adM H) (hD : va_D (fun q : Nat => s.heap.size ≤ q) (wC0 adC tI tL tII tLL ++ wM0 adM tI tL tII tLL)) (hS : va_S (fun q : Nat => s.heap.size ≤ q) s.heap H locs) (hl : lv_has ls 4 [(0, .ref b), (1, .ref (adC 0)), (2, .ref (adM 0)), (3, .int x)]) (kk : ∀ (H : Heap) (locs : List Loc), LI (dC, dI) tI tL tII tLL adC adM H → va_S (fun q : Nat => s.heap.size ≤ q) s.heap H locs → W p l e room_1 s m #[Value.ref b] below meth c H locs 41 487 Q (F0 m 631 ls [])) : W p l e room_1 s m #[Value.ref b] below meth c H locs 41 487 Q (F0 m 349 ls []) := by
  obtain ⟨hx, hb, hr, hml, hown, hts, hX, hbl, hlocks, hgv⟩ := C0
  have hbA : ¬ (fun q : Nat => s.heap.size ≤ q) b := Nat.not_le.mpr hbl
  have hown : s.vm.findClass RL = some m.cls := hown
  obtain ⟨n, Wt, Rw, cnt, w, tot, rew, grp, fin, gns, rst, rws, last, now, nxt, whl, au, al, mu, ml, thr, sts, wgt, rwd, cel, rig, sum, gp, bst, few, hP, hR⟩ := hI
  have hD : va_D (fun q : Nat => s.heap.size ≤ q) ((wC adC tI tL tII tLL cnt w tot rew grp fin gns rst rws last now nxt whl au al mu ml) ++ (wM adM tI tL tII tLL thr sts wgt rwd au al cel rig sum gp bst few)) := hD.same rfl
  obtain ⟨r, gns', rst', rws', last', au', al', cel', rig', sum', e1, e2⟩ := e_again hR.1 hR.2.1 gns rst rws last au al cel rig sum (xs (x + nI 1).toNatClampNeg)
  refine lv_aload_n hx hb dL_law_349 rfl (lv_at hl 1 rfl) ?_
  refine lv_aload_n hx hb dL_law_350 rfl (lv_at hl 0 rfl) ?_
  refine lv_iload_n hx hb dL_law_351 rfl (lv_at hl 3 rfl) ?_
  refine lv_iconst (v := 1) hx hb dL_law_352 (by decide) ?_
  refine lv_iadd hx hb dL_law_353 ?_
  refine va_sld hx hb hX hbl hbA hS (hin 1 (by omega)) dL_law_354 ?_
  refine rw_callL (va_runV (As := [.int (xs (x + nI 1).toNatClampNeg)]) (rest := []) ⟨hx, hb, hml, hown, hts⟩ (c_CS_again l dC dI adC tI tL tII tLL cnt w tot rew grp fin gns rst rws last now nxt whl au al mu ml (xs (x + nI 1).toNatClampNeg) r gns' rst' rws' last' au' al' e1.symm) ⟨callB_of 1 hts (goodL kl_74 (by decide +kernel)) rfl rfl rfl (hts _ kl_1) (hts _ kl_75) (by decide +kernel) ⟨Nat.le_of_ble_eq_true rfl, Nat.le_of_ble_eq_true rfl⟩, (hts _ kl_76), (hts _ kl_77)⟩ (pre_vw hK hN hP.l hD.l (q0 := 0) (ci := 6) rfl rfl) rfl rfl hl.1 rfl (lv_room (Nat.le_of_ble_eq_true rfl)) dL_law_355 ⟨Nat.le_of_ble_eq_true rfl, Nat.le_of_ble_eq_true rfl⟩) hP hD hS rfl (fun H locs hP hD hS => ?_)
  refine W.eq (g2 := F0 m 358 ls [.int r]) rfl ?_
  refine lv_aload_n hx hb dL_law_358 rfl (lv_at hl 2 rfl) ?_
  refine lv_aload_n hx hb dL_law_359 rfl (lv_at hl 0 rfl) ?_
  refine lv_iload_n hx hb dL_law_360 rfl (lv_at hl 3 rfl) ?_
  refine lv_iconst (v := 1) hx hb dL_law_361 (by decide) ?_
  refine lv_iadd hx hb dL_law_362 ?_
  refine va_sld hx hb hX hbl hbA hS (hin 1 (by omega)) dL_law_363 ?_
  refine rw_callR (va_runV (As := [.int (xs (x + nI 1).toNatClampNeg)]) (rest := [.int r]) ⟨hx, hb, hml, hown, hts⟩ (c_M_again l dC dI adM tI tL tII tLL thr sts wgt rwd au al cel rig sum gp bst few (xs (x + nI 1).toNatClampNeg) r 0 au' al' cel' rig' sum' e2.symm) ⟨callB_of 1 hts (goodL kl_78 (by decide +kernel)) rfl rfl rfl (hts _ kl_6) (hts _ kl_79) (by decide +kernel) ⟨Nat.le_of_ble_eq_true rfl, Nat.le_of_ble_eq_true rfl⟩, (hts _ kl_80), (hts _ kl_81)⟩ (pre_vw hK hN hP.r hD.r (q0 := 0) (ci := 7) rfl rfl) rfl rfl hl.1 rfl (lv_room (Nat.le_of_ble_eq_true rfl)) dL_law_364 ⟨Nat.le_of_ble_eq_true rfl, Nat.le_of_ble_eq_true rfl⟩) hP hD hS rfl (fun H locs hP hD hS => ?_)
  refine W.eq (g2 := F0 m 367 ls [.int r, .int r]) rfl ?_
  refine lv_icmp_eq (tgt := 631) hx hb dL_law_367 (by decide) (fun c1 => ?_) (fun c1 => absurd rfl c1)
  exact kk H locs ⟨n, Wt, Rw, cnt, w, tot, rew, grp, fin, gns', rst', rws', last', now, nxt, whl, au', al', mu, ml, 0, sts, wgt, rwd, cel', rig', sum', gp, bst, few, hP, hR⟩ hS
set_option maxHeartbeats 4000000 in
set_option maxRecDepth 100000 in
theorem law_before (l : Launch) (C0 : lw_At p s m meth c b L xs) (hin : ∀ k : Nat, k < 4 → vp_in (x + nI k) L) (hK : va_K (dC, dI) vwCl (tysA tI tL tII tLL) s) (hN : NW s) (hI : LI (dC, dI) tI tL tII tLL adC adM H) (hD : va_D (fun q : Nat => s.heap.size ≤ q) (wC0 adC tI tL tII tLL ++ wM0 adM tI tL tII tLL)) (hS : va_S (fun q : Nat => s.heap.size ≤ q) s.heap H locs) (hl : lv_has ls 4 [(0, .ref b), (1, .ref (adC 0)), (2, .ref (adM 0)), (3, .int x)]) (kk : ∀ (H : Heap) (locs : List Loc), LI (dC, dI) tI tL tII tLL adC adM H → va_S (fun q : Nat => s.heap.size ≤ q) s.heap H locs → W p l e room_1 s m #[Value.ref b] below meth c H locs 41 487 Q (F0 m 631 ls [])) : W p l e room_1 s m #[Value.ref b] below meth c H locs 41 487 Q (F0 m 372 ls []) := by
  obtain ⟨hx, hb, hr, hml, hown, hts, hX, hbl, hlocks, hgv⟩ := C0
  have hbA : ¬ (fun q : Nat => s.heap.size ≤ q) b := Nat.not_le.mpr hbl
  have hown : s.vm.findClass RL = some m.cls := hown
  obtain ⟨n, Wt, Rw, cnt, w, tot, rew, grp, fin, gns, rst, rws, last, now, nxt, whl, au, al, mu, ml, thr, sts, wgt, rwd, cel, rig, sum, gp, bst, few, hP, hR⟩ := hI
  have hD : va_D (fun q : Nat => s.heap.size ≤ q) ((wC adC tI tL tII tLL cnt w tot rew grp fin gns rst rws last now nxt whl au al mu ml) ++ (wM adM tI tL tII tLL thr sts wgt rwd au al cel rig sum gp bst few)) := hD.same rfl
  obtain ⟨r, gns', rst', rws', last', au', al', cel', rig', sum', e1, e2⟩ := e_before hR.1 hR.2.1 gns rst rws last au al cel rig sum (xs (x + nI 1).toNatClampNeg) (xs (x + nI 2).toNatClampNeg) (xs (x + nI 3).toNatClampNeg)
  refine lv_aload_n hx hb dL_law_372 rfl (lv_at hl 1 rfl) ?_
  refine lv_aload_n hx hb dL_law_373 rfl (lv_at hl 0 rfl) ?_
  refine lv_iload_n hx hb dL_law_374 rfl (lv_at hl 3 rfl) ?_
  refine lv_iconst (v := 1) hx hb dL_law_375 (by decide) ?_
  refine lv_iadd hx hb dL_law_376 ?_
  refine va_sld hx hb hX hbl hbA hS (hin 1 (by omega)) dL_law_377 ?_
  refine lv_aload_n hx hb dL_law_378 rfl (lv_at hl 0 rfl) ?_
  refine lv_iload_n hx hb dL_law_379 rfl (lv_at hl 3 rfl) ?_
  refine lv_iconst (v := 2) hx hb dL_law_380 (by decide) ?_
  refine lv_iadd hx hb dL_law_381 ?_
  refine va_sld hx hb hX hbl hbA hS (hin 2 (by omega)) dL_law_382 ?_
  refine lv_aload_n hx hb dL_law_383 rfl (lv_at hl 0 rfl) ?_
  refine lv_iload_n hx hb dL_law_384 rfl (lv_at hl 3 rfl) ?_
  refine lv_iconst (v := 3) hx hb dL_law_385 (by decide) ?_
  refine lv_iadd hx hb dL_law_386 ?_
  refine va_sld hx hb hX hbl hbA hS (hin 3 (by omega)) dL_law_387 ?_
  refine rw_callL (va_runV (As := [.int (xs (x + nI 1).toNatClampNeg), .int (xs (x + nI 2).toNatClampNeg), .int (xs (x + nI 3).toNatClampNeg)]) (rest := []) ⟨hx, hb, hml, hown, hts⟩ (c_CS_before l dC dI adC tI tL tII tLL cnt w tot rew grp fin gns rst rws last now nxt whl au al mu ml (xs (x + nI 1).toNatClampNeg) (xs (x + nI 2).toNatClampNeg) (xs (x + nI 3).toNatClampNeg) r gns' rst' rws' last' au' al' e1.symm) ⟨callB_of 3 hts (goodL kl_82 (by decide +kernel)) rfl rfl rfl (hts _ kl_1) (hts _ kl_83) (by decide +kernel) ⟨Nat.le_of_ble_eq_true rfl, Nat.le_of_ble_eq_true rfl⟩, (hts _ kl_84), (hts _ kl_85)⟩ (pre_vw hK hN hP.l hD.l (q0 := 0) (ci := 6) rfl rfl) rfl rfl hl.1 rfl (lv_room (Nat.le_of_ble_eq_true rfl)) dL_law_388 ⟨Nat.le_of_ble_eq_true rfl, Nat.le_of_ble_eq_true rfl⟩) hP hD hS rfl (fun H locs hP hD hS => ?_)
  refine W.eq (g2 := F0 m 391 ls [.int r]) rfl ?_
  refine lv_aload_n hx hb dL_law_391 rfl (lv_at hl 2 rfl) ?_
  refine lv_aload_n hx hb dL_law_392 rfl (lv_at hl 0 rfl) ?_
  refine lv_iload_n hx hb dL_law_393 rfl (lv_at hl 3 rfl) ?_
  refine lv_iconst (v := 1) hx hb dL_law_394 (by decide) ?_
  refine lv_iadd hx hb dL_law_395 ?_
  refine va_sld hx hb hX hbl hbA hS (hin 1 (by omega)) dL_law_396 ?_
  refine lv_aload_n hx hb dL_law_397 rfl (lv_at hl 0 rfl) ?_
  refine lv_iload_n hx hb dL_law_398 rfl (lv_at hl 3 rfl) ?_
  refine lv_iconst (v := 2) hx hb dL_law_399 (by decide) ?_
  refine lv_iadd hx hb dL_law_400 ?_
  refine va_sld hx hb hX hbl hbA hS (hin 2 (by omega)) dL_law_401 ?_
  refine lv_aload_n hx hb dL_law_402 rfl (lv_at hl 0 rfl) ?_
  refine lv_iload_n hx hb dL_law_403 rfl (lv_at hl 3 rfl) ?_
  refine lv_iconst (v := 3) hx hb dL_law_404 (by decide) ?_
  refine lv_iadd hx hb dL_law_405 ?_
  refine va_sld hx hb hX hbl hbA hS (hin 3 (by omega)) dL_law_406 ?_
  refine rw_callR (va_runV (As := [.int (xs (x + nI 1).toNatClampNeg), .int (xs (x + nI 2).toNatClampNeg), .int (xs (x + nI 3).toNatClampNeg)]) (rest := [.int r]) ⟨hx, hb, hml, hown, hts⟩ (c_M_before l dC dI adM tI tL tII tLL thr sts wgt rwd au al cel rig sum gp bst few (xs (x + nI 1).toNatClampNeg) (xs (x + nI 2).toNatClampNeg) (xs (x + nI 3).toNatClampNeg) r 0 au' al' cel' rig' sum' e2.symm) ⟨callB_of 3 hts (goodL kl_86 (by decide +kernel)) rfl rfl rfl (hts _ kl_6) (hts _ kl_87) (by decide +kernel) ⟨Nat.le_of_ble_eq_true rfl, Nat.le_of_ble_eq_true rfl⟩, (hts _ kl_88), (hts _ kl_89)⟩ (pre_vw hK hN hP.r hD.r (q0 := 0) (ci := 7) rfl rfl) rfl rfl hl.1 rfl (lv_room (Nat.le_of_ble_eq_true rfl)) dL_law_407 ⟨Nat.le_of_ble_eq_true rfl, Nat.le_of_ble_eq_true rfl⟩) hP hD hS rfl (fun H locs hP hD hS => ?_)
  refine W.eq (g2 := F0 m 410 ls [.int r, .int r]) rfl ?_
  refine lv_icmp_eq (tgt := 631) hx hb dL_law_410 (by decide) (fun c1 => ?_) (fun c1 => absurd rfl c1)
  exact kk H locs ⟨n, Wt, Rw, cnt, w, tot, rew, grp, fin, gns', rst', rws', last', now, nxt, whl, au', al', mu, ml, 0, sts, wgt, rwd, cel', rig', sum', gp, bst, few, hP, hR⟩ hS
set_option maxHeartbeats 4000000 in
set_option maxRecDepth 100000 in
theorem law_steps (l : Launch) (C0 : lw_At p s m meth c b L xs) (hin : ∀ k : Nat, k < 4 → vp_in (x + nI k) L) (hK : va_K (dC, dI) vwCl (tysA tI tL tII tLL) s) (hN : NW s) (hI : LI (dC, dI) tI tL tII tLL adC adM H) (hD : va_D (fun q : Nat => s.heap.size ≤ q) (wC0 adC tI tL tII tLL ++ wM0 adM tI tL tII tLL)) (hS : va_S (fun q : Nat => s.heap.size ≤ q) s.heap H locs) (hl : lv_has ls 4 [(0, .ref b), (1, .ref (adC 0)), (2, .ref (adM 0)), (3, .int x)]) (kk : ∀ (H : Heap) (locs : List Loc), LI (dC, dI) tI tL tII tLL adC adM H → va_S (fun q : Nat => s.heap.size ≤ q) s.heap H locs → W p l e room_1 s m #[Value.ref b] below meth c H locs 41 487 Q (F0 m 631 ls [])) : W p l e room_1 s m #[Value.ref b] below meth c H locs 41 487 Q (F0 m 415 ls []) := by
  obtain ⟨hx, hb, hr, hml, hown, hts, hX, hbl, hlocks, hgv⟩ := C0
  have hbA : ¬ (fun q : Nat => s.heap.size ≤ q) b := Nat.not_le.mpr hbl
  have hown : s.vm.findClass RL = some m.cls := hown
  obtain ⟨n, Wt, Rw, cnt, w, tot, rew, grp, fin, gns, rst, rws, last, now, nxt, whl, au, al, mu, ml, thr, sts, wgt, rwd, cel, rig, sum, gp, bst, few, hP, hR⟩ := hI
  have hD : va_D (fun q : Nat => s.heap.size ≤ q) ((wC adC tI tL tII tLL cnt w tot rew grp fin gns rst rws last now nxt whl au al mu ml) ++ (wM adM tI tL tII tLL thr sts wgt rwd au al cel rig sum gp bst few)) := hD.same rfl
  obtain ⟨r, gns', rst', rws', last', au', al', cel', rig', sum', e1, e2⟩ := e_steps hR.1 hR.2.1 gns rst rws last au al cel rig sum (xs (x + nI 1).toNatClampNeg) (xs (x + nI 2).toNatClampNeg)
  refine lv_aload_n hx hb dL_law_415 rfl (lv_at hl 1 rfl) ?_
  refine lv_aload_n hx hb dL_law_416 rfl (lv_at hl 0 rfl) ?_
  refine lv_iload_n hx hb dL_law_417 rfl (lv_at hl 3 rfl) ?_
  refine lv_iconst (v := 1) hx hb dL_law_418 (by decide) ?_
  refine lv_iadd hx hb dL_law_419 ?_
  refine va_sld hx hb hX hbl hbA hS (hin 1 (by omega)) dL_law_420 ?_
  refine lv_aload_n hx hb dL_law_421 rfl (lv_at hl 0 rfl) ?_
  refine lv_iload_n hx hb dL_law_422 rfl (lv_at hl 3 rfl) ?_
  refine lv_iconst (v := 2) hx hb dL_law_423 (by decide) ?_
  refine lv_iadd hx hb dL_law_424 ?_
  refine va_sld hx hb hX hbl hbA hS (hin 2 (by omega)) dL_law_425 ?_
  refine rw_callL (va_runV (As := [.int (xs (x + nI 1).toNatClampNeg), .int (xs (x + nI 2).toNatClampNeg)]) (rest := []) ⟨hx, hb, hml, hown, hts⟩ (c_CS_steps l dC dI adC tI tL tII tLL cnt w tot rew grp fin gns rst rws last now nxt whl au al mu ml (xs (x + nI 1).toNatClampNeg) (xs (x + nI 2).toNatClampNeg) r gns' rst' rws' last' au' al' e1.symm) ⟨callB_of 2 hts (goodL kl_90 (by decide +kernel)) rfl rfl rfl (hts _ kl_1) (hts _ kl_91) (by decide +kernel) ⟨Nat.le_of_ble_eq_true rfl, Nat.le_of_ble_eq_true rfl⟩, (hts _ kl_92), (hts _ kl_93)⟩ (pre_vw hK hN hP.l hD.l (q0 := 0) (ci := 6) rfl rfl) rfl rfl hl.1 rfl (lv_room (Nat.le_of_ble_eq_true rfl)) dL_law_426 ⟨Nat.le_of_ble_eq_true rfl, Nat.le_of_ble_eq_true rfl⟩) hP hD hS rfl (fun H locs hP hD hS => ?_)
  refine W.eq (g2 := F0 m 429 ls [.int r]) rfl ?_
  refine lv_aload_n hx hb dL_law_429 rfl (lv_at hl 2 rfl) ?_
  refine lv_aload_n hx hb dL_law_430 rfl (lv_at hl 0 rfl) ?_
  refine lv_iload_n hx hb dL_law_431 rfl (lv_at hl 3 rfl) ?_
  refine lv_iconst (v := 1) hx hb dL_law_432 (by decide) ?_
  refine lv_iadd hx hb dL_law_433 ?_
  refine va_sld hx hb hX hbl hbA hS (hin 1 (by omega)) dL_law_434 ?_
  refine lv_aload_n hx hb dL_law_435 rfl (lv_at hl 0 rfl) ?_
  refine lv_iload_n hx hb dL_law_436 rfl (lv_at hl 3 rfl) ?_
  refine lv_iconst (v := 2) hx hb dL_law_437 (by decide) ?_
  refine lv_iadd hx hb dL_law_438 ?_
  refine va_sld hx hb hX hbl hbA hS (hin 2 (by omega)) dL_law_439 ?_
  refine rw_callR (va_runV (As := [.int (xs (x + nI 1).toNatClampNeg), .int (xs (x + nI 2).toNatClampNeg)]) (rest := [.int r]) ⟨hx, hb, hml, hown, hts⟩ (c_M_steps l dC dI adM tI tL tII tLL thr sts wgt rwd au al cel rig sum gp bst few (xs (x + nI 1).toNatClampNeg) (xs (x + nI 2).toNatClampNeg) r 0 au' al' cel' rig' sum' e2.symm) ⟨callB_of 2 hts (goodL kl_94 (by decide +kernel)) rfl rfl rfl (hts _ kl_6) (hts _ kl_95) (by decide +kernel) ⟨Nat.le_of_ble_eq_true rfl, Nat.le_of_ble_eq_true rfl⟩, (hts _ kl_96), (hts _ kl_97)⟩ (pre_vw hK hN hP.r hD.r (q0 := 0) (ci := 7) rfl rfl) rfl rfl hl.1 rfl (lv_room (Nat.le_of_ble_eq_true rfl)) dL_law_440 ⟨Nat.le_of_ble_eq_true rfl, Nat.le_of_ble_eq_true rfl⟩) hP hD hS rfl (fun H locs hP hD hS => ?_)
  refine W.eq (g2 := F0 m 443 ls [.int r, .int r]) rfl ?_
  refine lv_icmp_eq (tgt := 631) hx hb dL_law_443 (by decide) (fun c1 => ?_) (fun c1 => absurd rfl c1)
  exact kk H locs ⟨n, Wt, Rw, cnt, w, tot, rew, grp, fin, gns', rst', rws', last', now, nxt, whl, au', al', mu, ml, 0, sts, wgt, rwd, cel', rig', sum', gp, bst, few, hP, hR⟩ hS
set_option maxHeartbeats 4000000 in
set_option maxRecDepth 100000 in
theorem law_visits (l : Launch) (C0 : lw_At p s m meth c b L xs) (hin : ∀ k : Nat, k < 4 → vp_in (x + nI k) L) (hK : va_K (dC, dI) vwCl (tysA tI tL tII tLL) s) (hN : NW s) (hI : LI (dC, dI) tI tL tII tLL adC adM H) (hD : va_D (fun q : Nat => s.heap.size ≤ q) (wC0 adC tI tL tII tLL ++ wM0 adM tI tL tII tLL)) (hS : va_S (fun q : Nat => s.heap.size ≤ q) s.heap H locs) (hl : lv_has ls 4 [(0, .ref b), (1, .ref (adC 0)), (2, .ref (adM 0)), (3, .int x)]) (kk : ∀ (H : Heap) (locs : List Loc), LI (dC, dI) tI tL tII tLL adC adM H → va_S (fun q : Nat => s.heap.size ≤ q) s.heap H locs → W p l e room_1 s m #[Value.ref b] below meth c H locs 41 487 Q (F0 m 631 ls [])) : W p l e room_1 s m #[Value.ref b] below meth c H locs 41 487 Q (F0 m 448 ls []) := by
  obtain ⟨hx, hb, hr, hml, hown, hts, hX, hbl, hlocks, hgv⟩ := C0
  have hbA : ¬ (fun q : Nat => s.heap.size ≤ q) b := Nat.not_le.mpr hbl
  have hown : s.vm.findClass RL = some m.cls := hown
  obtain ⟨n, Wt, Rw, cnt, w, tot, rew, grp, fin, gns, rst, rws, last, now, nxt, whl, au, al, mu, ml, thr, sts, wgt, rwd, cel, rig, sum, gp, bst, few, hP, hR⟩ := hI
  have hD : va_D (fun q : Nat => s.heap.size ≤ q) ((wC adC tI tL tII tLL cnt w tot rew grp fin gns rst rws last now nxt whl au al mu ml) ++ (wM adM tI tL tII tLL thr sts wgt rwd au al cel rig sum gp bst few)) := hD.same rfl
  obtain ⟨r, gns', rst', rws', last', au', al', cel', rig', sum', e1, e2⟩ := e_visits hR.1 hR.2.1 gns rst rws last au al cel rig sum (xs (x + nI 1).toNatClampNeg) (xs (x + nI 2).toNatClampNeg)
  refine lv_aload_n hx hb dL_law_448 rfl (lv_at hl 1 rfl) ?_
  refine lv_aload_n hx hb dL_law_449 rfl (lv_at hl 0 rfl) ?_
  refine lv_iload_n hx hb dL_law_450 rfl (lv_at hl 3 rfl) ?_
  refine lv_iconst (v := 1) hx hb dL_law_451 (by decide) ?_
  refine lv_iadd hx hb dL_law_452 ?_
  refine va_sld hx hb hX hbl hbA hS (hin 1 (by omega)) dL_law_453 ?_
  refine lv_aload_n hx hb dL_law_454 rfl (lv_at hl 0 rfl) ?_
  refine lv_iload_n hx hb dL_law_455 rfl (lv_at hl 3 rfl) ?_
  refine lv_iconst (v := 2) hx hb dL_law_456 (by decide) ?_
  refine lv_iadd hx hb dL_law_457 ?_
  refine va_sld hx hb hX hbl hbA hS (hin 2 (by omega)) dL_law_458 ?_
  refine rw_callL (va_runV (As := [.int (xs (x + nI 1).toNatClampNeg), .int (xs (x + nI 2).toNatClampNeg)]) (rest := []) ⟨hx, hb, hml, hown, hts⟩ (c_CS_visits l dC dI adC tI tL tII tLL cnt w tot rew grp fin gns rst rws last now nxt whl au al mu ml (xs (x + nI 1).toNatClampNeg) (xs (x + nI 2).toNatClampNeg) r gns' rst' rws' last' au' al' e1.symm) ⟨callB_of 2 hts (goodL kl_98 (by decide +kernel)) rfl rfl rfl (hts _ kl_1) (hts _ kl_99) (by decide +kernel) ⟨Nat.le_of_ble_eq_true rfl, Nat.le_of_ble_eq_true rfl⟩, (hts _ kl_100), (hts _ kl_101)⟩ (pre_vw hK hN hP.l hD.l (q0 := 0) (ci := 6) rfl rfl) rfl rfl hl.1 rfl (lv_room (Nat.le_of_ble_eq_true rfl)) dL_law_459 ⟨Nat.le_of_ble_eq_true rfl, Nat.le_of_ble_eq_true rfl⟩) hP hD hS rfl (fun H locs hP hD hS => ?_)
  refine W.eq (g2 := F0 m 462 ls [.int r]) rfl ?_
  refine lv_aload_n hx hb dL_law_462 rfl (lv_at hl 2 rfl) ?_
  refine lv_aload_n hx hb dL_law_463 rfl (lv_at hl 0 rfl) ?_
  refine lv_iload_n hx hb dL_law_464 rfl (lv_at hl 3 rfl) ?_
  refine lv_iconst (v := 1) hx hb dL_law_465 (by decide) ?_
  refine lv_iadd hx hb dL_law_466 ?_
  refine va_sld hx hb hX hbl hbA hS (hin 1 (by omega)) dL_law_467 ?_
  refine lv_aload_n hx hb dL_law_468 rfl (lv_at hl 0 rfl) ?_
  refine lv_iload_n hx hb dL_law_469 rfl (lv_at hl 3 rfl) ?_
  refine lv_iconst (v := 2) hx hb dL_law_470 (by decide) ?_
  refine lv_iadd hx hb dL_law_471 ?_
  refine va_sld hx hb hX hbl hbA hS (hin 2 (by omega)) dL_law_472 ?_
  refine rw_callR (va_runV (As := [.int (xs (x + nI 1).toNatClampNeg), .int (xs (x + nI 2).toNatClampNeg)]) (rest := [.int r]) ⟨hx, hb, hml, hown, hts⟩ (c_M_visits l dC dI adM tI tL tII tLL thr sts wgt rwd au al cel rig sum gp bst few (xs (x + nI 1).toNatClampNeg) (xs (x + nI 2).toNatClampNeg) r 0 au' al' cel' rig' sum' e2.symm) ⟨callB_of 2 hts (goodL kl_102 (by decide +kernel)) rfl rfl rfl (hts _ kl_6) (hts _ kl_103) (by decide +kernel) ⟨Nat.le_of_ble_eq_true rfl, Nat.le_of_ble_eq_true rfl⟩, (hts _ kl_104), (hts _ kl_105)⟩ (pre_vw hK hN hP.r hD.r (q0 := 0) (ci := 7) rfl rfl) rfl rfl hl.1 rfl (lv_room (Nat.le_of_ble_eq_true rfl)) dL_law_473 ⟨Nat.le_of_ble_eq_true rfl, Nat.le_of_ble_eq_true rfl⟩) hP hD hS rfl (fun H locs hP hD hS => ?_)
  refine W.eq (g2 := F0 m 476 ls [.int r, .int r]) rfl ?_
  refine lv_icmp_eq (tgt := 631) hx hb dL_law_476 (by decide) (fun c1 => ?_) (fun c1 => absurd rfl c1)
  exact kk H locs ⟨n, Wt, Rw, cnt, w, tot, rew, grp, fin, gns', rst', rws', last', now, nxt, whl, au', al', mu, ml, 0, sts, wgt, rwd, cel', rig', sum', gp, bst, few, hP, hR⟩ hS
set_option maxHeartbeats 4000000 in
set_option maxRecDepth 100000 in
theorem law_share (l : Launch) (C0 : lw_At p s m meth c b L xs) (hin : ∀ k : Nat, k < 4 → vp_in (x + nI k) L) (hK : va_K (dC, dI) vwCl (tysA tI tL tII tLL) s) (hN : NW s) (hI : LI (dC, dI) tI tL tII tLL adC adM H) (hD : va_D (fun q : Nat => s.heap.size ≤ q) (wC0 adC tI tL tII tLL ++ wM0 adM tI tL tII tLL)) (hS : va_S (fun q : Nat => s.heap.size ≤ q) s.heap H locs) (hl : lv_has ls 4 [(0, .ref b), (1, .ref (adC 0)), (2, .ref (adM 0)), (3, .int x)]) (kk : ∀ (H : Heap) (locs : List Loc), LI (dC, dI) tI tL tII tLL adC adM H → va_S (fun q : Nat => s.heap.size ≤ q) s.heap H locs → W p l e room_1 s m #[Value.ref b] below meth c H locs 41 487 Q (F0 m 631 ls [])) : W p l e room_1 s m #[Value.ref b] below meth c H locs 41 487 Q (F0 m 481 ls []) := by
  obtain ⟨hx, hb, hr, hml, hown, hts, hX, hbl, hlocks, hgv⟩ := C0
  have hbA : ¬ (fun q : Nat => s.heap.size ≤ q) b := Nat.not_le.mpr hbl
  have hown : s.vm.findClass RL = some m.cls := hown
  obtain ⟨n, Wt, Rw, cnt, w, tot, rew, grp, fin, gns, rst, rws, last, now, nxt, whl, au, al, mu, ml, thr, sts, wgt, rwd, cel, rig, sum, gp, bst, few, hP, hR⟩ := hI
  have hD : va_D (fun q : Nat => s.heap.size ≤ q) ((wC adC tI tL tII tLL cnt w tot rew grp fin gns rst rws last now nxt whl au al mu ml) ++ (wM adM tI tL tII tLL thr sts wgt rwd au al cel rig sum gp bst few)) := hD.same rfl
  obtain ⟨r, gns', rst', rws', last', au', al', mu', ml', cel', rig', sum', e1, e2⟩ := e_share hR.1 hR.2.1 gns rst rws last au al mu ml cel rig sum (xs (x + nI 1).toNatClampNeg) (xs (x + nI 2).toNatClampNeg)
  refine lv_aload_n hx hb dL_law_481 rfl (lv_at hl 1 rfl) ?_
  refine lv_aload_n hx hb dL_law_482 rfl (lv_at hl 0 rfl) ?_
  refine lv_iload_n hx hb dL_law_483 rfl (lv_at hl 3 rfl) ?_
  refine lv_iconst (v := 1) hx hb dL_law_484 (by decide) ?_
  refine lv_iadd hx hb dL_law_485 ?_
  refine va_sld hx hb hX hbl hbA hS (hin 1 (by omega)) dL_law_486 ?_
  refine lv_aload_n hx hb dL_law_487 rfl (lv_at hl 0 rfl) ?_
  refine lv_iload_n hx hb dL_law_488 rfl (lv_at hl 3 rfl) ?_
  refine lv_iconst (v := 2) hx hb dL_law_489 (by decide) ?_
  refine lv_iadd hx hb dL_law_490 ?_
  refine va_sld hx hb hX hbl hbA hS (hin 2 (by omega)) dL_law_491 ?_
  refine rw_callL (va_runV (As := [.int (xs (x + nI 1).toNatClampNeg), .int (xs (x + nI 2).toNatClampNeg)]) (rest := []) ⟨hx, hb, hml, hown, hts⟩ (c_CS_share l dC dI adC tI tL tII tLL cnt w tot rew grp fin gns rst rws last now nxt whl au al mu ml (xs (x + nI 1).toNatClampNeg) (xs (x + nI 2).toNatClampNeg) r gns' rst' rws' last' au' al' mu' ml' e1.symm) ⟨callB_of 2 hts (goodL kl_106 (by decide +kernel)) rfl rfl rfl (hts _ kl_1) (hts _ kl_107) (by decide +kernel) ⟨Nat.le_of_ble_eq_true rfl, Nat.le_of_ble_eq_true rfl⟩, (hts _ kl_108), (hts _ kl_109)⟩ (pre_vw hK hN hP.l hD.l (q0 := 0) (ci := 6) rfl rfl) rfl rfl hl.1 rfl (lv_room (Nat.le_of_ble_eq_true rfl)) dL_law_492 ⟨Nat.le_of_ble_eq_true rfl, Nat.le_of_ble_eq_true rfl⟩) hP hD hS rfl (fun H locs hP hD hS => ?_)
  refine W.eq (g2 := F0 m 495 ls [.int r]) rfl ?_
  refine lv_aload_n hx hb dL_law_495 rfl (lv_at hl 2 rfl) ?_
  refine lv_aload_n hx hb dL_law_496 rfl (lv_at hl 0 rfl) ?_
  refine lv_iload_n hx hb dL_law_497 rfl (lv_at hl 3 rfl) ?_
  refine lv_iconst (v := 1) hx hb dL_law_498 (by decide) ?_
  refine lv_iadd hx hb dL_law_499 ?_
  refine va_sld hx hb hX hbl hbA hS (hin 1 (by omega)) dL_law_500 ?_
  refine lv_aload_n hx hb dL_law_501 rfl (lv_at hl 0 rfl) ?_
  refine lv_iload_n hx hb dL_law_502 rfl (lv_at hl 3 rfl) ?_
  refine lv_iconst (v := 2) hx hb dL_law_503 (by decide) ?_
  refine lv_iadd hx hb dL_law_504 ?_
  refine va_sld hx hb hX hbl hbA hS (hin 2 (by omega)) dL_law_505 ?_
  refine rw_callR (va_runV (As := [.int (xs (x + nI 1).toNatClampNeg), .int (xs (x + nI 2).toNatClampNeg)]) (rest := [.int r]) ⟨hx, hb, hml, hown, hts⟩ (c_M_share l dC dI adM tI tL tII tLL thr sts wgt rwd au al cel rig sum gp bst few (xs (x + nI 1).toNatClampNeg) (xs (x + nI 2).toNatClampNeg) r 0 au' al' cel' rig' sum' e2.symm) ⟨callB_of 2 hts (goodL kl_110 (by decide +kernel)) rfl rfl rfl (hts _ kl_6) (hts _ kl_111) (by decide +kernel) ⟨Nat.le_of_ble_eq_true rfl, Nat.le_of_ble_eq_true rfl⟩, (hts _ kl_112), (hts _ kl_113)⟩ (pre_vw hK hN hP.r hD.r (q0 := 0) (ci := 7) rfl rfl) rfl rfl hl.1 rfl (lv_room (Nat.le_of_ble_eq_true rfl)) dL_law_506 ⟨Nat.le_of_ble_eq_true rfl, Nat.le_of_ble_eq_true rfl⟩) hP hD hS rfl (fun H locs hP hD hS => ?_)
  refine W.eq (g2 := F0 m 509 ls [.int r, .int r]) rfl ?_
  refine lv_icmp_eq (tgt := 631) hx hb dL_law_509 (by decide) (fun c1 => ?_) (fun c1 => absurd rfl c1)
  exact kk H locs ⟨n, Wt, Rw, cnt, w, tot, rew, grp, fin, gns', rst', rws', last', now, nxt, whl, au', al', mu', ml', 0, sts, wgt, rwd, cel', rig', sum', gp, bst, few, hP, hR⟩ hS
set_option maxHeartbeats 4000000 in
set_option maxRecDepth 100000 in
theorem law_after (l : Launch) (C0 : lw_At p s m meth c b L xs) (hin : ∀ k : Nat, k < 4 → vp_in (x + nI k) L) (hK : va_K (dC, dI) vwCl (tysA tI tL tII tLL) s) (hN : NW s) (hI : LI (dC, dI) tI tL tII tLL adC adM H) (hD : va_D (fun q : Nat => s.heap.size ≤ q) (wC0 adC tI tL tII tLL ++ wM0 adM tI tL tII tLL)) (hS : va_S (fun q : Nat => s.heap.size ≤ q) s.heap H locs) (hl : lv_has ls 4 [(0, .ref b), (1, .ref (adC 0)), (2, .ref (adM 0)), (3, .int x)]) (kk : ∀ (H : Heap) (locs : List Loc), LI (dC, dI) tI tL tII tLL adC adM H → va_S (fun q : Nat => s.heap.size ≤ q) s.heap H locs → W p l e room_1 s m #[Value.ref b] below meth c H locs 41 487 Q (F0 m 631 ls [])) : W p l e room_1 s m #[Value.ref b] below meth c H locs 41 487 Q (F0 m 514 ls []) := by
  obtain ⟨hx, hb, hr, hml, hown, hts, hX, hbl, hlocks, hgv⟩ := C0
  have hbA : ¬ (fun q : Nat => s.heap.size ≤ q) b := Nat.not_le.mpr hbl
  have hown : s.vm.findClass RL = some m.cls := hown
  obtain ⟨n, Wt, Rw, cnt, w, tot, rew, grp, fin, gns, rst, rws, last, now, nxt, whl, au, al, mu, ml, thr, sts, wgt, rwd, cel, rig, sum, gp, bst, few, hP, hR⟩ := hI
  have hD : va_D (fun q : Nat => s.heap.size ≤ q) ((wC adC tI tL tII tLL cnt w tot rew grp fin gns rst rws last now nxt whl au al mu ml) ++ (wM adM tI tL tII tLL thr sts wgt rwd au al cel rig sum gp bst few)) := hD.same rfl
  obtain ⟨r, now', nxt', whl', au', al', cel', rig', e1, e2⟩ := e_after hR.1 hR.2.1 now nxt whl au al cel rig (xs (x + nI 1).toNatClampNeg) (xs (x + nI 2).toNatClampNeg) (xs (x + nI 3).toNatClampNeg)
  refine lv_aload_n hx hb dL_law_514 rfl (lv_at hl 1 rfl) ?_
  refine lv_aload_n hx hb dL_law_515 rfl (lv_at hl 0 rfl) ?_
  refine lv_iload_n hx hb dL_law_516 rfl (lv_at hl 3 rfl) ?_
  refine lv_iconst (v := 1) hx hb dL_law_517 (by decide) ?_
  refine lv_iadd hx hb dL_law_518 ?_
  refine va_sld hx hb hX hbl hbA hS (hin 1 (by omega)) dL_law_519 ?_
  refine lv_aload_n hx hb dL_law_520 rfl (lv_at hl 0 rfl) ?_
  refine lv_iload_n hx hb dL_law_521 rfl (lv_at hl 3 rfl) ?_
  refine lv_iconst (v := 2) hx hb dL_law_522 (by decide) ?_
  refine lv_iadd hx hb dL_law_523 ?_
  refine va_sld hx hb hX hbl hbA hS (hin 2 (by omega)) dL_law_524 ?_
  refine lv_aload_n hx hb dL_law_525 rfl (lv_at hl 0 rfl) ?_
  refine lv_iload_n hx hb dL_law_526 rfl (lv_at hl 3 rfl) ?_
  refine lv_iconst (v := 3) hx hb dL_law_527 (by decide) ?_
  refine lv_iadd hx hb dL_law_528 ?_
  refine va_sld hx hb hX hbl hbA hS (hin 3 (by omega)) dL_law_529 ?_
  refine rw_callL (va_runV (As := [.int (xs (x + nI 1).toNatClampNeg), .int (xs (x + nI 2).toNatClampNeg), .int (xs (x + nI 3).toNatClampNeg)]) (rest := []) ⟨hx, hb, hml, hown, hts⟩ (c_CS_after l dC dI adC tI tL tII tLL cnt w tot rew grp fin gns rst rws last now nxt whl au al mu ml (xs (x + nI 1).toNatClampNeg) (xs (x + nI 2).toNatClampNeg) (xs (x + nI 3).toNatClampNeg) r now' nxt' whl' au' al' e1.symm) ⟨callB_of 3 hts (goodL kl_114 (by decide +kernel)) rfl rfl rfl (hts _ kl_1) (hts _ kl_115) (by decide +kernel) ⟨Nat.le_of_ble_eq_true rfl, Nat.le_of_ble_eq_true rfl⟩, (hts _ kl_116), (hts _ kl_117)⟩ (pre_vw hK hN hP.l hD.l (q0 := 0) (ci := 6) rfl rfl) rfl rfl hl.1 rfl (lv_room (Nat.le_of_ble_eq_true rfl)) dL_law_530 ⟨Nat.le_of_ble_eq_true rfl, Nat.le_of_ble_eq_true rfl⟩) hP hD hS rfl (fun H locs hP hD hS => ?_)
  refine W.eq (g2 := F0 m 533 ls [.int r]) rfl ?_
  refine lv_aload_n hx hb dL_law_533 rfl (lv_at hl 2 rfl) ?_
  refine lv_aload_n hx hb dL_law_534 rfl (lv_at hl 0 rfl) ?_
  refine lv_iload_n hx hb dL_law_535 rfl (lv_at hl 3 rfl) ?_
  refine lv_iconst (v := 1) hx hb dL_law_536 (by decide) ?_
  refine lv_iadd hx hb dL_law_537 ?_
  refine va_sld hx hb hX hbl hbA hS (hin 1 (by omega)) dL_law_538 ?_
  refine lv_aload_n hx hb dL_law_539 rfl (lv_at hl 0 rfl) ?_
  refine lv_iload_n hx hb dL_law_540 rfl (lv_at hl 3 rfl) ?_
  refine lv_iconst (v := 2) hx hb dL_law_541 (by decide) ?_
  refine lv_iadd hx hb dL_law_542 ?_
  refine va_sld hx hb hX hbl hbA hS (hin 2 (by omega)) dL_law_543 ?_
  refine lv_aload_n hx hb dL_law_544 rfl (lv_at hl 0 rfl) ?_
  refine lv_iload_n hx hb dL_law_545 rfl (lv_at hl 3 rfl) ?_
  refine lv_iconst (v := 3) hx hb dL_law_546 (by decide) ?_
  refine lv_iadd hx hb dL_law_547 ?_
  refine va_sld hx hb hX hbl hbA hS (hin 3 (by omega)) dL_law_548 ?_
  refine rw_callR (va_runV (As := [.int (xs (x + nI 1).toNatClampNeg), .int (xs (x + nI 2).toNatClampNeg), .int (xs (x + nI 3).toNatClampNeg)]) (rest := [.int r]) ⟨hx, hb, hml, hown, hts⟩ (c_M_after l dC dI adM tI tL tII tLL thr sts wgt rwd au al cel rig sum gp bst few (xs (x + nI 1).toNatClampNeg) (xs (x + nI 2).toNatClampNeg) (xs (x + nI 3).toNatClampNeg) r 0 au' al' cel' rig' e2.symm) ⟨callB_of 3 hts (goodL kl_118 (by decide +kernel)) rfl rfl rfl (hts _ kl_6) (hts _ kl_119) (by decide +kernel) ⟨Nat.le_of_ble_eq_true rfl, Nat.le_of_ble_eq_true rfl⟩, (hts _ kl_120), (hts _ kl_121)⟩ (pre_vw hK hN hP.r hD.r (q0 := 0) (ci := 7) rfl rfl) rfl rfl hl.1 rfl (lv_room (Nat.le_of_ble_eq_true rfl)) dL_law_549 ⟨Nat.le_of_ble_eq_true rfl, Nat.le_of_ble_eq_true rfl⟩) hP hD hS rfl (fun H locs hP hD hS => ?_)
  refine W.eq (g2 := F0 m 552 ls [.int r, .int r]) rfl ?_
  refine lv_icmp_eq (tgt := 631) hx hb dL_law_552 (by decide) (fun c1 => ?_) (fun c1 => absurd rfl c1)
  exact kk H locs ⟨n, Wt, Rw, cnt, w, tot, rew, grp, fin, gns, rst, rws, last, now', nxt', whl', au', al', mu, ml, 0, sts, wgt, rwd, cel', rig', sum, gp, bst, few, hP, hR⟩ hS
set_option maxHeartbeats 4000000 in
set_option maxRecDepth 100000 in
theorem law_worth (l : Launch) (C0 : lw_At p s m meth c b L xs) (hin : ∀ k : Nat, k < 4 → vp_in (x + nI k) L) (hK : va_K (dC, dI) vwCl (tysA tI tL tII tLL) s) (hN : NW s) (hI : LI (dC, dI) tI tL tII tLL adC adM H) (hD : va_D (fun q : Nat => s.heap.size ≤ q) (wC0 adC tI tL tII tLL ++ wM0 adM tI tL tII tLL)) (hS : va_S (fun q : Nat => s.heap.size ≤ q) s.heap H locs) (hl : lv_has ls 4 [(0, .ref b), (1, .ref (adC 0)), (2, .ref (adM 0)), (3, .int x)]) (kk : ∀ (H : Heap) (locs : List Loc), LI (dC, dI) tI tL tII tLL adC adM H → va_S (fun q : Nat => s.heap.size ≤ q) s.heap H locs → W p l e room_1 s m #[Value.ref b] below meth c H locs 41 487 Q (F0 m 631 ls [])) : W p l e room_1 s m #[Value.ref b] below meth c H locs 41 487 Q (F0 m 557 ls []) := by
  obtain ⟨hx, hb, hr, hml, hown, hts, hX, hbl, hlocks, hgv⟩ := C0
  have hbA : ¬ (fun q : Nat => s.heap.size ≤ q) b := Nat.not_le.mpr hbl
  have hown : s.vm.findClass RL = some m.cls := hown
  obtain ⟨n, Wt, Rw, cnt, w, tot, rew, grp, fin, gns, rst, rws, last, now, nxt, whl, au, al, mu, ml, thr, sts, wgt, rwd, cel, rig, sum, gp, bst, few, hP, hR⟩ := hI
  have hD : va_D (fun q : Nat => s.heap.size ≤ q) ((wC adC tI tL tII tLL cnt w tot rew grp fin gns rst rws last now nxt whl au al mu ml) ++ (wM adM tI tL tII tLL thr sts wgt rwd au al cel rig sum gp bst few)) := hD.same rfl
  obtain ⟨r, gns', rst', rws', last', au', al', cel', rig', sum', e1, e2⟩ := e_worth hR.1 hR.2.1 hR.2.2.1 hR.2.2.2 gns rst rws last au al cel rig sum (xs (x + nI 1).toNatClampNeg)
  refine lv_aload_n hx hb dL_law_557 rfl (lv_at hl 1 rfl) ?_
  refine lv_aload_n hx hb dL_law_558 rfl (lv_at hl 0 rfl) ?_
  refine lv_iload_n hx hb dL_law_559 rfl (lv_at hl 3 rfl) ?_
  refine lv_iconst (v := 1) hx hb dL_law_560 (by decide) ?_
  refine lv_iadd hx hb dL_law_561 ?_
  refine va_sld hx hb hX hbl hbA hS (hin 1 (by omega)) dL_law_562 ?_
  refine rw_callL (va_runV (As := [.int (xs (x + nI 1).toNatClampNeg)]) (rest := []) ⟨hx, hb, hml, hown, hts⟩ (c_CS_worth l dC dI adC tI tL tII tLL cnt w tot rew grp fin gns rst rws last now nxt whl au al mu ml (xs (x + nI 1).toNatClampNeg) r gns' rst' rws' last' au' al' e1.symm) ⟨callB_of 1 hts (goodL kl_122 (by decide +kernel)) rfl rfl rfl (hts _ kl_1) (hts _ kl_123) (by decide +kernel) ⟨Nat.le_of_ble_eq_true rfl, Nat.le_of_ble_eq_true rfl⟩, (hts _ kl_124), (hts _ kl_125)⟩ (pre_vw hK hN hP.l hD.l (q0 := 0) (ci := 6) rfl rfl) rfl rfl hl.1 rfl (lv_room (Nat.le_of_ble_eq_true rfl)) dL_law_563 ⟨Nat.le_of_ble_eq_true rfl, Nat.le_of_ble_eq_true rfl⟩) hP hD hS rfl (fun H locs hP hD hS => ?_)
  refine W.eq (g2 := F0 m 566 ls [.int r]) rfl ?_
  refine lv_aload_n hx hb dL_law_566 rfl (lv_at hl 2 rfl) ?_
  refine lv_aload_n hx hb dL_law_567 rfl (lv_at hl 0 rfl) ?_
  refine lv_iload_n hx hb dL_law_568 rfl (lv_at hl 3 rfl) ?_
  refine lv_iconst (v := 1) hx hb dL_law_569 (by decide) ?_
  refine lv_iadd hx hb dL_law_570 ?_
  refine va_sld hx hb hX hbl hbA hS (hin 1 (by omega)) dL_law_571 ?_
  refine rw_callR (va_runV (As := [.int (xs (x + nI 1).toNatClampNeg)]) (rest := [.int r]) ⟨hx, hb, hml, hown, hts⟩ (c_M_worth l dC dI adM tI tL tII tLL thr sts wgt rwd au al cel rig sum gp bst few (xs (x + nI 1).toNatClampNeg) r 0 au' al' cel' rig' sum' e2.symm) ⟨callB_of 1 hts (goodL kl_126 (by decide +kernel)) rfl rfl rfl (hts _ kl_6) (hts _ kl_127) (by decide +kernel) ⟨Nat.le_of_ble_eq_true rfl, Nat.le_of_ble_eq_true rfl⟩, (hts _ kl_128), (hts _ kl_129)⟩ (pre_vw hK hN hP.r hD.r (q0 := 0) (ci := 7) rfl rfl) rfl rfl hl.1 rfl (lv_room (Nat.le_of_ble_eq_true rfl)) dL_law_572 ⟨Nat.le_of_ble_eq_true rfl, Nat.le_of_ble_eq_true rfl⟩) hP hD hS rfl (fun H locs hP hD hS => ?_)
  refine W.eq (g2 := F0 m 575 ls [.int r, .int r]) rfl ?_
  refine lv_icmp_eq (tgt := 631) hx hb dL_law_575 (by decide) (fun c1 => ?_) (fun c1 => absurd rfl c1)
  exact kk H locs ⟨n, Wt, Rw, cnt, w, tot, rew, grp, fin, gns', rst', rws', last', now, nxt, whl, au', al', mu, ml, 0, sts, wgt, rwd, cel', rig', sum', gp, bst, few, hP, hR⟩ hS
set_option maxHeartbeats 4000000 in
set_option maxRecDepth 100000 in
theorem law_upper (l : Launch) (C0 : lw_At p s m meth c b L xs) (hin : ∀ k : Nat, k < 4 → vp_in (x + nI k) L) (hK : va_K (dC, dI) vwCl (tysA tI tL tII tLL) s) (hN : NW s) (hI : LI (dC, dI) tI tL tII tLL adC adM H) (hD : va_D (fun q : Nat => s.heap.size ≤ q) (wC0 adC tI tL tII tLL ++ wM0 adM tI tL tII tLL)) (hS : va_S (fun q : Nat => s.heap.size ≤ q) s.heap H locs) (hl : lv_has ls 4 [(0, .ref b), (1, .ref (adC 0)), (2, .ref (adM 0)), (3, .int x)]) (kk : ∀ (H : Heap) (locs : List Loc), LI (dC, dI) tI tL tII tLL adC adM H → va_S (fun q : Nat => s.heap.size ≤ q) s.heap H locs → W p l e room_1 s m #[Value.ref b] below meth c H locs 41 487 Q (F0 m 631 ls [])) : W p l e room_1 s m #[Value.ref b] below meth c H locs 41 487 Q (F0 m 580 ls []) := by
  obtain ⟨hx, hb, hr, hml, hown, hts, hX, hbl, hlocks, hgv⟩ := C0
  have hbA : ¬ (fun q : Nat => s.heap.size ≤ q) b := Nat.not_le.mpr hbl
  have hown : s.vm.findClass RL = some m.cls := hown
  obtain ⟨n, Wt, Rw, cnt, w, tot, rew, grp, fin, gns, rst, rws, last, now, nxt, whl, au, al, mu, ml, thr, sts, wgt, rwd, cel, rig, sum, gp, bst, few, hP, hR⟩ := hI
  have hD : va_D (fun q : Nat => s.heap.size ≤ q) ((wC adC tI tL tII tLL cnt w tot rew grp fin gns rst rws last now nxt whl au al mu ml) ++ (wM adM tI tL tII tLL thr sts wgt rwd au al cel rig sum gp bst few)) := hD.same rfl
  refine lv_aload_n hx hb dL_law_580 rfl (lv_at hl 1 rfl) ?_
  refine ro_calll (va_runV (As := []) (rest := []) ⟨hx, hb, hml, hown, hts⟩ (c_CS_upper l dC dI adC tI tL tII tLL cnt w tot rew grp fin gns rst rws last now nxt whl au al mu ml  au rfl) ⟨callB_of 0 hts (goodL kl_130 (by decide +kernel)) rfl rfl rfl (hts _ kl_1) (hts _ kl_131) (by decide +kernel) ⟨Nat.le_of_ble_eq_true rfl, Nat.le_of_ble_eq_true rfl⟩, (hts _ kl_132), (hts _ kl_133)⟩ (pre_v hK hN hP.l (q0 := 0) (ci := 6) rfl rfl) rfl rfl hl.1 rfl (lv_room (Nat.le_of_ble_eq_true rfl)) dL_law_581 ⟨Nat.le_of_ble_eq_true rfl, Nat.le_of_ble_eq_true rfl⟩) ?_
  refine W.eq (g2 := F0 m 584 ls [.long au]) rfl ?_
  refine lv_aload_n hx hb dL_law_584 rfl (lv_at hl 2 rfl) ?_
  refine rw_callR (va_runV (As := []) (rest := [.long au]) ⟨hx, hb, hml, hown, hts⟩ (c_M_upper l dC dI adM tI tL tII tLL thr sts wgt rwd au al cel rig sum gp bst few  au 0 rfl) ⟨callB_of 0 hts (goodL kl_134 (by decide +kernel)) rfl rfl rfl (hts _ kl_6) (hts _ kl_135) (by decide +kernel) ⟨Nat.le_of_ble_eq_true rfl, Nat.le_of_ble_eq_true rfl⟩, (hts _ kl_136), (hts _ kl_137)⟩ (pre_vw hK hN hP.r hD.r (q0 := 0) (ci := 7) rfl rfl) rfl rfl hl.1 rfl (lv_room (Nat.le_of_ble_eq_true rfl)) dL_law_585 ⟨Nat.le_of_ble_eq_true rfl, Nat.le_of_ble_eq_true rfl⟩) hP hD hS rfl (fun H locs hP hD hS => ?_)
  refine W.eq (g2 := F0 m 588 ls [.long au, .long au]) rfl ?_
  refine W.lcmp hx hb dL_law_588 ?_
  refine lv_if_eq (tgt := 631) hx hb dL_law_589 (by decide) (fun c1 => ?_) (fun c1 => absurd (lg_cmp_self _) c1)
  exact kk H locs ⟨n, Wt, Rw, cnt, w, tot, rew, grp, fin, gns, rst, rws, last, now, nxt, whl, au, al, mu, ml, 0, sts, wgt, rwd, cel, rig, sum, gp, bst, few, hP, hR⟩ hS
set_option maxHeartbeats 4000000 in
set_option maxRecDepth 100000 in
theorem law_lower (l : Launch) (C0 : lw_At p s m meth c b L xs) (hin : ∀ k : Nat, k < 4 → vp_in (x + nI k) L) (hK : va_K (dC, dI) vwCl (tysA tI tL tII tLL) s) (hN : NW s) (hI : LI (dC, dI) tI tL tII tLL adC adM H) (hD : va_D (fun q : Nat => s.heap.size ≤ q) (wC0 adC tI tL tII tLL ++ wM0 adM tI tL tII tLL)) (hS : va_S (fun q : Nat => s.heap.size ≤ q) s.heap H locs) (hl : lv_has ls 4 [(0, .ref b), (1, .ref (adC 0)), (2, .ref (adM 0)), (3, .int x)]) (kk : ∀ (H : Heap) (locs : List Loc), LI (dC, dI) tI tL tII tLL adC adM H → va_S (fun q : Nat => s.heap.size ≤ q) s.heap H locs → W p l e room_1 s m #[Value.ref b] below meth c H locs 41 487 Q (F0 m 631 ls [])) : W p l e room_1 s m #[Value.ref b] below meth c H locs 41 487 Q (F0 m 594 ls []) := by
  obtain ⟨hx, hb, hr, hml, hown, hts, hX, hbl, hlocks, hgv⟩ := C0
  have hbA : ¬ (fun q : Nat => s.heap.size ≤ q) b := Nat.not_le.mpr hbl
  have hown : s.vm.findClass RL = some m.cls := hown
  obtain ⟨n, Wt, Rw, cnt, w, tot, rew, grp, fin, gns, rst, rws, last, now, nxt, whl, au, al, mu, ml, thr, sts, wgt, rwd, cel, rig, sum, gp, bst, few, hP, hR⟩ := hI
  have hD : va_D (fun q : Nat => s.heap.size ≤ q) ((wC adC tI tL tII tLL cnt w tot rew grp fin gns rst rws last now nxt whl au al mu ml) ++ (wM adM tI tL tII tLL thr sts wgt rwd au al cel rig sum gp bst few)) := hD.same rfl
  refine lv_aload_n hx hb dL_law_594 rfl (lv_at hl 1 rfl) ?_
  refine ro_calll (va_runV (As := []) (rest := []) ⟨hx, hb, hml, hown, hts⟩ (c_CS_lower l dC dI adC tI tL tII tLL cnt w tot rew grp fin gns rst rws last now nxt whl au al mu ml  al rfl) ⟨callB_of 0 hts (goodL kl_138 (by decide +kernel)) rfl rfl rfl (hts _ kl_1) (hts _ kl_139) (by decide +kernel) ⟨Nat.le_of_ble_eq_true rfl, Nat.le_of_ble_eq_true rfl⟩, (hts _ kl_140), (hts _ kl_141)⟩ (pre_v hK hN hP.l (q0 := 0) (ci := 6) rfl rfl) rfl rfl hl.1 rfl (lv_room (Nat.le_of_ble_eq_true rfl)) dL_law_595 ⟨Nat.le_of_ble_eq_true rfl, Nat.le_of_ble_eq_true rfl⟩) ?_
  refine W.eq (g2 := F0 m 598 ls [.long al]) rfl ?_
  refine lv_aload_n hx hb dL_law_598 rfl (lv_at hl 2 rfl) ?_
  refine rw_callR (va_runV (As := []) (rest := [.long al]) ⟨hx, hb, hml, hown, hts⟩ (c_M_lower l dC dI adM tI tL tII tLL thr sts wgt rwd au al cel rig sum gp bst few  al 0 rfl) ⟨callB_of 0 hts (goodL kl_142 (by decide +kernel)) rfl rfl rfl (hts _ kl_6) (hts _ kl_143) (by decide +kernel) ⟨Nat.le_of_ble_eq_true rfl, Nat.le_of_ble_eq_true rfl⟩, (hts _ kl_144), (hts _ kl_145)⟩ (pre_vw hK hN hP.r hD.r (q0 := 0) (ci := 7) rfl rfl) rfl rfl hl.1 rfl (lv_room (Nat.le_of_ble_eq_true rfl)) dL_law_599 ⟨Nat.le_of_ble_eq_true rfl, Nat.le_of_ble_eq_true rfl⟩) hP hD hS rfl (fun H locs hP hD hS => ?_)
  refine W.eq (g2 := F0 m 602 ls [.long al, .long al]) rfl ?_
  refine W.lcmp hx hb dL_law_602 ?_
  refine lv_if_eq (tgt := 631) hx hb dL_law_603 (by decide) (fun c1 => ?_) (fun c1 => absurd (lg_cmp_self _) c1)
  exact kk H locs ⟨n, Wt, Rw, cnt, w, tot, rew, grp, fin, gns, rst, rws, last, now, nxt, whl, au, al, mu, ml, 0, sts, wgt, rwd, cel, rig, sum, gp, bst, few, hP, hR⟩ hS
set_option maxHeartbeats 4000000 in
set_option maxRecDepth 100000 in
theorem law_told (l : Launch) (C0 : lw_At p s m meth c b L xs) (hin : ∀ k : Nat, k < 4 → vp_in (x + nI k) L) (hK : va_K (dC, dI) vwCl (tysA tI tL tII tLL) s) (hN : NW s) (hI : LI (dC, dI) tI tL tII tLL adC adM H) (hD : va_D (fun q : Nat => s.heap.size ≤ q) (wC0 adC tI tL tII tLL ++ wM0 adM tI tL tII tLL)) (hS : va_S (fun q : Nat => s.heap.size ≤ q) s.heap H locs) (hl : lv_has ls 4 [(0, .ref b), (1, .ref (adC 0)), (2, .ref (adM 0)), (3, .int x)]) (kk : ∀ (H : Heap) (locs : List Loc), LI (dC, dI) tI tL tII tLL adC adM H → va_S (fun q : Nat => s.heap.size ≤ q) s.heap H locs → W p l e room_1 s m #[Value.ref b] below meth c H locs 41 487 Q (F0 m 631 ls [])) : W p l e room_1 s m #[Value.ref b] below meth c H locs 41 487 Q (F0 m 608 ls []) := by
  obtain ⟨hx, hb, hr, hml, hown, hts, hX, hbl, hlocks, hgv⟩ := C0
  have hbA : ¬ (fun q : Nat => s.heap.size ≤ q) b := Nat.not_le.mpr hbl
  have hown : s.vm.findClass RL = some m.cls := hown
  obtain ⟨n, Wt, Rw, cnt, w, tot, rew, grp, fin, gns, rst, rws, last, now, nxt, whl, au, al, mu, ml, thr, sts, wgt, rwd, cel, rig, sum, gp, bst, few, hP, hR⟩ := hI
  have hD : va_D (fun q : Nat => s.heap.size ≤ q) ((wC adC tI tL tII tLL cnt w tot rew grp fin gns rst rws last now nxt whl au al mu ml) ++ (wM adM tI tL tII tLL thr sts wgt rwd au al cel rig sum gp bst few)) := hD.same rfl
  obtain ⟨r, grp', fin', gp', bst', few', e1, e2⟩ := e_told hR grp fin gp bst few (xs (x + nI 1).toNatClampNeg)
  refine lv_aload_n hx hb dL_law_608 rfl (lv_at hl 1 rfl) ?_
  refine lv_aload_n hx hb dL_law_609 rfl (lv_at hl 0 rfl) ?_
  refine lv_iload_n hx hb dL_law_610 rfl (lv_at hl 3 rfl) ?_
  refine lv_iconst (v := 1) hx hb dL_law_611 (by decide) ?_
  refine lv_iadd hx hb dL_law_612 ?_
  refine va_sld hx hb hX hbl hbA hS (hin 1 (by omega)) dL_law_613 ?_
  refine rw_callL (va_runV (As := [.int (xs (x + nI 1).toNatClampNeg)]) (rest := []) ⟨hx, hb, hml, hown, hts⟩ (c_CS_told l dC dI adC tI tL tII tLL cnt w tot rew grp fin gns rst rws last now nxt whl au al mu ml (xs (x + nI 1).toNatClampNeg) r grp' fin' e1.symm) ⟨callB_of 1 hts (goodL kl_146 (by decide +kernel)) rfl rfl rfl (hts _ kl_1) (hts _ kl_147) (by decide +kernel) ⟨Nat.le_of_ble_eq_true rfl, Nat.le_of_ble_eq_true rfl⟩, (hts _ kl_148), (hts _ kl_149)⟩ (pre_vw hK hN hP.l hD.l (q0 := 0) (ci := 6) rfl rfl) rfl rfl hl.1 rfl (lv_room (Nat.le_of_ble_eq_true rfl)) dL_law_614 ⟨Nat.le_of_ble_eq_true rfl, Nat.le_of_ble_eq_true rfl⟩) hP hD hS rfl (fun H locs hP hD hS => ?_)
  refine W.eq (g2 := F0 m 617 ls [.int r]) rfl ?_
  refine lv_aload_n hx hb dL_law_617 rfl (lv_at hl 2 rfl) ?_
  refine lv_aload_n hx hb dL_law_618 rfl (lv_at hl 0 rfl) ?_
  refine lv_iload_n hx hb dL_law_619 rfl (lv_at hl 3 rfl) ?_
  refine lv_iconst (v := 1) hx hb dL_law_620 (by decide) ?_
  refine lv_iadd hx hb dL_law_621 ?_
  refine va_sld hx hb hX hbl hbA hS (hin 1 (by omega)) dL_law_622 ?_
  refine rw_callR (va_runV (As := [.int (xs (x + nI 1).toNatClampNeg)]) (rest := [.int r]) ⟨hx, hb, hml, hown, hts⟩ (c_M_told l dC dI adM tI tL tII tLL thr sts wgt rwd au al cel rig sum gp bst few (xs (x + nI 1).toNatClampNeg) r 0 gp' bst' few' e2.symm) ⟨callB_of 1 hts (goodL kl_150 (by decide +kernel)) rfl rfl rfl (hts _ kl_6) (hts _ kl_151) (by decide +kernel) ⟨Nat.le_of_ble_eq_true rfl, Nat.le_of_ble_eq_true rfl⟩, (hts _ kl_152), (hts _ kl_153)⟩ (pre_vw hK hN hP.r hD.r (q0 := 0) (ci := 7) rfl rfl) rfl rfl hl.1 rfl (lv_room (Nat.le_of_ble_eq_true rfl)) dL_law_623 ⟨Nat.le_of_ble_eq_true rfl, Nat.le_of_ble_eq_true rfl⟩) hP hD hS rfl (fun H locs hP hD hS => ?_)
  refine W.eq (g2 := F0 m 626 ls [.int r, .int r]) rfl ?_
  refine lv_icmp_eq (tgt := 631) hx hb dL_law_626 (by decide) (fun c1 => ?_) (fun c1 => absurd rfl c1)
  exact kk H locs ⟨n, Wt, Rw, cnt, w, tot, rew, grp', fin', gns, rst, rws, last, now, nxt, whl, au, al, mu, ml, 0, sts, wgt, rwd, cel, rig, sum, gp', bst', few', hP, hR⟩ hS
end LC
