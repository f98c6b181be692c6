theorem dJ6_bitCount_24 : decode cJ6_bitCount 24 = .ok (.iload_n 0, 1) := by decide +kernel
theorem dJ6_bitCount_25 : decode cJ6_bitCount 25 = .ok (.iload_n 0, 1) := by decide +kernel
theorem dJ6_bitCount_26 : decode cJ6_bitCount 26 = .ok (.iconst 4, 1) := by decide +kernel
theorem dJ6_bitCount_27 : decode cJ6_bitCount 27 = .ok (.iushr, 1) := by decide +kernel
theorem dJ6_bitCount_28 : decode cJ6_bitCount 28 = .ok (.iadd, 1) := by decide +kernel
theorem dJ6_bitCount_29 : decode cJ6_bitCount 29 = .ok (.ldc_w 267, 3) := by decide +kernel
theorem dJ6_bitCount_32 : decode cJ6_bitCount 32 = .ok (.iand, 1) := by decide +kernel
theorem dJ6_bitCount_33 : decode cJ6_bitCount 33 = .ok (.istore_n 0, 1) := by decide +kernel
theorem dJ6_bitCount_34 : decode cJ6_bitCount 34 = .ok (.iload_n 0, 1) := by decide +kernel
theorem dJ6_bitCount_35 : decode cJ6_bitCount 35 = .ok (.iload_n 0, 1) := by decide +kernel
theorem dJ6_bitCount_36 : decode cJ6_bitCount 36 = .ok (.bipush 8, 2) := by decide +kernel
theorem dJ6_bitCount_38 : decode cJ6_bitCount 38 = .ok (.iushr, 1) := by decide +kernel
theorem dJ6_bitCount_39 : decode cJ6_bitCount 39 = .ok (.iadd, 1) := by decide +kernel
theorem dJ6_bitCount_40 : decode cJ6_bitCount 40 = .ok (.istore_n 0, 1) := by decide +kernel
theorem dJ6_bitCount_41 : decode cJ6_bitCount 41 = .ok (.iload_n 0, 1) := by decide +kernel
theorem dJ6_bitCount_42 : decode cJ6_bitCount 42 = .ok (.iload_n 0, 1) := by decide +kernel
theorem dJ6_bitCount_43 : decode cJ6_bitCount 43 = .ok (.bipush 16, 2) := by decide +kernel
theorem dJ6_bitCount_45 : decode cJ6_bitCount 45 = .ok (.iushr, 1) := by decide +kernel
theorem dJ6_bitCount_46 : decode cJ6_bitCount 46 = .ok (.iadd, 1) := by decide +kernel
theorem dJ6_bitCount_47 : decode cJ6_bitCount 47 = .ok (.istore_n 0, 1) := by decide +kernel
theorem dJ6_bitCount_48 : decode cJ6_bitCount 48 = .ok (.iload_n 0, 1) := by decide +kernel
theorem dJ6_bitCount_49 : decode cJ6_bitCount 49 = .ok (.bipush 63, 2) := by decide +kernel
theorem dJ6_bitCount_51 : decode cJ6_bitCount 51 = .ok (.iand, 1) := by decide +kernel
theorem dJ6_bitCount_52 : decode cJ6_bitCount 52 = .ok (.ireturn, 1) := by decide +kernel
theorem dX5_countParts_0 : decode cX5_countParts 0 = .ok (.iconst 0, 1) := by decide +kernel
theorem dX5_countParts_1 : decode cX5_countParts 1 = .ok (.istore_n 2, 1) := by decide +kernel
theorem dX5_countParts_2 : decode cX5_countParts 2 = .ok (.iconst 0, 1) := by decide +kernel
theorem dX5_countParts_3 : decode cX5_countParts 3 = .ok (.istore_n 3, 1) := by decide +kernel
theorem dX5_countParts_4 : decode cX5_countParts 4 = .ok (.iload_n 3, 1) := by decide +kernel
theorem dX5_countParts_5 : decode cX5_countParts 5 = .ok (.aload_n 0, 1) := by decide +kernel
theorem dX5_countParts_6 : decode cX5_countParts 6 = .ok (.getfield 7, 3) := by decide +kernel
theorem dX5_countParts_9 : decode cX5_countParts 9 = .ok (.getfield 13, 3) := by decide +kernel
theorem dX5_countParts_12 : decode cX5_countParts 12 = .ok (.if_icmp .ge 33, 3) := by decide +kernel
theorem dX5_countParts_15 : decode cX5_countParts 15 = .ok (.aload_n 0, 1) := by decide +kernel
theorem dX5_countParts_16 : decode cX5_countParts 16 = .ok (.iload_n 3, 1) := by decide +kernel
theorem dX5_countParts_17 : decode cX5_countParts 17 = .ok (.invokevirtual 36, 3) := by decide +kernel
theorem dX5_countParts_20 : decode cX5_countParts 20 = .ok (.iload_n 3, 1) := by decide +kernel
theorem dX5_countParts_21 : decode cX5_countParts 21 = .ok (.if_icmp .ne 18, 3) := by decide +kernel
theorem dX5_countParts_24 : decode cX5_countParts 24 = .ok (.iload_n 1, 1) := by decide +kernel
theorem dX5_countParts_25 : decode cX5_countParts 25 = .ok (.ifCond .eq 11, 3) := by decide +kernel
theorem dX5_countParts_28 : decode cX5_countParts 28 = .ok (.aload_n 0, 1) := by decide +kernel
theorem dX5_countParts_29 : decode cX5_countParts 29 = .ok (.iload_n 3, 1) := by decide +kernel
theorem dX5_countParts_30 : decode cX5_countParts 30 = .ok (.invokevirtual 39, 3) := by decide +kernel
theorem dX5_countParts_33 : decode cX5_countParts 33 = .ok (.ifCond .eq 6, 3) := by decide +kernel
theorem dX5_countParts_36 : decode cX5_countParts 36 = .ok (.iinc 2 1, 3) := by decide +kernel
theorem dX5_countParts_39 : decode cX5_countParts 39 = .ok (.iinc 3 1, 3) := by decide +kernel
theorem dX5_countParts_42 : decode cX5_countParts 42 = .ok (.goto (-38), 3) := by decide +kernel
theorem dX5_countParts_45 : decode cX5_countParts 45 = .ok (.iload_n 2, 1) := by decide +kernel
theorem dX5_countParts_46 : decode cX5_countParts 46 = .ok (.ireturn, 1) := by decide +kernel
theorem dX3_countGroups_0 : decode cX3_countGroups 0 = .ok (.iconst 0, 1) := by decide +kernel
theorem dX3_countGroups_1 : decode cX3_countGroups 1 = .ok (.istore_n 1, 1) := by decide +kernel
theorem dX3_countGroups_2 : decode cX3_countGroups 2 = .ok (.iconst 0, 1) := by decide +kernel
theorem dX3_countGroups_3 : decode cX3_countGroups 3 = .ok (.istore_n 2, 1) := by decide +kernel
theorem dX3_countGroups_4 : decode cX3_countGroups 4 = .ok (.iload_n 2, 1) := by decide +kernel
theorem dX3_countGroups_5 : decode cX3_countGroups 5 = .ok (.aload_n 0, 1) := by decide +kernel
theorem dX3_countGroups_6 : decode cX3_countGroups 6 = .ok (.getfield 18, 3) := by decide +kernel
theorem dX3_countGroups_9 : decode cX3_countGroups 9 = .ok (.getfield 22, 3) := by decide +kernel
theorem dX3_countGroups_12 : decode cX3_countGroups 12 = .ok (.if_icmp .ge 22, 3) := by decide +kernel
theorem dX3_countGroups_15 : decode cX3_countGroups 15 = .ok (.aload_n 0, 1) := by decide +kernel
theorem dX3_countGroups_16 : decode cX3_countGroups 16 = .ok (.getfield 9, 3) := by decide +kernel
theorem dX3_countGroups_19 : decode cX3_countGroups 19 = .ok (.iload_n 2, 1) := by decide +kernel
theorem dX3_countGroups_20 : decode cX3_countGroups 20 = .ok (.iaload, 1) := by decide +kernel
theorem dX3_countGroups_21 : decode cX3_countGroups 21 = .ok (.iload_n 2, 1) := by decide +kernel
theorem dX3_countGroups_22 : decode cX3_countGroups 22 = .ok (.if_icmp .ne 6, 3) := by decide +kernel
theorem dX3_countGroups_25 : decode cX3_countGroups 25 = .ok (.iinc 1 1, 3) := by decide +kernel
theorem dX3_countGroups_28 : decode cX3_countGroups 28 = .ok (.iinc 2 1, 3) := by decide +kernel
theorem dX3_countGroups_31 : decode cX3_countGroups 31 = .ok (.goto (-27), 3) := by decide +kernel
theorem dX3_countGroups_34 : decode cX3_countGroups 34 = .ok (.iload_n 1, 1) := by decide +kernel
theorem dX3_countGroups_35 : decode cX3_countGroups 35 = .ok (.ireturn, 1) := by decide +kernel
theorem dX7_init_0 : decode cX7_init 0 = .ok (.aload_n 0, 1) := by decide +kernel
theorem dX7_init_1 : decode cX7_init 1 = .ok (.invokespecial 1, 3) := by decide +kernel
theorem dX7_init_4 : decode cX7_init 4 = .ok (.aload_n 0, 1) := by decide +kernel
theorem dX7_init_5 : decode cX7_init 5 = .ok (.bipush 49, 2) := by decide +kernel
theorem dX7_init_7 : decode cX7_init 7 = .ok (.newarray .int, 2) := by decide +kernel
theorem dX7_init_9 : decode cX7_init 9 = .ok (.putfield 7, 3) := by decide +kernel
theorem dX7_init_12 : decode cX7_init 12 = .ok (.aload_n 0, 1) := by decide +kernel
theorem dX7_init_13 : decode cX7_init 13 = .ok (.bipush 7, 2) := by decide +kernel
theorem dX7_init_15 : decode cX7_init 15 = .ok (.newarray .int, 2) := by decide +kernel
theorem dX7_init_17 : decode cX7_init 17 = .ok (.putfield 13, 3) := by decide +kernel
theorem dX7_init_20 : decode cX7_init 20 = .ok (.aload_n 0, 1) := by decide +kernel
theorem dX7_init_21 : decode cX7_init 21 = .ok (.lconst 1, 1) := by decide +kernel
theorem dX7_init_22 : decode cX7_init 22 = .ok (.putfield 16, 3) := by decide +kernel
theorem dX7_init_25 : decode cX7_init 25 = .ok (.aload_n 0, 1) := by decide +kernel
theorem dX7_init_26 : decode cX7_init 26 = .ok (.bipush 49, 2) := by decide +kernel
theorem dX7_init_28 : decode cX7_init 28 = .ok (.newarray .long, 2) := by decide +kernel
theorem dX7_init_30 : decode cX7_init 30 = .ok (.putfield 20, 3) := by decide +kernel
theorem dX7_init_33 : decode cX7_init 33 = .ok (.aload_n 0, 1) := by decide +kernel
theorem dX7_init_34 : decode cX7_init 34 = .ok (.bipush 7, 2) := by decide +kernel
theorem dX7_init_36 : decode cX7_init 36 = .ok (.newarray .long, 2) := by decide +kernel
theorem dX7_init_38 : decode cX7_init 38 = .ok (.putfield 24, 3) := by decide +kernel
theorem dX7_init_41 : decode cX7_init 41 = .ok (.aload_n 0, 1) := by decide +kernel
theorem dX7_init_42 : decode cX7_init 42 = .ok (.sipush 128, 3) := by decide +kernel
theorem dX7_init_45 : decode cX7_init 45 = .ok (.newarray .long, 2) := by decide +kernel
theorem dX7_init_47 : decode cX7_init 47 = .ok (.putfield 27, 3) := by decide +kernel
theorem dX7_init_50 : decode cX7_init 50 = .ok (.aload_n 0, 1) := by decide +kernel
theorem dX7_init_51 : decode cX7_init 51 = .ok (.bipush 7, 2) := by decide +kernel
theorem dX7_init_53 : decode cX7_init 53 = .ok (.newarray .int, 2) := by decide +kernel
theorem dX7_init_55 : decode cX7_init 55 = .ok (.putfield 30, 3) := by decide +kernel
theorem dX7_init_58 : decode cX7_init 58 = .ok (.aload_n 0, 1) := by decide +kernel
theorem dX7_init_59 : decode cX7_init 59 = .ok (.bipush 7, 2) := by decide +kernel
theorem dX7_init_61 : decode cX7_init 61 = .ok (.newarray .int, 2) := by decide +kernel
theorem dX7_init_63 : decode cX7_init 63 = .ok (.putfield 33, 3) := by decide +kernel
theorem dX7_init_66 : decode cX7_init 66 = .ok (.return_, 1) := by decide +kernel
theorem dX7_clear_0 : decode cX7_clear 0 = .ok (.aload_n 0, 1) := by decide +kernel
theorem dX7_clear_1 : decode cX7_clear 1 = .ok (.iconst 0, 1) := by decide +kernel
theorem dX7_clear_2 : decode cX7_clear 2 = .ok (.putfield 36, 3) := by decide +kernel
theorem dX7_clear_5 : decode cX7_clear 5 = .ok (.aload_n 0, 1) := by decide +kernel
theorem dX7_clear_6 : decode cX7_clear 6 = .ok (.iconst 0, 1) := by decide +kernel
theorem dX7_clear_7 : decode cX7_clear 7 = .ok (.putfield 40, 3) := by decide +kernel
theorem dX7_clear_10 : decode cX7_clear 10 = .ok (.aload_n 0, 1) := by decide +kernel
theorem dX7_clear_11 : decode cX7_clear 11 = .ok (.lconst 0, 1) := by decide +kernel
theorem dX7_clear_12 : decode cX7_clear 12 = .ok (.putfield 55, 3) := by decide +kernel
theorem dX7_clear_15 : decode cX7_clear 15 = .ok (.aload_n 0, 1) := by decide +kernel
theorem dX7_clear_16 : decode cX7_clear 16 = .ok (.lconst 1, 1) := by decide +kernel
theorem dX7_clear_17 : decode cX7_clear 17 = .ok (.putfield 16, 3) := by decide +kernel
theorem dX7_clear_20 : decode cX7_clear 20 = .ok (.iconst 0, 1) := by decide +kernel
theorem dX7_clear_21 : decode cX7_clear 21 = .ok (.istore_n 1, 1) := by decide +kernel
theorem dX7_clear_22 : decode cX7_clear 22 = .ok (.iload_n 1, 1) := by decide +kernel
theorem dX7_clear_23 : decode cX7_clear 23 = .ok (.bipush 49, 2) := by decide +kernel
theorem dX7_clear_25 : decode cX7_clear 25 = .ok (.if_icmp .ge 16, 3) := by decide +kernel
theorem dX7_clear_28 : decode cX7_clear 28 = .ok (.aload_n 0, 1) := by decide +kernel
theorem dX7_clear_29 : decode cX7_clear 29 = .ok (.getfield 7, 3) := by decide +kernel
theorem dX7_clear_32 : decode cX7_clear 32 = .ok (.iload_n 1, 1) := by decide +kernel
theorem dX7_clear_33 : decode cX7_clear 33 = .ok (.iconst 0, 1) := by decide +kernel
theorem dX7_clear_34 : decode cX7_clear 34 = .ok (.iastore, 1) := by decide +kernel
theorem dX7_clear_35 : decode cX7_clear 35 = .ok (.iinc 1 1, 3) := by decide +kernel
theorem dX7_clear_38 : decode cX7_clear 38 = .ok (.goto (-16), 3) := by decide +kernel
theorem dX7_clear_41 : decode cX7_clear 41 = .ok (.iconst 0, 1) := by decide +kernel
theorem dX7_clear_42 : decode cX7_clear 42 = .ok (.istore_n 1, 1) := by decide +kernel
theorem dX7_clear_43 : decode cX7_clear 43 = .ok (.iload_n 1, 1) := by decide +kernel
theorem dX7_clear_44 : decode cX7_clear 44 = .ok (.bipush 7, 2) := by decide +kernel
theorem dX7_clear_46 : decode cX7_clear 46 = .ok (.if_icmp .ge 16, 3) := by decide +kernel
theorem dX7_clear_49 : decode cX7_clear 49 = .ok (.aload_n 0, 1) := by decide +kernel
theorem dX7_clear_50 : decode cX7_clear 50 = .ok (.getfield 13, 3) := by decide +kernel
theorem dX7_clear_53 : decode cX7_clear 53 = .ok (.iload_n 1, 1) := by decide +kernel
theorem dX7_clear_54 : decode cX7_clear 54 = .ok (.iconst 0, 1) := by decide +kernel
theorem dX7_clear_55 : decode cX7_clear 55 = .ok (.iastore, 1) := by decide +kernel
theorem dX7_clear_56 : decode cX7_clear 56 = .ok (.iinc 1 1, 3) := by decide +kernel
theorem dX7_clear_59 : decode cX7_clear 59 = .ok (.goto (-16), 3) := by decide +kernel
theorem dX7_clear_62 : decode cX7_clear 62 = .ok (.return_, 1) := by decide +kernel
theorem dX7_state_0 : decode cX7_state 0 = .ok (.aload_n 0, 1) := by decide +kernel
theorem dX7_state_1 : decode cX7_state 1 = .ok (.iconst 0, 1) := by decide +kernel
theorem dX7_state_2 : decode cX7_state 2 = .ok (.putfield 36, 3) := by decide +kernel
theorem dX7_state_5 : decode cX7_state 5 = .ok (.aload_n 0, 1) := by decide +kernel
theorem dX7_state_6 : decode cX7_state 6 = .ok (.getfield 40, 3) := by decide +kernel
theorem dX7_state_9 : decode cX7_state 9 = .ok (.bipush 7, 2) := by decide +kernel
theorem dX7_state_11 : decode cX7_state 11 = .ok (.if_icmp .ne 6, 3) := by decide +kernel
theorem dX7_state_14 : decode cX7_state 14 = .ok (.bipush (-4), 2) := by decide +kernel
theorem dX7_state_16 : decode cX7_state 16 = .ok (.ireturn, 1) := by decide +kernel
theorem dX7_state_17 : decode cX7_state 17 = .ok (.aload_n 0, 1) := by decide +kernel
theorem dX7_state_18 : decode cX7_state 18 = .ok (.dup, 1) := by decide +kernel
theorem dX7_state_19 : decode cX7_state 19 = .ok (.getfield 40, 3) := by decide +kernel
theorem dX7_state_22 : decode cX7_state 22 = .ok (.iconst 1, 1) := by decide +kernel
theorem dX7_state_23 : decode cX7_state 23 = .ok (.iadd, 1) := by decide +kernel
theorem dX7_state_24 : decode cX7_state 24 = .ok (.putfield 40, 3) := by decide +kernel
theorem dX7_state_27 : decode cX7_state 27 = .ok (.aload_n 0, 1) := by decide +kernel
theorem dX7_state_28 : decode cX7_state 28 = .ok (.getfield 40, 3) := by decide +kernel
theorem dX7_state_31 : decode cX7_state 31 = .ok (.iconst 1, 1) := by decide +kernel
theorem dX7_state_32 : decode cX7_state 32 = .ok (.isub, 1) := by decide +kernel
theorem dX7_state_33 : decode cX7_state 33 = .ok (.ireturn, 1) := by decide +kernel
theorem dX7_arc_0 : decode cX7_arc 0 = .ok (.aload_n 0, 1) := by decide +kernel
theorem dX7_arc_1 : decode cX7_arc 1 = .ok (.iconst 0, 1) := by decide +kernel
theorem dX7_arc_2 : decode cX7_arc 2 = .ok (.putfield 36, 3) := by decide +kernel
theorem dX7_arc_5 : decode cX7_arc 5 = .ok (.aload_n 0, 1) := by decide +kernel
theorem dX7_arc_6 : decode cX7_arc 6 = .ok (.iload_n 1, 1) := by decide +kernel
theorem dX7_arc_7 : decode cX7_arc 7 = .ok (.invokevirtual 58, 3) := by decide +kernel
theorem dX7_arc_10 : decode cX7_arc 10 = .ok (.ifCond .eq 11, 3) := by decide +kernel
theorem dX7_arc_13 : decode cX7_arc 13 = .ok (.aload_n 0, 1) := by decide +kernel
theorem dX7_arc_14 : decode cX7_arc 14 = .ok (.iload_n 2, 1) := by decide +kernel
theorem dX7_arc_15 : decode cX7_arc 15 = .ok (.invokevirtual 58, 3) := by decide +kernel
theorem dX7_arc_18 : decode cX7_arc 18 = .ok (.ifCond .ne 5, 3) := by decide +kernel
theorem dX7_arc_21 : decode cX7_arc 21 = .ok (.iconst (-1), 1) := by decide +kernel
theorem dX7_arc_22 : decode cX7_arc 22 = .ok (.ireturn, 1) := by decide +kernel
theorem dX7_arc_23 : decode cX7_arc 23 = .ok (.aload_n 0, 1) := by decide +kernel
theorem dX7_arc_24 : decode cX7_arc 24 = .ok (.iload_n 1, 1) := by decide +kernel
theorem dX7_arc_25 : decode cX7_arc 25 = .ok (.iload_n 2, 1) := by decide +kernel
theorem dX7_arc_26 : decode cX7_arc 26 = .ok (.invokevirtual 47, 3) := by decide +kernel
theorem dX7_arc_29 : decode cX7_arc 29 = .ok (.istore 4, 2) := by decide +kernel
theorem dX7_arc_31 : decode cX7_arc 31 = .ok (.iload_n 3, 1) := by decide +kernel
theorem dX7_arc_32 : decode cX7_arc 32 = .ok (.iconst 0, 1) := by decide +kernel
theorem dX7_arc_33 : decode cX7_arc 33 = .ok (.bipush 9, 2) := by decide +kernel
theorem dX7_arc_35 : decode cX7_arc 35 = .ok (.invokestatic 43, 3) := by decide +kernel
theorem dX7_arc_38 : decode cX7_arc 38 = .ok (.ifCond .eq 18, 3) := by decide +kernel
theorem dX7_arc_41 : decode cX7_arc 41 = .ok (.aload_n 0, 1) := by decide +kernel
theorem dX7_arc_42 : decode cX7_arc 42 = .ok (.iload_n 1, 1) := by decide +kernel
theorem dX7_arc_43 : decode cX7_arc 43 = .ok (.invokevirtual 51, 3) := by decide +kernel
theorem dX7_arc_46 : decode cX7_arc 46 = .ok (.iload 4, 2) := by decide +kernel
theorem dX7_arc_48 : decode cX7_arc 48 = .ok (.isub, 1) := by decide +kernel
theorem dX7_arc_49 : decode cX7_arc 49 = .ok (.iload_n 3, 1) := by decide +kernel
theorem dX7_arc_50 : decode cX7_arc 50 = .ok (.iadd, 1) := by decide +kernel
theorem dX7_arc_51 : decode cX7_arc 51 = .ok (.bipush 12, 2) := by decide +kernel
theorem dX7_arc_53 : decode cX7_arc 53 = .ok (.if_icmp .le 6, 3) := by decide +kernel
theorem dX7_arc_56 : decode cX7_arc 56 = .ok (.bipush (-2), 2) := by decide +kernel
theorem dX7_arc_58 : decode cX7_arc 58 = .ok (.ireturn, 1) := by decide +kernel
theorem dX7_arc_59 : decode cX7_arc 59 = .ok (.aload_n 0, 1) := by decide +kernel
theorem dX7_arc_60 : decode cX7_arc 60 = .ok (.getfield 7, 3) := by decide +kernel
theorem dX7_arc_63 : decode cX7_arc 63 = .ok (.bipush 7, 2) := by decide +kernel
theorem dX7_arc_65 : decode cX7_arc 65 = .ok (.iload_n 1, 1) := by decide +kernel
theorem dX7_arc_66 : decode cX7_arc 66 = .ok (.imul, 1) := by decide +kernel
theorem dX7_arc_67 : decode cX7_arc 67 = .ok (.iload_n 2, 1) := by decide +kernel
theorem dX7_arc_68 : decode cX7_arc 68 = .ok (.iadd, 1) := by decide +kernel
theorem dX7_arc_69 : decode cX7_arc 69 = .ok (.iload_n 3, 1) := by decide +kernel
theorem dX7_arc_70 : decode cX7_arc 70 = .ok (.iastore, 1) := by decide +kernel
theorem dX7_arc_71 : decode cX7_arc 71 = .ok (.iload 4, 2) := by decide +kernel
theorem dX7_arc_73 : decode cX7_arc 73 = .ok (.ireturn, 1) := by decide +kernel
theorem dX7_isState_0 : decode cX7_isState 0 = .ok (.iload_n 1, 1) := by decide +kernel
theorem dX7_isState_1 : decode cX7_isState 1 = .ok (.iconst 0, 1) := by decide +kernel
theorem dX7_isState_2 : decode cX7_isState 2 = .ok (.aload_n 0, 1) := by decide +kernel
theorem dX7_isState_3 : decode cX7_isState 3 = .ok (.getfield 40, 3) := by decide +kernel
theorem dX7_isState_6 : decode cX7_isState 6 = .ok (.iconst 1, 1) := by decide +kernel
theorem dX7_isState_7 : decode cX7_isState 7 = .ok (.isub, 1) := by decide +kernel
theorem dX7_isState_8 : decode cX7_isState 8 = .ok (.invokestatic 43, 3) := by decide +kernel
theorem dX7_isState_11 : decode cX7_isState 11 = .ok (.ireturn, 1) := by decide +kernel
theorem dX7_within_0 : decode cX7_within 0 = .ok (.iload_n 0, 1) := by decide +kernel
theorem dX7_within_1 : decode cX7_within 1 = .ok (.iload_n 1, 1) := by decide +kernel
theorem dX7_within_2 : decode cX7_within 2 = .ok (.if_icmp .lt 12, 3) := by decide +kernel
theorem dX7_within_5 : decode cX7_within 5 = .ok (.iload_n 0, 1) := by decide +kernel
theorem dX7_within_6 : decode cX7_within 6 = .ok (.iload_n 2, 1) := by decide +kernel
theorem dX7_within_7 : decode cX7_within 7 = .ok (.if_icmp .gt 7, 3) := by decide +kernel
theorem dX7_within_10 : decode cX7_within 10 = .ok (.iconst 1, 1) := by decide +kernel
theorem dX7_within_11 : decode cX7_within 11 = .ok (.goto 4, 3) := by decide +kernel
theorem dX7_within_14 : decode cX7_within 14 = .ok (.iconst 0, 1) := by decide +kernel
theorem dX7_within_15 : decode cX7_within 15 = .ok (.ireturn, 1) := by decide +kernel
theorem dX7_w_0 : decode cX7_w 0 = .ok (.aload_n 0, 1) := by decide +kernel
theorem dX7_w_1 : decode cX7_w 1 = .ok (.getfield 7, 3) := by decide +kernel
theorem dX7_w_4 : decode cX7_w 4 = .ok (.bipush 7, 2) := by decide +kernel
theorem dX7_w_6 : decode cX7_w 6 = .ok (.iload_n 1, 1) := by decide +kernel
theorem dX7_w_7 : decode cX7_w 7 = .ok (.imul, 1) := by decide +kernel
theorem dX7_w_8 : decode cX7_w 8 = .ok (.iload_n 2, 1) := by decide +kernel
theorem dX7_w_9 : decode cX7_w 9 = .ok (.iadd, 1) := by decide +kernel
theorem dX7_w_10 : decode cX7_w 10 = .ok (.iaload, 1) := by decide +kernel
theorem dX7_w_11 : decode cX7_w 11 = .ok (.ireturn, 1) := by decide +kernel
theorem dX7_total_0 : decode cX7_total 0 = .ok (.iconst 0, 1) := by decide +kernel
theorem dX7_total_1 : decode cX7_total 1 = .ok (.istore_n 2, 1) := by decide +kernel
theorem dX7_total_2 : decode cX7_total 2 = .ok (.iconst 0, 1) := by decide +kernel
theorem dX7_total_3 : decode cX7_total 3 = .ok (.istore_n 3, 1) := by decide +kernel
theorem dX7_total_4 : decode cX7_total 4 = .ok (.iload_n 3, 1) := by decide +kernel
theorem dX7_total_5 : decode cX7_total 5 = .ok (.aload_n 0, 1) := by decide +kernel
theorem dX7_total_6 : decode cX7_total 6 = .ok (.getfield 40, 3) := by decide +kernel
theorem dX7_total_9 : decode cX7_total 9 = .ok (.if_icmp .ge 18, 3) := by decide +kernel
theorem dX7_total_12 : decode cX7_total 12 = .ok (.iload_n 2, 1) := by decide +kernel
theorem dX7_total_13 : decode cX7_total 13 = .ok (.aload_n 0, 1) := by decide +kernel
theorem dX7_total_14 : decode cX7_total 14 = .ok (.iload_n 1, 1) := by decide +kernel
theorem dX7_total_15 : decode cX7_total 15 = .ok (.iload_n 3, 1) := by decide +kernel
theorem dX7_total_16 : decode cX7_total 16 = .ok (.invokevirtual 47, 3) := by decide +kernel
theorem dX7_total_19 : decode cX7_total 19 = .ok (.iadd, 1) := by decide +kernel
theorem dX7_total_20 : decode cX7_total 20 = .ok (.istore_n 2, 1) := by decide +kernel
theorem dX7_total_21 : decode cX7_total 21 = .ok (.iinc 3 1, 3) := by decide +kernel
theorem dX7_total_24 : decode cX7_total 24 = .ok (.goto (-20), 3) := by decide +kernel
theorem dX7_total_27 : decode cX7_total 27 = .ok (.iload_n 2, 1) := by decide +kernel
theorem dX7_total_28 : decode cX7_total 28 = .ok (.ireturn, 1) := by decide +kernel
theorem dX7_reward_0 : decode cX7_reward 0 = .ok (.aload_n 0, 1) := by decide +kernel
theorem dX7_reward_1 : decode cX7_reward 1 = .ok (.iconst 0, 1) := by decide +kernel
theorem dX7_reward_2 : decode cX7_reward 2 = .ok (.putfield 36, 3) := by decide +kernel
theorem dX7_reward_5 : decode cX7_reward 5 = .ok (.aload_n 0, 1) := by decide +kernel
theorem dX7_reward_6 : decode cX7_reward 6 = .ok (.iload_n 1, 1) := by decide +kernel
theorem dX7_reward_7 : decode cX7_reward 7 = .ok (.invokevirtual 58, 3) := by decide +kernel
theorem dX7_reward_10 : decode cX7_reward 10 = .ok (.ifCond .ne 5, 3) := by decide +kernel
theorem dX7_reward_13 : decode cX7_reward 13 = .ok (.iconst (-1), 1) := by decide +kernel
theorem dX7_reward_14 : decode cX7_reward 14 = .ok (.ireturn, 1) := by decide +kernel
theorem dX7_reward_15 : decode cX7_reward 15 = .ok (.iload_n 2, 1) := by decide +kernel
theorem dX7_reward_16 : decode cX7_reward 16 = .ok (.bipush (-100), 2) := by decide +kernel
theorem dX7_reward_18 : decode cX7_reward 18 = .ok (.bipush 100, 2) := by decide +kernel
theorem dX7_reward_20 : decode cX7_reward 20 = .ok (.invokestatic 43, 3) := by decide +kernel
theorem dX7_reward_23 : decode cX7_reward 23 = .ok (.ifCond .ne 6, 3) := by decide +kernel
theorem dX7_reward_26 : decode cX7_reward 26 = .ok (.bipush (-2), 2) := by decide +kernel
theorem dX7_reward_28 : decode cX7_reward 28 = .ok (.ireturn, 1) := by decide +kernel
theorem dX7_reward_29 : decode cX7_reward 29 = .ok (.aload_n 0, 1) := by decide +kernel
theorem dX7_reward_30 : decode cX7_reward 30 = .ok (.getfield 13, 3) := by decide +kernel
theorem dX7_reward_33 : decode cX7_reward 33 = .ok (.iload_n 1, 1) := by decide +kernel
theorem dX7_reward_34 : decode cX7_reward 34 = .ok (.iaload, 1) := by decide +kernel
theorem dX7_reward_35 : decode cX7_reward 35 = .ok (.istore_n 3, 1) := by decide +kernel
theorem dX7_reward_36 : decode cX7_reward 36 = .ok (.aload_n 0, 1) := by decide +kernel
theorem dX7_reward_37 : decode cX7_reward 37 = .ok (.getfield 13, 3) := by decide +kernel
theorem dX7_reward_40 : decode cX7_reward 40 = .ok (.iload_n 1, 1) := by decide +kernel
theorem dX7_reward_41 : decode cX7_reward 41 = .ok (.iload_n 2, 1) := by decide +kernel
theorem dX7_reward_42 : decode cX7_reward 42 = .ok (.iastore, 1) := by decide +kernel
theorem dX7_reward_43 : decode cX7_reward 43 = .ok (.iload_n 3, 1) := by decide +kernel
theorem dX7_reward_44 : decode cX7_reward 44 = .ok (.bipush 100, 2) := by decide +kernel
theorem dX7_reward_46 : decode cX7_reward 46 = .ok (.iadd, 1) := by decide +kernel
theorem dX7_reward_47 : decode cX7_reward 47 = .ok (.ireturn, 1) := by decide +kernel
theorem dX7_part_0 : decode cX7_part 0 = .ok (.aload_n 0, 1) := by decide +kernel
theorem dX7_part_1 : decode cX7_part 1 = .ok (.iconst 0, 1) := by decide +kernel
theorem dX7_part_2 : decode cX7_part 2 = .ok (.putfield 36, 3) := by decide +kernel
theorem dX7_part_5 : decode cX7_part 5 = .ok (.aload_n 0, 1) := by decide +kernel
theorem dX7_part_6 : decode cX7_part 6 = .ok (.iload_n 1, 1) := by decide +kernel
theorem dX7_part_7 : decode cX7_part 7 = .ok (.invokevirtual 58, 3) := by decide +kernel
theorem dX7_part_10 : decode cX7_part 10 = .ok (.ifCond .eq 14, 3) := by decide +kernel
theorem dX7_part_13 : decode cX7_part 13 = .ok (.aload_n 0, 1) := by decide +kernel
theorem dX7_part_14 : decode cX7_part 14 = .ok (.iload_n 1, 1) := by decide +kernel
theorem dX7_part_15 : decode cX7_part 15 = .ok (.invokevirtual 72, 3) := by decide +kernel
theorem dX7_part_18 : decode cX7_part 18 = .ok (.invokestatic 75, 3) := by decide +kernel
theorem dX7_part_21 : decode cX7_part 21 = .ok (.goto 4, 3) := by decide +kernel
theorem dX7_part_24 : decode cX7_part 24 = .ok (.iconst (-1), 1) := by decide +kernel
theorem dX7_part_25 : decode cX7_part 25 = .ok (.ireturn, 1) := by decide +kernel
theorem dX7_partOf_0 : decode cX7_partOf 0 = .ok (.aload_n 0, 1) := by decide +kernel
theorem dX7_partOf_1 : decode cX7_partOf 1 = .ok (.iconst 1, 1) := by decide +kernel
theorem dX7_partOf_2 : decode cX7_partOf 2 = .ok (.iload_n 1, 1) := by decide +kernel
theorem dX7_partOf_3 : decode cX7_partOf 3 = .ok (.ishl, 1) := by decide +kernel
theorem dX7_partOf_4 : decode cX7_partOf 4 = .ok (.iconst 0, 1) := by decide +kernel
theorem dX7_partOf_5 : decode cX7_partOf 5 = .ok (.invokevirtual 66, 3) := by decide +kernel
theorem dX7_partOf_8 : decode cX7_partOf 8 = .ok (.aload_n 0, 1) := by decide +kernel
theorem dX7_partOf_9 : decode cX7_partOf 9 = .ok (.iconst 1, 1) := by decide +kernel
theorem dX7_partOf_10 : decode cX7_partOf 10 = .ok (.iload_n 1, 1) := by decide +kernel
theorem dX7_partOf_11 : decode cX7_partOf 11 = .ok (.ishl, 1) := by decide +kernel
theorem dX7_partOf_12 : decode cX7_partOf 12 = .ok (.iconst 0, 1) := by decide +kernel
theorem dX7_partOf_13 : decode cX7_partOf 13 = .ok (.invokevirtual 69, 3) := by decide +kernel
theorem dX7_partOf_16 : decode cX7_partOf 16 = .ok (.iand, 1) := by decide +kernel
theorem dX7_partOf_17 : decode cX7_partOf 17 = .ok (.ireturn, 1) := by decide +kernel
theorem dX7_reach_0 : decode cX7_reach 0 = .ok (.iload_n 1, 1) := by decide +kernel
theorem dX7_reach_1 : decode cX7_reach 1 = .ok (.istore_n 3, 1) := by decide +kernel
theorem dX7_reach_2 : decode cX7_reach 2 = .ok (.iconst 1, 1) := by decide +kernel
theorem dX7_reach_3 : decode cX7_reach 3 = .ok (.istore 4, 2) := by decide +kernel
theorem dX7_reach_5 : decode cX7_reach 5 = .ok (.iload 4, 2) := by decide +kernel
theorem dX7_reach_7 : decode cX7_reach 7 = .ok (.ifCond .eq 104, 3) := by decide +kernel
theorem dX7_reach_10 : decode cX7_reach 10 = .ok (.iload_n 3, 1) := by decide +kernel
theorem dX7_reach_11 : decode cX7_reach 11 = .ok (.istore 5, 2) := by decide +kernel
theorem dX7_reach_13 : decode cX7_reach 13 = .ok (.iconst 0, 1) := by decide +kernel
theorem dX7_reach_14 : decode cX7_reach 14 = .ok (.istore 6, 2) := by decide +kernel
theorem dX7_reach_16 : decode cX7_reach 16 = .ok (.iload 6, 2) := by decide +kernel
theorem dX7_reach_18 : decode cX7_reach 18 = .ok (.aload_n 0, 1) := by decide +kernel
theorem dX7_reach_19 : decode cX7_reach 19 = .ok (.getfield 40, 3) := by decide +kernel
theorem dX7_reach_22 : decode cX7_reach 22 = .ok (.if_icmp .ge 70, 3) := by decide +kernel
theorem dX7_reach_25 : decode cX7_reach 25 = .ok (.iconst 0, 1) := by decide +kernel
theorem dX7_reach_26 : decode cX7_reach 26 = .ok (.istore 7, 2) := by decide +kernel
theorem dX7_reach_28 : decode cX7_reach 28 = .ok (.iload 7, 2) := by decide +kernel
theorem dX7_reach_30 : decode cX7_reach 30 = .ok (.aload_n 0, 1) := by decide +kernel
theorem dX7_reach_31 : decode cX7_reach 31 = .ok (.getfield 40, 3) := by decide +kernel
theorem dX7_reach_34 : decode cX7_reach 34 = .ok (.if_icmp .ge 52, 3) := by decide +kernel
theorem dX7_reach_37 : decode cX7_reach 37 = .ok (.iload_n 3, 1) := by decide +kernel
theorem dX7_reach_38 : decode cX7_reach 38 = .ok (.iload 6, 2) := by decide +kernel
theorem dX7_reach_40 : decode cX7_reach 40 = .ok (.invokestatic 62, 3) := by decide +kernel
theorem dX7_reach_43 : decode cX7_reach 43 = .ok (.ifCond .eq 43, 3) := by decide +kernel
theorem dX7_reach_46 : decode cX7_reach 46 = .ok (.iload_n 2, 1) := by decide +kernel
theorem dX7_reach_47 : decode cX7_reach 47 = .ok (.iload 6, 2) := by decide +kernel
theorem dX7_reach_49 : decode cX7_reach 49 = .ok (.invokestatic 62, 3) := by decide +kernel
theorem dX7_reach_52 : decode cX7_reach 52 = .ok (.ifCond .ne 34, 3) := by decide +kernel
theorem dX7_reach_55 : decode cX7_reach 55 = .ok (.aload_n 0, 1) := by decide +kernel
theorem dX7_reach_56 : decode cX7_reach 56 = .ok (.iload 6, 2) := by decide +kernel
theorem dX7_reach_58 : decode cX7_reach 58 = .ok (.iload 7, 2) := by decide +kernel
theorem dX7_reach_60 : decode cX7_reach 60 = .ok (.invokevirtual 47, 3) := by decide +kernel
theorem dX7_reach_63 : decode cX7_reach 63 = .ok (.ifCond .le 13, 3) := by decide +kernel
theorem dX7_reach_66 : decode cX7_reach 66 = .ok (.iload 5, 2) := by decide +kernel
theorem dX7_reach_68 : decode cX7_reach 68 = .ok (.iconst 1, 1) := by decide +kernel
theorem dX7_reach_69 : decode cX7_reach 69 = .ok (.iload 7, 2) := by decide +kernel
theorem dX7_reach_71 : decode cX7_reach 71 = .ok (.ishl, 1) := by decide +kernel
theorem dX7_reach_72 : decode cX7_reach 72 = .ok (.ior, 1) := by decide +kernel
theorem dX7_reach_73 : decode cX7_reach 73 = .ok (.goto 5, 3) := by decide +kernel
theorem dX7_reach_76 : decode cX7_reach 76 = .ok (.iload 5, 2) := by decide +kernel
theorem dX7_reach_78 : decode cX7_reach 78 = .ok (.istore 5, 2) := by decide +kernel
theorem dX7_reach_80 : decode cX7_reach 80 = .ok (.iinc 7 1, 3) := by decide +kernel
theorem dX7_reach_83 : decode cX7_reach 83 = .ok (.goto (-55), 3) := by decide +kernel
theorem dX7_reach_86 : decode cX7_reach 86 = .ok (.iinc 6 1, 3) := by decide +kernel
theorem dX7_reach_89 : decode cX7_reach 89 = .ok (.goto (-73), 3) := by decide +kernel
theorem dX7_reach_92 : decode cX7_reach 92 = .ok (.iload 5, 2) := by decide +kernel
theorem dX7_reach_94 : decode cX7_reach 94 = .ok (.iload_n 3, 1) := by decide +kernel
theorem dX7_reach_95 : decode cX7_reach 95 = .ok (.if_icmp .eq 7, 3) := by decide +kernel
theorem dX7_reach_98 : decode cX7_reach 98 = .ok (.iconst 1, 1) := by decide +kernel
theorem dX7_reach_99 : decode cX7_reach 99 = .ok (.goto 4, 3) := by decide +kernel
theorem dX7_reach_102 : decode cX7_reach 102 = .ok (.iconst 0, 1) := by decide +kernel
theorem dX7_reach_103 : decode cX7_reach 103 = .ok (.istore 4, 2) := by decide +kernel
theorem dX7_reach_105 : decode cX7_reach 105 = .ok (.iload 5, 2) := by decide +kernel
theorem dX7_reach_107 : decode cX7_reach 107 = .ok (.istore_n 3, 1) := by decide +kernel
theorem dX7_reach_108 : decode cX7_reach 108 = .ok (.goto (-103), 3) := by decide +kernel
theorem dX7_reach_111 : decode cX7_reach 111 = .ok (.iload_n 3, 1) := by decide +kernel
theorem dX7_reach_112 : decode cX7_reach 112 = .ok (.ireturn, 1) := by decide +kernel
theorem dX7_has_0 : decode cX7_has 0 = .ok (.iload_n 0, 1) := by decide +kernel
theorem dX7_has_1 : decode cX7_has 1 = .ok (.iload_n 1, 1) := by decide +kernel
theorem dX7_has_2 : decode cX7_has 2 = .ok (.ishr, 1) := by decide +kernel
theorem dX7_has_3 : decode cX7_has 3 = .ok (.iconst 1, 1) := by decide +kernel
theorem dX7_has_4 : decode cX7_has 4 = .ok (.iand, 1) := by decide +kernel
theorem dX7_has_5 : decode cX7_has 5 = .ok (.iconst 1, 1) := by decide +kernel
theorem dX7_has_6 : decode cX7_has 6 = .ok (.if_icmp .ne 7, 3) := by decide +kernel
theorem dX7_has_9 : decode cX7_has 9 = .ok (.iconst 1, 1) := by decide +kernel
theorem dX7_has_10 : decode cX7_has 10 = .ok (.goto 4, 3) := by decide +kernel
theorem dX7_has_13 : decode cX7_has 13 = .ok (.iconst 0, 1) := by decide +kernel
theorem dX7_has_14 : decode cX7_has 14 = .ok (.ireturn, 1) := by decide +kernel
theorem dX7_whence_0 : decode cX7_whence 0 = .ok (.iconst 0, 1) := by decide +kernel
theorem dX7_whence_1 : decode cX7_whence 1 = .ok (.istore_n 3, 1) := by decide +kernel
theorem dX7_whence_2 : decode cX7_whence 2 = .ok (.iconst 0, 1) := by decide +kernel
theorem dX7_whence_3 : decode cX7_whence 3 = .ok (.istore 4, 2) := by decide +kernel
theorem dX7_whence_5 : decode cX7_whence 5 = .ok (.iload 4, 2) := by decide +kernel
theorem dX7_whence_7 : decode cX7_whence 7 = .ok (.aload_n 0, 1) := by decide +kernel
theorem dX7_whence_8 : decode cX7_whence 8 = .ok (.getfield 40, 3) := by decide +kernel
theorem dX7_whence_11 : decode cX7_whence 11 = .ok (.if_icmp .ge 34, 3) := by decide +kernel
theorem dX7_whence_14 : decode cX7_whence 14 = .ok (.aload_n 0, 1) := by decide +kernel
theorem dX7_whence_15 : decode cX7_whence 15 = .ok (.iconst 1, 1) := by decide +kernel
theorem dX7_whence_16 : decode cX7_whence 16 = .ok (.iload 4, 2) := by decide +kernel
theorem dX7_whence_18 : decode cX7_whence 18 = .ok (.ishl, 1) := by decide +kernel
theorem dX7_whence_19 : decode cX7_whence 19 = .ok (.iload_n 2, 1) := by decide +kernel
theorem dX7_whence_20 : decode cX7_whence 20 = .ok (.invokevirtual 66, 3) := by decide +kernel
theorem dX7_whence_23 : decode cX7_whence 23 = .ok (.iload_n 1, 1) := by decide +kernel
theorem dX7_whence_24 : decode cX7_whence 24 = .ok (.iand, 1) := by decide +kernel
theorem dX7_whence_25 : decode cX7_whence 25 = .ok (.ifCond .eq 12, 3) := by decide +kernel
theorem dX7_whence_28 : decode cX7_whence 28 = .ok (.iload_n 3, 1) := by decide +kernel
theorem dX7_whence_29 : decode cX7_whence 29 = .ok (.iconst 1, 1) := by decide +kernel
theorem dX7_whence_30 : decode cX7_whence 30 = .ok (.iload 4, 2) := by decide +kernel
theorem dX7_whence_32 : decode cX7_whence 32 = .ok (.ishl, 1) := by decide +kernel
theorem dX7_whence_33 : decode cX7_whence 33 = .ok (.ior, 1) := by decide +kernel
theorem dX7_whence_34 : decode cX7_whence 34 = .ok (.goto 4, 3) := by decide +kernel
theorem dX7_whence_37 : decode cX7_whence 37 = .ok (.iload_n 3, 1) := by decide +kernel
theorem dX7_whence_38 : decode cX7_whence 38 = .ok (.istore_n 3, 1) := by decide +kernel
theorem dX7_whence_39 : decode cX7_whence 39 = .ok (.iinc 4 1, 3) := by decide +kernel
theorem dX7_whence_42 : decode cX7_whence 42 = .ok (.goto (-37), 3) := by decide +kernel
theorem dX7_whence_45 : decode cX7_whence 45 = .ok (.iload_n 3, 1) := by decide +kernel
theorem dX7_whence_46 : decode cX7_whence 46 = .ok (.ireturn, 1) := by decide +kernel
theorem dX7_least_0 : decode cX7_least 0 = .ok (.iconst 0, 1) := by decide +kernel
theorem dX7_least_1 : decode cX7_least 1 = .ok (.istore_n 1, 1) := by decide +kernel
theorem dX7_least_2 : decode cX7_least 2 = .ok (.iload_n 1, 1) := by decide +kernel
theorem dX7_least_3 : decode cX7_least 3 = .ok (.bipush 7, 2) := by decide +kernel
theorem dX7_least_5 : decode cX7_least 5 = .ok (.if_icmp .ge 17, 3) := by decide +kernel
theorem dX7_least_8 : decode cX7_least 8 = .ok (.iload_n 0, 1) := by decide +kernel
theorem dX7_least_9 : decode cX7_least 9 = .ok (.iload_n 1, 1) := by decide +kernel
theorem dX7_least_10 : decode cX7_least 10 = .ok (.invokestatic 62, 3) := by decide +kernel
theorem dX7_least_13 : decode cX7_least 13 = .ok (.ifCond .ne 9, 3) := by decide +kernel
theorem dX7_least_16 : decode cX7_least 16 = .ok (.iinc 1 1, 3) := by decide +kernel
theorem dX7_least_19 : decode cX7_least 19 = .ok (.goto (-17), 3) := by decide +kernel
theorem dX7_least_22 : decode cX7_least 22 = .ok (.iload_n 1, 1) := by decide +kernel
theorem dX7_least_23 : decode cX7_least 23 = .ok (.ireturn, 1) := by decide +kernel
theorem dX7_closed_0 : decode cX7_closed 0 = .ok (.aload_n 0, 1) := by decide +kernel
theorem dX7_closed_1 : decode cX7_closed 1 = .ok (.iconst 0, 1) := by decide +kernel
theorem dX7_closed_2 : decode cX7_closed 2 = .ok (.putfield 36, 3) := by decide +kernel
theorem dX7_closed_5 : decode cX7_closed 5 = .ok (.aload_n 0, 1) := by decide +kernel
theorem dX7_closed_6 : decode cX7_closed 6 = .ok (.iload_n 1, 1) := by decide +kernel
theorem dX7_closed_7 : decode cX7_closed 7 = .ok (.invokevirtual 58, 3) := by decide +kernel
theorem dX7_closed_10 : decode cX7_closed 10 = .ok (.ifCond .ne 7, 3) := by decide +kernel
theorem dX7_closed_13 : decode cX7_closed 13 = .ok (.iconst (-1), 1) := by decide +kernel
theorem dX7_closed_14 : decode cX7_closed 14 = .ok (.goto 16, 3) := by decide +kernel
theorem dX7_closed_17 : decode cX7_closed 17 = .ok (.aload_n 0, 1) := by decide +kernel
theorem dX7_closed_18 : decode cX7_closed 18 = .ok (.iload_n 1, 1) := by decide +kernel
theorem dX7_closed_19 : decode cX7_closed 19 = .ok (.invokevirtual 78, 3) := by decide +kernel
theorem dX7_closed_22 : decode cX7_closed 22 = .ok (.ifCond .eq 7, 3) := by decide +kernel
theorem dX7_closed_25 : decode cX7_closed 25 = .ok (.iconst 1, 1) := by decide +kernel
theorem dX7_closed_26 : decode cX7_closed 26 = .ok (.goto 4, 3) := by decide +kernel
theorem dX7_closed_29 : decode cX7_closed 29 = .ok (.iconst 0, 1) := by decide +kernel
theorem dX7_closed_30 : decode cX7_closed 30 = .ok (.ireturn, 1) := by decide +kernel
theorem dX7_isClosed_0 : decode cX7_isClosed 0 = .ok (.aload_n 0, 1) := by decide +kernel
theorem dX7_isClosed_1 : decode cX7_isClosed 1 = .ok (.iconst 1, 1) := by decide +kernel
theorem dX7_isClosed_2 : decode cX7_isClosed 2 = .ok (.iload_n 1, 1) := by decide +kernel
theorem dX7_isClosed_3 : decode cX7_isClosed 3 = .ok (.ishl, 1) := by decide +kernel
theorem dX7_isClosed_4 : decode cX7_isClosed 4 = .ok (.iconst 0, 1) := by decide +kernel
theorem dX7_isClosed_5 : decode cX7_isClosed 5 = .ok (.invokevirtual 66, 3) := by decide +kernel
theorem dX7_isClosed_8 : decode cX7_isClosed 8 = .ok (.aload_n 0, 1) := by decide +kernel
theorem dX7_isClosed_9 : decode cX7_isClosed 9 = .ok (.iload_n 1, 1) := by decide +kernel
theorem dX7_isClosed_10 : decode cX7_isClosed 10 = .ok (.invokevirtual 72, 3) := by decide +kernel
theorem dX7_isClosed_13 : decode cX7_isClosed 13 = .ok (.iconst (-1), 1) := by decide +kernel
theorem dX7_isClosed_14 : decode cX7_isClosed 14 = .ok (.ixor, 1) := by decide +kernel
theorem dX7_isClosed_15 : decode cX7_isClosed 15 = .ok (.iand, 1) := by decide +kernel
theorem dX7_isClosed_16 : decode cX7_isClosed 16 = .ok (.ifCond .ne 7, 3) := by decide +kernel
theorem dX7_isClosed_19 : decode cX7_isClosed 19 = .ok (.iconst 1, 1) := by decide +kernel
