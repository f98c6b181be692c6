theorem dX6_answerOddsToMeet_28 : decode cX6_answerOddsToMeet 28 = .ok (.goto 50, 3) := by decide +kernel
theorem dX6_answerOddsToMeet_31 : decode cX6_answerOddsToMeet 31 = .ok (.iload 4, 2) := by decide +kernel
theorem dX6_answerOddsToMeet_33 : decode cX6_answerOddsToMeet 33 = .ok (.iload_n 1, 1) := by decide +kernel
theorem dX6_answerOddsToMeet_34 : decode cX6_answerOddsToMeet 34 = .ok (.invokestatic 122, 3) := by decide +kernel
theorem dX6_answerOddsToMeet_37 : decode cX6_answerOddsToMeet 37 = .ok (.ifCond .ne 15, 3) := by decide +kernel
theorem dX6_answerOddsToMeet_40 : decode cX6_answerOddsToMeet 40 = .ok (.aload_n 0, 1) := by decide +kernel
theorem dX6_answerOddsToMeet_41 : decode cX6_answerOddsToMeet 41 = .ok (.getfield 49, 3) := by decide +kernel
theorem dX6_answerOddsToMeet_44 : decode cX6_answerOddsToMeet 44 = .ok (.lconst 0, 1) := by decide +kernel
theorem dX6_answerOddsToMeet_45 : decode cX6_answerOddsToMeet 45 = .ok (.lconst 1, 1) := by decide +kernel
theorem dX6_answerOddsToMeet_46 : decode cX6_answerOddsToMeet 46 = .ok (.invokevirtual 59, 3) := by decide +kernel
theorem dX6_answerOddsToMeet_49 : decode cX6_answerOddsToMeet 49 = .ok (.goto 29, 3) := by decide +kernel
theorem dX6_answerOddsToMeet_52 : decode cX6_answerOddsToMeet 52 = .ok (.aload_n 0, 1) := by decide +kernel
theorem dX6_answerOddsToMeet_53 : decode cX6_answerOddsToMeet 53 = .ok (.getfield 35, 3) := by decide +kernel
theorem dX6_answerOddsToMeet_56 : decode cX6_answerOddsToMeet 56 = .ok (.iload_n 2, 1) := by decide +kernel
theorem dX6_answerOddsToMeet_57 : decode cX6_answerOddsToMeet 57 = .ok (.invokevirtual 102, 3) := by decide +kernel
theorem dX6_answerOddsToMeet_60 : decode cX6_answerOddsToMeet 60 = .ok (.aload_n 0, 1) := by decide +kernel
theorem dX6_answerOddsToMeet_61 : decode cX6_answerOddsToMeet 61 = .ok (.getfield 35, 3) := by decide +kernel
theorem dX6_answerOddsToMeet_64 : decode cX6_answerOddsToMeet 64 = .ok (.iload_n 1, 1) := by decide +kernel
theorem dX6_answerOddsToMeet_65 : decode cX6_answerOddsToMeet 65 = .ok (.iload 4, 2) := by decide +kernel
theorem dX6_answerOddsToMeet_67 : decode cX6_answerOddsToMeet 67 = .ok (.iload_n 2, 1) := by decide +kernel
theorem dX6_answerOddsToMeet_68 : decode cX6_answerOddsToMeet 68 = .ok (.iconst (-1), 1) := by decide +kernel
theorem dX6_answerOddsToMeet_69 : decode cX6_answerOddsToMeet 69 = .ok (.ixor, 1) := by decide +kernel
theorem dX6_answerOddsToMeet_70 : decode cX6_answerOddsToMeet 70 = .ok (.iand, 1) := by decide +kernel
theorem dX6_answerOddsToMeet_71 : decode cX6_answerOddsToMeet 71 = .ok (.aload_n 0, 1) := by decide +kernel
theorem dX6_answerOddsToMeet_72 : decode cX6_answerOddsToMeet 72 = .ok (.getfield 49, 3) := by decide +kernel
theorem dX6_answerOddsToMeet_75 : decode cX6_answerOddsToMeet 75 = .ok (.invokevirtual 110, 3) := by decide +kernel
theorem dX6_answerOddsToMeet_78 : decode cX6_answerOddsToMeet 78 = .ok (.return_, 1) := by decide +kernel
theorem dX1_gainByEntering_0 : decode cX1_gainByEntering 0 = .ok (.iconst 0, 1) := by decide +kernel
theorem dX1_gainByEntering_1 : decode cX1_gainByEntering 1 = .ok (.istore_n 2, 1) := by decide +kernel
theorem dX1_gainByEntering_2 : decode cX1_gainByEntering 2 = .ok (.iload_n 2, 1) := by decide +kernel
theorem dX1_gainByEntering_3 : decode cX1_gainByEntering 3 = .ok (.aload_n 0, 1) := by decide +kernel
theorem dX1_gainByEntering_4 : decode cX1_gainByEntering 4 = .ok (.getfield 28, 3) := by decide +kernel
theorem dX1_gainByEntering_7 : decode cX1_gainByEntering 7 = .ok (.getfield 32, 3) := by decide +kernel
theorem dX1_gainByEntering_10 : decode cX1_gainByEntering 10 = .ok (.if_icmp .ge 25, 3) := by decide +kernel
theorem dX1_gainByEntering_13 : decode cX1_gainByEntering 13 = .ok (.aload_n 0, 1) := by decide +kernel
theorem dX1_gainByEntering_14 : decode cX1_gainByEntering 14 = .ok (.getfield 9, 3) := by decide +kernel
theorem dX1_gainByEntering_17 : decode cX1_gainByEntering 17 = .ok (.iload_n 2, 1) := by decide +kernel
theorem dX1_gainByEntering_18 : decode cX1_gainByEntering 18 = .ok (.aload_n 0, 1) := by decide +kernel
theorem dX1_gainByEntering_19 : decode cX1_gainByEntering 19 = .ok (.getfield 28, 3) := by decide +kernel
theorem dX1_gainByEntering_22 : decode cX1_gainByEntering 22 = .ok (.iload_n 2, 1) := by decide +kernel
theorem dX1_gainByEntering_23 : decode cX1_gainByEntering 23 = .ok (.iload_n 1, 1) := by decide +kernel
theorem dX1_gainByEntering_24 : decode cX1_gainByEntering 24 = .ok (.invokevirtual 37, 3) := by decide +kernel
theorem dX1_gainByEntering_27 : decode cX1_gainByEntering 27 = .ok (.i2l, 1) := by decide +kernel
theorem dX1_gainByEntering_28 : decode cX1_gainByEntering 28 = .ok (.lastore, 1) := by decide +kernel
theorem dX1_gainByEntering_29 : decode cX1_gainByEntering 29 = .ok (.iinc 2 1, 3) := by decide +kernel
theorem dX1_gainByEntering_32 : decode cX1_gainByEntering 32 = .ok (.goto (-30), 3) := by decide +kernel
theorem dX1_gainByEntering_35 : decode cX1_gainByEntering 35 = .ok (.return_, 1) := by decide +kernel
theorem dX1_solve_0 : decode cX1_solve 0 = .ok (.aload_n 0, 1) := by decide +kernel
theorem dX1_solve_1 : decode cX1_solve 1 = .ok (.iconst 0, 1) := by decide +kernel
theorem dX1_solve_2 : decode cX1_solve 2 = .ok (.putfield 24, 3) := by decide +kernel
theorem dX1_solve_5 : decode cX1_solve 5 = .ok (.iconst 0, 1) := by decide +kernel
theorem dX1_solve_6 : decode cX1_solve 6 = .ok (.istore 4, 2) := by decide +kernel
theorem dX1_solve_8 : decode cX1_solve 8 = .ok (.iload 4, 2) := by decide +kernel
theorem dX1_solve_10 : decode cX1_solve 10 = .ok (.aload_n 0, 1) := by decide +kernel
theorem dX1_solve_11 : decode cX1_solve 11 = .ok (.getfield 28, 3) := by decide +kernel
theorem dX1_solve_14 : decode cX1_solve 14 = .ok (.getfield 32, 3) := by decide +kernel
theorem dX1_solve_17 : decode cX1_solve 17 = .ok (.if_icmp .ge 39, 3) := by decide +kernel
theorem dX1_solve_20 : decode cX1_solve 20 = .ok (.iload_n 2, 1) := by decide +kernel
theorem dX1_solve_21 : decode cX1_solve 21 = .ok (.iload 4, 2) := by decide +kernel
theorem dX1_solve_23 : decode cX1_solve 23 = .ok (.invokestatic 48, 3) := by decide +kernel
theorem dX1_solve_26 : decode cX1_solve 26 = .ok (.ifCond .eq 24, 3) := by decide +kernel
theorem dX1_solve_29 : decode cX1_solve 29 = .ok (.aload_n 0, 1) := by decide +kernel
theorem dX1_solve_30 : decode cX1_solve 30 = .ok (.getfield 15, 3) := by decide +kernel
theorem dX1_solve_33 : decode cX1_solve 33 = .ok (.aload_n 0, 1) := by decide +kernel
theorem dX1_solve_34 : decode cX1_solve 34 = .ok (.getfield 24, 3) := by decide +kernel
theorem dX1_solve_37 : decode cX1_solve 37 = .ok (.iload 4, 2) := by decide +kernel
theorem dX1_solve_39 : decode cX1_solve 39 = .ok (.iastore, 1) := by decide +kernel
theorem dX1_solve_40 : decode cX1_solve 40 = .ok (.aload_n 0, 1) := by decide +kernel
theorem dX1_solve_41 : decode cX1_solve 41 = .ok (.dup, 1) := by decide +kernel
theorem dX1_solve_42 : decode cX1_solve 42 = .ok (.getfield 24, 3) := by decide +kernel
theorem dX1_solve_45 : decode cX1_solve 45 = .ok (.iconst 1, 1) := by decide +kernel
theorem dX1_solve_46 : decode cX1_solve 46 = .ok (.iadd, 1) := by decide +kernel
theorem dX1_solve_47 : decode cX1_solve 47 = .ok (.putfield 24, 3) := by decide +kernel
theorem dX1_solve_50 : decode cX1_solve 50 = .ok (.iinc 4 1, 3) := by decide +kernel
theorem dX1_solve_53 : decode cX1_solve 53 = .ok (.goto (-45), 3) := by decide +kernel
theorem dX1_solve_56 : decode cX1_solve 56 = .ok (.aload_n 0, 1) := by decide +kernel
theorem dX1_solve_57 : decode cX1_solve 57 = .ok (.getfield 15, 3) := by decide +kernel
theorem dX1_solve_60 : decode cX1_solve 60 = .ok (.aload_n 0, 1) := by decide +kernel
theorem dX1_solve_61 : decode cX1_solve 61 = .ok (.getfield 24, 3) := by decide +kernel
theorem dX1_solve_64 : decode cX1_solve 64 = .ok (.iload_n 1, 1) := by decide +kernel
theorem dX1_solve_65 : decode cX1_solve 65 = .ok (.iastore, 1) := by decide +kernel
theorem dX1_solve_66 : decode cX1_solve 66 = .ok (.iconst 0, 1) := by decide +kernel
theorem dX1_solve_67 : decode cX1_solve 67 = .ok (.istore 4, 2) := by decide +kernel
theorem dX1_solve_69 : decode cX1_solve 69 = .ok (.iload 4, 2) := by decide +kernel
theorem dX1_solve_71 : decode cX1_solve 71 = .ok (.aload_n 0, 1) := by decide +kernel
theorem dX1_solve_72 : decode cX1_solve 72 = .ok (.getfield 24, 3) := by decide +kernel
theorem dX1_solve_75 : decode cX1_solve 75 = .ok (.if_icmp .gt 15, 3) := by decide +kernel
theorem dX1_solve_78 : decode cX1_solve 78 = .ok (.aload_n 0, 1) := by decide +kernel
theorem dX1_solve_79 : decode cX1_solve 79 = .ok (.iload 4, 2) := by decide +kernel
theorem dX1_solve_81 : decode cX1_solve 81 = .ok (.invokevirtual 52, 3) := by decide +kernel
theorem dX1_solve_84 : decode cX1_solve 84 = .ok (.iinc 4 1, 3) := by decide +kernel
theorem dX1_solve_87 : decode cX1_solve 87 = .ok (.goto (-18), 3) := by decide +kernel
theorem dX1_solve_90 : decode cX1_solve 90 = .ok (.aload_n 0, 1) := by decide +kernel
theorem dX1_solve_91 : decode cX1_solve 91 = .ok (.invokevirtual 56, 3) := by decide +kernel
theorem dX1_solve_94 : decode cX1_solve 94 = .ok (.aload_n 3, 1) := by decide +kernel
theorem dX1_solve_95 : decode cX1_solve 95 = .ok (.aload_n 0, 1) := by decide +kernel
theorem dX1_solve_96 : decode cX1_solve 96 = .ok (.getfield 21, 3) := by decide +kernel
theorem dX1_solve_99 : decode cX1_solve 99 = .ok (.aload_n 0, 1) := by decide +kernel
theorem dX1_solve_100 : decode cX1_solve 100 = .ok (.getfield 24, 3) := by decide +kernel
theorem dX1_solve_103 : decode cX1_solve 103 = .ok (.aaload, 1) := by decide +kernel
theorem dX1_solve_104 : decode cX1_solve 104 = .ok (.aload_n 0, 1) := by decide +kernel
theorem dX1_solve_105 : decode cX1_solve 105 = .ok (.getfield 24, 3) := by decide +kernel
theorem dX1_solve_108 : decode cX1_solve 108 = .ok (.iconst 1, 1) := by decide +kernel
theorem dX1_solve_109 : decode cX1_solve 109 = .ok (.iadd, 1) := by decide +kernel
theorem dX1_solve_110 : decode cX1_solve 110 = .ok (.laload, 1) := by decide +kernel
theorem dX1_solve_111 : decode cX1_solve 111 = .ok (.aload_n 0, 1) := by decide +kernel
theorem dX1_solve_112 : decode cX1_solve 112 = .ok (.getfield 21, 3) := by decide +kernel
theorem dX1_solve_115 : decode cX1_solve 115 = .ok (.aload_n 0, 1) := by decide +kernel
theorem dX1_solve_116 : decode cX1_solve 116 = .ok (.getfield 24, 3) := by decide +kernel
theorem dX1_solve_119 : decode cX1_solve 119 = .ok (.aaload, 1) := by decide +kernel
theorem dX1_solve_120 : decode cX1_solve 120 = .ok (.aload_n 0, 1) := by decide +kernel
theorem dX1_solve_121 : decode cX1_solve 121 = .ok (.getfield 24, 3) := by decide +kernel
theorem dX1_solve_124 : decode cX1_solve 124 = .ok (.laload, 1) := by decide +kernel
theorem dX1_solve_125 : decode cX1_solve 125 = .ok (.invokevirtual 59, 3) := by decide +kernel
theorem dX1_solve_128 : decode cX1_solve 128 = .ok (.return_, 1) := by decide +kernel
theorem dX1_writeRow_0 : decode cX1_writeRow 0 = .ok (.aload_n 0, 1) := by decide +kernel
theorem dX1_writeRow_1 : decode cX1_writeRow 1 = .ok (.getfield 15, 3) := by decide +kernel
theorem dX1_writeRow_4 : decode cX1_writeRow 4 = .ok (.iload_n 1, 1) := by decide +kernel
theorem dX1_writeRow_5 : decode cX1_writeRow 5 = .ok (.iaload, 1) := by decide +kernel
theorem dX1_writeRow_6 : decode cX1_writeRow 6 = .ok (.istore_n 2, 1) := by decide +kernel
theorem dX1_writeRow_7 : decode cX1_writeRow 7 = .ok (.iconst 0, 1) := by decide +kernel
theorem dX1_writeRow_8 : decode cX1_writeRow 8 = .ok (.istore_n 3, 1) := by decide +kernel
theorem dX1_writeRow_9 : decode cX1_writeRow 9 = .ok (.iload_n 3, 1) := by decide +kernel
theorem dX1_writeRow_10 : decode cX1_writeRow 10 = .ok (.aload_n 0, 1) := by decide +kernel
theorem dX1_writeRow_11 : decode cX1_writeRow 11 = .ok (.getfield 24, 3) := by decide +kernel
theorem dX1_writeRow_14 : decode cX1_writeRow 14 = .ok (.if_icmp .ge 33, 3) := by decide +kernel
theorem dX1_writeRow_17 : decode cX1_writeRow 17 = .ok (.aload_n 0, 1) := by decide +kernel
theorem dX1_writeRow_18 : decode cX1_writeRow 18 = .ok (.getfield 21, 3) := by decide +kernel
theorem dX1_writeRow_21 : decode cX1_writeRow 21 = .ok (.iload_n 1, 1) := by decide +kernel
theorem dX1_writeRow_22 : decode cX1_writeRow 22 = .ok (.aaload, 1) := by decide +kernel
theorem dX1_writeRow_23 : decode cX1_writeRow 23 = .ok (.iload_n 3, 1) := by decide +kernel
theorem dX1_writeRow_24 : decode cX1_writeRow 24 = .ok (.aload_n 0, 1) := by decide +kernel
theorem dX1_writeRow_25 : decode cX1_writeRow 25 = .ok (.getfield 28, 3) := by decide +kernel
theorem dX1_writeRow_28 : decode cX1_writeRow 28 = .ok (.iload_n 2, 1) := by decide +kernel
theorem dX1_writeRow_29 : decode cX1_writeRow 29 = .ok (.aload_n 0, 1) := by decide +kernel
theorem dX1_writeRow_30 : decode cX1_writeRow 30 = .ok (.getfield 15, 3) := by decide +kernel
theorem dX1_writeRow_33 : decode cX1_writeRow 33 = .ok (.iload_n 3, 1) := by decide +kernel
theorem dX1_writeRow_34 : decode cX1_writeRow 34 = .ok (.iaload, 1) := by decide +kernel
theorem dX1_writeRow_35 : decode cX1_writeRow 35 = .ok (.invokevirtual 65, 3) := by decide +kernel
theorem dX1_writeRow_38 : decode cX1_writeRow 38 = .ok (.ineg, 1) := by decide +kernel
theorem dX1_writeRow_39 : decode cX1_writeRow 39 = .ok (.i2l, 1) := by decide +kernel
theorem dX1_writeRow_40 : decode cX1_writeRow 40 = .ok (.lastore, 1) := by decide +kernel
theorem dX1_writeRow_41 : decode cX1_writeRow 41 = .ok (.iinc 3 1, 3) := by decide +kernel
theorem dX1_writeRow_44 : decode cX1_writeRow 44 = .ok (.goto (-35), 3) := by decide +kernel
theorem dX1_writeRow_47 : decode cX1_writeRow 47 = .ok (.aload_n 0, 1) := by decide +kernel
theorem dX1_writeRow_48 : decode cX1_writeRow 48 = .ok (.getfield 21, 3) := by decide +kernel
theorem dX1_writeRow_51 : decode cX1_writeRow 51 = .ok (.iload_n 1, 1) := by decide +kernel
theorem dX1_writeRow_52 : decode cX1_writeRow 52 = .ok (.aaload, 1) := by decide +kernel
theorem dX1_writeRow_53 : decode cX1_writeRow 53 = .ok (.aload_n 0, 1) := by decide +kernel
theorem dX1_writeRow_54 : decode cX1_writeRow 54 = .ok (.getfield 24, 3) := by decide +kernel
theorem dX1_writeRow_57 : decode cX1_writeRow 57 = .ok (.lconst 0, 1) := by decide +kernel
theorem dX1_writeRow_58 : decode cX1_writeRow 58 = .ok (.lastore, 1) := by decide +kernel
theorem dX1_writeRow_59 : decode cX1_writeRow 59 = .ok (.aload_n 0, 1) := by decide +kernel
theorem dX1_writeRow_60 : decode cX1_writeRow 60 = .ok (.getfield 21, 3) := by decide +kernel
theorem dX1_writeRow_63 : decode cX1_writeRow 63 = .ok (.iload_n 1, 1) := by decide +kernel
theorem dX1_writeRow_64 : decode cX1_writeRow 64 = .ok (.aaload, 1) := by decide +kernel
theorem dX1_writeRow_65 : decode cX1_writeRow 65 = .ok (.iload_n 1, 1) := by decide +kernel
theorem dX1_writeRow_66 : decode cX1_writeRow 66 = .ok (.dup2, 1) := by decide +kernel
theorem dX1_writeRow_67 : decode cX1_writeRow 67 = .ok (.laload, 1) := by decide +kernel
theorem dX1_writeRow_68 : decode cX1_writeRow 68 = .ok (.aload_n 0, 1) := by decide +kernel
theorem dX1_writeRow_69 : decode cX1_writeRow 69 = .ok (.getfield 28, 3) := by decide +kernel
theorem dX1_writeRow_72 : decode cX1_writeRow 72 = .ok (.iload_n 2, 1) := by decide +kernel
theorem dX1_writeRow_73 : decode cX1_writeRow 73 = .ok (.invokevirtual 41, 3) := by decide +kernel
theorem dX1_writeRow_76 : decode cX1_writeRow 76 = .ok (.i2l, 1) := by decide +kernel
theorem dX1_writeRow_77 : decode cX1_writeRow 77 = .ok (.ladd, 1) := by decide +kernel
theorem dX1_writeRow_78 : decode cX1_writeRow 78 = .ok (.lastore, 1) := by decide +kernel
theorem dX1_writeRow_79 : decode cX1_writeRow 79 = .ok (.aload_n 0, 1) := by decide +kernel
theorem dX1_writeRow_80 : decode cX1_writeRow 80 = .ok (.getfield 21, 3) := by decide +kernel
theorem dX1_writeRow_83 : decode cX1_writeRow 83 = .ok (.iload_n 1, 1) := by decide +kernel
theorem dX1_writeRow_84 : decode cX1_writeRow 84 = .ok (.aaload, 1) := by decide +kernel
theorem dX1_writeRow_85 : decode cX1_writeRow 85 = .ok (.aload_n 0, 1) := by decide +kernel
theorem dX1_writeRow_86 : decode cX1_writeRow 86 = .ok (.getfield 24, 3) := by decide +kernel
theorem dX1_writeRow_89 : decode cX1_writeRow 89 = .ok (.iconst 1, 1) := by decide +kernel
theorem dX1_writeRow_90 : decode cX1_writeRow 90 = .ok (.iadd, 1) := by decide +kernel
theorem dX1_writeRow_91 : decode cX1_writeRow 91 = .ok (.aload_n 0, 1) := by decide +kernel
theorem dX1_writeRow_92 : decode cX1_writeRow 92 = .ok (.getfield 9, 3) := by decide +kernel
theorem dX1_writeRow_95 : decode cX1_writeRow 95 = .ok (.iload_n 2, 1) := by decide +kernel
theorem dX1_writeRow_96 : decode cX1_writeRow 96 = .ok (.laload, 1) := by decide +kernel
theorem dX1_writeRow_97 : decode cX1_writeRow 97 = .ok (.lastore, 1) := by decide +kernel
theorem dX1_writeRow_98 : decode cX1_writeRow 98 = .ok (.return_, 1) := by decide +kernel
theorem dX1_eliminate_0 : decode cX1_eliminate 0 = .ok (.lconst 1, 1) := by decide +kernel
theorem dX1_eliminate_1 : decode cX1_eliminate 1 = .ok (.lstore_n 1, 1) := by decide +kernel
theorem dX1_eliminate_2 : decode cX1_eliminate 2 = .ok (.iconst 0, 1) := by decide +kernel
theorem dX1_eliminate_3 : decode cX1_eliminate 3 = .ok (.istore_n 3, 1) := by decide +kernel
theorem dX1_eliminate_4 : decode cX1_eliminate 4 = .ok (.iload_n 3, 1) := by decide +kernel
theorem dX1_eliminate_5 : decode cX1_eliminate 5 = .ok (.aload_n 0, 1) := by decide +kernel
theorem dX1_eliminate_6 : decode cX1_eliminate 6 = .ok (.getfield 24, 3) := by decide +kernel
theorem dX1_eliminate_9 : decode cX1_eliminate 9 = .ok (.if_icmp .ge 46, 3) := by decide +kernel
theorem dX1_eliminate_12 : decode cX1_eliminate 12 = .ok (.iload_n 3, 1) := by decide +kernel
theorem dX1_eliminate_13 : decode cX1_eliminate 13 = .ok (.iconst 1, 1) := by decide +kernel
theorem dX1_eliminate_14 : decode cX1_eliminate 14 = .ok (.iadd, 1) := by decide +kernel
theorem dX1_eliminate_15 : decode cX1_eliminate 15 = .ok (.istore 4, 2) := by decide +kernel
theorem dX1_eliminate_17 : decode cX1_eliminate 17 = .ok (.iload 4, 2) := by decide +kernel
theorem dX1_eliminate_19 : decode cX1_eliminate 19 = .ok (.aload_n 0, 1) := by decide +kernel
theorem dX1_eliminate_20 : decode cX1_eliminate 20 = .ok (.getfield 24, 3) := by decide +kernel
theorem dX1_eliminate_23 : decode cX1_eliminate 23 = .ok (.if_icmp .gt 17, 3) := by decide +kernel
theorem dX1_eliminate_26 : decode cX1_eliminate 26 = .ok (.aload_n 0, 1) := by decide +kernel
theorem dX1_eliminate_27 : decode cX1_eliminate 27 = .ok (.iload 4, 2) := by decide +kernel
theorem dX1_eliminate_29 : decode cX1_eliminate 29 = .ok (.iload_n 3, 1) := by decide +kernel
theorem dX1_eliminate_30 : decode cX1_eliminate 30 = .ok (.lload_n 1, 1) := by decide +kernel
theorem dX1_eliminate_31 : decode cX1_eliminate 31 = .ok (.invokevirtual 68, 3) := by decide +kernel
theorem dX1_eliminate_34 : decode cX1_eliminate 34 = .ok (.iinc 4 1, 3) := by decide +kernel
theorem dX1_eliminate_37 : decode cX1_eliminate 37 = .ok (.goto (-20), 3) := by decide +kernel
theorem dX1_eliminate_40 : decode cX1_eliminate 40 = .ok (.aload_n 0, 1) := by decide +kernel
theorem dX1_eliminate_41 : decode cX1_eliminate 41 = .ok (.getfield 21, 3) := by decide +kernel
theorem dX1_eliminate_44 : decode cX1_eliminate 44 = .ok (.iload_n 3, 1) := by decide +kernel
theorem dX1_eliminate_45 : decode cX1_eliminate 45 = .ok (.aaload, 1) := by decide +kernel
theorem dX1_eliminate_46 : decode cX1_eliminate 46 = .ok (.iload_n 3, 1) := by decide +kernel
theorem dX1_eliminate_47 : decode cX1_eliminate 47 = .ok (.laload, 1) := by decide +kernel
theorem dX1_eliminate_48 : decode cX1_eliminate 48 = .ok (.lstore_n 1, 1) := by decide +kernel
theorem dX1_eliminate_49 : decode cX1_eliminate 49 = .ok (.iinc 3 1, 3) := by decide +kernel
theorem dX1_eliminate_52 : decode cX1_eliminate 52 = .ok (.goto (-48), 3) := by decide +kernel
theorem dX1_eliminate_55 : decode cX1_eliminate 55 = .ok (.return_, 1) := by decide +kernel
theorem dX1_reduceRow_0 : decode cX1_reduceRow 0 = .ok (.lload_n 3, 1) := by decide +kernel
theorem dX1_reduceRow_1 : decode cX1_reduceRow 1 = .ok (.lconst 0, 1) := by decide +kernel
theorem dX1_reduceRow_2 : decode cX1_reduceRow 2 = .ok (.lcmp, 1) := by decide +kernel
theorem dX1_reduceRow_3 : decode cX1_reduceRow 3 = .ok (.ifCond .ne 4, 3) := by decide +kernel
theorem dX1_reduceRow_6 : decode cX1_reduceRow 6 = .ok (.return_, 1) := by decide +kernel
theorem dX1_reduceRow_7 : decode cX1_reduceRow 7 = .ok (.aload_n 0, 1) := by decide +kernel
theorem dX1_reduceRow_8 : decode cX1_reduceRow 8 = .ok (.getfield 21, 3) := by decide +kernel
theorem dX1_reduceRow_11 : decode cX1_reduceRow 11 = .ok (.iload_n 1, 1) := by decide +kernel
theorem dX1_reduceRow_12 : decode cX1_reduceRow 12 = .ok (.aaload, 1) := by decide +kernel
theorem dX1_reduceRow_13 : decode cX1_reduceRow 13 = .ok (.iload_n 2, 1) := by decide +kernel
theorem dX1_reduceRow_14 : decode cX1_reduceRow 14 = .ok (.laload, 1) := by decide +kernel
theorem dX1_reduceRow_15 : decode cX1_reduceRow 15 = .ok (.lstore 5, 2) := by decide +kernel
theorem dX1_reduceRow_17 : decode cX1_reduceRow 17 = .ok (.iload_n 2, 1) := by decide +kernel
theorem dX1_reduceRow_18 : decode cX1_reduceRow 18 = .ok (.iconst 1, 1) := by decide +kernel
theorem dX1_reduceRow_19 : decode cX1_reduceRow 19 = .ok (.iadd, 1) := by decide +kernel
theorem dX1_reduceRow_20 : decode cX1_reduceRow 20 = .ok (.istore 7, 2) := by decide +kernel
theorem dX1_reduceRow_22 : decode cX1_reduceRow 22 = .ok (.iload 7, 2) := by decide +kernel
theorem dX1_reduceRow_24 : decode cX1_reduceRow 24 = .ok (.aload_n 0, 1) := by decide +kernel
theorem dX1_reduceRow_25 : decode cX1_reduceRow 25 = .ok (.getfield 24, 3) := by decide +kernel
theorem dX1_reduceRow_28 : decode cX1_reduceRow 28 = .ok (.iconst 1, 1) := by decide +kernel
theorem dX1_reduceRow_29 : decode cX1_reduceRow 29 = .ok (.iadd, 1) := by decide +kernel
theorem dX1_reduceRow_30 : decode cX1_reduceRow 30 = .ok (.if_icmp .gt 55, 3) := by decide +kernel
theorem dX1_reduceRow_33 : decode cX1_reduceRow 33 = .ok (.aload_n 0, 1) := by decide +kernel
theorem dX1_reduceRow_34 : decode cX1_reduceRow 34 = .ok (.getfield 21, 3) := by decide +kernel
theorem dX1_reduceRow_37 : decode cX1_reduceRow 37 = .ok (.iload_n 1, 1) := by decide +kernel
theorem dX1_reduceRow_38 : decode cX1_reduceRow 38 = .ok (.aaload, 1) := by decide +kernel
theorem dX1_reduceRow_39 : decode cX1_reduceRow 39 = .ok (.iload 7, 2) := by decide +kernel
theorem dX1_reduceRow_41 : decode cX1_reduceRow 41 = .ok (.laload, 1) := by decide +kernel
theorem dX1_reduceRow_42 : decode cX1_reduceRow 42 = .ok (.aload_n 0, 1) := by decide +kernel
theorem dX1_reduceRow_43 : decode cX1_reduceRow 43 = .ok (.getfield 21, 3) := by decide +kernel
theorem dX1_reduceRow_46 : decode cX1_reduceRow 46 = .ok (.iload_n 2, 1) := by decide +kernel
theorem dX1_reduceRow_47 : decode cX1_reduceRow 47 = .ok (.aaload, 1) := by decide +kernel
theorem dX1_reduceRow_48 : decode cX1_reduceRow 48 = .ok (.iload_n 2, 1) := by decide +kernel
theorem dX1_reduceRow_49 : decode cX1_reduceRow 49 = .ok (.laload, 1) := by decide +kernel
theorem dX1_reduceRow_50 : decode cX1_reduceRow 50 = .ok (.lmul, 1) := by decide +kernel
theorem dX1_reduceRow_51 : decode cX1_reduceRow 51 = .ok (.lload 5, 2) := by decide +kernel
theorem dX1_reduceRow_53 : decode cX1_reduceRow 53 = .ok (.aload_n 0, 1) := by decide +kernel
theorem dX1_reduceRow_54 : decode cX1_reduceRow 54 = .ok (.getfield 21, 3) := by decide +kernel
theorem dX1_reduceRow_57 : decode cX1_reduceRow 57 = .ok (.iload_n 2, 1) := by decide +kernel
theorem dX1_reduceRow_58 : decode cX1_reduceRow 58 = .ok (.aaload, 1) := by decide +kernel
theorem dX1_reduceRow_59 : decode cX1_reduceRow 59 = .ok (.iload 7, 2) := by decide +kernel
theorem dX1_reduceRow_61 : decode cX1_reduceRow 61 = .ok (.laload, 1) := by decide +kernel
theorem dX1_reduceRow_62 : decode cX1_reduceRow 62 = .ok (.lmul, 1) := by decide +kernel
theorem dX1_reduceRow_63 : decode cX1_reduceRow 63 = .ok (.lsub, 1) := by decide +kernel
theorem dX1_reduceRow_64 : decode cX1_reduceRow 64 = .ok (.lstore 8, 2) := by decide +kernel
theorem dX1_reduceRow_66 : decode cX1_reduceRow 66 = .ok (.aload_n 0, 1) := by decide +kernel
theorem dX1_reduceRow_67 : decode cX1_reduceRow 67 = .ok (.getfield 21, 3) := by decide +kernel
theorem dX1_reduceRow_70 : decode cX1_reduceRow 70 = .ok (.iload_n 1, 1) := by decide +kernel
theorem dX1_reduceRow_71 : decode cX1_reduceRow 71 = .ok (.aaload, 1) := by decide +kernel
theorem dX1_reduceRow_72 : decode cX1_reduceRow 72 = .ok (.iload 7, 2) := by decide +kernel
theorem dX1_reduceRow_74 : decode cX1_reduceRow 74 = .ok (.lload 8, 2) := by decide +kernel
theorem dX1_reduceRow_76 : decode cX1_reduceRow 76 = .ok (.lload_n 3, 1) := by decide +kernel
theorem dX1_reduceRow_77 : decode cX1_reduceRow 77 = .ok (.ldiv, 1) := by decide +kernel
theorem dX1_reduceRow_78 : decode cX1_reduceRow 78 = .ok (.lastore, 1) := by decide +kernel
theorem dX1_reduceRow_79 : decode cX1_reduceRow 79 = .ok (.iinc 7 1, 3) := by decide +kernel
theorem dX1_reduceRow_82 : decode cX1_reduceRow 82 = .ok (.goto (-60), 3) := by decide +kernel
theorem dX1_reduceRow_85 : decode cX1_reduceRow 85 = .ok (.return_, 1) := by decide +kernel
theorem dX6_again_0 : decode cX6_again 0 = .ok (.aload_n 0, 1) := by decide +kernel
theorem dX6_again_1 : decode cX6_again 1 = .ok (.getfield 10, 3) := by decide +kernel
theorem dX6_again_4 : decode cX6_again 4 = .ok (.iload_n 1, 1) := by decide +kernel
theorem dX6_again_5 : decode cX6_again 5 = .ok (.invokevirtual 67, 3) := by decide +kernel
theorem dX6_again_8 : decode cX6_again 8 = .ok (.ifCond .ne 5, 3) := by decide +kernel
theorem dX6_again_11 : decode cX6_again 11 = .ok (.iconst (-1), 1) := by decide +kernel
theorem dX6_again_12 : decode cX6_again 12 = .ok (.ireturn, 1) := by decide +kernel
theorem dX6_again_13 : decode cX6_again 13 = .ok (.iconst 1, 1) := by decide +kernel
theorem dX6_again_14 : decode cX6_again 14 = .ok (.iload_n 1, 1) := by decide +kernel
theorem dX6_again_15 : decode cX6_again 15 = .ok (.ishl, 1) := by decide +kernel
theorem dX6_again_16 : decode cX6_again 16 = .ok (.istore_n 2, 1) := by decide +kernel
theorem dX6_again_17 : decode cX6_again 17 = .ok (.aload_n 0, 1) := by decide +kernel
theorem dX6_again_18 : decode cX6_again 18 = .ok (.getfield 35, 3) := by decide +kernel
theorem dX6_again_21 : decode cX6_again 21 = .ok (.iload_n 2, 1) := by decide +kernel
theorem dX6_again_22 : decode cX6_again 22 = .ok (.invokevirtual 102, 3) := by decide +kernel
theorem dX6_again_25 : decode cX6_again 25 = .ok (.aload_n 0, 1) := by decide +kernel
theorem dX6_again_26 : decode cX6_again 26 = .ok (.getfield 35, 3) := by decide +kernel
theorem dX6_again_29 : decode cX6_again 29 = .ok (.iload_n 1, 1) := by decide +kernel
theorem dX6_again_30 : decode cX6_again 30 = .ok (.aload_n 0, 1) := by decide +kernel
theorem dX6_again_31 : decode cX6_again 31 = .ok (.getfield 21, 3) := by decide +kernel
theorem dX6_again_34 : decode cX6_again 34 = .ok (.iload_n 2, 1) := by decide +kernel
theorem dX6_again_35 : decode cX6_again 35 = .ok (.iconst 0, 1) := by decide +kernel
theorem dX6_again_36 : decode cX6_again 36 = .ok (.invokevirtual 106, 3) := by decide +kernel
theorem dX6_again_39 : decode cX6_again 39 = .ok (.iload_n 2, 1) := by decide +kernel
theorem dX6_again_40 : decode cX6_again 40 = .ok (.iconst (-1), 1) := by decide +kernel
theorem dX6_again_41 : decode cX6_again 41 = .ok (.ixor, 1) := by decide +kernel
theorem dX6_again_42 : decode cX6_again 42 = .ok (.iand, 1) := by decide +kernel
theorem dX6_again_43 : decode cX6_again 43 = .ok (.aload_n 0, 1) := by decide +kernel
theorem dX6_again_44 : decode cX6_again 44 = .ok (.getfield 49, 3) := by decide +kernel
theorem dX6_again_47 : decode cX6_again 47 = .ok (.invokevirtual 110, 3) := by decide +kernel
theorem dX6_again_50 : decode cX6_again 50 = .ok (.iconst 1, 1) := by decide +kernel
theorem dX6_again_51 : decode cX6_again 51 = .ok (.ireturn, 1) := by decide +kernel
theorem dX6_before_0 : decode cX6_before 0 = .ok (.aload_n 0, 1) := by decide +kernel
theorem dX6_before_1 : decode cX6_before 1 = .ok (.getfield 10, 3) := by decide +kernel
theorem dX6_before_4 : decode cX6_before 4 = .ok (.iload_n 1, 1) := by decide +kernel
theorem dX6_before_5 : decode cX6_before 5 = .ok (.invokevirtual 67, 3) := by decide +kernel
theorem dX6_before_8 : decode cX6_before 8 = .ok (.ifCond .eq 25, 3) := by decide +kernel
theorem dX6_before_11 : decode cX6_before 11 = .ok (.aload_n 0, 1) := by decide +kernel
theorem dX6_before_12 : decode cX6_before 12 = .ok (.getfield 10, 3) := by decide +kernel
theorem dX6_before_15 : decode cX6_before 15 = .ok (.iload_n 2, 1) := by decide +kernel
theorem dX6_before_16 : decode cX6_before 16 = .ok (.invokevirtual 67, 3) := by decide +kernel
theorem dX6_before_19 : decode cX6_before 19 = .ok (.ifCond .eq 14, 3) := by decide +kernel
theorem dX6_before_22 : decode cX6_before 22 = .ok (.aload_n 0, 1) := by decide +kernel
theorem dX6_before_23 : decode cX6_before 23 = .ok (.getfield 10, 3) := by decide +kernel
theorem dX6_before_26 : decode cX6_before 26 = .ok (.iload_n 3, 1) := by decide +kernel
theorem dX6_before_27 : decode cX6_before 27 = .ok (.invokevirtual 67, 3) := by decide +kernel
theorem dX6_before_30 : decode cX6_before 30 = .ok (.ifCond .ne 5, 3) := by decide +kernel
theorem dX6_before_33 : decode cX6_before 33 = .ok (.iconst (-1), 1) := by decide +kernel
theorem dX6_before_34 : decode cX6_before 34 = .ok (.ireturn, 1) := by decide +kernel
theorem dX6_before_35 : decode cX6_before 35 = .ok (.iload_n 2, 1) := by decide +kernel
theorem dX6_before_36 : decode cX6_before 36 = .ok (.iload_n 3, 1) := by decide +kernel
theorem dX6_before_37 : decode cX6_before 37 = .ok (.if_icmp .ne 6, 3) := by decide +kernel
theorem dX6_before_40 : decode cX6_before 40 = .ok (.bipush (-3), 2) := by decide +kernel
theorem dX6_before_42 : decode cX6_before 42 = .ok (.ireturn, 1) := by decide +kernel
theorem dX6_before_43 : decode cX6_before 43 = .ok (.aload_n 0, 1) := by decide +kernel
theorem dX6_before_44 : decode cX6_before 44 = .ok (.iload_n 1, 1) := by decide +kernel
theorem dX6_before_45 : decode cX6_before 45 = .ok (.iconst 1, 1) := by decide +kernel
theorem dX6_before_46 : decode cX6_before 46 = .ok (.iload_n 2, 1) := by decide +kernel
theorem dX6_before_47 : decode cX6_before 47 = .ok (.ishl, 1) := by decide +kernel
theorem dX6_before_48 : decode cX6_before 48 = .ok (.iconst 1, 1) := by decide +kernel
theorem dX6_before_49 : decode cX6_before 49 = .ok (.iload_n 3, 1) := by decide +kernel
theorem dX6_before_50 : decode cX6_before 50 = .ok (.ishl, 1) := by decide +kernel
theorem dX6_before_51 : decode cX6_before 51 = .ok (.invokevirtual 98, 3) := by decide +kernel
theorem dX6_before_54 : decode cX6_before 54 = .ok (.iconst 1, 1) := by decide +kernel
theorem dX6_before_55 : decode cX6_before 55 = .ok (.ireturn, 1) := by decide +kernel
theorem dX6_steps_0 : decode cX6_steps 0 = .ok (.aload_n 0, 1) := by decide +kernel
theorem dX6_steps_1 : decode cX6_steps 1 = .ok (.getfield 10, 3) := by decide +kernel
theorem dX6_steps_4 : decode cX6_steps 4 = .ok (.iload_n 1, 1) := by decide +kernel
theorem dX6_steps_5 : decode cX6_steps 5 = .ok (.invokevirtual 67, 3) := by decide +kernel
theorem dX6_steps_8 : decode cX6_steps 8 = .ok (.ifCond .eq 17, 3) := by decide +kernel
theorem dX6_steps_11 : decode cX6_steps 11 = .ok (.iload_n 2, 1) := by decide +kernel
theorem dX6_steps_12 : decode cX6_steps 12 = .ok (.aload_n 0, 1) := by decide +kernel
theorem dX6_steps_13 : decode cX6_steps 13 = .ok (.getfield 10, 3) := by decide +kernel
theorem dX6_steps_16 : decode cX6_steps 16 = .ok (.invokevirtual 114, 3) := by decide +kernel
theorem dX6_steps_19 : decode cX6_steps 19 = .ok (.iconst (-1), 1) := by decide +kernel
theorem dX6_steps_20 : decode cX6_steps 20 = .ok (.ixor, 1) := by decide +kernel
theorem dX6_steps_21 : decode cX6_steps 21 = .ok (.iand, 1) := by decide +kernel
theorem dX6_steps_22 : decode cX6_steps 22 = .ok (.ifCond .eq 5, 3) := by decide +kernel
theorem dX6_steps_25 : decode cX6_steps 25 = .ok (.iconst (-1), 1) := by decide +kernel
theorem dX6_steps_26 : decode cX6_steps 26 = .ok (.ireturn, 1) := by decide +kernel
theorem dX6_steps_27 : decode cX6_steps 27 = .ok (.aload_n 0, 1) := by decide +kernel
theorem dX6_steps_28 : decode cX6_steps 28 = .ok (.getfield 21, 3) := by decide +kernel
theorem dX6_steps_31 : decode cX6_steps 31 = .ok (.iload_n 1, 1) := by decide +kernel
theorem dX6_steps_32 : decode cX6_steps 32 = .ok (.iload_n 2, 1) := by decide +kernel
theorem dX6_steps_33 : decode cX6_steps 33 = .ok (.invokevirtual 118, 3) := by decide +kernel
theorem dX6_steps_36 : decode cX6_steps 36 = .ok (.ifCond .ne 6, 3) := by decide +kernel
theorem dX6_steps_39 : decode cX6_steps 39 = .ok (.bipush (-3), 2) := by decide +kernel
theorem dX6_steps_41 : decode cX6_steps 41 = .ok (.ireturn, 1) := by decide +kernel
theorem dX6_steps_42 : decode cX6_steps 42 = .ok (.iload_n 2, 1) := by decide +kernel
theorem dX6_steps_43 : decode cX6_steps 43 = .ok (.iload_n 1, 1) := by decide +kernel
theorem dX6_steps_44 : decode cX6_steps 44 = .ok (.invokestatic 122, 3) := by decide +kernel
theorem dX6_steps_47 : decode cX6_steps 47 = .ok (.ifCond .eq 14, 3) := by decide +kernel
theorem dX6_steps_50 : decode cX6_steps 50 = .ok (.aload_n 0, 1) := by decide +kernel
theorem dX6_steps_51 : decode cX6_steps 51 = .ok (.getfield 49, 3) := by decide +kernel
theorem dX6_steps_54 : decode cX6_steps 54 = .ok (.lconst 0, 1) := by decide +kernel
theorem dX6_steps_55 : decode cX6_steps 55 = .ok (.lconst 1, 1) := by decide +kernel
theorem dX6_steps_56 : decode cX6_steps 56 = .ok (.invokevirtual 59, 3) := by decide +kernel
theorem dX6_steps_59 : decode cX6_steps 59 = .ok (.iconst 1, 1) := by decide +kernel
theorem dX6_steps_60 : decode cX6_steps 60 = .ok (.ireturn, 1) := by decide +kernel
theorem dX6_steps_61 : decode cX6_steps 61 = .ok (.aload_n 0, 1) := by decide +kernel
theorem dX6_steps_62 : decode cX6_steps 62 = .ok (.getfield 35, 3) := by decide +kernel
theorem dX6_steps_65 : decode cX6_steps 65 = .ok (.invokevirtual 125, 3) := by decide +kernel
theorem dX6_steps_68 : decode cX6_steps 68 = .ok (.aload_n 0, 1) := by decide +kernel
theorem dX6_steps_69 : decode cX6_steps 69 = .ok (.getfield 35, 3) := by decide +kernel
theorem dX6_steps_72 : decode cX6_steps 72 = .ok (.iload_n 1, 1) := by decide +kernel
theorem dX6_steps_73 : decode cX6_steps 73 = .ok (.aload_n 0, 1) := by decide +kernel
theorem dX6_steps_74 : decode cX6_steps 74 = .ok (.getfield 21, 3) := by decide +kernel
theorem dX6_steps_77 : decode cX6_steps 77 = .ok (.iload_n 1, 1) := by decide +kernel
theorem dX6_steps_78 : decode cX6_steps 78 = .ok (.iload_n 2, 1) := by decide +kernel
theorem dX6_steps_79 : decode cX6_steps 79 = .ok (.invokevirtual 128, 3) := by decide +kernel
theorem dX6_steps_82 : decode cX6_steps 82 = .ok (.iload_n 2, 1) := by decide +kernel
theorem dX6_steps_83 : decode cX6_steps 83 = .ok (.iconst (-1), 1) := by decide +kernel
theorem dX6_steps_84 : decode cX6_steps 84 = .ok (.ixor, 1) := by decide +kernel
theorem dX6_steps_85 : decode cX6_steps 85 = .ok (.iand, 1) := by decide +kernel
theorem dX6_steps_86 : decode cX6_steps 86 = .ok (.aload_n 0, 1) := by decide +kernel
theorem dX6_steps_87 : decode cX6_steps 87 = .ok (.getfield 49, 3) := by decide +kernel
theorem dX6_steps_90 : decode cX6_steps 90 = .ok (.invokevirtual 110, 3) := by decide +kernel
theorem dX6_steps_93 : decode cX6_steps 93 = .ok (.iconst 1, 1) := by decide +kernel
theorem dX6_steps_94 : decode cX6_steps 94 = .ok (.ireturn, 1) := by decide +kernel
theorem dX0_all_0 : decode cX0_all 0 = .ok (.iconst 1, 1) := by decide +kernel
theorem dX0_all_1 : decode cX0_all 1 = .ok (.aload_n 0, 1) := by decide +kernel
theorem dX0_all_2 : decode cX0_all 2 = .ok (.getfield 23, 3) := by decide +kernel
theorem dX0_all_5 : decode cX0_all 5 = .ok (.ishl, 1) := by decide +kernel
theorem dX0_all_6 : decode cX0_all 6 = .ok (.iconst 1, 1) := by decide +kernel
theorem dX0_all_7 : decode cX0_all 7 = .ok (.isub, 1) := by decide +kernel
theorem dX0_all_8 : decode cX0_all 8 = .ok (.ireturn, 1) := by decide +kernel
theorem dX5_isSureToMeet_0 : decode cX5_isSureToMeet 0 = .ok (.aload_n 0, 1) := by decide +kernel
theorem dX5_isSureToMeet_1 : decode cX5_isSureToMeet 1 = .ok (.iload_n 1, 1) := by decide +kernel
theorem dX5_isSureToMeet_2 : decode cX5_isSureToMeet 2 = .ok (.iload_n 2, 1) := by decide +kernel
theorem dX5_isSureToMeet_3 : decode cX5_isSureToMeet 3 = .ok (.invokevirtual 29, 3) := by decide +kernel
theorem dX5_isSureToMeet_6 : decode cX5_isSureToMeet 6 = .ok (.aload_n 0, 1) := by decide +kernel
theorem dX5_isSureToMeet_7 : decode cX5_isSureToMeet 7 = .ok (.iload_n 2, 1) := by decide +kernel
theorem dX5_isSureToMeet_8 : decode cX5_isSureToMeet 8 = .ok (.iconst 0, 1) := by decide +kernel
theorem dX5_isSureToMeet_9 : decode cX5_isSureToMeet 9 = .ok (.invokevirtual 33, 3) := by decide +kernel
theorem dX5_isSureToMeet_12 : decode cX5_isSureToMeet 12 = .ok (.iconst (-1), 1) := by decide +kernel
theorem dX5_isSureToMeet_13 : decode cX5_isSureToMeet 13 = .ok (.ixor, 1) := by decide +kernel
theorem dX5_isSureToMeet_14 : decode cX5_isSureToMeet 14 = .ok (.iand, 1) := by decide +kernel
theorem dX5_isSureToMeet_15 : decode cX5_isSureToMeet 15 = .ok (.ifCond .ne 7, 3) := by decide +kernel
theorem dX5_isSureToMeet_18 : decode cX5_isSureToMeet 18 = .ok (.iconst 1, 1) := by decide +kernel
theorem dX5_isSureToMeet_19 : decode cX5_isSureToMeet 19 = .ok (.goto 4, 3) := by decide +kernel
theorem dX5_isSureToMeet_22 : decode cX5_isSureToMeet 22 = .ok (.iconst 0, 1) := by decide +kernel
theorem dX5_isSureToMeet_23 : decode cX5_isSureToMeet 23 = .ok (.ireturn, 1) := by decide +kernel
theorem dX1_gainByStep_0 : decode cX1_gainByStep 0 = .ok (.iconst 0, 1) := by decide +kernel
theorem dX1_gainByStep_1 : decode cX1_gainByStep 1 = .ok (.istore_n 1, 1) := by decide +kernel
theorem dX1_gainByStep_2 : decode cX1_gainByStep 2 = .ok (.iload_n 1, 1) := by decide +kernel
theorem dX1_gainByStep_3 : decode cX1_gainByStep 3 = .ok (.aload_n 0, 1) := by decide +kernel
theorem dX1_gainByStep_4 : decode cX1_gainByStep 4 = .ok (.getfield 28, 3) := by decide +kernel
theorem dX1_gainByStep_7 : decode cX1_gainByStep 7 = .ok (.getfield 32, 3) := by decide +kernel
theorem dX1_gainByStep_10 : decode cX1_gainByStep 10 = .ok (.if_icmp .ge 24, 3) := by decide +kernel
theorem dX1_gainByStep_13 : decode cX1_gainByStep 13 = .ok (.aload_n 0, 1) := by decide +kernel
theorem dX1_gainByStep_14 : decode cX1_gainByStep 14 = .ok (.getfield 9, 3) := by decide +kernel
theorem dX1_gainByStep_17 : decode cX1_gainByStep 17 = .ok (.iload_n 1, 1) := by decide +kernel
theorem dX1_gainByStep_18 : decode cX1_gainByStep 18 = .ok (.aload_n 0, 1) := by decide +kernel
theorem dX1_gainByStep_19 : decode cX1_gainByStep 19 = .ok (.getfield 28, 3) := by decide +kernel
theorem dX1_gainByStep_22 : decode cX1_gainByStep 22 = .ok (.iload_n 1, 1) := by decide +kernel
theorem dX1_gainByStep_23 : decode cX1_gainByStep 23 = .ok (.invokevirtual 41, 3) := by decide +kernel
theorem dX1_gainByStep_26 : decode cX1_gainByStep 26 = .ok (.i2l, 1) := by decide +kernel
theorem dX1_gainByStep_27 : decode cX1_gainByStep 27 = .ok (.lastore, 1) := by decide +kernel
theorem dX1_gainByStep_28 : decode cX1_gainByStep 28 = .ok (.iinc 1 1, 3) := by decide +kernel
theorem dX1_gainByStep_31 : decode cX1_gainByStep 31 = .ok (.goto (-29), 3) := by decide +kernel
theorem dX1_gainByStep_34 : decode cX1_gainByStep 34 = .ok (.return_, 1) := by decide +kernel
theorem dX6_visits_0 : decode cX6_visits 0 = .ok (.aload_n 0, 1) := by decide +kernel
theorem dX6_visits_1 : decode cX6_visits 1 = .ok (.getfield 10, 3) := by decide +kernel
theorem dX6_visits_4 : decode cX6_visits 4 = .ok (.iload_n 1, 1) := by decide +kernel
theorem dX6_visits_5 : decode cX6_visits 5 = .ok (.invokevirtual 67, 3) := by decide +kernel
theorem dX6_visits_8 : decode cX6_visits 8 = .ok (.ifCond .eq 14, 3) := by decide +kernel
theorem dX6_visits_11 : decode cX6_visits 11 = .ok (.aload_n 0, 1) := by decide +kernel
theorem dX6_visits_12 : decode cX6_visits 12 = .ok (.getfield 10, 3) := by decide +kernel
theorem dX6_visits_15 : decode cX6_visits 15 = .ok (.iload_n 2, 1) := by decide +kernel
theorem dX6_visits_16 : decode cX6_visits 16 = .ok (.invokevirtual 67, 3) := by decide +kernel
theorem dX6_visits_19 : decode cX6_visits 19 = .ok (.ifCond .ne 5, 3) := by decide +kernel
theorem dX6_visits_22 : decode cX6_visits 22 = .ok (.iconst (-1), 1) := by decide +kernel
theorem dX6_visits_23 : decode cX6_visits 23 = .ok (.ireturn, 1) := by decide +kernel
theorem dX6_visits_24 : decode cX6_visits 24 = .ok (.aload_n 0, 1) := by decide +kernel
theorem dX6_visits_25 : decode cX6_visits 25 = .ok (.getfield 21, 3) := by decide +kernel
theorem dX6_visits_28 : decode cX6_visits 28 = .ok (.iconst 1, 1) := by decide +kernel
theorem dX6_visits_29 : decode cX6_visits 29 = .ok (.iload_n 2, 1) := by decide +kernel
theorem dX6_visits_30 : decode cX6_visits 30 = .ok (.ishl, 1) := by decide +kernel
theorem dX6_visits_31 : decode cX6_visits 31 = .ok (.iconst 0, 1) := by decide +kernel
theorem dX6_visits_32 : decode cX6_visits 32 = .ok (.invokevirtual 106, 3) := by decide +kernel
