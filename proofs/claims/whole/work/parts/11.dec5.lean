theorem dX7_isClosed_20 : decode cX7_isClosed 20 = .ok (.goto 4, 3) := by decide +kernel
theorem dX7_isClosed_23 : decode cX7_isClosed 23 = .ok (.iconst 0, 1) := by decide +kernel
theorem dX7_isClosed_24 : decode cX7_isClosed 24 = .ok (.ireturn, 1) := by decide +kernel
theorem dX7_period_0 : decode cX7_period 0 = .ok (.aload_n 0, 1) := by decide +kernel
theorem dX7_period_1 : decode cX7_period 1 = .ok (.iconst 0, 1) := by decide +kernel
theorem dX7_period_2 : decode cX7_period 2 = .ok (.putfield 36, 3) := by decide +kernel
theorem dX7_period_5 : decode cX7_period 5 = .ok (.aload_n 0, 1) := by decide +kernel
theorem dX7_period_6 : decode cX7_period 6 = .ok (.iload_n 1, 1) := by decide +kernel
theorem dX7_period_7 : decode cX7_period 7 = .ok (.invokevirtual 58, 3) := by decide +kernel
theorem dX7_period_10 : decode cX7_period 10 = .ok (.ifCond .ne 5, 3) := by decide +kernel
theorem dX7_period_13 : decode cX7_period 13 = .ok (.iconst (-1), 1) := by decide +kernel
theorem dX7_period_14 : decode cX7_period 14 = .ok (.ireturn, 1) := by decide +kernel
theorem dX7_period_15 : decode cX7_period 15 = .ok (.aload_n 0, 1) := by decide +kernel
theorem dX7_period_16 : decode cX7_period 16 = .ok (.iload_n 1, 1) := by decide +kernel
theorem dX7_period_17 : decode cX7_period 17 = .ok (.invokevirtual 81, 3) := by decide +kernel
theorem dX7_period_20 : decode cX7_period 20 = .ok (.ifCond .eq 5, 3) := by decide +kernel
theorem dX7_period_23 : decode cX7_period 23 = .ok (.iconst 1, 1) := by decide +kernel
theorem dX7_period_24 : decode cX7_period 24 = .ok (.ireturn, 1) := by decide +kernel
theorem dX7_period_25 : decode cX7_period 25 = .ok (.iconst 1, 1) := by decide +kernel
theorem dX7_period_26 : decode cX7_period 26 = .ok (.iload_n 1, 1) := by decide +kernel
theorem dX7_period_27 : decode cX7_period 27 = .ok (.ishl, 1) := by decide +kernel
theorem dX7_period_28 : decode cX7_period 28 = .ok (.istore_n 2, 1) := by decide +kernel
theorem dX7_period_29 : decode cX7_period 29 = .ok (.iconst 0, 1) := by decide +kernel
theorem dX7_period_30 : decode cX7_period 30 = .ok (.istore_n 3, 1) := by decide +kernel
theorem dX7_period_31 : decode cX7_period 31 = .ok (.iconst 1, 1) := by decide +kernel
theorem dX7_period_32 : decode cX7_period 32 = .ok (.istore 4, 2) := by decide +kernel
theorem dX7_period_34 : decode cX7_period 34 = .ok (.iload 4, 2) := by decide +kernel
theorem dX7_period_36 : decode cX7_period 36 = .ok (.bipush 30, 2) := by decide +kernel
theorem dX7_period_38 : decode cX7_period 38 = .ok (.if_icmp .gt 118, 3) := by decide +kernel
theorem dX7_period_41 : decode cX7_period 41 = .ok (.iconst 0, 1) := by decide +kernel
theorem dX7_period_42 : decode cX7_period 42 = .ok (.istore 5, 2) := by decide +kernel
theorem dX7_period_44 : decode cX7_period 44 = .ok (.iconst 0, 1) := by decide +kernel
theorem dX7_period_45 : decode cX7_period 45 = .ok (.istore 6, 2) := by decide +kernel
theorem dX7_period_47 : decode cX7_period 47 = .ok (.iload 6, 2) := by decide +kernel
theorem dX7_period_49 : decode cX7_period 49 = .ok (.aload_n 0, 1) := by decide +kernel
theorem dX7_period_50 : decode cX7_period 50 = .ok (.getfield 40, 3) := by decide +kernel
theorem dX7_period_53 : decode cX7_period 53 = .ok (.if_icmp .ge 61, 3) := by decide +kernel
theorem dX7_period_56 : decode cX7_period 56 = .ok (.iconst 0, 1) := by decide +kernel
theorem dX7_period_57 : decode cX7_period 57 = .ok (.istore 7, 2) := by decide +kernel
theorem dX7_period_59 : decode cX7_period 59 = .ok (.iload 7, 2) := by decide +kernel
theorem dX7_period_61 : decode cX7_period 61 = .ok (.aload_n 0, 1) := by decide +kernel
theorem dX7_period_62 : decode cX7_period 62 = .ok (.getfield 40, 3) := by decide +kernel
theorem dX7_period_65 : decode cX7_period 65 = .ok (.if_icmp .ge 43, 3) := by decide +kernel
theorem dX7_period_68 : decode cX7_period 68 = .ok (.iload_n 2, 1) := by decide +kernel
theorem dX7_period_69 : decode cX7_period 69 = .ok (.iload 6, 2) := by decide +kernel
theorem dX7_period_71 : decode cX7_period 71 = .ok (.invokestatic 62, 3) := by decide +kernel
theorem dX7_period_74 : decode cX7_period 74 = .ok (.ifCond .eq 34, 3) := by decide +kernel
theorem dX7_period_77 : decode cX7_period 77 = .ok (.aload_n 0, 1) := by decide +kernel
theorem dX7_period_78 : decode cX7_period 78 = .ok (.iload 6, 2) := by decide +kernel
theorem dX7_period_80 : decode cX7_period 80 = .ok (.iload 7, 2) := by decide +kernel
theorem dX7_period_82 : decode cX7_period 82 = .ok (.invokevirtual 47, 3) := by decide +kernel
theorem dX7_period_85 : decode cX7_period 85 = .ok (.ifCond .le 13, 3) := by decide +kernel
theorem dX7_period_88 : decode cX7_period 88 = .ok (.iload 5, 2) := by decide +kernel
theorem dX7_period_90 : decode cX7_period 90 = .ok (.iconst 1, 1) := by decide +kernel
theorem dX7_period_91 : decode cX7_period 91 = .ok (.iload 7, 2) := by decide +kernel
theorem dX7_period_93 : decode cX7_period 93 = .ok (.ishl, 1) := by decide +kernel
theorem dX7_period_94 : decode cX7_period 94 = .ok (.ior, 1) := by decide +kernel
theorem dX7_period_95 : decode cX7_period 95 = .ok (.goto 5, 3) := by decide +kernel
theorem dX7_period_98 : decode cX7_period 98 = .ok (.iload 5, 2) := by decide +kernel
theorem dX7_period_100 : decode cX7_period 100 = .ok (.istore 5, 2) := by decide +kernel
theorem dX7_period_102 : decode cX7_period 102 = .ok (.iinc 7 1, 3) := by decide +kernel
theorem dX7_period_105 : decode cX7_period 105 = .ok (.goto (-46), 3) := by decide +kernel
theorem dX7_period_108 : decode cX7_period 108 = .ok (.iinc 6 1, 3) := by decide +kernel
theorem dX7_period_111 : decode cX7_period 111 = .ok (.goto (-64), 3) := by decide +kernel
theorem dX7_period_114 : decode cX7_period 114 = .ok (.iload 5, 2) := by decide +kernel
theorem dX7_period_116 : decode cX7_period 116 = .ok (.istore_n 2, 1) := by decide +kernel
theorem dX7_period_117 : decode cX7_period 117 = .ok (.iload_n 2, 1) := by decide +kernel
theorem dX7_period_118 : decode cX7_period 118 = .ok (.iload_n 1, 1) := by decide +kernel
theorem dX7_period_119 : decode cX7_period 119 = .ok (.invokestatic 62, 3) := by decide +kernel
theorem dX7_period_122 : decode cX7_period 122 = .ok (.ifCond .eq 28, 3) := by decide +kernel
theorem dX7_period_125 : decode cX7_period 125 = .ok (.iload 4, 2) := by decide +kernel
theorem dX7_period_127 : decode cX7_period 127 = .ok (.istore 6, 2) := by decide +kernel
theorem dX7_period_129 : decode cX7_period 129 = .ok (.iload 6, 2) := by decide +kernel
theorem dX7_period_131 : decode cX7_period 131 = .ok (.ifCond .eq 19, 3) := by decide +kernel
theorem dX7_period_134 : decode cX7_period 134 = .ok (.iload_n 3, 1) := by decide +kernel
theorem dX7_period_135 : decode cX7_period 135 = .ok (.iload 6, 2) := by decide +kernel
theorem dX7_period_137 : decode cX7_period 137 = .ok (.irem, 1) := by decide +kernel
theorem dX7_period_138 : decode cX7_period 138 = .ok (.istore 7, 2) := by decide +kernel
theorem dX7_period_140 : decode cX7_period 140 = .ok (.iload 6, 2) := by decide +kernel
theorem dX7_period_142 : decode cX7_period 142 = .ok (.istore_n 3, 1) := by decide +kernel
theorem dX7_period_143 : decode cX7_period 143 = .ok (.iload 7, 2) := by decide +kernel
theorem dX7_period_145 : decode cX7_period 145 = .ok (.istore 6, 2) := by decide +kernel
theorem dX7_period_147 : decode cX7_period 147 = .ok (.goto (-18), 3) := by decide +kernel
theorem dX7_period_150 : decode cX7_period 150 = .ok (.iinc 4 1, 3) := by decide +kernel
theorem dX7_period_153 : decode cX7_period 153 = .ok (.goto (-119), 3) := by decide +kernel
theorem dX7_period_156 : decode cX7_period 156 = .ok (.iload_n 3, 1) := by decide +kernel
theorem dX7_period_157 : decode cX7_period 157 = .ok (.ireturn, 1) := by decide +kernel
theorem dX7_isEnd_0 : decode cX7_isEnd 0 = .ok (.aload_n 0, 1) := by decide +kernel
theorem dX7_isEnd_1 : decode cX7_isEnd 1 = .ok (.iload_n 1, 1) := by decide +kernel
theorem dX7_isEnd_2 : decode cX7_isEnd 2 = .ok (.invokevirtual 51, 3) := by decide +kernel
theorem dX7_isEnd_5 : decode cX7_isEnd 5 = .ok (.ifCond .ne 7, 3) := by decide +kernel
theorem dX7_isEnd_8 : decode cX7_isEnd 8 = .ok (.iconst 1, 1) := by decide +kernel
theorem dX7_isEnd_9 : decode cX7_isEnd 9 = .ok (.goto 4, 3) := by decide +kernel
theorem dX7_isEnd_12 : decode cX7_isEnd 12 = .ok (.iconst 0, 1) := by decide +kernel
theorem dX7_isEnd_13 : decode cX7_isEnd 13 = .ok (.ireturn, 1) := by decide +kernel
theorem dX7_ever_0 : decode cX7_ever 0 = .ok (.aload_n 0, 1) := by decide +kernel
theorem dX7_ever_1 : decode cX7_ever 1 = .ok (.iconst 0, 1) := by decide +kernel
theorem dX7_ever_2 : decode cX7_ever 2 = .ok (.putfield 36, 3) := by decide +kernel
theorem dX7_ever_5 : decode cX7_ever 5 = .ok (.aload_n 0, 1) := by decide +kernel
theorem dX7_ever_6 : decode cX7_ever 6 = .ok (.iload_n 1, 1) := by decide +kernel
theorem dX7_ever_7 : decode cX7_ever 7 = .ok (.invokevirtual 58, 3) := by decide +kernel
theorem dX7_ever_10 : decode cX7_ever 10 = .ok (.ifCond .eq 11, 3) := by decide +kernel
theorem dX7_ever_13 : decode cX7_ever 13 = .ok (.aload_n 0, 1) := by decide +kernel
theorem dX7_ever_14 : decode cX7_ever 14 = .ok (.iload_n 2, 1) := by decide +kernel
theorem dX7_ever_15 : decode cX7_ever 15 = .ok (.invokevirtual 58, 3) := by decide +kernel
theorem dX7_ever_18 : decode cX7_ever 18 = .ok (.ifCond .ne 5, 3) := by decide +kernel
theorem dX7_ever_21 : decode cX7_ever 21 = .ok (.iconst (-1), 1) := by decide +kernel
theorem dX7_ever_22 : decode cX7_ever 22 = .ok (.ireturn, 1) := by decide +kernel
theorem dX7_ever_23 : decode cX7_ever 23 = .ok (.aload_n 0, 1) := by decide +kernel
theorem dX7_ever_24 : decode cX7_ever 24 = .ok (.iconst 1, 1) := by decide +kernel
theorem dX7_ever_25 : decode cX7_ever 25 = .ok (.iload_n 2, 1) := by decide +kernel
theorem dX7_ever_26 : decode cX7_ever 26 = .ok (.ishl, 1) := by decide +kernel
theorem dX7_ever_27 : decode cX7_ever 27 = .ok (.iconst 0, 1) := by decide +kernel
theorem dX7_ever_28 : decode cX7_ever 28 = .ok (.invokevirtual 102, 3) := by decide +kernel
theorem dX7_ever_31 : decode cX7_ever 31 = .ok (.aload_n 0, 1) := by decide +kernel
theorem dX7_ever_32 : decode cX7_ever 32 = .ok (.iload_n 1, 1) := by decide +kernel
theorem dX7_ever_33 : decode cX7_ever 33 = .ok (.invokevirtual 106, 3) := by decide +kernel
theorem dX7_ever_36 : decode cX7_ever 36 = .ok (.ireturn, 1) := by decide +kernel
theorem dX7_layOdds_0 : decode cX7_layOdds 0 = .ok (.aload_n 0, 1) := by decide +kernel
theorem dX7_layOdds_1 : decode cX7_layOdds 1 = .ok (.iload_n 1, 1) := by decide +kernel
theorem dX7_layOdds_2 : decode cX7_layOdds 2 = .ok (.iload_n 1, 1) := by decide +kernel
theorem dX7_layOdds_3 : decode cX7_layOdds 3 = .ok (.iload_n 2, 1) := by decide +kernel
theorem dX7_layOdds_4 : decode cX7_layOdds 4 = .ok (.ior, 1) := by decide +kernel
theorem dX7_layOdds_5 : decode cX7_layOdds 5 = .ok (.invokevirtual 69, 3) := by decide +kernel
theorem dX7_layOdds_8 : decode cX7_layOdds 8 = .ok (.iload_n 2, 1) := by decide +kernel
theorem dX7_layOdds_9 : decode cX7_layOdds 9 = .ok (.iconst (-1), 1) := by decide +kernel
theorem dX7_layOdds_10 : decode cX7_layOdds 10 = .ok (.ixor, 1) := by decide +kernel
theorem dX7_layOdds_11 : decode cX7_layOdds 11 = .ok (.iand, 1) := by decide +kernel
theorem dX7_layOdds_12 : decode cX7_layOdds 12 = .ok (.istore_n 3, 1) := by decide +kernel
theorem dX7_layOdds_13 : decode cX7_layOdds 13 = .ok (.iconst 0, 1) := by decide +kernel
theorem dX7_layOdds_14 : decode cX7_layOdds 14 = .ok (.istore 4, 2) := by decide +kernel
theorem dX7_layOdds_16 : decode cX7_layOdds 16 = .ok (.iload 4, 2) := by decide +kernel
theorem dX7_layOdds_18 : decode cX7_layOdds 18 = .ok (.aload_n 0, 1) := by decide +kernel
theorem dX7_layOdds_19 : decode cX7_layOdds 19 = .ok (.getfield 40, 3) := by decide +kernel
theorem dX7_layOdds_22 : decode cX7_layOdds 22 = .ok (.if_icmp .ge 57, 3) := by decide +kernel
theorem dX7_layOdds_25 : decode cX7_layOdds 25 = .ok (.iload_n 1, 1) := by decide +kernel
theorem dX7_layOdds_26 : decode cX7_layOdds 26 = .ok (.iload 4, 2) := by decide +kernel
theorem dX7_layOdds_28 : decode cX7_layOdds 28 = .ok (.invokestatic 62, 3) := by decide +kernel
theorem dX7_layOdds_31 : decode cX7_layOdds 31 = .ok (.ifCond .ne 12, 3) := by decide +kernel
theorem dX7_layOdds_34 : decode cX7_layOdds 34 = .ok (.iload_n 3, 1) := by decide +kernel
theorem dX7_layOdds_35 : decode cX7_layOdds 35 = .ok (.iload 4, 2) := by decide +kernel
theorem dX7_layOdds_37 : decode cX7_layOdds 37 = .ok (.invokestatic 62, 3) := by decide +kernel
theorem dX7_layOdds_40 : decode cX7_layOdds 40 = .ok (.ifCond .ne 26, 3) := by decide +kernel
theorem dX7_layOdds_43 : decode cX7_layOdds 43 = .ok (.aload_n 0, 1) := by decide +kernel
theorem dX7_layOdds_44 : decode cX7_layOdds 44 = .ok (.iload 4, 2) := by decide +kernel
theorem dX7_layOdds_46 : decode cX7_layOdds 46 = .ok (.iload_n 1, 1) := by decide +kernel
theorem dX7_layOdds_47 : decode cX7_layOdds 47 = .ok (.iload 4, 2) := by decide +kernel
theorem dX7_layOdds_49 : decode cX7_layOdds 49 = .ok (.invokestatic 62, 3) := by decide +kernel
theorem dX7_layOdds_52 : decode cX7_layOdds 52 = .ok (.ifCond .eq 7, 3) := by decide +kernel
theorem dX7_layOdds_55 : decode cX7_layOdds 55 = .ok (.lconst 1, 1) := by decide +kernel
theorem dX7_layOdds_56 : decode cX7_layOdds 56 = .ok (.goto 4, 3) := by decide +kernel
theorem dX7_layOdds_59 : decode cX7_layOdds 59 = .ok (.lconst 0, 1) := by decide +kernel
theorem dX7_layOdds_60 : decode cX7_layOdds 60 = .ok (.invokevirtual 95, 3) := by decide +kernel
theorem dX7_layOdds_63 : decode cX7_layOdds 63 = .ok (.goto 10, 3) := by decide +kernel
theorem dX7_layOdds_66 : decode cX7_layOdds 66 = .ok (.aload_n 0, 1) := by decide +kernel
theorem dX7_layOdds_67 : decode cX7_layOdds 67 = .ok (.iload 4, 2) := by decide +kernel
theorem dX7_layOdds_69 : decode cX7_layOdds 69 = .ok (.lconst 0, 1) := by decide +kernel
theorem dX7_layOdds_70 : decode cX7_layOdds 70 = .ok (.invokevirtual 99, 3) := by decide +kernel
theorem dX7_layOdds_73 : decode cX7_layOdds 73 = .ok (.iinc 4 1, 3) := by decide +kernel
theorem dX7_layOdds_76 : decode cX7_layOdds 76 = .ok (.goto (-60), 3) := by decide +kernel
theorem dX7_layOdds_79 : decode cX7_layOdds 79 = .ok (.return_, 1) := by decide +kernel
theorem dX7_fix_0 : decode cX7_fix 0 = .ok (.iconst 0, 1) := by decide +kernel
theorem dX7_fix_1 : decode cX7_fix 1 = .ok (.istore 4, 2) := by decide +kernel
theorem dX7_fix_3 : decode cX7_fix 3 = .ok (.iload 4, 2) := by decide +kernel
theorem dX7_fix_5 : decode cX7_fix 5 = .ok (.aload_n 0, 1) := by decide +kernel
theorem dX7_fix_6 : decode cX7_fix 6 = .ok (.getfield 40, 3) := by decide +kernel
theorem dX7_fix_9 : decode cX7_fix 9 = .ok (.if_icmp .ge 32, 3) := by decide +kernel
theorem dX7_fix_12 : decode cX7_fix 12 = .ok (.aload_n 0, 1) := by decide +kernel
theorem dX7_fix_13 : decode cX7_fix 13 = .ok (.getfield 20, 3) := by decide +kernel
theorem dX7_fix_16 : decode cX7_fix 16 = .ok (.bipush 7, 2) := by decide +kernel
theorem dX7_fix_18 : decode cX7_fix 18 = .ok (.iload_n 1, 1) := by decide +kernel
theorem dX7_fix_19 : decode cX7_fix 19 = .ok (.imul, 1) := by decide +kernel
theorem dX7_fix_20 : decode cX7_fix 20 = .ok (.iload 4, 2) := by decide +kernel
theorem dX7_fix_22 : decode cX7_fix 22 = .ok (.iadd, 1) := by decide +kernel
theorem dX7_fix_23 : decode cX7_fix 23 = .ok (.iload 4, 2) := by decide +kernel
theorem dX7_fix_25 : decode cX7_fix 25 = .ok (.iload_n 1, 1) := by decide +kernel
theorem dX7_fix_26 : decode cX7_fix 26 = .ok (.if_icmp .ne 7, 3) := by decide +kernel
theorem dX7_fix_29 : decode cX7_fix 29 = .ok (.lconst 1, 1) := by decide +kernel
theorem dX7_fix_30 : decode cX7_fix 30 = .ok (.goto 4, 3) := by decide +kernel
theorem dX7_fix_33 : decode cX7_fix 33 = .ok (.lconst 0, 1) := by decide +kernel
theorem dX7_fix_34 : decode cX7_fix 34 = .ok (.lastore, 1) := by decide +kernel
theorem dX7_fix_35 : decode cX7_fix 35 = .ok (.iinc 4 1, 3) := by decide +kernel
theorem dX7_fix_38 : decode cX7_fix 38 = .ok (.goto (-35), 3) := by decide +kernel
theorem dX7_fix_41 : decode cX7_fix 41 = .ok (.aload_n 0, 1) := by decide +kernel
theorem dX7_fix_42 : decode cX7_fix 42 = .ok (.getfield 24, 3) := by decide +kernel
theorem dX7_fix_45 : decode cX7_fix 45 = .ok (.iload_n 1, 1) := by decide +kernel
theorem dX7_fix_46 : decode cX7_fix 46 = .ok (.lload_n 2, 1) := by decide +kernel
theorem dX7_fix_47 : decode cX7_fix 47 = .ok (.lastore, 1) := by decide +kernel
theorem dX7_fix_48 : decode cX7_fix 48 = .ok (.return_, 1) := by decide +kernel
theorem dX7_lay_0 : decode cX7_lay 0 = .ok (.iconst 0, 1) := by decide +kernel
theorem dX7_lay_1 : decode cX7_lay 1 = .ok (.istore 4, 2) := by decide +kernel
theorem dX7_lay_3 : decode cX7_lay 3 = .ok (.iload 4, 2) := by decide +kernel
theorem dX7_lay_5 : decode cX7_lay 5 = .ok (.aload_n 0, 1) := by decide +kernel
theorem dX7_lay_6 : decode cX7_lay 6 = .ok (.getfield 40, 3) := by decide +kernel
theorem dX7_lay_9 : decode cX7_lay 9 = .ok (.if_icmp .ge 45, 3) := by decide +kernel
theorem dX7_lay_12 : decode cX7_lay 12 = .ok (.aload_n 0, 1) := by decide +kernel
theorem dX7_lay_13 : decode cX7_lay 13 = .ok (.getfield 20, 3) := by decide +kernel
theorem dX7_lay_16 : decode cX7_lay 16 = .ok (.bipush 7, 2) := by decide +kernel
theorem dX7_lay_18 : decode cX7_lay 18 = .ok (.iload_n 1, 1) := by decide +kernel
theorem dX7_lay_19 : decode cX7_lay 19 = .ok (.imul, 1) := by decide +kernel
theorem dX7_lay_20 : decode cX7_lay 20 = .ok (.iload 4, 2) := by decide +kernel
theorem dX7_lay_22 : decode cX7_lay 22 = .ok (.iadd, 1) := by decide +kernel
theorem dX7_lay_23 : decode cX7_lay 23 = .ok (.iload 4, 2) := by decide +kernel
theorem dX7_lay_25 : decode cX7_lay 25 = .ok (.iload_n 1, 1) := by decide +kernel
theorem dX7_lay_26 : decode cX7_lay 26 = .ok (.if_icmp .ne 11, 3) := by decide +kernel
theorem dX7_lay_29 : decode cX7_lay 29 = .ok (.aload_n 0, 1) := by decide +kernel
theorem dX7_lay_30 : decode cX7_lay 30 = .ok (.iload_n 1, 1) := by decide +kernel
theorem dX7_lay_31 : decode cX7_lay 31 = .ok (.invokevirtual 51, 3) := by decide +kernel
theorem dX7_lay_34 : decode cX7_lay 34 = .ok (.goto 4, 3) := by decide +kernel
theorem dX7_lay_37 : decode cX7_lay 37 = .ok (.iconst 0, 1) := by decide +kernel
theorem dX7_lay_38 : decode cX7_lay 38 = .ok (.aload_n 0, 1) := by decide +kernel
theorem dX7_lay_39 : decode cX7_lay 39 = .ok (.iload_n 1, 1) := by decide +kernel
theorem dX7_lay_40 : decode cX7_lay 40 = .ok (.iload 4, 2) := by decide +kernel
theorem dX7_lay_42 : decode cX7_lay 42 = .ok (.invokevirtual 47, 3) := by decide +kernel
theorem dX7_lay_45 : decode cX7_lay 45 = .ok (.isub, 1) := by decide +kernel
theorem dX7_lay_46 : decode cX7_lay 46 = .ok (.i2l, 1) := by decide +kernel
theorem dX7_lay_47 : decode cX7_lay 47 = .ok (.lastore, 1) := by decide +kernel
theorem dX7_lay_48 : decode cX7_lay 48 = .ok (.iinc 4 1, 3) := by decide +kernel
theorem dX7_lay_51 : decode cX7_lay 51 = .ok (.goto (-48), 3) := by decide +kernel
theorem dX7_lay_54 : decode cX7_lay 54 = .ok (.aload_n 0, 1) := by decide +kernel
theorem dX7_lay_55 : decode cX7_lay 55 = .ok (.getfield 24, 3) := by decide +kernel
theorem dX7_lay_58 : decode cX7_lay 58 = .ok (.iload_n 1, 1) := by decide +kernel
theorem dX7_lay_59 : decode cX7_lay 59 = .ok (.lload_n 2, 1) := by decide +kernel
theorem dX7_lay_60 : decode cX7_lay 60 = .ok (.lastore, 1) := by decide +kernel
theorem dX7_lay_61 : decode cX7_lay 61 = .ok (.return_, 1) := by decide +kernel
theorem dX7_solved_0 : decode cX7_solved 0 = .ok (.aload_n 0, 1) := by decide +kernel
theorem dX7_solved_1 : decode cX7_solved 1 = .ok (.aload_n 0, 1) := by decide +kernel
theorem dX7_solved_2 : decode cX7_solved 2 = .ok (.iload_n 1, 1) := by decide +kernel
theorem dX7_solved_3 : decode cX7_solved 3 = .ok (.invokevirtual 87, 3) := by decide +kernel
theorem dX7_solved_6 : decode cX7_solved 6 = .ok (.aload_n 0, 1) := by decide +kernel
theorem dX7_solved_7 : decode cX7_solved 7 = .ok (.iconst (-1), 1) := by decide +kernel
theorem dX7_solved_8 : decode cX7_solved 8 = .ok (.invokevirtual 87, 3) := by decide +kernel
theorem dX7_solved_11 : decode cX7_solved 11 = .ok (.invokevirtual 91, 3) := by decide +kernel
theorem dX7_solved_14 : decode cX7_solved 14 = .ok (.ireturn, 1) := by decide +kernel
theorem dX7_all_0 : decode cX7_all 0 = .ok (.iconst 0, 1) := by decide +kernel
theorem dX7_all_1 : decode cX7_all 1 = .ok (.istore_n 2, 1) := by decide +kernel
theorem dX7_all_2 : decode cX7_all 2 = .ok (.iload_n 2, 1) := by decide +kernel
theorem dX7_all_3 : decode cX7_all 3 = .ok (.sipush 128, 3) := by decide +kernel
theorem dX7_all_6 : decode cX7_all 6 = .ok (.if_icmp .ge 24, 3) := by decide +kernel
theorem dX7_all_9 : decode cX7_all 9 = .ok (.aload_n 0, 1) := by decide +kernel
theorem dX7_all_10 : decode cX7_all 10 = .ok (.getfield 27, 3) := by decide +kernel
theorem dX7_all_13 : decode cX7_all 13 = .ok (.iload_n 2, 1) := by decide +kernel
theorem dX7_all_14 : decode cX7_all 14 = .ok (.iload_n 2, 1) := by decide +kernel
theorem dX7_all_15 : decode cX7_all 15 = .ok (.ifCond .ne 7, 3) := by decide +kernel
theorem dX7_all_18 : decode cX7_all 18 = .ok (.lconst 1, 1) := by decide +kernel
theorem dX7_all_19 : decode cX7_all 19 = .ok (.goto 4, 3) := by decide +kernel
theorem dX7_all_22 : decode cX7_all 22 = .ok (.lconst 0, 1) := by decide +kernel
theorem dX7_all_23 : decode cX7_all 23 = .ok (.lastore, 1) := by decide +kernel
theorem dX7_all_24 : decode cX7_all 24 = .ok (.iinc 2 1, 3) := by decide +kernel
theorem dX7_all_27 : decode cX7_all 27 = .ok (.goto (-25), 3) := by decide +kernel
theorem dX7_all_30 : decode cX7_all 30 = .ok (.iconst 0, 1) := by decide +kernel
theorem dX7_all_31 : decode cX7_all 31 = .ok (.istore_n 2, 1) := by decide +kernel
theorem dX7_all_32 : decode cX7_all 32 = .ok (.iload_n 2, 1) := by decide +kernel
theorem dX7_all_33 : decode cX7_all 33 = .ok (.iconst 1, 1) := by decide +kernel
theorem dX7_all_34 : decode cX7_all 34 = .ok (.aload_n 0, 1) := by decide +kernel
theorem dX7_all_35 : decode cX7_all 35 = .ok (.getfield 40, 3) := by decide +kernel
theorem dX7_all_38 : decode cX7_all 38 = .ok (.ishl, 1) := by decide +kernel
theorem dX7_all_39 : decode cX7_all 39 = .ok (.iconst 1, 1) := by decide +kernel
theorem dX7_all_40 : decode cX7_all 40 = .ok (.isub, 1) := by decide +kernel
theorem dX7_all_41 : decode cX7_all 41 = .ok (.if_icmp .ge 124, 3) := by decide +kernel
theorem dX7_all_44 : decode cX7_all 44 = .ok (.iload_n 2, 1) := by decide +kernel
theorem dX7_all_45 : decode cX7_all 45 = .ok (.invokestatic 84, 3) := by decide +kernel
theorem dX7_all_48 : decode cX7_all 48 = .ok (.istore_n 3, 1) := by decide +kernel
theorem dX7_all_49 : decode cX7_all 49 = .ok (.iconst 0, 1) := by decide +kernel
theorem dX7_all_50 : decode cX7_all 50 = .ok (.istore 4, 2) := by decide +kernel
theorem dX7_all_52 : decode cX7_all 52 = .ok (.iload 4, 2) := by decide +kernel
theorem dX7_all_54 : decode cX7_all 54 = .ok (.aload_n 0, 1) := by decide +kernel
theorem dX7_all_55 : decode cX7_all 55 = .ok (.getfield 40, 3) := by decide +kernel
theorem dX7_all_58 : decode cX7_all 58 = .ok (.if_icmp .ge 101, 3) := by decide +kernel
theorem dX7_all_61 : decode cX7_all 61 = .ok (.iload_n 2, 1) := by decide +kernel
theorem dX7_all_62 : decode cX7_all 62 = .ok (.iload 4, 2) := by decide +kernel
theorem dX7_all_64 : decode cX7_all 64 = .ok (.invokestatic 62, 3) := by decide +kernel
theorem dX7_all_67 : decode cX7_all 67 = .ok (.ifCond .ne 86, 3) := by decide +kernel
theorem dX7_all_70 : decode cX7_all 70 = .ok (.aload_n 0, 1) := by decide +kernel
theorem dX7_all_71 : decode cX7_all 71 = .ok (.getfield 27, 3) := by decide +kernel
theorem dX7_all_74 : decode cX7_all 74 = .ok (.iload_n 2, 1) := by decide +kernel
theorem dX7_all_75 : decode cX7_all 75 = .ok (.laload, 1) := by decide +kernel
theorem dX7_all_76 : decode cX7_all 76 = .ok (.iload 4, 2) := by decide +kernel
theorem dX7_all_78 : decode cX7_all 78 = .ok (.iload_n 1, 1) := by decide +kernel
theorem dX7_all_79 : decode cX7_all 79 = .ok (.if_icmp .ne 12, 3) := by decide +kernel
theorem dX7_all_82 : decode cX7_all 82 = .ok (.aload_n 0, 1) := by decide +kernel
theorem dX7_all_83 : decode cX7_all 83 = .ok (.getfield 24, 3) := by decide +kernel
theorem dX7_all_86 : decode cX7_all 86 = .ok (.iload_n 3, 1) := by decide +kernel
theorem dX7_all_87 : decode cX7_all 87 = .ok (.laload, 1) := by decide +kernel
theorem dX7_all_88 : decode cX7_all 88 = .ok (.goto 15, 3) := by decide +kernel
theorem dX7_all_91 : decode cX7_all 91 = .ok (.aload_n 0, 1) := by decide +kernel
theorem dX7_all_92 : decode cX7_all 92 = .ok (.getfield 20, 3) := by decide +kernel
theorem dX7_all_95 : decode cX7_all 95 = .ok (.bipush 7, 2) := by decide +kernel
theorem dX7_all_97 : decode cX7_all 97 = .ok (.iload_n 3, 1) := by decide +kernel
theorem dX7_all_98 : decode cX7_all 98 = .ok (.imul, 1) := by decide +kernel
theorem dX7_all_99 : decode cX7_all 99 = .ok (.iload 4, 2) := by decide +kernel
theorem dX7_all_101 : decode cX7_all 101 = .ok (.iadd, 1) := by decide +kernel
theorem dX7_all_102 : decode cX7_all 102 = .ok (.laload, 1) := by decide +kernel
theorem dX7_all_103 : decode cX7_all 103 = .ok (.lmul, 1) := by decide +kernel
theorem dX7_all_104 : decode cX7_all 104 = .ok (.lstore 5, 2) := by decide +kernel
theorem dX7_all_106 : decode cX7_all 106 = .ok (.iload_n 2, 1) := by decide +kernel
theorem dX7_all_107 : decode cX7_all 107 = .ok (.iload 4, 2) := by decide +kernel
theorem dX7_all_109 : decode cX7_all 109 = .ok (.ishr, 1) := by decide +kernel
theorem dX7_all_110 : decode cX7_all 110 = .ok (.invokestatic 84, 3) := by decide +kernel
theorem dX7_all_113 : decode cX7_all 113 = .ok (.iconst 2, 1) := by decide +kernel
theorem dX7_all_114 : decode cX7_all 114 = .ok (.irem, 1) := by decide +kernel
theorem dX7_all_115 : decode cX7_all 115 = .ok (.iconst 1, 1) := by decide +kernel
theorem dX7_all_116 : decode cX7_all 116 = .ok (.if_icmp .ne 7, 3) := by decide +kernel
theorem dX7_all_119 : decode cX7_all 119 = .ok (.iconst 1, 1) := by decide +kernel
theorem dX7_all_120 : decode cX7_all 120 = .ok (.goto 4, 3) := by decide +kernel
theorem dX7_all_123 : decode cX7_all 123 = .ok (.iconst 0, 1) := by decide +kernel
theorem dX7_all_124 : decode cX7_all 124 = .ok (.istore 7, 2) := by decide +kernel
theorem dX7_all_126 : decode cX7_all 126 = .ok (.aload_n 0, 1) := by decide +kernel
theorem dX7_all_127 : decode cX7_all 127 = .ok (.getfield 27, 3) := by decide +kernel
theorem dX7_all_130 : decode cX7_all 130 = .ok (.iload_n 2, 1) := by decide +kernel
theorem dX7_all_131 : decode cX7_all 131 = .ok (.iconst 1, 1) := by decide +kernel
theorem dX7_all_132 : decode cX7_all 132 = .ok (.iload 4, 2) := by decide +kernel
theorem dX7_all_134 : decode cX7_all 134 = .ok (.ishl, 1) := by decide +kernel
theorem dX7_all_135 : decode cX7_all 135 = .ok (.ior, 1) := by decide +kernel
theorem dX7_all_136 : decode cX7_all 136 = .ok (.dup2, 1) := by decide +kernel
theorem dX7_all_137 : decode cX7_all 137 = .ok (.laload, 1) := by decide +kernel
theorem dX7_all_138 : decode cX7_all 138 = .ok (.iload 7, 2) := by decide +kernel
theorem dX7_all_140 : decode cX7_all 140 = .ok (.ifCond .eq 9, 3) := by decide +kernel
theorem dX7_all_143 : decode cX7_all 143 = .ok (.lload 5, 2) := by decide +kernel
theorem dX7_all_145 : decode cX7_all 145 = .ok (.lneg, 1) := by decide +kernel
theorem dX7_all_146 : decode cX7_all 146 = .ok (.goto 5, 3) := by decide +kernel
theorem dX7_all_149 : decode cX7_all 149 = .ok (.lload 5, 2) := by decide +kernel
theorem dX7_all_151 : decode cX7_all 151 = .ok (.ladd, 1) := by decide +kernel
theorem dX7_all_152 : decode cX7_all 152 = .ok (.lastore, 1) := by decide +kernel
theorem dX7_all_153 : decode cX7_all 153 = .ok (.iinc 4 1, 3) := by decide +kernel
theorem dX7_all_156 : decode cX7_all 156 = .ok (.goto (-104), 3) := by decide +kernel
theorem dX7_all_159 : decode cX7_all 159 = .ok (.iinc 2 1, 3) := by decide +kernel
theorem dX7_all_162 : decode cX7_all 162 = .ok (.goto (-130), 3) := by decide +kernel
theorem dX7_all_165 : decode cX7_all 165 = .ok (.aload_n 0, 1) := by decide +kernel
theorem dX7_all_166 : decode cX7_all 166 = .ok (.getfield 27, 3) := by decide +kernel
theorem dX7_all_169 : decode cX7_all 169 = .ok (.iconst 1, 1) := by decide +kernel
theorem dX7_all_170 : decode cX7_all 170 = .ok (.aload_n 0, 1) := by decide +kernel
theorem dX7_all_171 : decode cX7_all 171 = .ok (.getfield 40, 3) := by decide +kernel
theorem dX7_all_174 : decode cX7_all 174 = .ok (.ishl, 1) := by decide +kernel
theorem dX7_all_175 : decode cX7_all 175 = .ok (.iconst 1, 1) := by decide +kernel
theorem dX7_all_176 : decode cX7_all 176 = .ok (.isub, 1) := by decide +kernel
theorem dX7_all_177 : decode cX7_all 177 = .ok (.laload, 1) := by decide +kernel
theorem dX7_all_178 : decode cX7_all 178 = .ok (.lreturn, 1) := by decide +kernel
theorem dX7_many_0 : decode cX7_many 0 = .ok (.iconst 0, 1) := by decide +kernel
theorem dX7_many_1 : decode cX7_many 1 = .ok (.istore_n 1, 1) := by decide +kernel
theorem dX7_many_2 : decode cX7_many 2 = .ok (.iconst 0, 1) := by decide +kernel
theorem dX7_many_3 : decode cX7_many 3 = .ok (.istore_n 2, 1) := by decide +kernel
theorem dX7_many_4 : decode cX7_many 4 = .ok (.iload_n 2, 1) := by decide +kernel
theorem dX7_many_5 : decode cX7_many 5 = .ok (.bipush 7, 2) := by decide +kernel
theorem dX7_many_7 : decode cX7_many 7 = .ok (.if_icmp .ge 17, 3) := by decide +kernel
theorem dX7_many_10 : decode cX7_many 10 = .ok (.iload_n 1, 1) := by decide +kernel
theorem dX7_many_11 : decode cX7_many 11 = .ok (.iload_n 0, 1) := by decide +kernel
theorem dX7_many_12 : decode cX7_many 12 = .ok (.iload_n 2, 1) := by decide +kernel
theorem dX7_many_13 : decode cX7_many 13 = .ok (.ishr, 1) := by decide +kernel
theorem dX7_many_14 : decode cX7_many 14 = .ok (.iconst 1, 1) := by decide +kernel
theorem dX7_many_15 : decode cX7_many 15 = .ok (.iand, 1) := by decide +kernel
theorem dX7_many_16 : decode cX7_many 16 = .ok (.iadd, 1) := by decide +kernel
theorem dX7_many_17 : decode cX7_many 17 = .ok (.istore_n 1, 1) := by decide +kernel
theorem dX7_many_18 : decode cX7_many 18 = .ok (.iinc 2 1, 3) := by decide +kernel
theorem dX7_many_21 : decode cX7_many 21 = .ok (.goto (-17), 3) := by decide +kernel
theorem dX7_many_24 : decode cX7_many 24 = .ok (.iload_n 1, 1) := by decide +kernel
theorem dX7_many_25 : decode cX7_many 25 = .ok (.ireturn, 1) := by decide +kernel
theorem dX7_answer_0 : decode cX7_answer 0 = .ok (.lload_n 1, 1) := by decide +kernel
theorem dX7_answer_1 : decode cX7_answer 1 = .ok (.lconst 0, 1) := by decide +kernel
theorem dX7_answer_2 : decode cX7_answer 2 = .ok (.lcmp, 1) := by decide +kernel
theorem dX7_answer_3 : decode cX7_answer 3 = .ok (.ifCond .ge 8, 3) := by decide +kernel
theorem dX7_answer_6 : decode cX7_answer 6 = .ok (.lload_n 1, 1) := by decide +kernel
theorem dX7_answer_7 : decode cX7_answer 7 = .ok (.lneg, 1) := by decide +kernel
theorem dX7_answer_8 : decode cX7_answer 8 = .ok (.goto 4, 3) := by decide +kernel
theorem dX7_answer_11 : decode cX7_answer 11 = .ok (.lload_n 1, 1) := by decide +kernel
theorem dX7_answer_12 : decode cX7_answer 12 = .ok (.lstore 5, 2) := by decide +kernel
theorem dX7_answer_14 : decode cX7_answer 14 = .ok (.lload_n 3, 1) := by decide +kernel
theorem dX7_answer_15 : decode cX7_answer 15 = .ok (.lconst 0, 1) := by decide +kernel
theorem dX7_answer_16 : decode cX7_answer 16 = .ok (.lcmp, 1) := by decide +kernel
theorem dX7_answer_17 : decode cX7_answer 17 = .ok (.ifCond .ge 8, 3) := by decide +kernel
theorem dX7_answer_20 : decode cX7_answer 20 = .ok (.lload_n 3, 1) := by decide +kernel
theorem dX7_answer_21 : decode cX7_answer 21 = .ok (.lneg, 1) := by decide +kernel
theorem dX7_answer_22 : decode cX7_answer 22 = .ok (.goto 4, 3) := by decide +kernel
theorem dX7_answer_25 : decode cX7_answer 25 = .ok (.lload_n 3, 1) := by decide +kernel
theorem dX7_answer_26 : decode cX7_answer 26 = .ok (.lstore 7, 2) := by decide +kernel
theorem dX7_answer_28 : decode cX7_answer 28 = .ok (.lload 7, 2) := by decide +kernel
theorem dX7_answer_30 : decode cX7_answer 30 = .ok (.lconst 0, 1) := by decide +kernel
theorem dX7_answer_31 : decode cX7_answer 31 = .ok (.lcmp, 1) := by decide +kernel
theorem dX7_answer_32 : decode cX7_answer 32 = .ok (.ifCond .eq 21, 3) := by decide +kernel
theorem dX7_answer_35 : decode cX7_answer 35 = .ok (.lload 5, 2) := by decide +kernel
theorem dX7_answer_37 : decode cX7_answer 37 = .ok (.lload 7, 2) := by decide +kernel
theorem dX7_answer_39 : decode cX7_answer 39 = .ok (.lrem, 1) := by decide +kernel
theorem dX7_answer_40 : decode cX7_answer 40 = .ok (.lstore 9, 2) := by decide +kernel
theorem dX7_answer_42 : decode cX7_answer 42 = .ok (.lload 7, 2) := by decide +kernel
theorem dX7_answer_44 : decode cX7_answer 44 = .ok (.lstore 5, 2) := by decide +kernel
theorem dX7_answer_46 : decode cX7_answer 46 = .ok (.lload 9, 2) := by decide +kernel
theorem dX7_answer_48 : decode cX7_answer 48 = .ok (.lstore 7, 2) := by decide +kernel
theorem dX7_answer_50 : decode cX7_answer 50 = .ok (.goto (-22), 3) := by decide +kernel
theorem dX7_answer_53 : decode cX7_answer 53 = .ok (.aload_n 0, 1) := by decide +kernel
theorem dX7_answer_54 : decode cX7_answer 54 = .ok (.lload_n 3, 1) := by decide +kernel
theorem dX7_answer_55 : decode cX7_answer 55 = .ok (.lconst 0, 1) := by decide +kernel
theorem dX7_answer_56 : decode cX7_answer 56 = .ok (.lcmp, 1) := by decide +kernel
theorem dX7_answer_57 : decode cX7_answer 57 = .ok (.ifCond .ge 11, 3) := by decide +kernel
theorem dX7_answer_60 : decode cX7_answer 60 = .ok (.lload_n 1, 1) := by decide +kernel
theorem dX7_answer_61 : decode cX7_answer 61 = .ok (.lneg, 1) := by decide +kernel
theorem dX7_answer_62 : decode cX7_answer 62 = .ok (.lload 5, 2) := by decide +kernel
theorem dX7_answer_64 : decode cX7_answer 64 = .ok (.ldiv, 1) := by decide +kernel
theorem dX7_answer_65 : decode cX7_answer 65 = .ok (.goto 7, 3) := by decide +kernel
theorem dX7_answer_68 : decode cX7_answer 68 = .ok (.lload_n 1, 1) := by decide +kernel
theorem dX7_answer_69 : decode cX7_answer 69 = .ok (.lload 5, 2) := by decide +kernel
theorem dX7_answer_71 : decode cX7_answer 71 = .ok (.ldiv, 1) := by decide +kernel
theorem dX7_answer_72 : decode cX7_answer 72 = .ok (.putfield 55, 3) := by decide +kernel
theorem dX7_answer_75 : decode cX7_answer 75 = .ok (.aload_n 0, 1) := by decide +kernel
theorem dX7_answer_76 : decode cX7_answer 76 = .ok (.lload_n 3, 1) := by decide +kernel
theorem dX7_answer_77 : decode cX7_answer 77 = .ok (.lconst 0, 1) := by decide +kernel
theorem dX7_answer_78 : decode cX7_answer 78 = .ok (.lcmp, 1) := by decide +kernel
theorem dX7_answer_79 : decode cX7_answer 79 = .ok (.ifCond .ge 11, 3) := by decide +kernel
theorem dX7_answer_82 : decode cX7_answer 82 = .ok (.lload_n 3, 1) := by decide +kernel
theorem dX7_answer_83 : decode cX7_answer 83 = .ok (.lneg, 1) := by decide +kernel
theorem dX7_answer_84 : decode cX7_answer 84 = .ok (.lload 5, 2) := by decide +kernel
theorem dX7_answer_86 : decode cX7_answer 86 = .ok (.ldiv, 1) := by decide +kernel
theorem dX7_answer_87 : decode cX7_answer 87 = .ok (.goto 7, 3) := by decide +kernel
theorem dX7_answer_90 : decode cX7_answer 90 = .ok (.lload_n 3, 1) := by decide +kernel
theorem dX7_answer_91 : decode cX7_answer 91 = .ok (.lload 5, 2) := by decide +kernel
theorem dX7_answer_93 : decode cX7_answer 93 = .ok (.ldiv, 1) := by decide +kernel
theorem dX7_answer_94 : decode cX7_answer 94 = .ok (.putfield 16, 3) := by decide +kernel
theorem dX7_answer_97 : decode cX7_answer 97 = .ok (.iconst 1, 1) := by decide +kernel
theorem dX7_answer_98 : decode cX7_answer 98 = .ok (.ireturn, 1) := by decide +kernel
theorem dX7_again_0 : decode cX7_again 0 = .ok (.aload_n 0, 1) := by decide +kernel
theorem dX7_again_1 : decode cX7_again 1 = .ok (.iconst 0, 1) := by decide +kernel
theorem dX7_again_2 : decode cX7_again 2 = .ok (.putfield 36, 3) := by decide +kernel
theorem dX7_again_5 : decode cX7_again 5 = .ok (.aload_n 0, 1) := by decide +kernel
theorem dX7_again_6 : decode cX7_again 6 = .ok (.iload_n 1, 1) := by decide +kernel
theorem dX7_again_7 : decode cX7_again 7 = .ok (.invokevirtual 58, 3) := by decide +kernel
theorem dX7_again_10 : decode cX7_again 10 = .ok (.ifCond .ne 5, 3) := by decide +kernel
theorem dX7_again_13 : decode cX7_again 13 = .ok (.iconst (-1), 1) := by decide +kernel
theorem dX7_again_14 : decode cX7_again 14 = .ok (.ireturn, 1) := by decide +kernel
theorem dX7_again_15 : decode cX7_again 15 = .ok (.aload_n 0, 1) := by decide +kernel
theorem dX7_again_16 : decode cX7_again 16 = .ok (.iload_n 1, 1) := by decide +kernel
theorem dX7_again_17 : decode cX7_again 17 = .ok (.invokevirtual 81, 3) := by decide +kernel
theorem dX7_again_20 : decode cX7_again 20 = .ok (.ifCond .eq 10, 3) := by decide +kernel
theorem dX7_again_23 : decode cX7_again 23 = .ok (.aload_n 0, 1) := by decide +kernel
theorem dX7_again_24 : decode cX7_again 24 = .ok (.lconst 1, 1) := by decide +kernel
theorem dX7_again_25 : decode cX7_again 25 = .ok (.lconst 1, 1) := by decide +kernel
theorem dX7_again_26 : decode cX7_again 26 = .ok (.invokevirtual 91, 3) := by decide +kernel
theorem dX7_again_29 : decode cX7_again 29 = .ok (.ireturn, 1) := by decide +kernel
theorem dX7_again_30 : decode cX7_again 30 = .ok (.aload_n 0, 1) := by decide +kernel
theorem dX7_again_31 : decode cX7_again 31 = .ok (.iconst 1, 1) := by decide +kernel
theorem dX7_again_32 : decode cX7_again 32 = .ok (.iload_n 1, 1) := by decide +kernel
theorem dX7_again_33 : decode cX7_again 33 = .ok (.ishl, 1) := by decide +kernel
theorem dX7_again_34 : decode cX7_again 34 = .ok (.iconst 0, 1) := by decide +kernel
theorem dX7_again_35 : decode cX7_again 35 = .ok (.invokevirtual 102, 3) := by decide +kernel
theorem dX7_again_38 : decode cX7_again 38 = .ok (.aload_n 0, 1) := by decide +kernel
theorem dX7_again_39 : decode cX7_again 39 = .ok (.iconst (-1), 1) := by decide +kernel
theorem dX7_again_40 : decode cX7_again 40 = .ok (.invokevirtual 87, 3) := by decide +kernel
theorem dX7_again_43 : decode cX7_again 43 = .ok (.lstore_n 2, 1) := by decide +kernel
theorem dX7_again_44 : decode cX7_again 44 = .ok (.lconst 0, 1) := by decide +kernel
theorem dX7_again_45 : decode cX7_again 45 = .ok (.lstore 4, 2) := by decide +kernel
theorem dX7_again_47 : decode cX7_again 47 = .ok (.iconst 0, 1) := by decide +kernel
theorem dX7_again_48 : decode cX7_again 48 = .ok (.istore 6, 2) := by decide +kernel
