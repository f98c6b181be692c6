theorem dX7_again_50 : decode cX7_again 50 = .ok (.iload 6, 2) := by decide +kernel
theorem dX7_again_52 : decode cX7_again 52 = .ok (.aload_n 0, 1) := by decide +kernel
theorem dX7_again_53 : decode cX7_again 53 = .ok (.getfield 40, 3) := by decide +kernel
theorem dX7_again_56 : decode cX7_again 56 = .ok (.if_icmp .ge 43, 3) := by decide +kernel
theorem dX7_again_59 : decode cX7_again 59 = .ok (.lload 4, 2) := by decide +kernel
theorem dX7_again_61 : decode cX7_again 61 = .ok (.aload_n 0, 1) := by decide +kernel
theorem dX7_again_62 : decode cX7_again 62 = .ok (.iload_n 1, 1) := by decide +kernel
theorem dX7_again_63 : decode cX7_again 63 = .ok (.iload 6, 2) := by decide +kernel
theorem dX7_again_65 : decode cX7_again 65 = .ok (.invokevirtual 47, 3) := by decide +kernel
theorem dX7_again_68 : decode cX7_again 68 = .ok (.ifCond .le 21, 3) := by decide +kernel
theorem dX7_again_71 : decode cX7_again 71 = .ok (.aload_n 0, 1) := by decide +kernel
theorem dX7_again_72 : decode cX7_again 72 = .ok (.iload_n 1, 1) := by decide +kernel
theorem dX7_again_73 : decode cX7_again 73 = .ok (.iload 6, 2) := by decide +kernel
theorem dX7_again_75 : decode cX7_again 75 = .ok (.invokevirtual 47, 3) := by decide +kernel
theorem dX7_again_78 : decode cX7_again 78 = .ok (.i2l, 1) := by decide +kernel
theorem dX7_again_79 : decode cX7_again 79 = .ok (.aload_n 0, 1) := by decide +kernel
theorem dX7_again_80 : decode cX7_again 80 = .ok (.iload 6, 2) := by decide +kernel
theorem dX7_again_82 : decode cX7_again 82 = .ok (.invokevirtual 87, 3) := by decide +kernel
theorem dX7_again_85 : decode cX7_again 85 = .ok (.lmul, 1) := by decide +kernel
theorem dX7_again_86 : decode cX7_again 86 = .ok (.goto 4, 3) := by decide +kernel
theorem dX7_again_89 : decode cX7_again 89 = .ok (.lconst 0, 1) := by decide +kernel
theorem dX7_again_90 : decode cX7_again 90 = .ok (.ladd, 1) := by decide +kernel
theorem dX7_again_91 : decode cX7_again 91 = .ok (.lstore 4, 2) := by decide +kernel
theorem dX7_again_93 : decode cX7_again 93 = .ok (.iinc 6 1, 3) := by decide +kernel
theorem dX7_again_96 : decode cX7_again 96 = .ok (.goto (-46), 3) := by decide +kernel
theorem dX7_again_99 : decode cX7_again 99 = .ok (.aload_n 0, 1) := by decide +kernel
theorem dX7_again_100 : decode cX7_again 100 = .ok (.lload 4, 2) := by decide +kernel
theorem dX7_again_102 : decode cX7_again 102 = .ok (.aload_n 0, 1) := by decide +kernel
theorem dX7_again_103 : decode cX7_again 103 = .ok (.iload_n 1, 1) := by decide +kernel
theorem dX7_again_104 : decode cX7_again 104 = .ok (.invokevirtual 51, 3) := by decide +kernel
theorem dX7_again_107 : decode cX7_again 107 = .ok (.i2l, 1) := by decide +kernel
theorem dX7_again_108 : decode cX7_again 108 = .ok (.lload_n 2, 1) := by decide +kernel
theorem dX7_again_109 : decode cX7_again 109 = .ok (.lmul, 1) := by decide +kernel
theorem dX7_again_110 : decode cX7_again 110 = .ok (.invokevirtual 91, 3) := by decide +kernel
theorem dX7_again_113 : decode cX7_again 113 = .ok (.ireturn, 1) := by decide +kernel
theorem dX7_before_0 : decode cX7_before 0 = .ok (.aload_n 0, 1) := by decide +kernel
theorem dX7_before_1 : decode cX7_before 1 = .ok (.iconst 0, 1) := by decide +kernel
theorem dX7_before_2 : decode cX7_before 2 = .ok (.putfield 36, 3) := by decide +kernel
theorem dX7_before_5 : decode cX7_before 5 = .ok (.aload_n 0, 1) := by decide +kernel
theorem dX7_before_6 : decode cX7_before 6 = .ok (.iload_n 1, 1) := by decide +kernel
theorem dX7_before_7 : decode cX7_before 7 = .ok (.invokevirtual 58, 3) := by decide +kernel
theorem dX7_before_10 : decode cX7_before 10 = .ok (.ifCond .eq 19, 3) := by decide +kernel
theorem dX7_before_13 : decode cX7_before 13 = .ok (.aload_n 0, 1) := by decide +kernel
theorem dX7_before_14 : decode cX7_before 14 = .ok (.iload_n 2, 1) := by decide +kernel
theorem dX7_before_15 : decode cX7_before 15 = .ok (.invokevirtual 58, 3) := by decide +kernel
theorem dX7_before_18 : decode cX7_before 18 = .ok (.ifCond .eq 11, 3) := by decide +kernel
theorem dX7_before_21 : decode cX7_before 21 = .ok (.aload_n 0, 1) := by decide +kernel
theorem dX7_before_22 : decode cX7_before 22 = .ok (.iload_n 3, 1) := by decide +kernel
theorem dX7_before_23 : decode cX7_before 23 = .ok (.invokevirtual 58, 3) := by decide +kernel
theorem dX7_before_26 : decode cX7_before 26 = .ok (.ifCond .ne 5, 3) := by decide +kernel
theorem dX7_before_29 : decode cX7_before 29 = .ok (.iconst (-1), 1) := by decide +kernel
theorem dX7_before_30 : decode cX7_before 30 = .ok (.ireturn, 1) := by decide +kernel
theorem dX7_before_31 : decode cX7_before 31 = .ok (.iload_n 2, 1) := by decide +kernel
theorem dX7_before_32 : decode cX7_before 32 = .ok (.iload_n 3, 1) := by decide +kernel
theorem dX7_before_33 : decode cX7_before 33 = .ok (.if_icmp .ne 6, 3) := by decide +kernel
theorem dX7_before_36 : decode cX7_before 36 = .ok (.bipush (-3), 2) := by decide +kernel
theorem dX7_before_38 : decode cX7_before 38 = .ok (.ireturn, 1) := by decide +kernel
theorem dX7_before_39 : decode cX7_before 39 = .ok (.aload_n 0, 1) := by decide +kernel
theorem dX7_before_40 : decode cX7_before 40 = .ok (.iconst 1, 1) := by decide +kernel
theorem dX7_before_41 : decode cX7_before 41 = .ok (.iload_n 2, 1) := by decide +kernel
theorem dX7_before_42 : decode cX7_before 42 = .ok (.ishl, 1) := by decide +kernel
theorem dX7_before_43 : decode cX7_before 43 = .ok (.iconst 1, 1) := by decide +kernel
theorem dX7_before_44 : decode cX7_before 44 = .ok (.iload_n 3, 1) := by decide +kernel
theorem dX7_before_45 : decode cX7_before 45 = .ok (.ishl, 1) := by decide +kernel
theorem dX7_before_46 : decode cX7_before 46 = .ok (.invokevirtual 102, 3) := by decide +kernel
theorem dX7_before_49 : decode cX7_before 49 = .ok (.aload_n 0, 1) := by decide +kernel
theorem dX7_before_50 : decode cX7_before 50 = .ok (.iload_n 1, 1) := by decide +kernel
theorem dX7_before_51 : decode cX7_before 51 = .ok (.invokevirtual 106, 3) := by decide +kernel
theorem dX7_before_54 : decode cX7_before 54 = .ok (.ireturn, 1) := by decide +kernel
theorem dX7_steps_0 : decode cX7_steps 0 = .ok (.aload_n 0, 1) := by decide +kernel
theorem dX7_steps_1 : decode cX7_steps 1 = .ok (.iconst 0, 1) := by decide +kernel
theorem dX7_steps_2 : decode cX7_steps 2 = .ok (.putfield 36, 3) := by decide +kernel
theorem dX7_steps_5 : decode cX7_steps 5 = .ok (.aload_n 0, 1) := by decide +kernel
theorem dX7_steps_6 : decode cX7_steps 6 = .ok (.iload_n 1, 1) := by decide +kernel
theorem dX7_steps_7 : decode cX7_steps 7 = .ok (.invokevirtual 58, 3) := by decide +kernel
theorem dX7_steps_10 : decode cX7_steps 10 = .ok (.ifCond .eq 17, 3) := by decide +kernel
theorem dX7_steps_13 : decode cX7_steps 13 = .ok (.iload_n 2, 1) := by decide +kernel
theorem dX7_steps_14 : decode cX7_steps 14 = .ok (.ifCond .lt 13, 3) := by decide +kernel
theorem dX7_steps_17 : decode cX7_steps 17 = .ok (.iload_n 2, 1) := by decide +kernel
theorem dX7_steps_18 : decode cX7_steps 18 = .ok (.iconst 1, 1) := by decide +kernel
theorem dX7_steps_19 : decode cX7_steps 19 = .ok (.aload_n 0, 1) := by decide +kernel
theorem dX7_steps_20 : decode cX7_steps 20 = .ok (.getfield 40, 3) := by decide +kernel
theorem dX7_steps_23 : decode cX7_steps 23 = .ok (.ishl, 1) := by decide +kernel
theorem dX7_steps_24 : decode cX7_steps 24 = .ok (.if_icmp .lt 5, 3) := by decide +kernel
theorem dX7_steps_27 : decode cX7_steps 27 = .ok (.iconst (-1), 1) := by decide +kernel
theorem dX7_steps_28 : decode cX7_steps 28 = .ok (.ireturn, 1) := by decide +kernel
theorem dX7_steps_29 : decode cX7_steps 29 = .ok (.aload_n 0, 1) := by decide +kernel
theorem dX7_steps_30 : decode cX7_steps 30 = .ok (.iload_n 1, 1) := by decide +kernel
theorem dX7_steps_31 : decode cX7_steps 31 = .ok (.iload_n 2, 1) := by decide +kernel
theorem dX7_steps_32 : decode cX7_steps 32 = .ok (.invokevirtual 109, 3) := by decide +kernel
theorem dX7_steps_35 : decode cX7_steps 35 = .ok (.ifCond .ne 6, 3) := by decide +kernel
theorem dX7_steps_38 : decode cX7_steps 38 = .ok (.bipush (-3), 2) := by decide +kernel
theorem dX7_steps_40 : decode cX7_steps 40 = .ok (.ireturn, 1) := by decide +kernel
theorem dX7_steps_41 : decode cX7_steps 41 = .ok (.aload_n 0, 1) := by decide +kernel
theorem dX7_steps_42 : decode cX7_steps 42 = .ok (.iconst 1, 1) := by decide +kernel
theorem dX7_steps_43 : decode cX7_steps 43 = .ok (.iload_n 1, 1) := by decide +kernel
theorem dX7_steps_44 : decode cX7_steps 44 = .ok (.ishl, 1) := by decide +kernel
theorem dX7_steps_45 : decode cX7_steps 45 = .ok (.iload_n 2, 1) := by decide +kernel
theorem dX7_steps_46 : decode cX7_steps 46 = .ok (.invokevirtual 66, 3) := by decide +kernel
theorem dX7_steps_49 : decode cX7_steps 49 = .ok (.istore_n 3, 1) := by decide +kernel
theorem dX7_steps_50 : decode cX7_steps 50 = .ok (.iconst 0, 1) := by decide +kernel
theorem dX7_steps_51 : decode cX7_steps 51 = .ok (.istore 4, 2) := by decide +kernel
theorem dX7_steps_53 : decode cX7_steps 53 = .ok (.iload 4, 2) := by decide +kernel
theorem dX7_steps_55 : decode cX7_steps 55 = .ok (.aload_n 0, 1) := by decide +kernel
theorem dX7_steps_56 : decode cX7_steps 56 = .ok (.getfield 40, 3) := by decide +kernel
theorem dX7_steps_59 : decode cX7_steps 59 = .ok (.if_icmp .ge 50, 3) := by decide +kernel
theorem dX7_steps_62 : decode cX7_steps 62 = .ok (.iload_n 2, 1) := by decide +kernel
theorem dX7_steps_63 : decode cX7_steps 63 = .ok (.iload 4, 2) := by decide +kernel
theorem dX7_steps_65 : decode cX7_steps 65 = .ok (.invokestatic 62, 3) := by decide +kernel
theorem dX7_steps_68 : decode cX7_steps 68 = .ok (.ifCond .ne 12, 3) := by decide +kernel
theorem dX7_steps_71 : decode cX7_steps 71 = .ok (.iload_n 3, 1) := by decide +kernel
theorem dX7_steps_72 : decode cX7_steps 72 = .ok (.iload 4, 2) := by decide +kernel
theorem dX7_steps_74 : decode cX7_steps 74 = .ok (.invokestatic 62, 3) := by decide +kernel
theorem dX7_steps_77 : decode cX7_steps 77 = .ok (.ifCond .ne 13, 3) := by decide +kernel
theorem dX7_steps_80 : decode cX7_steps 80 = .ok (.aload_n 0, 1) := by decide +kernel
theorem dX7_steps_81 : decode cX7_steps 81 = .ok (.iload 4, 2) := by decide +kernel
theorem dX7_steps_83 : decode cX7_steps 83 = .ok (.lconst 0, 1) := by decide +kernel
theorem dX7_steps_84 : decode cX7_steps 84 = .ok (.invokevirtual 95, 3) := by decide +kernel
theorem dX7_steps_87 : decode cX7_steps 87 = .ok (.goto 16, 3) := by decide +kernel
theorem dX7_steps_90 : decode cX7_steps 90 = .ok (.aload_n 0, 1) := by decide +kernel
theorem dX7_steps_91 : decode cX7_steps 91 = .ok (.iload 4, 2) := by decide +kernel
theorem dX7_steps_93 : decode cX7_steps 93 = .ok (.aload_n 0, 1) := by decide +kernel
theorem dX7_steps_94 : decode cX7_steps 94 = .ok (.iload 4, 2) := by decide +kernel
theorem dX7_steps_96 : decode cX7_steps 96 = .ok (.invokevirtual 51, 3) := by decide +kernel
theorem dX7_steps_99 : decode cX7_steps 99 = .ok (.i2l, 1) := by decide +kernel
theorem dX7_steps_100 : decode cX7_steps 100 = .ok (.invokevirtual 99, 3) := by decide +kernel
theorem dX7_steps_103 : decode cX7_steps 103 = .ok (.iinc 4 1, 3) := by decide +kernel
theorem dX7_steps_106 : decode cX7_steps 106 = .ok (.goto (-53), 3) := by decide +kernel
theorem dX7_steps_109 : decode cX7_steps 109 = .ok (.aload_n 0, 1) := by decide +kernel
theorem dX7_steps_110 : decode cX7_steps 110 = .ok (.iload_n 1, 1) := by decide +kernel
theorem dX7_steps_111 : decode cX7_steps 111 = .ok (.invokevirtual 106, 3) := by decide +kernel
theorem dX7_steps_114 : decode cX7_steps 114 = .ok (.ireturn, 1) := by decide +kernel
theorem dX7_isSure_0 : decode cX7_isSure 0 = .ok (.aload_n 0, 1) := by decide +kernel
theorem dX7_isSure_1 : decode cX7_isSure 1 = .ok (.iconst 1, 1) := by decide +kernel
theorem dX7_isSure_2 : decode cX7_isSure 2 = .ok (.iload_n 1, 1) := by decide +kernel
theorem dX7_isSure_3 : decode cX7_isSure 3 = .ok (.ishl, 1) := by decide +kernel
theorem dX7_isSure_4 : decode cX7_isSure 4 = .ok (.iload_n 2, 1) := by decide +kernel
theorem dX7_isSure_5 : decode cX7_isSure 5 = .ok (.invokevirtual 66, 3) := by decide +kernel
theorem dX7_isSure_8 : decode cX7_isSure 8 = .ok (.istore_n 3, 1) := by decide +kernel
theorem dX7_isSure_9 : decode cX7_isSure 9 = .ok (.iload_n 3, 1) := by decide +kernel
theorem dX7_isSure_10 : decode cX7_isSure 10 = .ok (.aload_n 0, 1) := by decide +kernel
theorem dX7_isSure_11 : decode cX7_isSure 11 = .ok (.iload_n 2, 1) := by decide +kernel
theorem dX7_isSure_12 : decode cX7_isSure 12 = .ok (.iload_n 2, 1) := by decide +kernel
theorem dX7_isSure_13 : decode cX7_isSure 13 = .ok (.invokevirtual 69, 3) := by decide +kernel
theorem dX7_isSure_16 : decode cX7_isSure 16 = .ok (.iconst (-1), 1) := by decide +kernel
theorem dX7_isSure_17 : decode cX7_isSure 17 = .ok (.ixor, 1) := by decide +kernel
theorem dX7_isSure_18 : decode cX7_isSure 18 = .ok (.iand, 1) := by decide +kernel
theorem dX7_isSure_19 : decode cX7_isSure 19 = .ok (.ifCond .ne 7, 3) := by decide +kernel
theorem dX7_isSure_22 : decode cX7_isSure 22 = .ok (.iconst 1, 1) := by decide +kernel
theorem dX7_isSure_23 : decode cX7_isSure 23 = .ok (.goto 4, 3) := by decide +kernel
theorem dX7_isSure_26 : decode cX7_isSure 26 = .ok (.iconst 0, 1) := by decide +kernel
theorem dX7_isSure_27 : decode cX7_isSure 27 = .ok (.ireturn, 1) := by decide +kernel
theorem dX7_visits_0 : decode cX7_visits 0 = .ok (.aload_n 0, 1) := by decide +kernel
theorem dX7_visits_1 : decode cX7_visits 1 = .ok (.iconst 0, 1) := by decide +kernel
theorem dX7_visits_2 : decode cX7_visits 2 = .ok (.putfield 36, 3) := by decide +kernel
theorem dX7_visits_5 : decode cX7_visits 5 = .ok (.aload_n 0, 1) := by decide +kernel
theorem dX7_visits_6 : decode cX7_visits 6 = .ok (.iload_n 1, 1) := by decide +kernel
theorem dX7_visits_7 : decode cX7_visits 7 = .ok (.invokevirtual 58, 3) := by decide +kernel
theorem dX7_visits_10 : decode cX7_visits 10 = .ok (.ifCond .eq 11, 3) := by decide +kernel
theorem dX7_visits_13 : decode cX7_visits 13 = .ok (.aload_n 0, 1) := by decide +kernel
theorem dX7_visits_14 : decode cX7_visits 14 = .ok (.iload_n 2, 1) := by decide +kernel
theorem dX7_visits_15 : decode cX7_visits 15 = .ok (.invokevirtual 58, 3) := by decide +kernel
theorem dX7_visits_18 : decode cX7_visits 18 = .ok (.ifCond .ne 5, 3) := by decide +kernel
theorem dX7_visits_21 : decode cX7_visits 21 = .ok (.iconst (-1), 1) := by decide +kernel
theorem dX7_visits_22 : decode cX7_visits 22 = .ok (.ireturn, 1) := by decide +kernel
theorem dX7_visits_23 : decode cX7_visits 23 = .ok (.aload_n 0, 1) := by decide +kernel
theorem dX7_visits_24 : decode cX7_visits 24 = .ok (.iconst 1, 1) := by decide +kernel
theorem dX7_visits_25 : decode cX7_visits 25 = .ok (.iload_n 2, 1) := by decide +kernel
theorem dX7_visits_26 : decode cX7_visits 26 = .ok (.ishl, 1) := by decide +kernel
theorem dX7_visits_27 : decode cX7_visits 27 = .ok (.iconst 0, 1) := by decide +kernel
theorem dX7_visits_28 : decode cX7_visits 28 = .ok (.invokevirtual 69, 3) := by decide +kernel
theorem dX7_visits_31 : decode cX7_visits 31 = .ok (.istore_n 3, 1) := by decide +kernel
theorem dX7_visits_32 : decode cX7_visits 32 = .ok (.iload_n 3, 1) := by decide +kernel
theorem dX7_visits_33 : decode cX7_visits 33 = .ok (.iload_n 1, 1) := by decide +kernel
theorem dX7_visits_34 : decode cX7_visits 34 = .ok (.invokestatic 62, 3) := by decide +kernel
theorem dX7_visits_37 : decode cX7_visits 37 = .ok (.ifCond .eq 14, 3) := by decide +kernel
theorem dX7_visits_40 : decode cX7_visits 40 = .ok (.aload_n 0, 1) := by decide +kernel
theorem dX7_visits_41 : decode cX7_visits 41 = .ok (.iload_n 2, 1) := by decide +kernel
theorem dX7_visits_42 : decode cX7_visits 42 = .ok (.invokevirtual 78, 3) := by decide +kernel
theorem dX7_visits_45 : decode cX7_visits 45 = .ok (.ifCond .eq 6, 3) := by decide +kernel
theorem dX7_visits_48 : decode cX7_visits 48 = .ok (.bipush (-3), 2) := by decide +kernel
theorem dX7_visits_50 : decode cX7_visits 50 = .ok (.ireturn, 1) := by decide +kernel
theorem dX7_visits_51 : decode cX7_visits 51 = .ok (.iload_n 3, 1) := by decide +kernel
theorem dX7_visits_52 : decode cX7_visits 52 = .ok (.iload_n 1, 1) := by decide +kernel
theorem dX7_visits_53 : decode cX7_visits 53 = .ok (.invokestatic 62, 3) := by decide +kernel
theorem dX7_visits_56 : decode cX7_visits 56 = .ok (.ifCond .ne 10, 3) := by decide +kernel
theorem dX7_visits_59 : decode cX7_visits 59 = .ok (.aload_n 0, 1) := by decide +kernel
theorem dX7_visits_60 : decode cX7_visits 60 = .ok (.lconst 0, 1) := by decide +kernel
theorem dX7_visits_61 : decode cX7_visits 61 = .ok (.lconst 1, 1) := by decide +kernel
theorem dX7_visits_62 : decode cX7_visits 62 = .ok (.invokevirtual 91, 3) := by decide +kernel
theorem dX7_visits_65 : decode cX7_visits 65 = .ok (.ireturn, 1) := by decide +kernel
theorem dX7_visits_66 : decode cX7_visits 66 = .ok (.iconst 0, 1) := by decide +kernel
theorem dX7_visits_67 : decode cX7_visits 67 = .ok (.istore 4, 2) := by decide +kernel
theorem dX7_visits_69 : decode cX7_visits 69 = .ok (.iload 4, 2) := by decide +kernel
theorem dX7_visits_71 : decode cX7_visits 71 = .ok (.aload_n 0, 1) := by decide +kernel
theorem dX7_visits_72 : decode cX7_visits 72 = .ok (.getfield 40, 3) := by decide +kernel
theorem dX7_visits_75 : decode cX7_visits 75 = .ok (.if_icmp .ge 51, 3) := by decide +kernel
theorem dX7_visits_78 : decode cX7_visits 78 = .ok (.iload_n 3, 1) := by decide +kernel
theorem dX7_visits_79 : decode cX7_visits 79 = .ok (.iload 4, 2) := by decide +kernel
theorem dX7_visits_81 : decode cX7_visits 81 = .ok (.invokestatic 62, 3) := by decide +kernel
theorem dX7_visits_84 : decode cX7_visits 84 = .ok (.ifCond .eq 29, 3) := by decide +kernel
theorem dX7_visits_87 : decode cX7_visits 87 = .ok (.aload_n 0, 1) := by decide +kernel
theorem dX7_visits_88 : decode cX7_visits 88 = .ok (.iload 4, 2) := by decide +kernel
theorem dX7_visits_90 : decode cX7_visits 90 = .ok (.iload 4, 2) := by decide +kernel
theorem dX7_visits_92 : decode cX7_visits 92 = .ok (.iload_n 2, 1) := by decide +kernel
theorem dX7_visits_93 : decode cX7_visits 93 = .ok (.if_icmp .ne 13, 3) := by decide +kernel
theorem dX7_visits_96 : decode cX7_visits 96 = .ok (.aload_n 0, 1) := by decide +kernel
theorem dX7_visits_97 : decode cX7_visits 97 = .ok (.iload 4, 2) := by decide +kernel
theorem dX7_visits_99 : decode cX7_visits 99 = .ok (.invokevirtual 51, 3) := by decide +kernel
theorem dX7_visits_102 : decode cX7_visits 102 = .ok (.i2l, 1) := by decide +kernel
theorem dX7_visits_103 : decode cX7_visits 103 = .ok (.goto 4, 3) := by decide +kernel
theorem dX7_visits_106 : decode cX7_visits 106 = .ok (.lconst 0, 1) := by decide +kernel
theorem dX7_visits_107 : decode cX7_visits 107 = .ok (.invokevirtual 99, 3) := by decide +kernel
theorem dX7_visits_110 : decode cX7_visits 110 = .ok (.goto 10, 3) := by decide +kernel
theorem dX7_visits_113 : decode cX7_visits 113 = .ok (.aload_n 0, 1) := by decide +kernel
theorem dX7_visits_114 : decode cX7_visits 114 = .ok (.iload 4, 2) := by decide +kernel
theorem dX7_visits_116 : decode cX7_visits 116 = .ok (.lconst 0, 1) := by decide +kernel
theorem dX7_visits_117 : decode cX7_visits 117 = .ok (.invokevirtual 95, 3) := by decide +kernel
theorem dX7_visits_120 : decode cX7_visits 120 = .ok (.iinc 4 1, 3) := by decide +kernel
theorem dX7_visits_123 : decode cX7_visits 123 = .ok (.goto (-54), 3) := by decide +kernel
theorem dX7_visits_126 : decode cX7_visits 126 = .ok (.aload_n 0, 1) := by decide +kernel
theorem dX7_visits_127 : decode cX7_visits 127 = .ok (.iload_n 1, 1) := by decide +kernel
theorem dX7_visits_128 : decode cX7_visits 128 = .ok (.invokevirtual 106, 3) := by decide +kernel
theorem dX7_visits_131 : decode cX7_visits 131 = .ok (.ireturn, 1) := by decide +kernel
theorem dX7_share_0 : decode cX7_share 0 = .ok (.aload_n 0, 1) := by decide +kernel
theorem dX7_share_1 : decode cX7_share 1 = .ok (.iconst 0, 1) := by decide +kernel
theorem dX7_share_2 : decode cX7_share 2 = .ok (.putfield 36, 3) := by decide +kernel
theorem dX7_share_5 : decode cX7_share 5 = .ok (.aload_n 0, 1) := by decide +kernel
theorem dX7_share_6 : decode cX7_share 6 = .ok (.iload_n 1, 1) := by decide +kernel
theorem dX7_share_7 : decode cX7_share 7 = .ok (.invokevirtual 58, 3) := by decide +kernel
theorem dX7_share_10 : decode cX7_share 10 = .ok (.ifCond .eq 11, 3) := by decide +kernel
theorem dX7_share_13 : decode cX7_share 13 = .ok (.aload_n 0, 1) := by decide +kernel
theorem dX7_share_14 : decode cX7_share 14 = .ok (.iload_n 2, 1) := by decide +kernel
theorem dX7_share_15 : decode cX7_share 15 = .ok (.invokevirtual 58, 3) := by decide +kernel
theorem dX7_share_18 : decode cX7_share 18 = .ok (.ifCond .ne 5, 3) := by decide +kernel
theorem dX7_share_21 : decode cX7_share 21 = .ok (.iconst (-1), 1) := by decide +kernel
theorem dX7_share_22 : decode cX7_share 22 = .ok (.ireturn, 1) := by decide +kernel
theorem dX7_share_23 : decode cX7_share 23 = .ok (.aload_n 0, 1) := by decide +kernel
theorem dX7_share_24 : decode cX7_share 24 = .ok (.iload_n 2, 1) := by decide +kernel
theorem dX7_share_25 : decode cX7_share 25 = .ok (.invokevirtual 78, 3) := by decide +kernel
theorem dX7_share_28 : decode cX7_share 28 = .ok (.ifCond .ne 10, 3) := by decide +kernel
theorem dX7_share_31 : decode cX7_share 31 = .ok (.aload_n 0, 1) := by decide +kernel
theorem dX7_share_32 : decode cX7_share 32 = .ok (.lconst 0, 1) := by decide +kernel
theorem dX7_share_33 : decode cX7_share 33 = .ok (.lconst 1, 1) := by decide +kernel
theorem dX7_share_34 : decode cX7_share 34 = .ok (.invokevirtual 91, 3) := by decide +kernel
theorem dX7_share_37 : decode cX7_share 37 = .ok (.ireturn, 1) := by decide +kernel
theorem dX7_share_38 : decode cX7_share 38 = .ok (.aload_n 0, 1) := by decide +kernel
theorem dX7_share_39 : decode cX7_share 39 = .ok (.iload_n 2, 1) := by decide +kernel
theorem dX7_share_40 : decode cX7_share 40 = .ok (.invokevirtual 72, 3) := by decide +kernel
theorem dX7_share_43 : decode cX7_share 43 = .ok (.istore_n 3, 1) := by decide +kernel
theorem dX7_share_44 : decode cX7_share 44 = .ok (.aload_n 0, 1) := by decide +kernel
theorem dX7_share_45 : decode cX7_share 45 = .ok (.iload_n 3, 1) := by decide +kernel
theorem dX7_share_46 : decode cX7_share 46 = .ok (.iconst 0, 1) := by decide +kernel
theorem dX7_share_47 : decode cX7_share 47 = .ok (.invokevirtual 102, 3) := by decide +kernel
theorem dX7_share_50 : decode cX7_share 50 = .ok (.aload_n 0, 1) := by decide +kernel
theorem dX7_share_51 : decode cX7_share 51 = .ok (.iload_n 1, 1) := by decide +kernel
theorem dX7_share_52 : decode cX7_share 52 = .ok (.invokevirtual 106, 3) := by decide +kernel
theorem dX7_share_55 : decode cX7_share 55 = .ok (.pop, 1) := by decide +kernel
theorem dX7_share_56 : decode cX7_share 56 = .ok (.aload_n 0, 1) := by decide +kernel
theorem dX7_share_57 : decode cX7_share 57 = .ok (.getfield 55, 3) := by decide +kernel
theorem dX7_share_60 : decode cX7_share 60 = .ok (.lstore 4, 2) := by decide +kernel
theorem dX7_share_62 : decode cX7_share 62 = .ok (.aload_n 0, 1) := by decide +kernel
theorem dX7_share_63 : decode cX7_share 63 = .ok (.getfield 16, 3) := by decide +kernel
theorem dX7_share_66 : decode cX7_share 66 = .ok (.lstore 6, 2) := by decide +kernel
theorem dX7_share_68 : decode cX7_share 68 = .ok (.aload_n 0, 1) := by decide +kernel
theorem dX7_share_69 : decode cX7_share 69 = .ok (.iload_n 2, 1) := by decide +kernel
theorem dX7_share_70 : decode cX7_share 70 = .ok (.invokevirtual 81, 3) := by decide +kernel
theorem dX7_share_73 : decode cX7_share 73 = .ok (.ifCond .eq 12, 3) := by decide +kernel
theorem dX7_share_76 : decode cX7_share 76 = .ok (.aload_n 0, 1) := by decide +kernel
theorem dX7_share_77 : decode cX7_share 77 = .ok (.lload 4, 2) := by decide +kernel
theorem dX7_share_79 : decode cX7_share 79 = .ok (.lload 6, 2) := by decide +kernel
theorem dX7_share_81 : decode cX7_share 81 = .ok (.invokevirtual 91, 3) := by decide +kernel
theorem dX7_share_84 : decode cX7_share 84 = .ok (.ireturn, 1) := by decide +kernel
theorem dX7_share_85 : decode cX7_share 85 = .ok (.lconst 0, 1) := by decide +kernel
theorem dX7_share_86 : decode cX7_share 86 = .ok (.lstore 8, 2) := by decide +kernel
theorem dX7_share_88 : decode cX7_share 88 = .ok (.lconst 0, 1) := by decide +kernel
theorem dX7_share_89 : decode cX7_share 89 = .ok (.lstore 10, 2) := by decide +kernel
theorem dX7_share_91 : decode cX7_share 91 = .ok (.iconst 0, 1) := by decide +kernel
theorem dX7_share_92 : decode cX7_share 92 = .ok (.istore 12, 2) := by decide +kernel
theorem dX7_share_94 : decode cX7_share 94 = .ok (.iload 12, 2) := by decide +kernel
theorem dX7_share_96 : decode cX7_share 96 = .ok (.aload_n 0, 1) := by decide +kernel
theorem dX7_share_97 : decode cX7_share 97 = .ok (.getfield 40, 3) := by decide +kernel
theorem dX7_share_100 : decode cX7_share 100 = .ok (.if_icmp .ge 149, 3) := by decide +kernel
theorem dX7_share_103 : decode cX7_share 103 = .ok (.iload_n 3, 1) := by decide +kernel
theorem dX7_share_104 : decode cX7_share 104 = .ok (.iload 12, 2) := by decide +kernel
theorem dX7_share_106 : decode cX7_share 106 = .ok (.invokestatic 62, 3) := by decide +kernel
theorem dX7_share_109 : decode cX7_share 109 = .ok (.ifCond .eq 134, 3) := by decide +kernel
theorem dX7_share_112 : decode cX7_share 112 = .ok (.iconst 0, 1) := by decide +kernel
theorem dX7_share_113 : decode cX7_share 113 = .ok (.istore 13, 2) := by decide +kernel
theorem dX7_share_115 : decode cX7_share 115 = .ok (.iload 13, 2) := by decide +kernel
theorem dX7_share_117 : decode cX7_share 117 = .ok (.aload_n 0, 1) := by decide +kernel
theorem dX7_share_118 : decode cX7_share 118 = .ok (.getfield 40, 3) := by decide +kernel
theorem dX7_share_121 : decode cX7_share 121 = .ok (.if_icmp .ge 42, 3) := by decide +kernel
theorem dX7_share_124 : decode cX7_share 124 = .ok (.iload_n 3, 1) := by decide +kernel
theorem dX7_share_125 : decode cX7_share 125 = .ok (.iload 13, 2) := by decide +kernel
theorem dX7_share_127 : decode cX7_share 127 = .ok (.invokestatic 62, 3) := by decide +kernel
theorem dX7_share_130 : decode cX7_share 130 = .ok (.ifCond .eq 20, 3) := by decide +kernel
theorem dX7_share_133 : decode cX7_share 133 = .ok (.iload 13, 2) := by decide +kernel
theorem dX7_share_135 : decode cX7_share 135 = .ok (.iload 12, 2) := by decide +kernel
theorem dX7_share_137 : decode cX7_share 137 = .ok (.if_icmp .eq 13, 3) := by decide +kernel
theorem dX7_share_140 : decode cX7_share 140 = .ok (.aload_n 0, 1) := by decide +kernel
theorem dX7_share_141 : decode cX7_share 141 = .ok (.iload 13, 2) := by decide +kernel
theorem dX7_share_143 : decode cX7_share 143 = .ok (.lconst 0, 1) := by decide +kernel
theorem dX7_share_144 : decode cX7_share 144 = .ok (.invokevirtual 99, 3) := by decide +kernel
theorem dX7_share_147 : decode cX7_share 147 = .ok (.goto 10, 3) := by decide +kernel
theorem dX7_share_150 : decode cX7_share 150 = .ok (.aload_n 0, 1) := by decide +kernel
theorem dX7_share_151 : decode cX7_share 151 = .ok (.iload 13, 2) := by decide +kernel
theorem dX7_share_153 : decode cX7_share 153 = .ok (.lconst 0, 1) := by decide +kernel
theorem dX7_share_154 : decode cX7_share 154 = .ok (.invokevirtual 95, 3) := by decide +kernel
theorem dX7_share_157 : decode cX7_share 157 = .ok (.iinc 13 1, 3) := by decide +kernel
theorem dX7_share_160 : decode cX7_share 160 = .ok (.goto (-45), 3) := by decide +kernel
theorem dX7_share_163 : decode cX7_share 163 = .ok (.iconst 0, 1) := by decide +kernel
theorem dX7_share_164 : decode cX7_share 164 = .ok (.istore 13, 2) := by decide +kernel
theorem dX7_share_166 : decode cX7_share 166 = .ok (.iload 13, 2) := by decide +kernel
theorem dX7_share_168 : decode cX7_share 168 = .ok (.aload_n 0, 1) := by decide +kernel
theorem dX7_share_169 : decode cX7_share 169 = .ok (.getfield 40, 3) := by decide +kernel
theorem dX7_share_172 : decode cX7_share 172 = .ok (.if_icmp .ge 34, 3) := by decide +kernel
theorem dX7_share_175 : decode cX7_share 175 = .ok (.aload_n 0, 1) := by decide +kernel
theorem dX7_share_176 : decode cX7_share 176 = .ok (.getfield 20, 3) := by decide +kernel
theorem dX7_share_179 : decode cX7_share 179 = .ok (.bipush 7, 2) := by decide +kernel
theorem dX7_share_181 : decode cX7_share 181 = .ok (.iload 13, 2) := by decide +kernel
theorem dX7_share_183 : decode cX7_share 183 = .ok (.imul, 1) := by decide +kernel
theorem dX7_share_184 : decode cX7_share 184 = .ok (.iload 12, 2) := by decide +kernel
theorem dX7_share_186 : decode cX7_share 186 = .ok (.iadd, 1) := by decide +kernel
theorem dX7_share_187 : decode cX7_share 187 = .ok (.iload 13, 2) := by decide +kernel
theorem dX7_share_189 : decode cX7_share 189 = .ok (.iload 12, 2) := by decide +kernel
theorem dX7_share_191 : decode cX7_share 191 = .ok (.if_icmp .ne 7, 3) := by decide +kernel
theorem dX7_share_194 : decode cX7_share 194 = .ok (.lconst 1, 1) := by decide +kernel
theorem dX7_share_195 : decode cX7_share 195 = .ok (.goto 4, 3) := by decide +kernel
theorem dX7_share_198 : decode cX7_share 198 = .ok (.lconst 0, 1) := by decide +kernel
theorem dX7_share_199 : decode cX7_share 199 = .ok (.lastore, 1) := by decide +kernel
theorem dX7_share_200 : decode cX7_share 200 = .ok (.iinc 13 1, 3) := by decide +kernel
theorem dX7_share_203 : decode cX7_share 203 = .ok (.goto (-37), 3) := by decide +kernel
theorem dX7_share_206 : decode cX7_share 206 = .ok (.aload_n 0, 1) := by decide +kernel
theorem dX7_share_207 : decode cX7_share 207 = .ok (.iload 12, 2) := by decide +kernel
theorem dX7_share_209 : decode cX7_share 209 = .ok (.invokevirtual 51, 3) := by decide +kernel
theorem dX7_share_212 : decode cX7_share 212 = .ok (.i2l, 1) := by decide +kernel
theorem dX7_share_213 : decode cX7_share 213 = .ok (.aload_n 0, 1) := by decide +kernel
theorem dX7_share_214 : decode cX7_share 214 = .ok (.iconst (-1), 1) := by decide +kernel
theorem dX7_share_215 : decode cX7_share 215 = .ok (.invokevirtual 87, 3) := by decide +kernel
theorem dX7_share_218 : decode cX7_share 218 = .ok (.lmul, 1) := by decide +kernel
theorem dX7_share_219 : decode cX7_share 219 = .ok (.lstore 13, 2) := by decide +kernel
theorem dX7_share_221 : decode cX7_share 221 = .ok (.iload 12, 2) := by decide +kernel
theorem dX7_share_223 : decode cX7_share 223 = .ok (.iload_n 2, 1) := by decide +kernel
theorem dX7_share_224 : decode cX7_share 224 = .ok (.if_icmp .ne 8, 3) := by decide +kernel
theorem dX7_share_227 : decode cX7_share 227 = .ok (.lload 13, 2) := by decide +kernel
theorem dX7_share_229 : decode cX7_share 229 = .ok (.goto 5, 3) := by decide +kernel
theorem dX7_share_232 : decode cX7_share 232 = .ok (.lload 8, 2) := by decide +kernel
theorem dX7_share_234 : decode cX7_share 234 = .ok (.lstore 8, 2) := by decide +kernel
theorem dX7_share_236 : decode cX7_share 236 = .ok (.lload 10, 2) := by decide +kernel
theorem dX7_share_238 : decode cX7_share 238 = .ok (.lload 13, 2) := by decide +kernel
theorem dX7_share_240 : decode cX7_share 240 = .ok (.ladd, 1) := by decide +kernel
theorem dX7_share_241 : decode cX7_share 241 = .ok (.lstore 10, 2) := by decide +kernel
theorem dX7_share_243 : decode cX7_share 243 = .ok (.iinc 12 1, 3) := by decide +kernel
theorem dX7_share_246 : decode cX7_share 246 = .ok (.goto (-152), 3) := by decide +kernel
theorem dX7_share_249 : decode cX7_share 249 = .ok (.aload_n 0, 1) := by decide +kernel
theorem dX7_share_250 : decode cX7_share 250 = .ok (.lload 8, 2) := by decide +kernel
theorem dX7_share_252 : decode cX7_share 252 = .ok (.lload 10, 2) := by decide +kernel
theorem dX7_share_254 : decode cX7_share 254 = .ok (.invokevirtual 91, 3) := by decide +kernel
theorem dX7_share_257 : decode cX7_share 257 = .ok (.pop, 1) := by decide +kernel
theorem dX7_share_258 : decode cX7_share 258 = .ok (.aload_n 0, 1) := by decide +kernel
theorem dX7_share_259 : decode cX7_share 259 = .ok (.lload 4, 2) := by decide +kernel
theorem dX7_share_261 : decode cX7_share 261 = .ok (.aload_n 0, 1) := by decide +kernel
theorem dX7_share_262 : decode cX7_share 262 = .ok (.getfield 55, 3) := by decide +kernel
theorem dX7_share_265 : decode cX7_share 265 = .ok (.lmul, 1) := by decide +kernel
theorem dX7_share_266 : decode cX7_share 266 = .ok (.lload 6, 2) := by decide +kernel
theorem dX7_share_268 : decode cX7_share 268 = .ok (.aload_n 0, 1) := by decide +kernel
theorem dX7_share_269 : decode cX7_share 269 = .ok (.getfield 16, 3) := by decide +kernel
theorem dX7_share_272 : decode cX7_share 272 = .ok (.lmul, 1) := by decide +kernel
theorem dX7_share_273 : decode cX7_share 273 = .ok (.invokevirtual 91, 3) := by decide +kernel
theorem dX7_share_276 : decode cX7_share 276 = .ok (.ireturn, 1) := by decide +kernel
theorem dX7_after_0 : decode cX7_after 0 = .ok (.aload_n 0, 1) := by decide +kernel
theorem dX7_after_1 : decode cX7_after 1 = .ok (.iconst 0, 1) := by decide +kernel
theorem dX7_after_2 : decode cX7_after 2 = .ok (.putfield 36, 3) := by decide +kernel
theorem dX7_after_5 : decode cX7_after 5 = .ok (.aload_n 0, 1) := by decide +kernel
theorem dX7_after_6 : decode cX7_after 6 = .ok (.iload_n 1, 1) := by decide +kernel
theorem dX7_after_7 : decode cX7_after 7 = .ok (.invokevirtual 58, 3) := by decide +kernel
theorem dX7_after_10 : decode cX7_after 10 = .ok (.ifCond .eq 11, 3) := by decide +kernel
theorem dX7_after_13 : decode cX7_after 13 = .ok (.aload_n 0, 1) := by decide +kernel
theorem dX7_after_14 : decode cX7_after 14 = .ok (.iload_n 2, 1) := by decide +kernel
theorem dX7_after_15 : decode cX7_after 15 = .ok (.invokevirtual 58, 3) := by decide +kernel
theorem dX7_after_18 : decode cX7_after 18 = .ok (.ifCond .ne 5, 3) := by decide +kernel
theorem dX7_after_21 : decode cX7_after 21 = .ok (.iconst (-1), 1) := by decide +kernel
theorem dX7_after_22 : decode cX7_after 22 = .ok (.ireturn, 1) := by decide +kernel
theorem dX7_after_23 : decode cX7_after 23 = .ok (.iload_n 3, 1) := by decide +kernel
theorem dX7_after_24 : decode cX7_after 24 = .ok (.iconst 0, 1) := by decide +kernel
theorem dX7_after_25 : decode cX7_after 25 = .ok (.iconst 4, 1) := by decide +kernel
theorem dX7_after_26 : decode cX7_after 26 = .ok (.invokestatic 43, 3) := by decide +kernel
theorem dX7_after_29 : decode cX7_after 29 = .ok (.ifCond .ne 6, 3) := by decide +kernel
theorem dX7_after_32 : decode cX7_after 32 = .ok (.bipush (-2), 2) := by decide +kernel
theorem dX7_after_34 : decode cX7_after 34 = .ok (.ireturn, 1) := by decide +kernel
theorem dX7_after_35 : decode cX7_after 35 = .ok (.lconst 1, 1) := by decide +kernel
theorem dX7_after_36 : decode cX7_after 36 = .ok (.lstore 4, 2) := by decide +kernel
theorem dX7_after_38 : decode cX7_after 38 = .ok (.iconst 0, 1) := by decide +kernel
theorem dX7_after_39 : decode cX7_after 39 = .ok (.istore 6, 2) := by decide +kernel
theorem dX7_after_41 : decode cX7_after 41 = .ok (.iload 6, 2) := by decide +kernel
theorem dX7_after_43 : decode cX7_after 43 = .ok (.aload_n 0, 1) := by decide +kernel
theorem dX7_after_44 : decode cX7_after 44 = .ok (.getfield 40, 3) := by decide +kernel
theorem dX7_after_47 : decode cX7_after 47 = .ok (.if_icmp .ge 27, 3) := by decide +kernel
theorem dX7_after_50 : decode cX7_after 50 = .ok (.aload_n 0, 1) := by decide +kernel
theorem dX7_after_51 : decode cX7_after 51 = .ok (.getfield 24, 3) := by decide +kernel
theorem dX7_after_54 : decode cX7_after 54 = .ok (.iload 6, 2) := by decide +kernel
theorem dX7_after_56 : decode cX7_after 56 = .ok (.iload 6, 2) := by decide +kernel
theorem dX7_after_58 : decode cX7_after 58 = .ok (.iload_n 1, 1) := by decide +kernel
theorem dX7_after_59 : decode cX7_after 59 = .ok (.if_icmp .ne 7, 3) := by decide +kernel
theorem dX7_after_62 : decode cX7_after 62 = .ok (.lconst 1, 1) := by decide +kernel
theorem dX7_after_63 : decode cX7_after 63 = .ok (.goto 4, 3) := by decide +kernel
theorem dX7_after_66 : decode cX7_after 66 = .ok (.lconst 0, 1) := by decide +kernel
theorem dX7_after_67 : decode cX7_after 67 = .ok (.lastore, 1) := by decide +kernel
theorem dX7_after_68 : decode cX7_after 68 = .ok (.iinc 6 1, 3) := by decide +kernel
theorem dX7_after_71 : decode cX7_after 71 = .ok (.goto (-30), 3) := by decide +kernel
theorem dX7_after_74 : decode cX7_after 74 = .ok (.iconst 0, 1) := by decide +kernel
theorem dX7_after_75 : decode cX7_after 75 = .ok (.istore 6, 2) := by decide +kernel
theorem dX7_after_77 : decode cX7_after 77 = .ok (.iload 6, 2) := by decide +kernel
theorem dX7_after_79 : decode cX7_after 79 = .ok (.iload_n 3, 1) := by decide +kernel
theorem dX7_after_80 : decode cX7_after 80 = .ok (.if_icmp .ge 168, 3) := by decide +kernel
theorem dX7_after_83 : decode cX7_after 83 = .ok (.iconst 0, 1) := by decide +kernel
theorem dX7_after_84 : decode cX7_after 84 = .ok (.istore 7, 2) := by decide +kernel
theorem dX7_after_86 : decode cX7_after 86 = .ok (.iload 7, 2) := by decide +kernel
theorem dX7_after_88 : decode cX7_after 88 = .ok (.aload_n 0, 1) := by decide +kernel
theorem dX7_after_89 : decode cX7_after 89 = .ok (.getfield 40, 3) := by decide +kernel
theorem dX7_after_92 : decode cX7_after 92 = .ok (.if_icmp .ge 110, 3) := by decide +kernel
theorem dX7_after_95 : decode cX7_after 95 = .ok (.aload_n 0, 1) := by decide +kernel
theorem dX7_after_96 : decode cX7_after 96 = .ok (.getfield 20, 3) := by decide +kernel
theorem dX7_after_99 : decode cX7_after 99 = .ok (.iload 7, 2) := by decide +kernel
theorem dX7_after_101 : decode cX7_after 101 = .ok (.aload_n 0, 1) := by decide +kernel
theorem dX7_after_102 : decode cX7_after 102 = .ok (.iload 7, 2) := by decide +kernel
theorem dX7_after_104 : decode cX7_after 104 = .ok (.invokevirtual 81, 3) := by decide +kernel
theorem dX7_after_107 : decode cX7_after 107 = .ok (.ifCond .eq 17, 3) := by decide +kernel
theorem dX7_after_110 : decode cX7_after 110 = .ok (.aload_n 0, 1) := by decide +kernel
theorem dX7_after_111 : decode cX7_after 111 = .ok (.getfield 24, 3) := by decide +kernel
theorem dX7_after_114 : decode cX7_after 114 = .ok (.iload 7, 2) := by decide +kernel
theorem dX7_after_116 : decode cX7_after 116 = .ok (.laload, 1) := by decide +kernel
theorem dX7_after_117 : decode cX7_after 117 = .ok (.ldc2_w 112, 3) := by decide +kernel
theorem dX7_after_120 : decode cX7_after 120 = .ok (.lmul, 1) := by decide +kernel
theorem dX7_after_121 : decode cX7_after 121 = .ok (.goto 4, 3) := by decide +kernel
theorem dX7_after_124 : decode cX7_after 124 = .ok (.lconst 0, 1) := by decide +kernel
theorem dX7_after_125 : decode cX7_after 125 = .ok (.lastore, 1) := by decide +kernel
theorem dX7_after_126 : decode cX7_after 126 = .ok (.iconst 0, 1) := by decide +kernel
theorem dX7_after_127 : decode cX7_after 127 = .ok (.istore 8, 2) := by decide +kernel
theorem dX7_after_129 : decode cX7_after 129 = .ok (.iload 8, 2) := by decide +kernel
theorem dX7_after_131 : decode cX7_after 131 = .ok (.aload_n 0, 1) := by decide +kernel
theorem dX7_after_132 : decode cX7_after 132 = .ok (.getfield 40, 3) := by decide +kernel
theorem dX7_after_135 : decode cX7_after 135 = .ok (.if_icmp .ge 61, 3) := by decide +kernel
theorem dX7_after_138 : decode cX7_after 138 = .ok (.aload_n 0, 1) := by decide +kernel
theorem dX7_after_139 : decode cX7_after 139 = .ok (.getfield 20, 3) := by decide +kernel
theorem dX7_after_142 : decode cX7_after 142 = .ok (.iload 7, 2) := by decide +kernel
theorem dX7_after_144 : decode cX7_after 144 = .ok (.dup2, 1) := by decide +kernel
theorem dX7_after_145 : decode cX7_after 145 = .ok (.laload, 1) := by decide +kernel
theorem dX7_after_146 : decode cX7_after 146 = .ok (.aload_n 0, 1) := by decide +kernel
