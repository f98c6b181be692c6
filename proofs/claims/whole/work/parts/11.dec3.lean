theorem dX6_visits_35 : decode cX6_visits 35 = .ok (.istore_n 3, 1) := by decide +kernel
theorem dX6_visits_36 : decode cX6_visits 36 = .ok (.iload_n 3, 1) := by decide +kernel
theorem dX6_visits_37 : decode cX6_visits 37 = .ok (.iload_n 1, 1) := by decide +kernel
theorem dX6_visits_38 : decode cX6_visits 38 = .ok (.invokestatic 122, 3) := by decide +kernel
theorem dX6_visits_41 : decode cX6_visits 41 = .ok (.ifCond .ne 14, 3) := by decide +kernel
theorem dX6_visits_44 : decode cX6_visits 44 = .ok (.aload_n 0, 1) := by decide +kernel
theorem dX6_visits_45 : decode cX6_visits 45 = .ok (.getfield 49, 3) := by decide +kernel
theorem dX6_visits_48 : decode cX6_visits 48 = .ok (.lconst 0, 1) := by decide +kernel
theorem dX6_visits_49 : decode cX6_visits 49 = .ok (.lconst 1, 1) := by decide +kernel
theorem dX6_visits_50 : decode cX6_visits 50 = .ok (.invokevirtual 59, 3) := by decide +kernel
theorem dX6_visits_53 : decode cX6_visits 53 = .ok (.iconst 1, 1) := by decide +kernel
theorem dX6_visits_54 : decode cX6_visits 54 = .ok (.ireturn, 1) := by decide +kernel
theorem dX6_visits_55 : decode cX6_visits 55 = .ok (.aload_n 0, 1) := by decide +kernel
theorem dX6_visits_56 : decode cX6_visits 56 = .ok (.getfield 21, 3) := by decide +kernel
theorem dX6_visits_59 : decode cX6_visits 59 = .ok (.iload_n 2, 1) := by decide +kernel
theorem dX6_visits_60 : decode cX6_visits 60 = .ok (.invokevirtual 86, 3) := by decide +kernel
theorem dX6_visits_63 : decode cX6_visits 63 = .ok (.ifCond .eq 6, 3) := by decide +kernel
theorem dX6_visits_66 : decode cX6_visits 66 = .ok (.bipush (-3), 2) := by decide +kernel
theorem dX6_visits_68 : decode cX6_visits 68 = .ok (.ireturn, 1) := by decide +kernel
theorem dX6_visits_69 : decode cX6_visits 69 = .ok (.aload_n 0, 1) := by decide +kernel
theorem dX6_visits_70 : decode cX6_visits 70 = .ok (.getfield 35, 3) := by decide +kernel
theorem dX6_visits_73 : decode cX6_visits 73 = .ok (.iload_n 2, 1) := by decide +kernel
theorem dX6_visits_74 : decode cX6_visits 74 = .ok (.invokevirtual 131, 3) := by decide +kernel
theorem dX6_visits_77 : decode cX6_visits 77 = .ok (.aload_n 0, 1) := by decide +kernel
theorem dX6_visits_78 : decode cX6_visits 78 = .ok (.getfield 35, 3) := by decide +kernel
theorem dX6_visits_81 : decode cX6_visits 81 = .ok (.iload_n 1, 1) := by decide +kernel
theorem dX6_visits_82 : decode cX6_visits 82 = .ok (.iload_n 3, 1) := by decide +kernel
theorem dX6_visits_83 : decode cX6_visits 83 = .ok (.aload_n 0, 1) := by decide +kernel
theorem dX6_visits_84 : decode cX6_visits 84 = .ok (.getfield 49, 3) := by decide +kernel
theorem dX6_visits_87 : decode cX6_visits 87 = .ok (.invokevirtual 110, 3) := by decide +kernel
theorem dX6_visits_90 : decode cX6_visits 90 = .ok (.iconst 1, 1) := by decide +kernel
theorem dX6_visits_91 : decode cX6_visits 91 = .ok (.ireturn, 1) := by decide +kernel
theorem dX1_gainByBeingIn_0 : decode cX1_gainByBeingIn 0 = .ok (.iconst 0, 1) := by decide +kernel
theorem dX1_gainByBeingIn_1 : decode cX1_gainByBeingIn 1 = .ok (.istore_n 2, 1) := by decide +kernel
theorem dX1_gainByBeingIn_2 : decode cX1_gainByBeingIn 2 = .ok (.iload_n 2, 1) := by decide +kernel
theorem dX1_gainByBeingIn_3 : decode cX1_gainByBeingIn 3 = .ok (.aload_n 0, 1) := by decide +kernel
theorem dX1_gainByBeingIn_4 : decode cX1_gainByBeingIn 4 = .ok (.getfield 28, 3) := by decide +kernel
theorem dX1_gainByBeingIn_7 : decode cX1_gainByBeingIn 7 = .ok (.getfield 32, 3) := by decide +kernel
theorem dX1_gainByBeingIn_10 : decode cX1_gainByBeingIn 10 = .ok (.if_icmp .ge 33, 3) := by decide +kernel
theorem dX1_gainByBeingIn_13 : decode cX1_gainByBeingIn 13 = .ok (.aload_n 0, 1) := by decide +kernel
theorem dX1_gainByBeingIn_14 : decode cX1_gainByBeingIn 14 = .ok (.getfield 9, 3) := by decide +kernel
theorem dX1_gainByBeingIn_17 : decode cX1_gainByBeingIn 17 = .ok (.iload_n 2, 1) := by decide +kernel
theorem dX1_gainByBeingIn_18 : decode cX1_gainByBeingIn 18 = .ok (.iload_n 2, 1) := by decide +kernel
theorem dX1_gainByBeingIn_19 : decode cX1_gainByBeingIn 19 = .ok (.iload_n 1, 1) := by decide +kernel
theorem dX1_gainByBeingIn_20 : decode cX1_gainByBeingIn 20 = .ok (.if_icmp .ne 15, 3) := by decide +kernel
theorem dX1_gainByBeingIn_23 : decode cX1_gainByBeingIn 23 = .ok (.aload_n 0, 1) := by decide +kernel
theorem dX1_gainByBeingIn_24 : decode cX1_gainByBeingIn 24 = .ok (.getfield 28, 3) := by decide +kernel
theorem dX1_gainByBeingIn_27 : decode cX1_gainByBeingIn 27 = .ok (.iload_n 2, 1) := by decide +kernel
theorem dX1_gainByBeingIn_28 : decode cX1_gainByBeingIn 28 = .ok (.invokevirtual 41, 3) := by decide +kernel
theorem dX1_gainByBeingIn_31 : decode cX1_gainByBeingIn 31 = .ok (.i2l, 1) := by decide +kernel
theorem dX1_gainByBeingIn_32 : decode cX1_gainByBeingIn 32 = .ok (.goto 4, 3) := by decide +kernel
theorem dX1_gainByBeingIn_35 : decode cX1_gainByBeingIn 35 = .ok (.lconst 0, 1) := by decide +kernel
theorem dX1_gainByBeingIn_36 : decode cX1_gainByBeingIn 36 = .ok (.lastore, 1) := by decide +kernel
theorem dX1_gainByBeingIn_37 : decode cX1_gainByBeingIn 37 = .ok (.iinc 2 1, 3) := by decide +kernel
theorem dX1_gainByBeingIn_40 : decode cX1_gainByBeingIn 40 = .ok (.goto (-38), 3) := by decide +kernel
theorem dX1_gainByBeingIn_43 : decode cX1_gainByBeingIn 43 = .ok (.return_, 1) := by decide +kernel
theorem dX6_share_0 : decode cX6_share 0 = .ok (.aload_n 0, 1) := by decide +kernel
theorem dX6_share_1 : decode cX6_share 1 = .ok (.getfield 10, 3) := by decide +kernel
theorem dX6_share_4 : decode cX6_share 4 = .ok (.iload_n 1, 1) := by decide +kernel
theorem dX6_share_5 : decode cX6_share 5 = .ok (.invokevirtual 67, 3) := by decide +kernel
theorem dX6_share_8 : decode cX6_share 8 = .ok (.ifCond .eq 14, 3) := by decide +kernel
theorem dX6_share_11 : decode cX6_share 11 = .ok (.aload_n 0, 1) := by decide +kernel
theorem dX6_share_12 : decode cX6_share 12 = .ok (.getfield 10, 3) := by decide +kernel
theorem dX6_share_15 : decode cX6_share 15 = .ok (.iload_n 2, 1) := by decide +kernel
theorem dX6_share_16 : decode cX6_share 16 = .ok (.invokevirtual 67, 3) := by decide +kernel
theorem dX6_share_19 : decode cX6_share 19 = .ok (.ifCond .ne 5, 3) := by decide +kernel
theorem dX6_share_22 : decode cX6_share 22 = .ok (.iconst (-1), 1) := by decide +kernel
theorem dX6_share_23 : decode cX6_share 23 = .ok (.ireturn, 1) := by decide +kernel
theorem dX6_share_24 : decode cX6_share 24 = .ok (.aload_n 0, 1) := by decide +kernel
theorem dX6_share_25 : decode cX6_share 25 = .ok (.getfield 21, 3) := by decide +kernel
theorem dX6_share_28 : decode cX6_share 28 = .ok (.iload_n 2, 1) := by decide +kernel
theorem dX6_share_29 : decode cX6_share 29 = .ok (.invokevirtual 86, 3) := by decide +kernel
theorem dX6_share_32 : decode cX6_share 32 = .ok (.ifCond .ne 14, 3) := by decide +kernel
theorem dX6_share_35 : decode cX6_share 35 = .ok (.aload_n 0, 1) := by decide +kernel
theorem dX6_share_36 : decode cX6_share 36 = .ok (.getfield 49, 3) := by decide +kernel
theorem dX6_share_39 : decode cX6_share 39 = .ok (.lconst 0, 1) := by decide +kernel
theorem dX6_share_40 : decode cX6_share 40 = .ok (.lconst 1, 1) := by decide +kernel
theorem dX6_share_41 : decode cX6_share 41 = .ok (.invokevirtual 59, 3) := by decide +kernel
theorem dX6_share_44 : decode cX6_share 44 = .ok (.iconst 1, 1) := by decide +kernel
theorem dX6_share_45 : decode cX6_share 45 = .ok (.ireturn, 1) := by decide +kernel
theorem dX6_share_46 : decode cX6_share 46 = .ok (.iconst 1, 1) := by decide +kernel
theorem dX6_share_47 : decode cX6_share 47 = .ok (.iload_n 2, 1) := by decide +kernel
theorem dX6_share_48 : decode cX6_share 48 = .ok (.ishl, 1) := by decide +kernel
theorem dX6_share_49 : decode cX6_share 49 = .ok (.istore_n 3, 1) := by decide +kernel
theorem dX6_share_50 : decode cX6_share 50 = .ok (.aload_n 0, 1) := by decide +kernel
theorem dX6_share_51 : decode cX6_share 51 = .ok (.getfield 35, 3) := by decide +kernel
theorem dX6_share_54 : decode cX6_share 54 = .ok (.invokevirtual 125, 3) := by decide +kernel
theorem dX6_share_57 : decode cX6_share 57 = .ok (.aload_n 0, 1) := by decide +kernel
theorem dX6_share_58 : decode cX6_share 58 = .ok (.getfield 35, 3) := by decide +kernel
theorem dX6_share_61 : decode cX6_share 61 = .ok (.iload_n 2, 1) := by decide +kernel
theorem dX6_share_62 : decode cX6_share 62 = .ok (.aload_n 0, 1) := by decide +kernel
theorem dX6_share_63 : decode cX6_share 63 = .ok (.getfield 21, 3) := by decide +kernel
theorem dX6_share_66 : decode cX6_share 66 = .ok (.iload_n 2, 1) := by decide +kernel
theorem dX6_share_67 : decode cX6_share 67 = .ok (.iconst 0, 1) := by decide +kernel
theorem dX6_share_68 : decode cX6_share 68 = .ok (.invokevirtual 128, 3) := by decide +kernel
theorem dX6_share_71 : decode cX6_share 71 = .ok (.iload_n 3, 1) := by decide +kernel
theorem dX6_share_72 : decode cX6_share 72 = .ok (.iconst (-1), 1) := by decide +kernel
theorem dX6_share_73 : decode cX6_share 73 = .ok (.ixor, 1) := by decide +kernel
theorem dX6_share_74 : decode cX6_share 74 = .ok (.iand, 1) := by decide +kernel
theorem dX6_share_75 : decode cX6_share 75 = .ok (.aload_n 0, 1) := by decide +kernel
theorem dX6_share_76 : decode cX6_share 76 = .ok (.getfield 53, 3) := by decide +kernel
theorem dX6_share_79 : decode cX6_share 79 = .ok (.invokevirtual 110, 3) := by decide +kernel
theorem dX6_share_82 : decode cX6_share 82 = .ok (.aload_n 0, 1) := by decide +kernel
theorem dX6_share_83 : decode cX6_share 83 = .ok (.iload_n 1, 1) := by decide +kernel
theorem dX6_share_84 : decode cX6_share 84 = .ok (.iload_n 3, 1) := by decide +kernel
theorem dX6_share_85 : decode cX6_share 85 = .ok (.iconst 0, 1) := by decide +kernel
theorem dX6_share_86 : decode cX6_share 86 = .ok (.invokevirtual 98, 3) := by decide +kernel
theorem dX6_share_89 : decode cX6_share 89 = .ok (.aload_n 0, 1) := by decide +kernel
theorem dX6_share_90 : decode cX6_share 90 = .ok (.getfield 49, 3) := by decide +kernel
theorem dX6_share_93 : decode cX6_share 93 = .ok (.aload_n 0, 1) := by decide +kernel
theorem dX6_share_94 : decode cX6_share 94 = .ok (.getfield 49, 3) := by decide +kernel
theorem dX6_share_97 : decode cX6_share 97 = .ok (.getfield 134, 3) := by decide +kernel
theorem dX6_share_100 : decode cX6_share 100 = .ok (.aload_n 0, 1) := by decide +kernel
theorem dX6_share_101 : decode cX6_share 101 = .ok (.getfield 53, 3) := by decide +kernel
theorem dX6_share_104 : decode cX6_share 104 = .ok (.getfield 138, 3) := by decide +kernel
theorem dX6_share_107 : decode cX6_share 107 = .ok (.lmul, 1) := by decide +kernel
theorem dX6_share_108 : decode cX6_share 108 = .ok (.aload_n 0, 1) := by decide +kernel
theorem dX6_share_109 : decode cX6_share 109 = .ok (.getfield 49, 3) := by decide +kernel
theorem dX6_share_112 : decode cX6_share 112 = .ok (.getfield 138, 3) := by decide +kernel
theorem dX6_share_115 : decode cX6_share 115 = .ok (.aload_n 0, 1) := by decide +kernel
theorem dX6_share_116 : decode cX6_share 116 = .ok (.getfield 53, 3) := by decide +kernel
theorem dX6_share_119 : decode cX6_share 119 = .ok (.getfield 134, 3) := by decide +kernel
theorem dX6_share_122 : decode cX6_share 122 = .ok (.lmul, 1) := by decide +kernel
theorem dX6_share_123 : decode cX6_share 123 = .ok (.invokevirtual 59, 3) := by decide +kernel
theorem dX6_share_126 : decode cX6_share 126 = .ok (.iconst 1, 1) := by decide +kernel
theorem dX6_share_127 : decode cX6_share 127 = .ok (.ireturn, 1) := by decide +kernel
theorem dX6_after_0 : decode cX6_after 0 = .ok (.aload_n 0, 1) := by decide +kernel
theorem dX6_after_1 : decode cX6_after 1 = .ok (.getfield 10, 3) := by decide +kernel
theorem dX6_after_4 : decode cX6_after 4 = .ok (.iload_n 1, 1) := by decide +kernel
theorem dX6_after_5 : decode cX6_after 5 = .ok (.invokevirtual 67, 3) := by decide +kernel
theorem dX6_after_8 : decode cX6_after 8 = .ok (.ifCond .eq 14, 3) := by decide +kernel
theorem dX6_after_11 : decode cX6_after 11 = .ok (.aload_n 0, 1) := by decide +kernel
theorem dX6_after_12 : decode cX6_after 12 = .ok (.getfield 10, 3) := by decide +kernel
theorem dX6_after_15 : decode cX6_after 15 = .ok (.iload_n 2, 1) := by decide +kernel
theorem dX6_after_16 : decode cX6_after 16 = .ok (.invokevirtual 67, 3) := by decide +kernel
theorem dX6_after_19 : decode cX6_after 19 = .ok (.ifCond .ne 5, 3) := by decide +kernel
theorem dX6_after_22 : decode cX6_after 22 = .ok (.iconst (-1), 1) := by decide +kernel
theorem dX6_after_23 : decode cX6_after 23 = .ok (.ireturn, 1) := by decide +kernel
theorem dX6_after_24 : decode cX6_after 24 = .ok (.iload_n 3, 1) := by decide +kernel
theorem dX6_after_25 : decode cX6_after 25 = .ok (.ifCond .lt 8, 3) := by decide +kernel
theorem dX6_after_28 : decode cX6_after 28 = .ok (.iload_n 3, 1) := by decide +kernel
theorem dX6_after_29 : decode cX6_after 29 = .ok (.iconst 4, 1) := by decide +kernel
theorem dX6_after_30 : decode cX6_after 30 = .ok (.if_icmp .le 6, 3) := by decide +kernel
theorem dX6_after_33 : decode cX6_after 33 = .ok (.bipush (-2), 2) := by decide +kernel
theorem dX6_after_35 : decode cX6_after 35 = .ok (.ireturn, 1) := by decide +kernel
theorem dX6_after_36 : decode cX6_after 36 = .ok (.aload_n 0, 1) := by decide +kernel
theorem dX6_after_37 : decode cX6_after 37 = .ok (.getfield 42, 3) := by decide +kernel
theorem dX6_after_40 : decode cX6_after 40 = .ok (.iload_n 1, 1) := by decide +kernel
theorem dX6_after_41 : decode cX6_after 41 = .ok (.invokevirtual 141, 3) := by decide +kernel
theorem dX6_after_44 : decode cX6_after 44 = .ok (.iconst 0, 1) := by decide +kernel
theorem dX6_after_45 : decode cX6_after 45 = .ok (.istore 4, 2) := by decide +kernel
theorem dX6_after_47 : decode cX6_after 47 = .ok (.iload 4, 2) := by decide +kernel
theorem dX6_after_49 : decode cX6_after 49 = .ok (.iload_n 3, 1) := by decide +kernel
theorem dX6_after_50 : decode cX6_after 50 = .ok (.if_icmp .ge 16, 3) := by decide +kernel
theorem dX6_after_53 : decode cX6_after 53 = .ok (.aload_n 0, 1) := by decide +kernel
theorem dX6_after_54 : decode cX6_after 54 = .ok (.getfield 42, 3) := by decide +kernel
theorem dX6_after_57 : decode cX6_after 57 = .ok (.invokevirtual 144, 3) := by decide +kernel
theorem dX6_after_60 : decode cX6_after 60 = .ok (.iinc 4 1, 3) := by decide +kernel
theorem dX6_after_63 : decode cX6_after 63 = .ok (.goto (-16), 3) := by decide +kernel
theorem dX6_after_66 : decode cX6_after 66 = .ok (.aload_n 0, 1) := by decide +kernel
theorem dX6_after_67 : decode cX6_after 67 = .ok (.getfield 49, 3) := by decide +kernel
theorem dX6_after_70 : decode cX6_after 70 = .ok (.aload_n 0, 1) := by decide +kernel
theorem dX6_after_71 : decode cX6_after 71 = .ok (.getfield 42, 3) := by decide +kernel
theorem dX6_after_74 : decode cX6_after 74 = .ok (.getfield 147, 3) := by decide +kernel
theorem dX6_after_77 : decode cX6_after 77 = .ok (.iload_n 2, 1) := by decide +kernel
theorem dX6_after_78 : decode cX6_after 78 = .ok (.laload, 1) := by decide +kernel
theorem dX6_after_79 : decode cX6_after 79 = .ok (.aload_n 0, 1) := by decide +kernel
theorem dX6_after_80 : decode cX6_after 80 = .ok (.getfield 42, 3) := by decide +kernel
theorem dX6_after_83 : decode cX6_after 83 = .ok (.getfield 151, 3) := by decide +kernel
theorem dX6_after_86 : decode cX6_after 86 = .ok (.invokevirtual 59, 3) := by decide +kernel
theorem dX6_after_89 : decode cX6_after 89 = .ok (.iconst 1, 1) := by decide +kernel
theorem dX6_after_90 : decode cX6_after 90 = .ok (.ireturn, 1) := by decide +kernel
theorem dX4_start_0 : decode cX4_start 0 = .ok (.iconst 0, 1) := by decide +kernel
theorem dX4_start_1 : decode cX4_start 1 = .ok (.istore_n 2, 1) := by decide +kernel
theorem dX4_start_2 : decode cX4_start 2 = .ok (.iload_n 2, 1) := by decide +kernel
theorem dX4_start_3 : decode cX4_start 3 = .ok (.bipush 7, 2) := by decide +kernel
theorem dX4_start_5 : decode cX4_start 5 = .ok (.if_icmp .ge 25, 3) := by decide +kernel
theorem dX4_start_8 : decode cX4_start 8 = .ok (.aload_n 0, 1) := by decide +kernel
theorem dX4_start_9 : decode cX4_start 9 = .ok (.getfield 9, 3) := by decide +kernel
theorem dX4_start_12 : decode cX4_start 12 = .ok (.iload_n 2, 1) := by decide +kernel
theorem dX4_start_13 : decode cX4_start 13 = .ok (.iload_n 2, 1) := by decide +kernel
theorem dX4_start_14 : decode cX4_start 14 = .ok (.iload_n 1, 1) := by decide +kernel
theorem dX4_start_15 : decode cX4_start 15 = .ok (.if_icmp .ne 7, 3) := by decide +kernel
theorem dX4_start_18 : decode cX4_start 18 = .ok (.lconst 1, 1) := by decide +kernel
theorem dX4_start_19 : decode cX4_start 19 = .ok (.goto 4, 3) := by decide +kernel
theorem dX4_start_22 : decode cX4_start 22 = .ok (.lconst 0, 1) := by decide +kernel
theorem dX4_start_23 : decode cX4_start 23 = .ok (.lastore, 1) := by decide +kernel
theorem dX4_start_24 : decode cX4_start 24 = .ok (.iinc 2 1, 3) := by decide +kernel
theorem dX4_start_27 : decode cX4_start 27 = .ok (.goto (-25), 3) := by decide +kernel
theorem dX4_start_30 : decode cX4_start 30 = .ok (.aload_n 0, 1) := by decide +kernel
theorem dX4_start_31 : decode cX4_start 31 = .ok (.lconst 1, 1) := by decide +kernel
theorem dX4_start_32 : decode cX4_start 32 = .ok (.putfield 18, 3) := by decide +kernel
theorem dX4_start_35 : decode cX4_start 35 = .ok (.return_, 1) := by decide +kernel
theorem dX4_goOn_0 : decode cX4_goOn 0 = .ok (.iconst 0, 1) := by decide +kernel
theorem dX4_goOn_1 : decode cX4_goOn 1 = .ok (.istore_n 1, 1) := by decide +kernel
theorem dX4_goOn_2 : decode cX4_goOn 2 = .ok (.iload_n 1, 1) := by decide +kernel
theorem dX4_goOn_3 : decode cX4_goOn 3 = .ok (.aload_n 0, 1) := by decide +kernel
theorem dX4_goOn_4 : decode cX4_goOn 4 = .ok (.getfield 22, 3) := by decide +kernel
theorem dX4_goOn_7 : decode cX4_goOn 7 = .ok (.getfield 26, 3) := by decide +kernel
theorem dX4_goOn_10 : decode cX4_goOn 10 = .ok (.if_icmp .ge 76, 3) := by decide +kernel
theorem dX4_goOn_13 : decode cX4_goOn 13 = .ok (.lconst 0, 1) := by decide +kernel
theorem dX4_goOn_14 : decode cX4_goOn 14 = .ok (.lstore_n 2, 1) := by decide +kernel
theorem dX4_goOn_15 : decode cX4_goOn 15 = .ok (.iconst 0, 1) := by decide +kernel
theorem dX4_goOn_16 : decode cX4_goOn 16 = .ok (.istore 4, 2) := by decide +kernel
theorem dX4_goOn_18 : decode cX4_goOn 18 = .ok (.iload 4, 2) := by decide +kernel
theorem dX4_goOn_20 : decode cX4_goOn 20 = .ok (.aload_n 0, 1) := by decide +kernel
theorem dX4_goOn_21 : decode cX4_goOn 21 = .ok (.getfield 22, 3) := by decide +kernel
theorem dX4_goOn_24 : decode cX4_goOn 24 = .ok (.getfield 26, 3) := by decide +kernel
theorem dX4_goOn_27 : decode cX4_goOn 27 = .ok (.if_icmp .ge 46, 3) := by decide +kernel
theorem dX4_goOn_30 : decode cX4_goOn 30 = .ok (.lload_n 2, 1) := by decide +kernel
theorem dX4_goOn_31 : decode cX4_goOn 31 = .ok (.aload_n 0, 1) := by decide +kernel
theorem dX4_goOn_32 : decode cX4_goOn 32 = .ok (.getfield 9, 3) := by decide +kernel
theorem dX4_goOn_35 : decode cX4_goOn 35 = .ok (.iload 4, 2) := by decide +kernel
theorem dX4_goOn_37 : decode cX4_goOn 37 = .ok (.laload, 1) := by decide +kernel
theorem dX4_goOn_38 : decode cX4_goOn 38 = .ok (.ldc2_w 32, 3) := by decide +kernel
theorem dX4_goOn_41 : decode cX4_goOn 41 = .ok (.aload_n 0, 1) := by decide +kernel
theorem dX4_goOn_42 : decode cX4_goOn 42 = .ok (.getfield 22, 3) := by decide +kernel
theorem dX4_goOn_45 : decode cX4_goOn 45 = .ok (.iload 4, 2) := by decide +kernel
theorem dX4_goOn_47 : decode cX4_goOn 47 = .ok (.invokevirtual 34, 3) := by decide +kernel
theorem dX4_goOn_50 : decode cX4_goOn 50 = .ok (.i2l, 1) := by decide +kernel
theorem dX4_goOn_51 : decode cX4_goOn 51 = .ok (.ldiv, 1) := by decide +kernel
theorem dX4_goOn_52 : decode cX4_goOn 52 = .ok (.lmul, 1) := by decide +kernel
theorem dX4_goOn_53 : decode cX4_goOn 53 = .ok (.aload_n 0, 1) := by decide +kernel
theorem dX4_goOn_54 : decode cX4_goOn 54 = .ok (.getfield 22, 3) := by decide +kernel
theorem dX4_goOn_57 : decode cX4_goOn 57 = .ok (.iload 4, 2) := by decide +kernel
theorem dX4_goOn_59 : decode cX4_goOn 59 = .ok (.iload_n 1, 1) := by decide +kernel
theorem dX4_goOn_60 : decode cX4_goOn 60 = .ok (.invokevirtual 38, 3) := by decide +kernel
theorem dX4_goOn_63 : decode cX4_goOn 63 = .ok (.i2l, 1) := by decide +kernel
theorem dX4_goOn_64 : decode cX4_goOn 64 = .ok (.lmul, 1) := by decide +kernel
theorem dX4_goOn_65 : decode cX4_goOn 65 = .ok (.ladd, 1) := by decide +kernel
theorem dX4_goOn_66 : decode cX4_goOn 66 = .ok (.lstore_n 2, 1) := by decide +kernel
theorem dX4_goOn_67 : decode cX4_goOn 67 = .ok (.iinc 4 1, 3) := by decide +kernel
theorem dX4_goOn_70 : decode cX4_goOn 70 = .ok (.goto (-52), 3) := by decide +kernel
theorem dX4_goOn_73 : decode cX4_goOn 73 = .ok (.aload_n 0, 1) := by decide +kernel
theorem dX4_goOn_74 : decode cX4_goOn 74 = .ok (.getfield 15, 3) := by decide +kernel
theorem dX4_goOn_77 : decode cX4_goOn 77 = .ok (.iload_n 1, 1) := by decide +kernel
theorem dX4_goOn_78 : decode cX4_goOn 78 = .ok (.lload_n 2, 1) := by decide +kernel
theorem dX4_goOn_79 : decode cX4_goOn 79 = .ok (.lastore, 1) := by decide +kernel
theorem dX4_goOn_80 : decode cX4_goOn 80 = .ok (.iinc 1 1, 3) := by decide +kernel
theorem dX4_goOn_83 : decode cX4_goOn 83 = .ok (.goto (-81), 3) := by decide +kernel
theorem dX4_goOn_86 : decode cX4_goOn 86 = .ok (.iconst 0, 1) := by decide +kernel
theorem dX4_goOn_87 : decode cX4_goOn 87 = .ok (.istore_n 1, 1) := by decide +kernel
theorem dX4_goOn_88 : decode cX4_goOn 88 = .ok (.iload_n 1, 1) := by decide +kernel
theorem dX4_goOn_89 : decode cX4_goOn 89 = .ok (.aload_n 0, 1) := by decide +kernel
theorem dX4_goOn_90 : decode cX4_goOn 90 = .ok (.getfield 22, 3) := by decide +kernel
theorem dX4_goOn_93 : decode cX4_goOn 93 = .ok (.getfield 26, 3) := by decide +kernel
theorem dX4_goOn_96 : decode cX4_goOn 96 = .ok (.if_icmp .ge 21, 3) := by decide +kernel
theorem dX4_goOn_99 : decode cX4_goOn 99 = .ok (.aload_n 0, 1) := by decide +kernel
theorem dX4_goOn_100 : decode cX4_goOn 100 = .ok (.getfield 9, 3) := by decide +kernel
theorem dX4_goOn_103 : decode cX4_goOn 103 = .ok (.iload_n 1, 1) := by decide +kernel
theorem dX4_goOn_104 : decode cX4_goOn 104 = .ok (.aload_n 0, 1) := by decide +kernel
theorem dX4_goOn_105 : decode cX4_goOn 105 = .ok (.getfield 15, 3) := by decide +kernel
theorem dX4_goOn_108 : decode cX4_goOn 108 = .ok (.iload_n 1, 1) := by decide +kernel
theorem dX4_goOn_109 : decode cX4_goOn 109 = .ok (.laload, 1) := by decide +kernel
theorem dX4_goOn_110 : decode cX4_goOn 110 = .ok (.lastore, 1) := by decide +kernel
theorem dX4_goOn_111 : decode cX4_goOn 111 = .ok (.iinc 1 1, 3) := by decide +kernel
theorem dX4_goOn_114 : decode cX4_goOn 114 = .ok (.goto (-26), 3) := by decide +kernel
theorem dX4_goOn_117 : decode cX4_goOn 117 = .ok (.aload_n 0, 1) := by decide +kernel
theorem dX4_goOn_118 : decode cX4_goOn 118 = .ok (.dup, 1) := by decide +kernel
theorem dX4_goOn_119 : decode cX4_goOn 119 = .ok (.getfield 18, 3) := by decide +kernel
theorem dX4_goOn_122 : decode cX4_goOn 122 = .ok (.ldc2_w 32, 3) := by decide +kernel
theorem dX4_goOn_125 : decode cX4_goOn 125 = .ok (.lmul, 1) := by decide +kernel
theorem dX4_goOn_126 : decode cX4_goOn 126 = .ok (.putfield 18, 3) := by decide +kernel
theorem dX4_goOn_129 : decode cX4_goOn 129 = .ok (.return_, 1) := by decide +kernel
theorem dX6_worth_0 : decode cX6_worth 0 = .ok (.aload_n 0, 1) := by decide +kernel
theorem dX6_worth_1 : decode cX6_worth 1 = .ok (.getfield 10, 3) := by decide +kernel
theorem dX6_worth_4 : decode cX6_worth 4 = .ok (.iload_n 1, 1) := by decide +kernel
theorem dX6_worth_5 : decode cX6_worth 5 = .ok (.invokevirtual 67, 3) := by decide +kernel
theorem dX6_worth_8 : decode cX6_worth 8 = .ok (.ifCond .ne 5, 3) := by decide +kernel
theorem dX6_worth_11 : decode cX6_worth 11 = .ok (.iconst (-1), 1) := by decide +kernel
theorem dX6_worth_12 : decode cX6_worth 12 = .ok (.ireturn, 1) := by decide +kernel
theorem dX6_worth_13 : decode cX6_worth 13 = .ok (.aload_n 0, 1) := by decide +kernel
theorem dX6_worth_14 : decode cX6_worth 14 = .ok (.getfield 10, 3) := by decide +kernel
theorem dX6_worth_17 : decode cX6_worth 17 = .ok (.invokevirtual 154, 3) := by decide +kernel
theorem dX6_worth_20 : decode cX6_worth 20 = .ok (.istore_n 2, 1) := by decide +kernel
theorem dX6_worth_21 : decode cX6_worth 21 = .ok (.aload_n 0, 1) := by decide +kernel
theorem dX6_worth_22 : decode cX6_worth 22 = .ok (.getfield 21, 3) := by decide +kernel
theorem dX6_worth_25 : decode cX6_worth 25 = .ok (.iload_n 1, 1) := by decide +kernel
theorem dX6_worth_26 : decode cX6_worth 26 = .ok (.iload_n 2, 1) := by decide +kernel
theorem dX6_worth_27 : decode cX6_worth 27 = .ok (.invokevirtual 118, 3) := by decide +kernel
theorem dX6_worth_30 : decode cX6_worth 30 = .ok (.ifCond .ne 6, 3) := by decide +kernel
theorem dX6_worth_33 : decode cX6_worth 33 = .ok (.bipush (-3), 2) := by decide +kernel
theorem dX6_worth_35 : decode cX6_worth 35 = .ok (.ireturn, 1) := by decide +kernel
theorem dX6_worth_36 : decode cX6_worth 36 = .ok (.iload_n 2, 1) := by decide +kernel
theorem dX6_worth_37 : decode cX6_worth 37 = .ok (.iload_n 1, 1) := by decide +kernel
theorem dX6_worth_38 : decode cX6_worth 38 = .ok (.invokestatic 122, 3) := by decide +kernel
theorem dX6_worth_41 : decode cX6_worth 41 = .ok (.ifCond .eq 14, 3) := by decide +kernel
theorem dX6_worth_44 : decode cX6_worth 44 = .ok (.aload_n 0, 1) := by decide +kernel
theorem dX6_worth_45 : decode cX6_worth 45 = .ok (.getfield 49, 3) := by decide +kernel
theorem dX6_worth_48 : decode cX6_worth 48 = .ok (.lconst 0, 1) := by decide +kernel
theorem dX6_worth_49 : decode cX6_worth 49 = .ok (.lconst 1, 1) := by decide +kernel
theorem dX6_worth_50 : decode cX6_worth 50 = .ok (.invokevirtual 59, 3) := by decide +kernel
theorem dX6_worth_53 : decode cX6_worth 53 = .ok (.iconst 1, 1) := by decide +kernel
theorem dX6_worth_54 : decode cX6_worth 54 = .ok (.ireturn, 1) := by decide +kernel
theorem dX6_worth_55 : decode cX6_worth 55 = .ok (.aload_n 0, 1) := by decide +kernel
theorem dX6_worth_56 : decode cX6_worth 56 = .ok (.getfield 35, 3) := by decide +kernel
theorem dX6_worth_59 : decode cX6_worth 59 = .ok (.invokevirtual 157, 3) := by decide +kernel
theorem dX6_worth_62 : decode cX6_worth 62 = .ok (.aload_n 0, 1) := by decide +kernel
theorem dX6_worth_63 : decode cX6_worth 63 = .ok (.getfield 35, 3) := by decide +kernel
theorem dX6_worth_66 : decode cX6_worth 66 = .ok (.iload_n 1, 1) := by decide +kernel
theorem dX6_worth_67 : decode cX6_worth 67 = .ok (.aload_n 0, 1) := by decide +kernel
theorem dX6_worth_68 : decode cX6_worth 68 = .ok (.getfield 21, 3) := by decide +kernel
theorem dX6_worth_71 : decode cX6_worth 71 = .ok (.iload_n 1, 1) := by decide +kernel
theorem dX6_worth_72 : decode cX6_worth 72 = .ok (.iconst 0, 1) := by decide +kernel
theorem dX6_worth_73 : decode cX6_worth 73 = .ok (.invokevirtual 128, 3) := by decide +kernel
theorem dX6_worth_76 : decode cX6_worth 76 = .ok (.iload_n 2, 1) := by decide +kernel
theorem dX6_worth_77 : decode cX6_worth 77 = .ok (.iconst (-1), 1) := by decide +kernel
theorem dX6_worth_78 : decode cX6_worth 78 = .ok (.ixor, 1) := by decide +kernel
theorem dX6_worth_79 : decode cX6_worth 79 = .ok (.iand, 1) := by decide +kernel
theorem dX6_worth_80 : decode cX6_worth 80 = .ok (.aload_n 0, 1) := by decide +kernel
theorem dX6_worth_81 : decode cX6_worth 81 = .ok (.getfield 49, 3) := by decide +kernel
theorem dX6_worth_84 : decode cX6_worth 84 = .ok (.invokevirtual 110, 3) := by decide +kernel
theorem dX6_worth_87 : decode cX6_worth 87 = .ok (.iconst 1, 1) := by decide +kernel
theorem dX6_worth_88 : decode cX6_worth 88 = .ok (.ireturn, 1) := by decide +kernel
theorem dX0_ends_0 : decode cX0_ends 0 = .ok (.iconst 0, 1) := by decide +kernel
theorem dX0_ends_1 : decode cX0_ends 1 = .ok (.istore_n 1, 1) := by decide +kernel
theorem dX0_ends_2 : decode cX0_ends 2 = .ok (.iconst 0, 1) := by decide +kernel
theorem dX0_ends_3 : decode cX0_ends 3 = .ok (.istore_n 2, 1) := by decide +kernel
theorem dX0_ends_4 : decode cX0_ends 4 = .ok (.iload_n 2, 1) := by decide +kernel
theorem dX0_ends_5 : decode cX0_ends 5 = .ok (.aload_n 0, 1) := by decide +kernel
theorem dX0_ends_6 : decode cX0_ends 6 = .ok (.getfield 23, 3) := by decide +kernel
theorem dX0_ends_9 : decode cX0_ends 9 = .ok (.if_icmp .ge 23, 3) := by decide +kernel
theorem dX0_ends_12 : decode cX0_ends 12 = .ok (.aload_n 0, 1) := by decide +kernel
theorem dX0_ends_13 : decode cX0_ends 13 = .ok (.iload_n 2, 1) := by decide +kernel
theorem dX0_ends_14 : decode cX0_ends 14 = .ok (.invokevirtual 27, 3) := by decide +kernel
theorem dX0_ends_17 : decode cX0_ends 17 = .ok (.ifCond .eq 9, 3) := by decide +kernel
theorem dX0_ends_20 : decode cX0_ends 20 = .ok (.iload_n 1, 1) := by decide +kernel
theorem dX0_ends_21 : decode cX0_ends 21 = .ok (.iconst 1, 1) := by decide +kernel
theorem dX0_ends_22 : decode cX0_ends 22 = .ok (.iload_n 2, 1) := by decide +kernel
theorem dX0_ends_23 : decode cX0_ends 23 = .ok (.ishl, 1) := by decide +kernel
theorem dX0_ends_24 : decode cX0_ends 24 = .ok (.ior, 1) := by decide +kernel
theorem dX0_ends_25 : decode cX0_ends 25 = .ok (.istore_n 1, 1) := by decide +kernel
theorem dX0_ends_26 : decode cX0_ends 26 = .ok (.iinc 2 1, 3) := by decide +kernel
theorem dX0_ends_29 : decode cX0_ends 29 = .ok (.goto (-25), 3) := by decide +kernel
theorem dX0_ends_32 : decode cX0_ends 32 = .ok (.iload_n 1, 1) := by decide +kernel
theorem dX0_ends_33 : decode cX0_ends 33 = .ok (.ireturn, 1) := by decide +kernel
theorem dX1_gainByReward_0 : decode cX1_gainByReward 0 = .ok (.iconst 0, 1) := by decide +kernel
theorem dX1_gainByReward_1 : decode cX1_gainByReward 1 = .ok (.istore_n 1, 1) := by decide +kernel
theorem dX1_gainByReward_2 : decode cX1_gainByReward 2 = .ok (.iload_n 1, 1) := by decide +kernel
theorem dX1_gainByReward_3 : decode cX1_gainByReward 3 = .ok (.aload_n 0, 1) := by decide +kernel
theorem dX1_gainByReward_4 : decode cX1_gainByReward 4 = .ok (.getfield 28, 3) := by decide +kernel
theorem dX1_gainByReward_7 : decode cX1_gainByReward 7 = .ok (.getfield 32, 3) := by decide +kernel
theorem dX1_gainByReward_10 : decode cX1_gainByReward 10 = .ok (.if_icmp .ge 35, 3) := by decide +kernel
theorem dX1_gainByReward_13 : decode cX1_gainByReward 13 = .ok (.aload_n 0, 1) := by decide +kernel
theorem dX1_gainByReward_14 : decode cX1_gainByReward 14 = .ok (.getfield 9, 3) := by decide +kernel
theorem dX1_gainByReward_17 : decode cX1_gainByReward 17 = .ok (.iload_n 1, 1) := by decide +kernel
theorem dX1_gainByReward_18 : decode cX1_gainByReward 18 = .ok (.aload_n 0, 1) := by decide +kernel
theorem dX1_gainByReward_19 : decode cX1_gainByReward 19 = .ok (.getfield 28, 3) := by decide +kernel
theorem dX1_gainByReward_22 : decode cX1_gainByReward 22 = .ok (.iload_n 1, 1) := by decide +kernel
theorem dX1_gainByReward_23 : decode cX1_gainByReward 23 = .ok (.invokevirtual 41, 3) := by decide +kernel
theorem dX1_gainByReward_26 : decode cX1_gainByReward 26 = .ok (.i2l, 1) := by decide +kernel
theorem dX1_gainByReward_27 : decode cX1_gainByReward 27 = .ok (.aload_n 0, 1) := by decide +kernel
theorem dX1_gainByReward_28 : decode cX1_gainByReward 28 = .ok (.getfield 28, 3) := by decide +kernel
theorem dX1_gainByReward_31 : decode cX1_gainByReward 31 = .ok (.getfield 45, 3) := by decide +kernel
theorem dX1_gainByReward_34 : decode cX1_gainByReward 34 = .ok (.iload_n 1, 1) := by decide +kernel
theorem dX1_gainByReward_35 : decode cX1_gainByReward 35 = .ok (.iaload, 1) := by decide +kernel
theorem dX1_gainByReward_36 : decode cX1_gainByReward 36 = .ok (.i2l, 1) := by decide +kernel
theorem dX1_gainByReward_37 : decode cX1_gainByReward 37 = .ok (.lmul, 1) := by decide +kernel
theorem dX1_gainByReward_38 : decode cX1_gainByReward 38 = .ok (.lastore, 1) := by decide +kernel
theorem dX1_gainByReward_39 : decode cX1_gainByReward 39 = .ok (.iinc 1 1, 3) := by decide +kernel
theorem dX1_gainByReward_42 : decode cX1_gainByReward 42 = .ok (.goto (-40), 3) := by decide +kernel
theorem dX1_gainByReward_45 : decode cX1_gainByReward 45 = .ok (.return_, 1) := by decide +kernel
theorem dX6_upper_0 : decode cX6_upper 0 = .ok (.aload_n 0, 1) := by decide +kernel
theorem dX6_upper_1 : decode cX6_upper 1 = .ok (.getfield 49, 3) := by decide +kernel
theorem dX6_upper_4 : decode cX6_upper 4 = .ok (.getfield 134, 3) := by decide +kernel
theorem dX6_upper_7 : decode cX6_upper 7 = .ok (.lreturn, 1) := by decide +kernel
theorem dX6_lower_0 : decode cX6_lower 0 = .ok (.aload_n 0, 1) := by decide +kernel
theorem dX6_lower_1 : decode cX6_lower 1 = .ok (.getfield 49, 3) := by decide +kernel
theorem dX6_lower_4 : decode cX6_lower 4 = .ok (.getfield 138, 3) := by decide +kernel
theorem dX6_lower_7 : decode cX6_lower 7 = .ok (.lreturn, 1) := by decide +kernel
theorem dX6_told_0 : decode cX6_told 0 = .ok (.iload_n 1, 1) := by decide +kernel
theorem dX6_told_1 : decode cX6_told 1 = .ok (.tableswitch 99 0 5 #[39, 47, 55, 66, 75, 84], 39) := by decide +kernel
theorem dX6_told_40 : decode cX6_told 40 = .ok (.aload_n 0, 1) := by decide +kernel
theorem dX6_told_41 : decode cX6_told 41 = .ok (.getfield 10, 3) := by decide +kernel
theorem dX6_told_44 : decode cX6_told 44 = .ok (.getfield 63, 3) := by decide +kernel
theorem dX6_told_47 : decode cX6_told 47 = .ok (.ireturn, 1) := by decide +kernel
theorem dX6_told_48 : decode cX6_told 48 = .ok (.aload_n 0, 1) := by decide +kernel
theorem dX6_told_49 : decode cX6_told 49 = .ok (.getfield 10, 3) := by decide +kernel
theorem dX6_told_52 : decode cX6_told 52 = .ok (.invokevirtual 160, 3) := by decide +kernel
theorem dX6_told_55 : decode cX6_told 55 = .ok (.ireturn, 1) := by decide +kernel
theorem dX6_told_56 : decode cX6_told 56 = .ok (.aload_n 0, 1) := by decide +kernel
theorem dX6_told_57 : decode cX6_told 57 = .ok (.getfield 10, 3) := by decide +kernel
theorem dX6_told_60 : decode cX6_told 60 = .ok (.invokevirtual 154, 3) := by decide +kernel
theorem dX6_told_63 : decode cX6_told 63 = .ok (.invokestatic 163, 3) := by decide +kernel
theorem dX6_told_66 : decode cX6_told 66 = .ok (.ireturn, 1) := by decide +kernel
theorem dX6_told_67 : decode cX6_told 67 = .ok (.aload_n 0, 1) := by decide +kernel
theorem dX6_told_68 : decode cX6_told 68 = .ok (.getfield 21, 3) := by decide +kernel
theorem dX6_told_71 : decode cX6_told 71 = .ok (.iconst 0, 1) := by decide +kernel
theorem dX6_told_72 : decode cX6_told 72 = .ok (.invokevirtual 168, 3) := by decide +kernel
theorem dX6_told_75 : decode cX6_told 75 = .ok (.ireturn, 1) := by decide +kernel
theorem dX6_told_76 : decode cX6_told 76 = .ok (.aload_n 0, 1) := by decide +kernel
theorem dX6_told_77 : decode cX6_told 77 = .ok (.getfield 21, 3) := by decide +kernel
theorem dX6_told_80 : decode cX6_told 80 = .ok (.iconst 1, 1) := by decide +kernel
theorem dX6_told_81 : decode cX6_told 81 = .ok (.invokevirtual 168, 3) := by decide +kernel
theorem dX6_told_84 : decode cX6_told 84 = .ok (.ireturn, 1) := by decide +kernel
theorem dX6_told_85 : decode cX6_told 85 = .ok (.aload_n 0, 1) := by decide +kernel
theorem dX6_told_86 : decode cX6_told 86 = .ok (.getfield 28, 3) := by decide +kernel
theorem dX6_told_89 : decode cX6_told 89 = .ok (.invokevirtual 92, 3) := by decide +kernel
theorem dX6_told_92 : decode cX6_told 92 = .ok (.aload_n 0, 1) := by decide +kernel
theorem dX6_told_93 : decode cX6_told 93 = .ok (.getfield 28, 3) := by decide +kernel
theorem dX6_told_96 : decode cX6_told 96 = .ok (.invokevirtual 172, 3) := by decide +kernel
theorem dX6_told_99 : decode cX6_told 99 = .ok (.ireturn, 1) := by decide +kernel
theorem dX6_told_100 : decode cX6_told 100 = .ok (.bipush (-2), 2) := by decide +kernel
theorem dX6_told_102 : decode cX6_told 102 = .ok (.ireturn, 1) := by decide +kernel
theorem dX0_countWeights_0 : decode cX0_countWeights 0 = .ok (.iconst 0, 1) := by decide +kernel
theorem dX0_countWeights_1 : decode cX0_countWeights 1 = .ok (.istore_n 1, 1) := by decide +kernel
theorem dX0_countWeights_2 : decode cX0_countWeights 2 = .ok (.iconst 0, 1) := by decide +kernel
theorem dX0_countWeights_3 : decode cX0_countWeights 3 = .ok (.istore_n 2, 1) := by decide +kernel
theorem dX0_countWeights_4 : decode cX0_countWeights 4 = .ok (.iload_n 2, 1) := by decide +kernel
theorem dX0_countWeights_5 : decode cX0_countWeights 5 = .ok (.aload_n 0, 1) := by decide +kernel
theorem dX0_countWeights_6 : decode cX0_countWeights 6 = .ok (.getfield 23, 3) := by decide +kernel
theorem dX0_countWeights_9 : decode cX0_countWeights 9 = .ok (.if_icmp .ge 39, 3) := by decide +kernel
theorem dX0_countWeights_12 : decode cX0_countWeights 12 = .ok (.iconst 0, 1) := by decide +kernel
theorem dX0_countWeights_13 : decode cX0_countWeights 13 = .ok (.istore_n 3, 1) := by decide +kernel
theorem dX0_countWeights_14 : decode cX0_countWeights 14 = .ok (.iload_n 3, 1) := by decide +kernel
theorem dX0_countWeights_15 : decode cX0_countWeights 15 = .ok (.aload_n 0, 1) := by decide +kernel
theorem dX0_countWeights_16 : decode cX0_countWeights 16 = .ok (.getfield 23, 3) := by decide +kernel
theorem dX0_countWeights_19 : decode cX0_countWeights 19 = .ok (.if_icmp .ge 23, 3) := by decide +kernel
theorem dX0_countWeights_22 : decode cX0_countWeights 22 = .ok (.aload_n 0, 1) := by decide +kernel
theorem dX0_countWeights_23 : decode cX0_countWeights 23 = .ok (.getfield 11, 3) := by decide +kernel
theorem dX0_countWeights_26 : decode cX0_countWeights 26 = .ok (.iload_n 2, 1) := by decide +kernel
theorem dX0_countWeights_27 : decode cX0_countWeights 27 = .ok (.aaload, 1) := by decide +kernel
theorem dX0_countWeights_28 : decode cX0_countWeights 28 = .ok (.iload_n 3, 1) := by decide +kernel
theorem dX0_countWeights_29 : decode cX0_countWeights 29 = .ok (.iaload, 1) := by decide +kernel
theorem dX0_countWeights_30 : decode cX0_countWeights 30 = .ok (.ifCond .eq 6, 3) := by decide +kernel
theorem dX0_countWeights_33 : decode cX0_countWeights 33 = .ok (.iinc 1 1, 3) := by decide +kernel
theorem dX0_countWeights_36 : decode cX0_countWeights 36 = .ok (.iinc 3 1, 3) := by decide +kernel
theorem dX0_countWeights_39 : decode cX0_countWeights 39 = .ok (.goto (-25), 3) := by decide +kernel
theorem dX0_countWeights_42 : decode cX0_countWeights 42 = .ok (.iinc 2 1, 3) := by decide +kernel
theorem dX0_countWeights_45 : decode cX0_countWeights 45 = .ok (.goto (-41), 3) := by decide +kernel
theorem dX0_countWeights_48 : decode cX0_countWeights 48 = .ok (.iload_n 1, 1) := by decide +kernel
theorem dX0_countWeights_49 : decode cX0_countWeights 49 = .ok (.ireturn, 1) := by decide +kernel
theorem dJ6_bitCount_0 : decode cJ6_bitCount 0 = .ok (.iload_n 0, 1) := by decide +kernel
theorem dJ6_bitCount_1 : decode cJ6_bitCount 1 = .ok (.iload_n 0, 1) := by decide +kernel
theorem dJ6_bitCount_2 : decode cJ6_bitCount 2 = .ok (.iconst 1, 1) := by decide +kernel
theorem dJ6_bitCount_3 : decode cJ6_bitCount 3 = .ok (.iushr, 1) := by decide +kernel
theorem dJ6_bitCount_4 : decode cJ6_bitCount 4 = .ok (.ldc_w 265, 3) := by decide +kernel
theorem dJ6_bitCount_7 : decode cJ6_bitCount 7 = .ok (.iand, 1) := by decide +kernel
theorem dJ6_bitCount_8 : decode cJ6_bitCount 8 = .ok (.isub, 1) := by decide +kernel
theorem dJ6_bitCount_9 : decode cJ6_bitCount 9 = .ok (.istore_n 0, 1) := by decide +kernel
theorem dJ6_bitCount_10 : decode cJ6_bitCount 10 = .ok (.iload_n 0, 1) := by decide +kernel
theorem dJ6_bitCount_11 : decode cJ6_bitCount 11 = .ok (.ldc_w 266, 3) := by decide +kernel
theorem dJ6_bitCount_14 : decode cJ6_bitCount 14 = .ok (.iand, 1) := by decide +kernel
theorem dJ6_bitCount_15 : decode cJ6_bitCount 15 = .ok (.iload_n 0, 1) := by decide +kernel
theorem dJ6_bitCount_16 : decode cJ6_bitCount 16 = .ok (.iconst 2, 1) := by decide +kernel
theorem dJ6_bitCount_17 : decode cJ6_bitCount 17 = .ok (.iushr, 1) := by decide +kernel
theorem dJ6_bitCount_18 : decode cJ6_bitCount 18 = .ok (.ldc_w 266, 3) := by decide +kernel
theorem dJ6_bitCount_21 : decode cJ6_bitCount 21 = .ok (.iand, 1) := by decide +kernel
theorem dJ6_bitCount_22 : decode cJ6_bitCount 22 = .ok (.iadd, 1) := by decide +kernel
theorem dJ6_bitCount_23 : decode cJ6_bitCount 23 = .ok (.istore_n 0, 1) := by decide +kernel
