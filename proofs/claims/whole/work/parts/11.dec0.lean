theorem dX6_init_0 : decode cX6_init 0 = .ok (.aload_n 0, 1) := by decide +kernel
theorem dX6_init_1 : decode cX6_init 1 = .ok (.invokespecial 1, 3) := by decide +kernel
theorem dX6_init_4 : decode cX6_init 4 = .ok (.aload_n 0, 1) := by decide +kernel
theorem dX6_init_5 : decode cX6_init 5 = .ok (.new 7, 3) := by decide +kernel
theorem dX6_init_8 : decode cX6_init 8 = .ok (.dup, 1) := by decide +kernel
theorem dX6_init_9 : decode cX6_init 9 = .ok (.invokespecial 9, 3) := by decide +kernel
theorem dX6_init_12 : decode cX6_init 12 = .ok (.putfield 10, 3) := by decide +kernel
theorem dX6_init_15 : decode cX6_init 15 = .ok (.aload_n 0, 1) := by decide +kernel
theorem dX6_init_16 : decode cX6_init 16 = .ok (.new 16, 3) := by decide +kernel
theorem dX6_init_19 : decode cX6_init 19 = .ok (.dup, 1) := by decide +kernel
theorem dX6_init_20 : decode cX6_init 20 = .ok (.aload_n 0, 1) := by decide +kernel
theorem dX6_init_21 : decode cX6_init 21 = .ok (.getfield 10, 3) := by decide +kernel
theorem dX6_init_24 : decode cX6_init 24 = .ok (.invokespecial 18, 3) := by decide +kernel
theorem dX6_init_27 : decode cX6_init 27 = .ok (.putfield 21, 3) := by decide +kernel
theorem dX6_init_30 : decode cX6_init 30 = .ok (.aload_n 0, 1) := by decide +kernel
theorem dX6_init_31 : decode cX6_init 31 = .ok (.new 25, 3) := by decide +kernel
theorem dX6_init_34 : decode cX6_init 34 = .ok (.dup, 1) := by decide +kernel
theorem dX6_init_35 : decode cX6_init 35 = .ok (.aload_n 0, 1) := by decide +kernel
theorem dX6_init_36 : decode cX6_init 36 = .ok (.getfield 10, 3) := by decide +kernel
theorem dX6_init_39 : decode cX6_init 39 = .ok (.invokespecial 27, 3) := by decide +kernel
theorem dX6_init_42 : decode cX6_init 42 = .ok (.putfield 28, 3) := by decide +kernel
theorem dX6_init_45 : decode cX6_init 45 = .ok (.aload_n 0, 1) := by decide +kernel
theorem dX6_init_46 : decode cX6_init 46 = .ok (.new 32, 3) := by decide +kernel
theorem dX6_init_49 : decode cX6_init 49 = .ok (.dup, 1) := by decide +kernel
theorem dX6_init_50 : decode cX6_init 50 = .ok (.aload_n 0, 1) := by decide +kernel
theorem dX6_init_51 : decode cX6_init 51 = .ok (.getfield 10, 3) := by decide +kernel
theorem dX6_init_54 : decode cX6_init 54 = .ok (.invokespecial 34, 3) := by decide +kernel
theorem dX6_init_57 : decode cX6_init 57 = .ok (.putfield 35, 3) := by decide +kernel
theorem dX6_init_60 : decode cX6_init 60 = .ok (.aload_n 0, 1) := by decide +kernel
theorem dX6_init_61 : decode cX6_init 61 = .ok (.new 39, 3) := by decide +kernel
theorem dX6_init_64 : decode cX6_init 64 = .ok (.dup, 1) := by decide +kernel
theorem dX6_init_65 : decode cX6_init 65 = .ok (.aload_n 0, 1) := by decide +kernel
theorem dX6_init_66 : decode cX6_init 66 = .ok (.getfield 10, 3) := by decide +kernel
theorem dX6_init_69 : decode cX6_init 69 = .ok (.invokespecial 41, 3) := by decide +kernel
theorem dX6_init_72 : decode cX6_init 72 = .ok (.putfield 42, 3) := by decide +kernel
theorem dX6_init_75 : decode cX6_init 75 = .ok (.aload_n 0, 1) := by decide +kernel
theorem dX6_init_76 : decode cX6_init 76 = .ok (.new 46, 3) := by decide +kernel
theorem dX6_init_79 : decode cX6_init 79 = .ok (.dup, 1) := by decide +kernel
theorem dX6_init_80 : decode cX6_init 80 = .ok (.invokespecial 48, 3) := by decide +kernel
theorem dX6_init_83 : decode cX6_init 83 = .ok (.putfield 49, 3) := by decide +kernel
theorem dX6_init_86 : decode cX6_init 86 = .ok (.aload_n 0, 1) := by decide +kernel
theorem dX6_init_87 : decode cX6_init 87 = .ok (.new 46, 3) := by decide +kernel
theorem dX6_init_90 : decode cX6_init 90 = .ok (.dup, 1) := by decide +kernel
theorem dX6_init_91 : decode cX6_init 91 = .ok (.invokespecial 48, 3) := by decide +kernel
theorem dX6_init_94 : decode cX6_init 94 = .ok (.putfield 53, 3) := by decide +kernel
theorem dX6_init_97 : decode cX6_init 97 = .ok (.return_, 1) := by decide +kernel
theorem dX0_init_0 : decode cX0_init 0 = .ok (.aload_n 0, 1) := by decide +kernel
theorem dX0_init_1 : decode cX0_init 1 = .ok (.invokespecial 3, 3) := by decide +kernel
theorem dX0_init_4 : decode cX0_init 4 = .ok (.aload_n 0, 1) := by decide +kernel
theorem dX0_init_5 : decode cX0_init 5 = .ok (.bipush 7, 2) := by decide +kernel
theorem dX0_init_7 : decode cX0_init 7 = .ok (.bipush 7, 2) := by decide +kernel
theorem dX0_init_9 : decode cX0_init 9 = .ok (.multianewarray 9 2, 4) := by decide +kernel
theorem dX0_init_13 : decode cX0_init 13 = .ok (.putfield 11, 3) := by decide +kernel
theorem dX0_init_16 : decode cX0_init 16 = .ok (.aload_n 0, 1) := by decide +kernel
theorem dX0_init_17 : decode cX0_init 17 = .ok (.bipush 7, 2) := by decide +kernel
theorem dX0_init_19 : decode cX0_init 19 = .ok (.newarray .int, 2) := by decide +kernel
theorem dX0_init_21 : decode cX0_init 21 = .ok (.putfield 16, 3) := by decide +kernel
theorem dX0_init_24 : decode cX0_init 24 = .ok (.aload_n 0, 1) := by decide +kernel
theorem dX0_init_25 : decode cX0_init 25 = .ok (.bipush 7, 2) := by decide +kernel
theorem dX0_init_27 : decode cX0_init 27 = .ok (.newarray .int, 2) := by decide +kernel
theorem dX0_init_29 : decode cX0_init 29 = .ok (.putfield 20, 3) := by decide +kernel
theorem dX0_init_32 : decode cX0_init 32 = .ok (.aload_n 0, 1) := by decide +kernel
theorem dX0_init_33 : decode cX0_init 33 = .ok (.iconst 0, 1) := by decide +kernel
theorem dX0_init_34 : decode cX0_init 34 = .ok (.putfield 23, 3) := by decide +kernel
theorem dX0_init_37 : decode cX0_init 37 = .ok (.return_, 1) := by decide +kernel
theorem dX5_init_0 : decode cX5_init 0 = .ok (.aload_n 0, 1) := by decide +kernel
theorem dX5_init_1 : decode cX5_init 1 = .ok (.invokespecial 1, 3) := by decide +kernel
theorem dX5_init_4 : decode cX5_init 4 = .ok (.aload_n 0, 1) := by decide +kernel
theorem dX5_init_5 : decode cX5_init 5 = .ok (.aload_n 1, 1) := by decide +kernel
theorem dX5_init_6 : decode cX5_init 6 = .ok (.putfield 7, 3) := by decide +kernel
theorem dX5_init_9 : decode cX5_init 9 = .ok (.return_, 1) := by decide +kernel
theorem dX3_init_0 : decode cX3_init 0 = .ok (.aload_n 0, 1) := by decide +kernel
theorem dX3_init_1 : decode cX3_init 1 = .ok (.invokespecial 3, 3) := by decide +kernel
theorem dX3_init_4 : decode cX3_init 4 = .ok (.aload_n 0, 1) := by decide +kernel
theorem dX3_init_5 : decode cX3_init 5 = .ok (.bipush 7, 2) := by decide +kernel
theorem dX3_init_7 : decode cX3_init 7 = .ok (.newarray .int, 2) := by decide +kernel
theorem dX3_init_9 : decode cX3_init 9 = .ok (.putfield 9, 3) := by decide +kernel
theorem dX3_init_12 : decode cX3_init 12 = .ok (.aload_n 0, 1) := by decide +kernel
theorem dX3_init_13 : decode cX3_init 13 = .ok (.bipush 7, 2) := by decide +kernel
theorem dX3_init_15 : decode cX3_init 15 = .ok (.newarray .int, 2) := by decide +kernel
theorem dX3_init_17 : decode cX3_init 17 = .ok (.putfield 15, 3) := by decide +kernel
theorem dX3_init_20 : decode cX3_init 20 = .ok (.aload_n 0, 1) := by decide +kernel
theorem dX3_init_21 : decode cX3_init 21 = .ok (.aload_n 1, 1) := by decide +kernel
theorem dX3_init_22 : decode cX3_init 22 = .ok (.putfield 18, 3) := by decide +kernel
theorem dX3_init_25 : decode cX3_init 25 = .ok (.return_, 1) := by decide +kernel
theorem dX1_init_0 : decode cX1_init 0 = .ok (.aload_n 0, 1) := by decide +kernel
theorem dX1_init_1 : decode cX1_init 1 = .ok (.invokespecial 3, 3) := by decide +kernel
theorem dX1_init_4 : decode cX1_init 4 = .ok (.aload_n 0, 1) := by decide +kernel
theorem dX1_init_5 : decode cX1_init 5 = .ok (.bipush 7, 2) := by decide +kernel
theorem dX1_init_7 : decode cX1_init 7 = .ok (.newarray .long, 2) := by decide +kernel
theorem dX1_init_9 : decode cX1_init 9 = .ok (.putfield 9, 3) := by decide +kernel
theorem dX1_init_12 : decode cX1_init 12 = .ok (.aload_n 0, 1) := by decide +kernel
theorem dX1_init_13 : decode cX1_init 13 = .ok (.bipush 8, 2) := by decide +kernel
theorem dX1_init_15 : decode cX1_init 15 = .ok (.newarray .int, 2) := by decide +kernel
theorem dX1_init_17 : decode cX1_init 17 = .ok (.putfield 15, 3) := by decide +kernel
theorem dX1_init_20 : decode cX1_init 20 = .ok (.aload_n 0, 1) := by decide +kernel
theorem dX1_init_21 : decode cX1_init 21 = .ok (.bipush 8, 2) := by decide +kernel
theorem dX1_init_23 : decode cX1_init 23 = .ok (.bipush 9, 2) := by decide +kernel
theorem dX1_init_25 : decode cX1_init 25 = .ok (.multianewarray 19 2, 4) := by decide +kernel
theorem dX1_init_29 : decode cX1_init 29 = .ok (.putfield 21, 3) := by decide +kernel
theorem dX1_init_32 : decode cX1_init 32 = .ok (.aload_n 0, 1) := by decide +kernel
theorem dX1_init_33 : decode cX1_init 33 = .ok (.iconst 0, 1) := by decide +kernel
theorem dX1_init_34 : decode cX1_init 34 = .ok (.putfield 24, 3) := by decide +kernel
theorem dX1_init_37 : decode cX1_init 37 = .ok (.aload_n 0, 1) := by decide +kernel
theorem dX1_init_38 : decode cX1_init 38 = .ok (.aload_n 1, 1) := by decide +kernel
theorem dX1_init_39 : decode cX1_init 39 = .ok (.putfield 28, 3) := by decide +kernel
theorem dX1_init_42 : decode cX1_init 42 = .ok (.return_, 1) := by decide +kernel
theorem dX4_init_0 : decode cX4_init 0 = .ok (.aload_n 0, 1) := by decide +kernel
theorem dX4_init_1 : decode cX4_init 1 = .ok (.invokespecial 3, 3) := by decide +kernel
theorem dX4_init_4 : decode cX4_init 4 = .ok (.aload_n 0, 1) := by decide +kernel
theorem dX4_init_5 : decode cX4_init 5 = .ok (.bipush 7, 2) := by decide +kernel
theorem dX4_init_7 : decode cX4_init 7 = .ok (.newarray .long, 2) := by decide +kernel
theorem dX4_init_9 : decode cX4_init 9 = .ok (.putfield 9, 3) := by decide +kernel
theorem dX4_init_12 : decode cX4_init 12 = .ok (.aload_n 0, 1) := by decide +kernel
theorem dX4_init_13 : decode cX4_init 13 = .ok (.bipush 7, 2) := by decide +kernel
theorem dX4_init_15 : decode cX4_init 15 = .ok (.newarray .long, 2) := by decide +kernel
theorem dX4_init_17 : decode cX4_init 17 = .ok (.putfield 15, 3) := by decide +kernel
theorem dX4_init_20 : decode cX4_init 20 = .ok (.aload_n 0, 1) := by decide +kernel
theorem dX4_init_21 : decode cX4_init 21 = .ok (.lconst 1, 1) := by decide +kernel
theorem dX4_init_22 : decode cX4_init 22 = .ok (.putfield 18, 3) := by decide +kernel
theorem dX4_init_25 : decode cX4_init 25 = .ok (.aload_n 0, 1) := by decide +kernel
theorem dX4_init_26 : decode cX4_init 26 = .ok (.aload_n 1, 1) := by decide +kernel
theorem dX4_init_27 : decode cX4_init 27 = .ok (.putfield 22, 3) := by decide +kernel
theorem dX4_init_30 : decode cX4_init 30 = .ok (.return_, 1) := by decide +kernel
theorem dX2_init_0 : decode cX2_init 0 = .ok (.aload_n 0, 1) := by decide +kernel
theorem dX2_init_1 : decode cX2_init 1 = .ok (.invokespecial 1, 3) := by decide +kernel
theorem dX2_init_4 : decode cX2_init 4 = .ok (.aload_n 0, 1) := by decide +kernel
theorem dX2_init_5 : decode cX2_init 5 = .ok (.lconst 0, 1) := by decide +kernel
theorem dX2_init_6 : decode cX2_init 6 = .ok (.putfield 7, 3) := by decide +kernel
theorem dX2_init_9 : decode cX2_init 9 = .ok (.aload_n 0, 1) := by decide +kernel
theorem dX2_init_10 : decode cX2_init 10 = .ok (.lconst 1, 1) := by decide +kernel
theorem dX2_init_11 : decode cX2_init 11 = .ok (.putfield 13, 3) := by decide +kernel
theorem dX2_init_14 : decode cX2_init 14 = .ok (.return_, 1) := by decide +kernel
theorem dX6_clear_0 : decode cX6_clear 0 = .ok (.aload_n 0, 1) := by decide +kernel
theorem dX6_clear_1 : decode cX6_clear 1 = .ok (.getfield 10, 3) := by decide +kernel
theorem dX6_clear_4 : decode cX6_clear 4 = .ok (.invokevirtual 56, 3) := by decide +kernel
theorem dX6_clear_7 : decode cX6_clear 7 = .ok (.aload_n 0, 1) := by decide +kernel
theorem dX6_clear_8 : decode cX6_clear 8 = .ok (.getfield 49, 3) := by decide +kernel
theorem dX6_clear_11 : decode cX6_clear 11 = .ok (.lconst 0, 1) := by decide +kernel
theorem dX6_clear_12 : decode cX6_clear 12 = .ok (.lconst 1, 1) := by decide +kernel
theorem dX6_clear_13 : decode cX6_clear 13 = .ok (.invokevirtual 59, 3) := by decide +kernel
theorem dX6_clear_16 : decode cX6_clear 16 = .ok (.return_, 1) := by decide +kernel
theorem dX0_removeAll_0 : decode cX0_removeAll 0 = .ok (.iconst 0, 1) := by decide +kernel
theorem dX0_removeAll_1 : decode cX0_removeAll 1 = .ok (.istore_n 1, 1) := by decide +kernel
theorem dX0_removeAll_2 : decode cX0_removeAll 2 = .ok (.iload_n 1, 1) := by decide +kernel
theorem dX0_removeAll_3 : decode cX0_removeAll 3 = .ok (.bipush 7, 2) := by decide +kernel
theorem dX0_removeAll_5 : decode cX0_removeAll 5 = .ok (.if_icmp .ge 46, 3) := by decide +kernel
theorem dX0_removeAll_8 : decode cX0_removeAll 8 = .ok (.iconst 0, 1) := by decide +kernel
theorem dX0_removeAll_9 : decode cX0_removeAll 9 = .ok (.istore_n 2, 1) := by decide +kernel
theorem dX0_removeAll_10 : decode cX0_removeAll 10 = .ok (.iload_n 2, 1) := by decide +kernel
theorem dX0_removeAll_11 : decode cX0_removeAll 11 = .ok (.bipush 7, 2) := by decide +kernel
theorem dX0_removeAll_13 : decode cX0_removeAll 13 = .ok (.if_icmp .ge 18, 3) := by decide +kernel
theorem dX0_removeAll_16 : decode cX0_removeAll 16 = .ok (.aload_n 0, 1) := by decide +kernel
theorem dX0_removeAll_17 : decode cX0_removeAll 17 = .ok (.getfield 11, 3) := by decide +kernel
theorem dX0_removeAll_20 : decode cX0_removeAll 20 = .ok (.iload_n 1, 1) := by decide +kernel
theorem dX0_removeAll_21 : decode cX0_removeAll 21 = .ok (.aaload, 1) := by decide +kernel
theorem dX0_removeAll_22 : decode cX0_removeAll 22 = .ok (.iload_n 2, 1) := by decide +kernel
theorem dX0_removeAll_23 : decode cX0_removeAll 23 = .ok (.iconst 0, 1) := by decide +kernel
theorem dX0_removeAll_24 : decode cX0_removeAll 24 = .ok (.iastore, 1) := by decide +kernel
theorem dX0_removeAll_25 : decode cX0_removeAll 25 = .ok (.iinc 2 1, 3) := by decide +kernel
theorem dX0_removeAll_28 : decode cX0_removeAll 28 = .ok (.goto (-18), 3) := by decide +kernel
theorem dX0_removeAll_31 : decode cX0_removeAll 31 = .ok (.aload_n 0, 1) := by decide +kernel
theorem dX0_removeAll_32 : decode cX0_removeAll 32 = .ok (.getfield 16, 3) := by decide +kernel
theorem dX0_removeAll_35 : decode cX0_removeAll 35 = .ok (.iload_n 1, 1) := by decide +kernel
theorem dX0_removeAll_36 : decode cX0_removeAll 36 = .ok (.iconst 0, 1) := by decide +kernel
theorem dX0_removeAll_37 : decode cX0_removeAll 37 = .ok (.iastore, 1) := by decide +kernel
theorem dX0_removeAll_38 : decode cX0_removeAll 38 = .ok (.aload_n 0, 1) := by decide +kernel
theorem dX0_removeAll_39 : decode cX0_removeAll 39 = .ok (.getfield 20, 3) := by decide +kernel
theorem dX0_removeAll_42 : decode cX0_removeAll 42 = .ok (.iload_n 1, 1) := by decide +kernel
theorem dX0_removeAll_43 : decode cX0_removeAll 43 = .ok (.iconst 0, 1) := by decide +kernel
theorem dX0_removeAll_44 : decode cX0_removeAll 44 = .ok (.iastore, 1) := by decide +kernel
theorem dX0_removeAll_45 : decode cX0_removeAll 45 = .ok (.iinc 1 1, 3) := by decide +kernel
theorem dX0_removeAll_48 : decode cX0_removeAll 48 = .ok (.goto (-46), 3) := by decide +kernel
theorem dX0_removeAll_51 : decode cX0_removeAll 51 = .ok (.aload_n 0, 1) := by decide +kernel
theorem dX0_removeAll_52 : decode cX0_removeAll 52 = .ok (.iconst 0, 1) := by decide +kernel
theorem dX0_removeAll_53 : decode cX0_removeAll 53 = .ok (.putfield 23, 3) := by decide +kernel
theorem dX0_removeAll_56 : decode cX0_removeAll 56 = .ok (.return_, 1) := by decide +kernel
theorem dX2_put_0 : decode cX2_put 0 = .ok (.lload_n 1, 1) := by decide +kernel
theorem dX2_put_1 : decode cX2_put 1 = .ok (.lload_n 3, 1) := by decide +kernel
theorem dX2_put_2 : decode cX2_put 2 = .ok (.invokestatic 16, 3) := by decide +kernel
theorem dX2_put_5 : decode cX2_put 5 = .ok (.lstore 5, 2) := by decide +kernel
theorem dX2_put_7 : decode cX2_put 7 = .ok (.lload_n 3, 1) := by decide +kernel
theorem dX2_put_8 : decode cX2_put 8 = .ok (.lconst 0, 1) := by decide +kernel
theorem dX2_put_9 : decode cX2_put 9 = .ok (.lcmp, 1) := by decide +kernel
theorem dX2_put_10 : decode cX2_put 10 = .ok (.ifCond .eq 10, 3) := by decide +kernel
theorem dX2_put_13 : decode cX2_put 13 = .ok (.lload 5, 2) := by decide +kernel
theorem dX2_put_15 : decode cX2_put 15 = .ok (.lconst 0, 1) := by decide +kernel
theorem dX2_put_16 : decode cX2_put 16 = .ok (.lcmp, 1) := by decide +kernel
theorem dX2_put_17 : decode cX2_put 17 = .ok (.ifCond .ne 14, 3) := by decide +kernel
theorem dX2_put_20 : decode cX2_put 20 = .ok (.aload_n 0, 1) := by decide +kernel
theorem dX2_put_21 : decode cX2_put 21 = .ok (.lconst 0, 1) := by decide +kernel
theorem dX2_put_22 : decode cX2_put 22 = .ok (.putfield 7, 3) := by decide +kernel
theorem dX2_put_25 : decode cX2_put 25 = .ok (.aload_n 0, 1) := by decide +kernel
theorem dX2_put_26 : decode cX2_put 26 = .ok (.lconst 1, 1) := by decide +kernel
theorem dX2_put_27 : decode cX2_put 27 = .ok (.putfield 13, 3) := by decide +kernel
theorem dX2_put_30 : decode cX2_put 30 = .ok (.return_, 1) := by decide +kernel
theorem dX2_put_31 : decode cX2_put 31 = .ok (.lload_n 3, 1) := by decide +kernel
theorem dX2_put_32 : decode cX2_put 32 = .ok (.lconst 0, 1) := by decide +kernel
theorem dX2_put_33 : decode cX2_put 33 = .ok (.lcmp, 1) := by decide +kernel
theorem dX2_put_34 : decode cX2_put 34 = .ok (.ifCond .ge 9, 3) := by decide +kernel
theorem dX2_put_37 : decode cX2_put 37 = .ok (.lload 5, 2) := by decide +kernel
theorem dX2_put_39 : decode cX2_put 39 = .ok (.lneg, 1) := by decide +kernel
theorem dX2_put_40 : decode cX2_put 40 = .ok (.goto 5, 3) := by decide +kernel
theorem dX2_put_43 : decode cX2_put 43 = .ok (.lload 5, 2) := by decide +kernel
theorem dX2_put_45 : decode cX2_put 45 = .ok (.lstore 7, 2) := by decide +kernel
theorem dX2_put_47 : decode cX2_put 47 = .ok (.aload_n 0, 1) := by decide +kernel
theorem dX2_put_48 : decode cX2_put 48 = .ok (.lload_n 1, 1) := by decide +kernel
theorem dX2_put_49 : decode cX2_put 49 = .ok (.lload 7, 2) := by decide +kernel
theorem dX2_put_51 : decode cX2_put 51 = .ok (.ldiv, 1) := by decide +kernel
theorem dX2_put_52 : decode cX2_put 52 = .ok (.putfield 7, 3) := by decide +kernel
theorem dX2_put_55 : decode cX2_put 55 = .ok (.aload_n 0, 1) := by decide +kernel
theorem dX2_put_56 : decode cX2_put 56 = .ok (.lload_n 3, 1) := by decide +kernel
theorem dX2_put_57 : decode cX2_put 57 = .ok (.lload 7, 2) := by decide +kernel
theorem dX2_put_59 : decode cX2_put 59 = .ok (.ldiv, 1) := by decide +kernel
theorem dX2_put_60 : decode cX2_put 60 = .ok (.putfield 13, 3) := by decide +kernel
theorem dX2_put_63 : decode cX2_put 63 = .ok (.return_, 1) := by decide +kernel
theorem dX6_commonDivisor_0 : decode cX6_commonDivisor 0 = .ok (.lload_n 0, 1) := by decide +kernel
theorem dX6_commonDivisor_1 : decode cX6_commonDivisor 1 = .ok (.invokestatic 175, 3) := by decide +kernel
theorem dX6_commonDivisor_4 : decode cX6_commonDivisor 4 = .ok (.lstore 4, 2) := by decide +kernel
theorem dX6_commonDivisor_6 : decode cX6_commonDivisor 6 = .ok (.lload_n 2, 1) := by decide +kernel
theorem dX6_commonDivisor_7 : decode cX6_commonDivisor 7 = .ok (.invokestatic 175, 3) := by decide +kernel
theorem dX6_commonDivisor_10 : decode cX6_commonDivisor 10 = .ok (.lstore 6, 2) := by decide +kernel
theorem dX6_commonDivisor_12 : decode cX6_commonDivisor 12 = .ok (.iconst 0, 1) := by decide +kernel
theorem dX6_commonDivisor_13 : decode cX6_commonDivisor 13 = .ok (.istore 8, 2) := by decide +kernel
theorem dX6_commonDivisor_15 : decode cX6_commonDivisor 15 = .ok (.iload 8, 2) := by decide +kernel
theorem dX6_commonDivisor_17 : decode cX6_commonDivisor 17 = .ok (.bipush 100, 2) := by decide +kernel
theorem dX6_commonDivisor_19 : decode cX6_commonDivisor 19 = .ok (.if_icmp .ge 31, 3) := by decide +kernel
theorem dX6_commonDivisor_22 : decode cX6_commonDivisor 22 = .ok (.lload 6, 2) := by decide +kernel
theorem dX6_commonDivisor_24 : decode cX6_commonDivisor 24 = .ok (.lconst 0, 1) := by decide +kernel
theorem dX6_commonDivisor_25 : decode cX6_commonDivisor 25 = .ok (.lcmp, 1) := by decide +kernel
theorem dX6_commonDivisor_26 : decode cX6_commonDivisor 26 = .ok (.ifCond .eq 24, 3) := by decide +kernel
theorem dX6_commonDivisor_29 : decode cX6_commonDivisor 29 = .ok (.lload 4, 2) := by decide +kernel
theorem dX6_commonDivisor_31 : decode cX6_commonDivisor 31 = .ok (.lload 6, 2) := by decide +kernel
theorem dX6_commonDivisor_33 : decode cX6_commonDivisor 33 = .ok (.lrem, 1) := by decide +kernel
theorem dX6_commonDivisor_34 : decode cX6_commonDivisor 34 = .ok (.lstore 9, 2) := by decide +kernel
theorem dX6_commonDivisor_36 : decode cX6_commonDivisor 36 = .ok (.lload 6, 2) := by decide +kernel
theorem dX6_commonDivisor_38 : decode cX6_commonDivisor 38 = .ok (.lstore 4, 2) := by decide +kernel
theorem dX6_commonDivisor_40 : decode cX6_commonDivisor 40 = .ok (.lload 9, 2) := by decide +kernel
theorem dX6_commonDivisor_42 : decode cX6_commonDivisor 42 = .ok (.lstore 6, 2) := by decide +kernel
theorem dX6_commonDivisor_44 : decode cX6_commonDivisor 44 = .ok (.iinc 8 1, 3) := by decide +kernel
theorem dX6_commonDivisor_47 : decode cX6_commonDivisor 47 = .ok (.goto (-32), 3) := by decide +kernel
theorem dX6_commonDivisor_50 : decode cX6_commonDivisor 50 = .ok (.lload 4, 2) := by decide +kernel
theorem dX6_commonDivisor_52 : decode cX6_commonDivisor 52 = .ok (.lreturn, 1) := by decide +kernel
theorem dX6_state_0 : decode cX6_state 0 = .ok (.aload_n 0, 1) := by decide +kernel
theorem dX6_state_1 : decode cX6_state 1 = .ok (.getfield 10, 3) := by decide +kernel
theorem dX6_state_4 : decode cX6_state 4 = .ok (.getfield 63, 3) := by decide +kernel
theorem dX6_state_7 : decode cX6_state 7 = .ok (.bipush 7, 2) := by decide +kernel
theorem dX6_state_9 : decode cX6_state 9 = .ok (.if_icmp .lt 6, 3) := by decide +kernel
theorem dX6_state_12 : decode cX6_state 12 = .ok (.bipush (-4), 2) := by decide +kernel
theorem dX6_state_14 : decode cX6_state 14 = .ok (.ireturn, 1) := by decide +kernel
theorem dX6_state_15 : decode cX6_state 15 = .ok (.aload_n 0, 1) := by decide +kernel
theorem dX6_state_16 : decode cX6_state 16 = .ok (.getfield 10, 3) := by decide +kernel
theorem dX6_state_19 : decode cX6_state 19 = .ok (.dup, 1) := by decide +kernel
theorem dX6_state_20 : decode cX6_state 20 = .ok (.getfield 63, 3) := by decide +kernel
theorem dX6_state_23 : decode cX6_state 23 = .ok (.iconst 1, 1) := by decide +kernel
theorem dX6_state_24 : decode cX6_state 24 = .ok (.iadd, 1) := by decide +kernel
theorem dX6_state_25 : decode cX6_state 25 = .ok (.putfield 63, 3) := by decide +kernel
theorem dX6_state_28 : decode cX6_state 28 = .ok (.aload_n 0, 1) := by decide +kernel
theorem dX6_state_29 : decode cX6_state 29 = .ok (.getfield 10, 3) := by decide +kernel
theorem dX6_state_32 : decode cX6_state 32 = .ok (.getfield 63, 3) := by decide +kernel
theorem dX6_state_35 : decode cX6_state 35 = .ok (.iconst 1, 1) := by decide +kernel
theorem dX6_state_36 : decode cX6_state 36 = .ok (.isub, 1) := by decide +kernel
theorem dX6_state_37 : decode cX6_state 37 = .ok (.ireturn, 1) := by decide +kernel
theorem dX6_arc_0 : decode cX6_arc 0 = .ok (.aload_n 0, 1) := by decide +kernel
theorem dX6_arc_1 : decode cX6_arc 1 = .ok (.getfield 10, 3) := by decide +kernel
theorem dX6_arc_4 : decode cX6_arc 4 = .ok (.iload_n 1, 1) := by decide +kernel
theorem dX6_arc_5 : decode cX6_arc 5 = .ok (.invokevirtual 67, 3) := by decide +kernel
theorem dX6_arc_8 : decode cX6_arc 8 = .ok (.ifCond .eq 14, 3) := by decide +kernel
theorem dX6_arc_11 : decode cX6_arc 11 = .ok (.aload_n 0, 1) := by decide +kernel
theorem dX6_arc_12 : decode cX6_arc 12 = .ok (.getfield 10, 3) := by decide +kernel
theorem dX6_arc_15 : decode cX6_arc 15 = .ok (.iload_n 2, 1) := by decide +kernel
theorem dX6_arc_16 : decode cX6_arc 16 = .ok (.invokevirtual 67, 3) := by decide +kernel
theorem dX6_arc_19 : decode cX6_arc 19 = .ok (.ifCond .ne 5, 3) := by decide +kernel
theorem dX6_arc_22 : decode cX6_arc 22 = .ok (.iconst (-1), 1) := by decide +kernel
theorem dX6_arc_23 : decode cX6_arc 23 = .ok (.ireturn, 1) := by decide +kernel
theorem dX6_arc_24 : decode cX6_arc 24 = .ok (.iload_n 3, 1) := by decide +kernel
theorem dX6_arc_25 : decode cX6_arc 25 = .ok (.ifCond .lt 9, 3) := by decide +kernel
theorem dX6_arc_28 : decode cX6_arc 28 = .ok (.iload_n 3, 1) := by decide +kernel
theorem dX6_arc_29 : decode cX6_arc 29 = .ok (.bipush 9, 2) := by decide +kernel
theorem dX6_arc_31 : decode cX6_arc 31 = .ok (.if_icmp .le 6, 3) := by decide +kernel
theorem dX6_arc_34 : decode cX6_arc 34 = .ok (.bipush (-2), 2) := by decide +kernel
theorem dX6_arc_36 : decode cX6_arc 36 = .ok (.ireturn, 1) := by decide +kernel
theorem dX6_arc_37 : decode cX6_arc 37 = .ok (.aload_n 0, 1) := by decide +kernel
theorem dX6_arc_38 : decode cX6_arc 38 = .ok (.getfield 10, 3) := by decide +kernel
theorem dX6_arc_41 : decode cX6_arc 41 = .ok (.getfield 71, 3) := by decide +kernel
theorem dX6_arc_44 : decode cX6_arc 44 = .ok (.iload_n 1, 1) := by decide +kernel
theorem dX6_arc_45 : decode cX6_arc 45 = .ok (.aaload, 1) := by decide +kernel
theorem dX6_arc_46 : decode cX6_arc 46 = .ok (.iload_n 2, 1) := by decide +kernel
theorem dX6_arc_47 : decode cX6_arc 47 = .ok (.iaload, 1) := by decide +kernel
theorem dX6_arc_48 : decode cX6_arc 48 = .ok (.istore 4, 2) := by decide +kernel
theorem dX6_arc_50 : decode cX6_arc 50 = .ok (.aload_n 0, 1) := by decide +kernel
theorem dX6_arc_51 : decode cX6_arc 51 = .ok (.getfield 10, 3) := by decide +kernel
theorem dX6_arc_54 : decode cX6_arc 54 = .ok (.getfield 75, 3) := by decide +kernel
theorem dX6_arc_57 : decode cX6_arc 57 = .ok (.iload_n 1, 1) := by decide +kernel
theorem dX6_arc_58 : decode cX6_arc 58 = .ok (.iaload, 1) := by decide +kernel
theorem dX6_arc_59 : decode cX6_arc 59 = .ok (.iload 4, 2) := by decide +kernel
theorem dX6_arc_61 : decode cX6_arc 61 = .ok (.isub, 1) := by decide +kernel
theorem dX6_arc_62 : decode cX6_arc 62 = .ok (.iload_n 3, 1) := by decide +kernel
theorem dX6_arc_63 : decode cX6_arc 63 = .ok (.iadd, 1) := by decide +kernel
theorem dX6_arc_64 : decode cX6_arc 64 = .ok (.istore 5, 2) := by decide +kernel
theorem dX6_arc_66 : decode cX6_arc 66 = .ok (.iload 5, 2) := by decide +kernel
theorem dX6_arc_68 : decode cX6_arc 68 = .ok (.bipush 12, 2) := by decide +kernel
theorem dX6_arc_70 : decode cX6_arc 70 = .ok (.if_icmp .le 6, 3) := by decide +kernel
theorem dX6_arc_73 : decode cX6_arc 73 = .ok (.bipush (-2), 2) := by decide +kernel
theorem dX6_arc_75 : decode cX6_arc 75 = .ok (.ireturn, 1) := by decide +kernel
theorem dX6_arc_76 : decode cX6_arc 76 = .ok (.aload_n 0, 1) := by decide +kernel
theorem dX6_arc_77 : decode cX6_arc 77 = .ok (.getfield 10, 3) := by decide +kernel
theorem dX6_arc_80 : decode cX6_arc 80 = .ok (.getfield 71, 3) := by decide +kernel
theorem dX6_arc_83 : decode cX6_arc 83 = .ok (.iload_n 1, 1) := by decide +kernel
theorem dX6_arc_84 : decode cX6_arc 84 = .ok (.aaload, 1) := by decide +kernel
theorem dX6_arc_85 : decode cX6_arc 85 = .ok (.iload_n 2, 1) := by decide +kernel
theorem dX6_arc_86 : decode cX6_arc 86 = .ok (.iload_n 3, 1) := by decide +kernel
theorem dX6_arc_87 : decode cX6_arc 87 = .ok (.iastore, 1) := by decide +kernel
theorem dX6_arc_88 : decode cX6_arc 88 = .ok (.aload_n 0, 1) := by decide +kernel
theorem dX6_arc_89 : decode cX6_arc 89 = .ok (.getfield 10, 3) := by decide +kernel
theorem dX6_arc_92 : decode cX6_arc 92 = .ok (.getfield 75, 3) := by decide +kernel
theorem dX6_arc_95 : decode cX6_arc 95 = .ok (.iload_n 1, 1) := by decide +kernel
theorem dX6_arc_96 : decode cX6_arc 96 = .ok (.iload 5, 2) := by decide +kernel
theorem dX6_arc_98 : decode cX6_arc 98 = .ok (.iastore, 1) := by decide +kernel
theorem dX6_arc_99 : decode cX6_arc 99 = .ok (.iload 4, 2) := by decide +kernel
theorem dX6_arc_101 : decode cX6_arc 101 = .ok (.ireturn, 1) := by decide +kernel
theorem dX0_has_0 : decode cX0_has 0 = .ok (.iload_n 1, 1) := by decide +kernel
theorem dX0_has_1 : decode cX0_has 1 = .ok (.ifCond .lt 15, 3) := by decide +kernel
theorem dX0_has_4 : decode cX0_has 4 = .ok (.iload_n 1, 1) := by decide +kernel
theorem dX0_has_5 : decode cX0_has 5 = .ok (.aload_n 0, 1) := by decide +kernel
theorem dX0_has_6 : decode cX0_has 6 = .ok (.getfield 23, 3) := by decide +kernel
theorem dX0_has_9 : decode cX0_has 9 = .ok (.if_icmp .ge 7, 3) := by decide +kernel
theorem dX0_has_12 : decode cX0_has 12 = .ok (.iconst 1, 1) := by decide +kernel
theorem dX0_has_13 : decode cX0_has 13 = .ok (.goto 4, 3) := by decide +kernel
theorem dX0_has_16 : decode cX0_has 16 = .ok (.iconst 0, 1) := by decide +kernel
theorem dX0_has_17 : decode cX0_has 17 = .ok (.ireturn, 1) := by decide +kernel
theorem dX6_reward_0 : decode cX6_reward 0 = .ok (.aload_n 0, 1) := by decide +kernel
theorem dX6_reward_1 : decode cX6_reward 1 = .ok (.getfield 10, 3) := by decide +kernel
theorem dX6_reward_4 : decode cX6_reward 4 = .ok (.iload_n 1, 1) := by decide +kernel
theorem dX6_reward_5 : decode cX6_reward 5 = .ok (.invokevirtual 67, 3) := by decide +kernel
theorem dX6_reward_8 : decode cX6_reward 8 = .ok (.ifCond .ne 5, 3) := by decide +kernel
theorem dX6_reward_11 : decode cX6_reward 11 = .ok (.iconst (-1), 1) := by decide +kernel
theorem dX6_reward_12 : decode cX6_reward 12 = .ok (.ireturn, 1) := by decide +kernel
theorem dX6_reward_13 : decode cX6_reward 13 = .ok (.iload_n 2, 1) := by decide +kernel
theorem dX6_reward_14 : decode cX6_reward 14 = .ok (.bipush (-100), 2) := by decide +kernel
theorem dX6_reward_16 : decode cX6_reward 16 = .ok (.if_icmp .lt 9, 3) := by decide +kernel
theorem dX6_reward_19 : decode cX6_reward 19 = .ok (.iload_n 2, 1) := by decide +kernel
theorem dX6_reward_20 : decode cX6_reward 20 = .ok (.bipush 100, 2) := by decide +kernel
theorem dX6_reward_22 : decode cX6_reward 22 = .ok (.if_icmp .le 6, 3) := by decide +kernel
theorem dX6_reward_25 : decode cX6_reward 25 = .ok (.bipush (-2), 2) := by decide +kernel
theorem dX6_reward_27 : decode cX6_reward 27 = .ok (.ireturn, 1) := by decide +kernel
theorem dX6_reward_28 : decode cX6_reward 28 = .ok (.aload_n 0, 1) := by decide +kernel
theorem dX6_reward_29 : decode cX6_reward 29 = .ok (.getfield 10, 3) := by decide +kernel
theorem dX6_reward_32 : decode cX6_reward 32 = .ok (.getfield 79, 3) := by decide +kernel
theorem dX6_reward_35 : decode cX6_reward 35 = .ok (.iload_n 1, 1) := by decide +kernel
theorem dX6_reward_36 : decode cX6_reward 36 = .ok (.iaload, 1) := by decide +kernel
theorem dX6_reward_37 : decode cX6_reward 37 = .ok (.istore_n 3, 1) := by decide +kernel
theorem dX6_reward_38 : decode cX6_reward 38 = .ok (.aload_n 0, 1) := by decide +kernel
theorem dX6_reward_39 : decode cX6_reward 39 = .ok (.getfield 10, 3) := by decide +kernel
theorem dX6_reward_42 : decode cX6_reward 42 = .ok (.getfield 79, 3) := by decide +kernel
theorem dX6_reward_45 : decode cX6_reward 45 = .ok (.iload_n 1, 1) := by decide +kernel
theorem dX6_reward_46 : decode cX6_reward 46 = .ok (.iload_n 2, 1) := by decide +kernel
theorem dX6_reward_47 : decode cX6_reward 47 = .ok (.iastore, 1) := by decide +kernel
theorem dX6_reward_48 : decode cX6_reward 48 = .ok (.iload_n 3, 1) := by decide +kernel
theorem dX6_reward_49 : decode cX6_reward 49 = .ok (.bipush 100, 2) := by decide +kernel
theorem dX6_reward_51 : decode cX6_reward 51 = .ok (.iadd, 1) := by decide +kernel
theorem dX6_reward_52 : decode cX6_reward 52 = .ok (.ireturn, 1) := by decide +kernel
theorem dX6_part_0 : decode cX6_part 0 = .ok (.aload_n 0, 1) := by decide +kernel
theorem dX6_part_1 : decode cX6_part 1 = .ok (.getfield 10, 3) := by decide +kernel
theorem dX6_part_4 : decode cX6_part 4 = .ok (.iload_n 1, 1) := by decide +kernel
theorem dX6_part_5 : decode cX6_part 5 = .ok (.invokevirtual 67, 3) := by decide +kernel
theorem dX6_part_8 : decode cX6_part 8 = .ok (.ifCond .eq 14, 3) := by decide +kernel
theorem dX6_part_11 : decode cX6_part 11 = .ok (.aload_n 0, 1) := by decide +kernel
theorem dX6_part_12 : decode cX6_part 12 = .ok (.getfield 21, 3) := by decide +kernel
theorem dX6_part_15 : decode cX6_part 15 = .ok (.iload_n 1, 1) := by decide +kernel
theorem dX6_part_16 : decode cX6_part 16 = .ok (.invokevirtual 82, 3) := by decide +kernel
theorem dX6_part_19 : decode cX6_part 19 = .ok (.goto 4, 3) := by decide +kernel
theorem dX6_part_22 : decode cX6_part 22 = .ok (.iconst (-1), 1) := by decide +kernel
theorem dX6_part_23 : decode cX6_part 23 = .ok (.ireturn, 1) := by decide +kernel
theorem dX5_leastOfPart_0 : decode cX5_leastOfPart 0 = .ok (.aload_n 0, 1) := by decide +kernel
theorem dX5_leastOfPart_1 : decode cX5_leastOfPart 1 = .ok (.iload_n 1, 1) := by decide +kernel
theorem dX5_leastOfPart_2 : decode cX5_leastOfPart 2 = .ok (.iconst 0, 1) := by decide +kernel
theorem dX5_leastOfPart_3 : decode cX5_leastOfPart 3 = .ok (.invokevirtual 29, 3) := by decide +kernel
theorem dX5_leastOfPart_6 : decode cX5_leastOfPart 6 = .ok (.aload_n 0, 1) := by decide +kernel
theorem dX5_leastOfPart_7 : decode cX5_leastOfPart 7 = .ok (.iconst 1, 1) := by decide +kernel
theorem dX5_leastOfPart_8 : decode cX5_leastOfPart 8 = .ok (.iload_n 1, 1) := by decide +kernel
theorem dX5_leastOfPart_9 : decode cX5_leastOfPart 9 = .ok (.ishl, 1) := by decide +kernel
theorem dX5_leastOfPart_10 : decode cX5_leastOfPart 10 = .ok (.iconst 0, 1) := by decide +kernel
theorem dX5_leastOfPart_11 : decode cX5_leastOfPart 11 = .ok (.invokevirtual 33, 3) := by decide +kernel
theorem dX5_leastOfPart_14 : decode cX5_leastOfPart 14 = .ok (.iand, 1) := by decide +kernel
theorem dX5_leastOfPart_15 : decode cX5_leastOfPart 15 = .ok (.istore_n 2, 1) := by decide +kernel
theorem dX5_leastOfPart_16 : decode cX5_leastOfPart 16 = .ok (.iconst 0, 1) := by decide +kernel
theorem dX5_leastOfPart_17 : decode cX5_leastOfPart 17 = .ok (.istore_n 3, 1) := by decide +kernel
theorem dX5_leastOfPart_18 : decode cX5_leastOfPart 18 = .ok (.iload_n 3, 1) := by decide +kernel
theorem dX5_leastOfPart_19 : decode cX5_leastOfPart 19 = .ok (.iload_n 1, 1) := by decide +kernel
theorem dX5_leastOfPart_20 : decode cX5_leastOfPart 20 = .ok (.if_icmp .ge 19, 3) := by decide +kernel
theorem dX5_leastOfPart_23 : decode cX5_leastOfPart 23 = .ok (.iload_n 2, 1) := by decide +kernel
theorem dX5_leastOfPart_24 : decode cX5_leastOfPart 24 = .ok (.iload_n 3, 1) := by decide +kernel
theorem dX5_leastOfPart_25 : decode cX5_leastOfPart 25 = .ok (.invokestatic 19, 3) := by decide +kernel
theorem dX5_leastOfPart_28 : decode cX5_leastOfPart 28 = .ok (.ifCond .eq 5, 3) := by decide +kernel
theorem dX5_leastOfPart_31 : decode cX5_leastOfPart 31 = .ok (.iload_n 3, 1) := by decide +kernel
theorem dX5_leastOfPart_32 : decode cX5_leastOfPart 32 = .ok (.ireturn, 1) := by decide +kernel
theorem dX5_leastOfPart_33 : decode cX5_leastOfPart 33 = .ok (.iinc 3 1, 3) := by decide +kernel
theorem dX5_leastOfPart_36 : decode cX5_leastOfPart 36 = .ok (.goto (-18), 3) := by decide +kernel
theorem dX5_leastOfPart_39 : decode cX5_leastOfPart 39 = .ok (.iload_n 1, 1) := by decide +kernel
theorem dX5_leastOfPart_40 : decode cX5_leastOfPart 40 = .ok (.ireturn, 1) := by decide +kernel
theorem dX5_metFrom_0 : decode cX5_metFrom 0 = .ok (.iconst 1, 1) := by decide +kernel
theorem dX5_metFrom_1 : decode cX5_metFrom 1 = .ok (.iload_n 1, 1) := by decide +kernel
theorem dX5_metFrom_2 : decode cX5_metFrom 2 = .ok (.ishl, 1) := by decide +kernel
theorem dX5_metFrom_3 : decode cX5_metFrom 3 = .ok (.istore_n 3, 1) := by decide +kernel
theorem dX5_metFrom_4 : decode cX5_metFrom 4 = .ok (.iconst 0, 1) := by decide +kernel
theorem dX5_metFrom_5 : decode cX5_metFrom 5 = .ok (.istore 4, 2) := by decide +kernel
theorem dX5_metFrom_7 : decode cX5_metFrom 7 = .ok (.iload 4, 2) := by decide +kernel
theorem dX5_metFrom_9 : decode cX5_metFrom 9 = .ok (.aload_n 0, 1) := by decide +kernel
theorem dX5_metFrom_10 : decode cX5_metFrom 10 = .ok (.getfield 7, 3) := by decide +kernel
theorem dX5_metFrom_13 : decode cX5_metFrom 13 = .ok (.getfield 13, 3) := by decide +kernel
theorem dX5_metFrom_16 : decode cX5_metFrom 16 = .ok (.if_icmp .ge 55, 3) := by decide +kernel
theorem dX5_metFrom_19 : decode cX5_metFrom 19 = .ok (.iconst 0, 1) := by decide +kernel
theorem dX5_metFrom_20 : decode cX5_metFrom 20 = .ok (.istore 5, 2) := by decide +kernel
theorem dX5_metFrom_22 : decode cX5_metFrom 22 = .ok (.iload 5, 2) := by decide +kernel
theorem dX5_metFrom_24 : decode cX5_metFrom 24 = .ok (.aload_n 0, 1) := by decide +kernel
theorem dX5_metFrom_25 : decode cX5_metFrom 25 = .ok (.getfield 7, 3) := by decide +kernel
theorem dX5_metFrom_28 : decode cX5_metFrom 28 = .ok (.getfield 13, 3) := by decide +kernel
theorem dX5_metFrom_31 : decode cX5_metFrom 31 = .ok (.if_icmp .ge 34, 3) := by decide +kernel
theorem dX5_metFrom_34 : decode cX5_metFrom 34 = .ok (.iload_n 3, 1) := by decide +kernel
theorem dX5_metFrom_35 : decode cX5_metFrom 35 = .ok (.iload_n 2, 1) := by decide +kernel
theorem dX5_metFrom_36 : decode cX5_metFrom 36 = .ok (.iconst (-1), 1) := by decide +kernel
theorem dX5_metFrom_37 : decode cX5_metFrom 37 = .ok (.ixor, 1) := by decide +kernel
theorem dX5_metFrom_38 : decode cX5_metFrom 38 = .ok (.iand, 1) := by decide +kernel
theorem dX5_metFrom_39 : decode cX5_metFrom 39 = .ok (.iload 5, 2) := by decide +kernel
theorem dX5_metFrom_41 : decode cX5_metFrom 41 = .ok (.invokestatic 19, 3) := by decide +kernel
theorem dX5_metFrom_44 : decode cX5_metFrom 44 = .ok (.ifCond .eq 15, 3) := by decide +kernel
theorem dX5_metFrom_47 : decode cX5_metFrom 47 = .ok (.iload_n 3, 1) := by decide +kernel
theorem dX5_metFrom_48 : decode cX5_metFrom 48 = .ok (.aload_n 0, 1) := by decide +kernel
theorem dX5_metFrom_49 : decode cX5_metFrom 49 = .ok (.getfield 7, 3) := by decide +kernel
theorem dX5_metFrom_52 : decode cX5_metFrom 52 = .ok (.iload 5, 2) := by decide +kernel
theorem dX5_metFrom_54 : decode cX5_metFrom 54 = .ok (.invokevirtual 25, 3) := by decide +kernel
theorem dX5_metFrom_57 : decode cX5_metFrom 57 = .ok (.ior, 1) := by decide +kernel
theorem dX5_metFrom_58 : decode cX5_metFrom 58 = .ok (.istore_n 3, 1) := by decide +kernel
theorem dX5_metFrom_59 : decode cX5_metFrom 59 = .ok (.iinc 5 1, 3) := by decide +kernel
theorem dX5_metFrom_62 : decode cX5_metFrom 62 = .ok (.goto (-40), 3) := by decide +kernel
theorem dX5_metFrom_65 : decode cX5_metFrom 65 = .ok (.iinc 4 1, 3) := by decide +kernel
theorem dX5_metFrom_68 : decode cX5_metFrom 68 = .ok (.goto (-61), 3) := by decide +kernel
theorem dX5_metFrom_71 : decode cX5_metFrom 71 = .ok (.iload_n 3, 1) := by decide +kernel
theorem dX5_metFrom_72 : decode cX5_metFrom 72 = .ok (.ireturn, 1) := by decide +kernel
theorem dX6_holds_0 : decode cX6_holds 0 = .ok (.iload_n 0, 1) := by decide +kernel
theorem dX6_holds_1 : decode cX6_holds 1 = .ok (.iload_n 1, 1) := by decide +kernel
theorem dX6_holds_2 : decode cX6_holds 2 = .ok (.ishr, 1) := by decide +kernel
theorem dX6_holds_3 : decode cX6_holds 3 = .ok (.iconst 1, 1) := by decide +kernel
theorem dX6_holds_4 : decode cX6_holds 4 = .ok (.iand, 1) := by decide +kernel
theorem dX6_holds_5 : decode cX6_holds 5 = .ok (.ifCond .eq 7, 3) := by decide +kernel
theorem dX6_holds_8 : decode cX6_holds 8 = .ok (.iconst 1, 1) := by decide +kernel
theorem dX6_holds_9 : decode cX6_holds 9 = .ok (.goto 4, 3) := by decide +kernel
theorem dX6_holds_12 : decode cX6_holds 12 = .ok (.iconst 0, 1) := by decide +kernel
theorem dX6_holds_13 : decode cX6_holds 13 = .ok (.ireturn, 1) := by decide +kernel
