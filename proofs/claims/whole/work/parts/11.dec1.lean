theorem dX0_nextOnes_0 : decode cX0_nextOnes 0 = .ok (.iconst 0, 1) := by decide +kernel
theorem dX0_nextOnes_1 : decode cX0_nextOnes 1 = .ok (.istore_n 2, 1) := by decide +kernel
theorem dX0_nextOnes_2 : decode cX0_nextOnes 2 = .ok (.iconst 0, 1) := by decide +kernel
theorem dX0_nextOnes_3 : decode cX0_nextOnes 3 = .ok (.istore_n 3, 1) := by decide +kernel
theorem dX0_nextOnes_4 : decode cX0_nextOnes 4 = .ok (.iload_n 3, 1) := by decide +kernel
theorem dX0_nextOnes_5 : decode cX0_nextOnes 5 = .ok (.aload_n 0, 1) := by decide +kernel
theorem dX0_nextOnes_6 : decode cX0_nextOnes 6 = .ok (.getfield 23, 3) := by decide +kernel
theorem dX0_nextOnes_9 : decode cX0_nextOnes 9 = .ok (.if_icmp .ge 24, 3) := by decide +kernel
theorem dX0_nextOnes_12 : decode cX0_nextOnes 12 = .ok (.aload_n 0, 1) := by decide +kernel
theorem dX0_nextOnes_13 : decode cX0_nextOnes 13 = .ok (.iload_n 1, 1) := by decide +kernel
theorem dX0_nextOnes_14 : decode cX0_nextOnes 14 = .ok (.iload_n 3, 1) := by decide +kernel
theorem dX0_nextOnes_15 : decode cX0_nextOnes 15 = .ok (.invokevirtual 35, 3) := by decide +kernel
theorem dX0_nextOnes_18 : decode cX0_nextOnes 18 = .ok (.ifCond .eq 9, 3) := by decide +kernel
theorem dX0_nextOnes_21 : decode cX0_nextOnes 21 = .ok (.iload_n 2, 1) := by decide +kernel
theorem dX0_nextOnes_22 : decode cX0_nextOnes 22 = .ok (.iconst 1, 1) := by decide +kernel
theorem dX0_nextOnes_23 : decode cX0_nextOnes 23 = .ok (.iload_n 3, 1) := by decide +kernel
theorem dX0_nextOnes_24 : decode cX0_nextOnes 24 = .ok (.ishl, 1) := by decide +kernel
theorem dX0_nextOnes_25 : decode cX0_nextOnes 25 = .ok (.ior, 1) := by decide +kernel
theorem dX0_nextOnes_26 : decode cX0_nextOnes 26 = .ok (.istore_n 2, 1) := by decide +kernel
theorem dX0_nextOnes_27 : decode cX0_nextOnes 27 = .ok (.iinc 3 1, 3) := by decide +kernel
theorem dX0_nextOnes_30 : decode cX0_nextOnes 30 = .ok (.goto (-26), 3) := by decide +kernel
theorem dX0_nextOnes_33 : decode cX0_nextOnes 33 = .ok (.iload_n 2, 1) := by decide +kernel
theorem dX0_nextOnes_34 : decode cX0_nextOnes 34 = .ok (.ireturn, 1) := by decide +kernel
theorem dX0_pull_0 : decode cX0_pull 0 = .ok (.aload_n 0, 1) := by decide +kernel
theorem dX0_pull_1 : decode cX0_pull 1 = .ok (.iload_n 1, 1) := by decide +kernel
theorem dX0_pull_2 : decode cX0_pull 2 = .ok (.invokevirtual 27, 3) := by decide +kernel
theorem dX0_pull_5 : decode cX0_pull 5 = .ok (.ifCond .eq 14, 3) := by decide +kernel
theorem dX0_pull_8 : decode cX0_pull 8 = .ok (.iload_n 1, 1) := by decide +kernel
theorem dX0_pull_9 : decode cX0_pull 9 = .ok (.iload_n 2, 1) := by decide +kernel
theorem dX0_pull_10 : decode cX0_pull 10 = .ok (.if_icmp .ne 7, 3) := by decide +kernel
theorem dX0_pull_13 : decode cX0_pull 13 = .ok (.iconst 1, 1) := by decide +kernel
theorem dX0_pull_14 : decode cX0_pull 14 = .ok (.goto 4, 3) := by decide +kernel
theorem dX0_pull_17 : decode cX0_pull 17 = .ok (.iconst 0, 1) := by decide +kernel
theorem dX0_pull_18 : decode cX0_pull 18 = .ok (.ireturn, 1) := by decide +kernel
theorem dX0_pull_19 : decode cX0_pull 19 = .ok (.aload_n 0, 1) := by decide +kernel
theorem dX0_pull_20 : decode cX0_pull 20 = .ok (.getfield 11, 3) := by decide +kernel
theorem dX0_pull_23 : decode cX0_pull 23 = .ok (.iload_n 1, 1) := by decide +kernel
theorem dX0_pull_24 : decode cX0_pull 24 = .ok (.aaload, 1) := by decide +kernel
theorem dX0_pull_25 : decode cX0_pull 25 = .ok (.iload_n 2, 1) := by decide +kernel
theorem dX0_pull_26 : decode cX0_pull 26 = .ok (.iaload, 1) := by decide +kernel
theorem dX0_pull_27 : decode cX0_pull 27 = .ok (.ireturn, 1) := by decide +kernel
theorem dX0_isEnd_0 : decode cX0_isEnd 0 = .ok (.aload_n 0, 1) := by decide +kernel
theorem dX0_isEnd_1 : decode cX0_isEnd 1 = .ok (.getfield 16, 3) := by decide +kernel
theorem dX0_isEnd_4 : decode cX0_isEnd 4 = .ok (.iload_n 1, 1) := by decide +kernel
theorem dX0_isEnd_5 : decode cX0_isEnd 5 = .ok (.iaload, 1) := by decide +kernel
theorem dX0_isEnd_6 : decode cX0_isEnd 6 = .ok (.ifCond .ne 7, 3) := by decide +kernel
theorem dX0_isEnd_9 : decode cX0_isEnd 9 = .ok (.iconst 1, 1) := by decide +kernel
theorem dX0_isEnd_10 : decode cX0_isEnd 10 = .ok (.goto 4, 3) := by decide +kernel
theorem dX0_isEnd_13 : decode cX0_isEnd 13 = .ok (.iconst 0, 1) := by decide +kernel
theorem dX0_isEnd_14 : decode cX0_isEnd 14 = .ok (.ireturn, 1) := by decide +kernel
theorem dX5_leadingTo_0 : decode cX5_leadingTo 0 = .ok (.iload_n 1, 1) := by decide +kernel
theorem dX5_leadingTo_1 : decode cX5_leadingTo 1 = .ok (.istore_n 3, 1) := by decide +kernel
theorem dX5_leadingTo_2 : decode cX5_leadingTo 2 = .ok (.iconst 0, 1) := by decide +kernel
theorem dX5_leadingTo_3 : decode cX5_leadingTo 3 = .ok (.istore 4, 2) := by decide +kernel
theorem dX5_leadingTo_5 : decode cX5_leadingTo 5 = .ok (.iload 4, 2) := by decide +kernel
theorem dX5_leadingTo_7 : decode cX5_leadingTo 7 = .ok (.aload_n 0, 1) := by decide +kernel
theorem dX5_leadingTo_8 : decode cX5_leadingTo 8 = .ok (.getfield 7, 3) := by decide +kernel
theorem dX5_leadingTo_11 : decode cX5_leadingTo 11 = .ok (.getfield 13, 3) := by decide +kernel
theorem dX5_leadingTo_14 : decode cX5_leadingTo 14 = .ok (.if_icmp .ge 60, 3) := by decide +kernel
theorem dX5_leadingTo_17 : decode cX5_leadingTo 17 = .ok (.iconst 0, 1) := by decide +kernel
theorem dX5_leadingTo_18 : decode cX5_leadingTo 18 = .ok (.istore 5, 2) := by decide +kernel
theorem dX5_leadingTo_20 : decode cX5_leadingTo 20 = .ok (.iload 5, 2) := by decide +kernel
theorem dX5_leadingTo_22 : decode cX5_leadingTo 22 = .ok (.aload_n 0, 1) := by decide +kernel
theorem dX5_leadingTo_23 : decode cX5_leadingTo 23 = .ok (.getfield 7, 3) := by decide +kernel
theorem dX5_leadingTo_26 : decode cX5_leadingTo 26 = .ok (.getfield 13, 3) := by decide +kernel
theorem dX5_leadingTo_29 : decode cX5_leadingTo 29 = .ok (.if_icmp .ge 39, 3) := by decide +kernel
theorem dX5_leadingTo_32 : decode cX5_leadingTo 32 = .ok (.iload_n 2, 1) := by decide +kernel
theorem dX5_leadingTo_33 : decode cX5_leadingTo 33 = .ok (.iload 5, 2) := by decide +kernel
theorem dX5_leadingTo_35 : decode cX5_leadingTo 35 = .ok (.invokestatic 19, 3) := by decide +kernel
theorem dX5_leadingTo_38 : decode cX5_leadingTo 38 = .ok (.ifCond .ne 24, 3) := by decide +kernel
theorem dX5_leadingTo_41 : decode cX5_leadingTo 41 = .ok (.aload_n 0, 1) := by decide +kernel
theorem dX5_leadingTo_42 : decode cX5_leadingTo 42 = .ok (.getfield 7, 3) := by decide +kernel
theorem dX5_leadingTo_45 : decode cX5_leadingTo 45 = .ok (.iload 5, 2) := by decide +kernel
theorem dX5_leadingTo_47 : decode cX5_leadingTo 47 = .ok (.invokevirtual 25, 3) := by decide +kernel
theorem dX5_leadingTo_50 : decode cX5_leadingTo 50 = .ok (.iload_n 3, 1) := by decide +kernel
theorem dX5_leadingTo_51 : decode cX5_leadingTo 51 = .ok (.iand, 1) := by decide +kernel
theorem dX5_leadingTo_52 : decode cX5_leadingTo 52 = .ok (.ifCond .eq 10, 3) := by decide +kernel
theorem dX5_leadingTo_55 : decode cX5_leadingTo 55 = .ok (.iload_n 3, 1) := by decide +kernel
theorem dX5_leadingTo_56 : decode cX5_leadingTo 56 = .ok (.iconst 1, 1) := by decide +kernel
theorem dX5_leadingTo_57 : decode cX5_leadingTo 57 = .ok (.iload 5, 2) := by decide +kernel
theorem dX5_leadingTo_59 : decode cX5_leadingTo 59 = .ok (.ishl, 1) := by decide +kernel
theorem dX5_leadingTo_60 : decode cX5_leadingTo 60 = .ok (.ior, 1) := by decide +kernel
theorem dX5_leadingTo_61 : decode cX5_leadingTo 61 = .ok (.istore_n 3, 1) := by decide +kernel
theorem dX5_leadingTo_62 : decode cX5_leadingTo 62 = .ok (.iinc 5 1, 3) := by decide +kernel
theorem dX5_leadingTo_65 : decode cX5_leadingTo 65 = .ok (.goto (-45), 3) := by decide +kernel
theorem dX5_leadingTo_68 : decode cX5_leadingTo 68 = .ok (.iinc 4 1, 3) := by decide +kernel
theorem dX5_leadingTo_71 : decode cX5_leadingTo 71 = .ok (.goto (-66), 3) := by decide +kernel
theorem dX5_leadingTo_74 : decode cX5_leadingTo 74 = .ok (.iload_n 3, 1) := by decide +kernel
theorem dX5_leadingTo_75 : decode cX5_leadingTo 75 = .ok (.ireturn, 1) := by decide +kernel
theorem dX6_closed_0 : decode cX6_closed 0 = .ok (.aload_n 0, 1) := by decide +kernel
theorem dX6_closed_1 : decode cX6_closed 1 = .ok (.getfield 10, 3) := by decide +kernel
theorem dX6_closed_4 : decode cX6_closed 4 = .ok (.iload_n 1, 1) := by decide +kernel
theorem dX6_closed_5 : decode cX6_closed 5 = .ok (.invokevirtual 67, 3) := by decide +kernel
theorem dX6_closed_8 : decode cX6_closed 8 = .ok (.ifCond .ne 5, 3) := by decide +kernel
theorem dX6_closed_11 : decode cX6_closed 11 = .ok (.iconst (-1), 1) := by decide +kernel
theorem dX6_closed_12 : decode cX6_closed 12 = .ok (.ireturn, 1) := by decide +kernel
theorem dX6_closed_13 : decode cX6_closed 13 = .ok (.aload_n 0, 1) := by decide +kernel
theorem dX6_closed_14 : decode cX6_closed 14 = .ok (.getfield 21, 3) := by decide +kernel
theorem dX6_closed_17 : decode cX6_closed 17 = .ok (.iload_n 1, 1) := by decide +kernel
theorem dX6_closed_18 : decode cX6_closed 18 = .ok (.invokevirtual 86, 3) := by decide +kernel
theorem dX6_closed_21 : decode cX6_closed 21 = .ok (.ifCond .eq 7, 3) := by decide +kernel
theorem dX6_closed_24 : decode cX6_closed 24 = .ok (.iconst 1, 1) := by decide +kernel
theorem dX6_closed_25 : decode cX6_closed 25 = .ok (.goto 4, 3) := by decide +kernel
theorem dX6_closed_28 : decode cX6_closed 28 = .ok (.iconst 0, 1) := by decide +kernel
theorem dX6_closed_29 : decode cX6_closed 29 = .ok (.ireturn, 1) := by decide +kernel
theorem dX5_isClosedAt_0 : decode cX5_isClosedAt 0 = .ok (.aload_n 0, 1) := by decide +kernel
theorem dX5_isClosedAt_1 : decode cX5_isClosedAt 1 = .ok (.iload_n 1, 1) := by decide +kernel
theorem dX5_isClosedAt_2 : decode cX5_isClosedAt 2 = .ok (.iconst 0, 1) := by decide +kernel
theorem dX5_isClosedAt_3 : decode cX5_isClosedAt 3 = .ok (.invokevirtual 29, 3) := by decide +kernel
theorem dX5_isClosedAt_6 : decode cX5_isClosedAt 6 = .ok (.aload_n 0, 1) := by decide +kernel
theorem dX5_isClosedAt_7 : decode cX5_isClosedAt 7 = .ok (.iconst 1, 1) := by decide +kernel
theorem dX5_isClosedAt_8 : decode cX5_isClosedAt 8 = .ok (.iload_n 1, 1) := by decide +kernel
theorem dX5_isClosedAt_9 : decode cX5_isClosedAt 9 = .ok (.ishl, 1) := by decide +kernel
theorem dX5_isClosedAt_10 : decode cX5_isClosedAt 10 = .ok (.iconst 0, 1) := by decide +kernel
theorem dX5_isClosedAt_11 : decode cX5_isClosedAt 11 = .ok (.invokevirtual 33, 3) := by decide +kernel
theorem dX5_isClosedAt_14 : decode cX5_isClosedAt 14 = .ok (.iconst (-1), 1) := by decide +kernel
theorem dX5_isClosedAt_15 : decode cX5_isClosedAt 15 = .ok (.ixor, 1) := by decide +kernel
theorem dX5_isClosedAt_16 : decode cX5_isClosedAt 16 = .ok (.iand, 1) := by decide +kernel
theorem dX5_isClosedAt_17 : decode cX5_isClosedAt 17 = .ok (.ifCond .ne 7, 3) := by decide +kernel
theorem dX5_isClosedAt_20 : decode cX5_isClosedAt 20 = .ok (.iconst 1, 1) := by decide +kernel
theorem dX5_isClosedAt_21 : decode cX5_isClosedAt 21 = .ok (.goto 4, 3) := by decide +kernel
theorem dX5_isClosedAt_24 : decode cX5_isClosedAt 24 = .ok (.iconst 0, 1) := by decide +kernel
theorem dX5_isClosedAt_25 : decode cX5_isClosedAt 25 = .ok (.ireturn, 1) := by decide +kernel
theorem dX6_period_0 : decode cX6_period 0 = .ok (.aload_n 0, 1) := by decide +kernel
theorem dX6_period_1 : decode cX6_period 1 = .ok (.getfield 10, 3) := by decide +kernel
theorem dX6_period_4 : decode cX6_period 4 = .ok (.iload_n 1, 1) := by decide +kernel
theorem dX6_period_5 : decode cX6_period 5 = .ok (.invokevirtual 67, 3) := by decide +kernel
theorem dX6_period_8 : decode cX6_period 8 = .ok (.ifCond .eq 14, 3) := by decide +kernel
theorem dX6_period_11 : decode cX6_period 11 = .ok (.aload_n 0, 1) := by decide +kernel
theorem dX6_period_12 : decode cX6_period 12 = .ok (.getfield 21, 3) := by decide +kernel
theorem dX6_period_15 : decode cX6_period 15 = .ok (.iload_n 1, 1) := by decide +kernel
theorem dX6_period_16 : decode cX6_period 16 = .ok (.invokevirtual 89, 3) := by decide +kernel
theorem dX6_period_19 : decode cX6_period 19 = .ok (.goto 4, 3) := by decide +kernel
theorem dX6_period_22 : decode cX6_period 22 = .ok (.iconst (-1), 1) := by decide +kernel
theorem dX6_period_23 : decode cX6_period 23 = .ok (.ireturn, 1) := by decide +kernel
theorem dX5_ringDivisor_0 : decode cX5_ringDivisor 0 = .ok (.iconst 0, 1) := by decide +kernel
theorem dX5_ringDivisor_1 : decode cX5_ringDivisor 1 = .ok (.istore_n 2, 1) := by decide +kernel
theorem dX5_ringDivisor_2 : decode cX5_ringDivisor 2 = .ok (.iconst 1, 1) := by decide +kernel
theorem dX5_ringDivisor_3 : decode cX5_ringDivisor 3 = .ok (.iload_n 1, 1) := by decide +kernel
theorem dX5_ringDivisor_4 : decode cX5_ringDivisor 4 = .ok (.ishl, 1) := by decide +kernel
theorem dX5_ringDivisor_5 : decode cX5_ringDivisor 5 = .ok (.istore_n 3, 1) := by decide +kernel
theorem dX5_ringDivisor_6 : decode cX5_ringDivisor 6 = .ok (.iconst 1, 1) := by decide +kernel
theorem dX5_ringDivisor_7 : decode cX5_ringDivisor 7 = .ok (.istore 4, 2) := by decide +kernel
theorem dX5_ringDivisor_9 : decode cX5_ringDivisor 9 = .ok (.iload 4, 2) := by decide +kernel
theorem dX5_ringDivisor_11 : decode cX5_ringDivisor 11 = .ok (.iconst 3, 1) := by decide +kernel
theorem dX5_ringDivisor_12 : decode cX5_ringDivisor 12 = .ok (.aload_n 0, 1) := by decide +kernel
theorem dX5_ringDivisor_13 : decode cX5_ringDivisor 13 = .ok (.getfield 7, 3) := by decide +kernel
theorem dX5_ringDivisor_16 : decode cX5_ringDivisor 16 = .ok (.getfield 13, 3) := by decide +kernel
theorem dX5_ringDivisor_19 : decode cX5_ringDivisor 19 = .ok (.imul, 1) := by decide +kernel
theorem dX5_ringDivisor_20 : decode cX5_ringDivisor 20 = .ok (.if_icmp .gt 33, 3) := by decide +kernel
theorem dX5_ringDivisor_23 : decode cX5_ringDivisor 23 = .ok (.aload_n 0, 1) := by decide +kernel
theorem dX5_ringDivisor_24 : decode cX5_ringDivisor 24 = .ok (.iload_n 3, 1) := by decide +kernel
theorem dX5_ringDivisor_25 : decode cX5_ringDivisor 25 = .ok (.invokevirtual 43, 3) := by decide +kernel
theorem dX5_ringDivisor_28 : decode cX5_ringDivisor 28 = .ok (.istore_n 3, 1) := by decide +kernel
theorem dX5_ringDivisor_29 : decode cX5_ringDivisor 29 = .ok (.iload_n 3, 1) := by decide +kernel
theorem dX5_ringDivisor_30 : decode cX5_ringDivisor 30 = .ok (.iload_n 1, 1) := by decide +kernel
theorem dX5_ringDivisor_31 : decode cX5_ringDivisor 31 = .ok (.invokestatic 19, 3) := by decide +kernel
theorem dX5_ringDivisor_34 : decode cX5_ringDivisor 34 = .ok (.ifCond .eq 13, 3) := by decide +kernel
theorem dX5_ringDivisor_37 : decode cX5_ringDivisor 37 = .ok (.iload_n 2, 1) := by decide +kernel
theorem dX5_ringDivisor_38 : decode cX5_ringDivisor 38 = .ok (.i2l, 1) := by decide +kernel
theorem dX5_ringDivisor_39 : decode cX5_ringDivisor 39 = .ok (.iload 4, 2) := by decide +kernel
theorem dX5_ringDivisor_41 : decode cX5_ringDivisor 41 = .ok (.i2l, 1) := by decide +kernel
theorem dX5_ringDivisor_42 : decode cX5_ringDivisor 42 = .ok (.invokestatic 46, 3) := by decide +kernel
theorem dX5_ringDivisor_45 : decode cX5_ringDivisor 45 = .ok (.l2i, 1) := by decide +kernel
theorem dX5_ringDivisor_46 : decode cX5_ringDivisor 46 = .ok (.istore_n 2, 1) := by decide +kernel
theorem dX5_ringDivisor_47 : decode cX5_ringDivisor 47 = .ok (.iinc 4 1, 3) := by decide +kernel
theorem dX5_ringDivisor_50 : decode cX5_ringDivisor 50 = .ok (.goto (-41), 3) := by decide +kernel
theorem dX5_ringDivisor_53 : decode cX5_ringDivisor 53 = .ok (.iload_n 2, 1) := by decide +kernel
theorem dX5_ringDivisor_54 : decode cX5_ringDivisor 54 = .ok (.ireturn, 1) := by decide +kernel
theorem dX5_oneStepOn_0 : decode cX5_oneStepOn 0 = .ok (.iconst 0, 1) := by decide +kernel
theorem dX5_oneStepOn_1 : decode cX5_oneStepOn 1 = .ok (.istore_n 2, 1) := by decide +kernel
theorem dX5_oneStepOn_2 : decode cX5_oneStepOn 2 = .ok (.iconst 0, 1) := by decide +kernel
theorem dX5_oneStepOn_3 : decode cX5_oneStepOn 3 = .ok (.istore_n 3, 1) := by decide +kernel
theorem dX5_oneStepOn_4 : decode cX5_oneStepOn 4 = .ok (.iload_n 3, 1) := by decide +kernel
theorem dX5_oneStepOn_5 : decode cX5_oneStepOn 5 = .ok (.aload_n 0, 1) := by decide +kernel
theorem dX5_oneStepOn_6 : decode cX5_oneStepOn 6 = .ok (.getfield 7, 3) := by decide +kernel
theorem dX5_oneStepOn_9 : decode cX5_oneStepOn 9 = .ok (.getfield 13, 3) := by decide +kernel
theorem dX5_oneStepOn_12 : decode cX5_oneStepOn 12 = .ok (.if_icmp .ge 28, 3) := by decide +kernel
theorem dX5_oneStepOn_15 : decode cX5_oneStepOn 15 = .ok (.iload_n 1, 1) := by decide +kernel
theorem dX5_oneStepOn_16 : decode cX5_oneStepOn 16 = .ok (.iload_n 3, 1) := by decide +kernel
theorem dX5_oneStepOn_17 : decode cX5_oneStepOn 17 = .ok (.invokestatic 19, 3) := by decide +kernel
theorem dX5_oneStepOn_20 : decode cX5_oneStepOn 20 = .ok (.ifCond .eq 14, 3) := by decide +kernel
theorem dX5_oneStepOn_23 : decode cX5_oneStepOn 23 = .ok (.iload_n 2, 1) := by decide +kernel
theorem dX5_oneStepOn_24 : decode cX5_oneStepOn 24 = .ok (.aload_n 0, 1) := by decide +kernel
theorem dX5_oneStepOn_25 : decode cX5_oneStepOn 25 = .ok (.getfield 7, 3) := by decide +kernel
theorem dX5_oneStepOn_28 : decode cX5_oneStepOn 28 = .ok (.iload_n 3, 1) := by decide +kernel
theorem dX5_oneStepOn_29 : decode cX5_oneStepOn 29 = .ok (.invokevirtual 25, 3) := by decide +kernel
theorem dX5_oneStepOn_32 : decode cX5_oneStepOn 32 = .ok (.ior, 1) := by decide +kernel
theorem dX5_oneStepOn_33 : decode cX5_oneStepOn 33 = .ok (.istore_n 2, 1) := by decide +kernel
theorem dX5_oneStepOn_34 : decode cX5_oneStepOn 34 = .ok (.iinc 3 1, 3) := by decide +kernel
theorem dX5_oneStepOn_37 : decode cX5_oneStepOn 37 = .ok (.goto (-33), 3) := by decide +kernel
theorem dX5_oneStepOn_40 : decode cX5_oneStepOn 40 = .ok (.iload_n 2, 1) := by decide +kernel
theorem dX5_oneStepOn_41 : decode cX5_oneStepOn 41 = .ok (.ireturn, 1) := by decide +kernel
theorem dX6_alike_0 : decode cX6_alike 0 = .ok (.aload_n 0, 1) := by decide +kernel
theorem dX6_alike_1 : decode cX6_alike 1 = .ok (.getfield 10, 3) := by decide +kernel
theorem dX6_alike_4 : decode cX6_alike 4 = .ok (.iload_n 1, 1) := by decide +kernel
theorem dX6_alike_5 : decode cX6_alike 5 = .ok (.invokevirtual 67, 3) := by decide +kernel
theorem dX6_alike_8 : decode cX6_alike 8 = .ok (.ifCond .ne 5, 3) := by decide +kernel
theorem dX6_alike_11 : decode cX6_alike 11 = .ok (.iconst (-1), 1) := by decide +kernel
theorem dX6_alike_12 : decode cX6_alike 12 = .ok (.ireturn, 1) := by decide +kernel
theorem dX6_alike_13 : decode cX6_alike 13 = .ok (.aload_n 0, 1) := by decide +kernel
theorem dX6_alike_14 : decode cX6_alike 14 = .ok (.getfield 28, 3) := by decide +kernel
theorem dX6_alike_17 : decode cX6_alike 17 = .ok (.invokevirtual 92, 3) := by decide +kernel
theorem dX6_alike_20 : decode cX6_alike 20 = .ok (.aload_n 0, 1) := by decide +kernel
theorem dX6_alike_21 : decode cX6_alike 21 = .ok (.getfield 28, 3) := by decide +kernel
theorem dX6_alike_24 : decode cX6_alike 24 = .ok (.getfield 95, 3) := by decide +kernel
theorem dX6_alike_27 : decode cX6_alike 27 = .ok (.iload_n 1, 1) := by decide +kernel
theorem dX6_alike_28 : decode cX6_alike 28 = .ok (.iaload, 1) := by decide +kernel
theorem dX6_alike_29 : decode cX6_alike 29 = .ok (.ireturn, 1) := by decide +kernel
theorem dX3_find_0 : decode cX3_find 0 = .ok (.iconst 0, 1) := by decide +kernel
theorem dX3_find_1 : decode cX3_find 1 = .ok (.istore_n 1, 1) := by decide +kernel
theorem dX3_find_2 : decode cX3_find 2 = .ok (.iload_n 1, 1) := by decide +kernel
theorem dX3_find_3 : decode cX3_find 3 = .ok (.aload_n 0, 1) := by decide +kernel
theorem dX3_find_4 : decode cX3_find 4 = .ok (.getfield 18, 3) := by decide +kernel
theorem dX3_find_7 : decode cX3_find 7 = .ok (.getfield 22, 3) := by decide +kernel
theorem dX3_find_10 : decode cX3_find 10 = .ok (.if_icmp .ge 16, 3) := by decide +kernel
theorem dX3_find_13 : decode cX3_find 13 = .ok (.aload_n 0, 1) := by decide +kernel
theorem dX3_find_14 : decode cX3_find 14 = .ok (.getfield 9, 3) := by decide +kernel
theorem dX3_find_17 : decode cX3_find 17 = .ok (.iload_n 1, 1) := by decide +kernel
theorem dX3_find_18 : decode cX3_find 18 = .ok (.iconst 0, 1) := by decide +kernel
theorem dX3_find_19 : decode cX3_find 19 = .ok (.iastore, 1) := by decide +kernel
theorem dX3_find_20 : decode cX3_find 20 = .ok (.iinc 1 1, 3) := by decide +kernel
theorem dX3_find_23 : decode cX3_find 23 = .ok (.goto (-21), 3) := by decide +kernel
theorem dX3_find_26 : decode cX3_find 26 = .ok (.iconst 0, 1) := by decide +kernel
theorem dX3_find_27 : decode cX3_find 27 = .ok (.istore_n 1, 1) := by decide +kernel
theorem dX3_find_28 : decode cX3_find 28 = .ok (.iload_n 1, 1) := by decide +kernel
theorem dX3_find_29 : decode cX3_find 29 = .ok (.aload_n 0, 1) := by decide +kernel
theorem dX3_find_30 : decode cX3_find 30 = .ok (.getfield 18, 3) := by decide +kernel
theorem dX3_find_33 : decode cX3_find 33 = .ok (.getfield 22, 3) := by decide +kernel
theorem dX3_find_36 : decode cX3_find 36 = .ok (.if_icmp .gt 70, 3) := by decide +kernel
theorem dX3_find_39 : decode cX3_find 39 = .ok (.iconst 0, 1) := by decide +kernel
theorem dX3_find_40 : decode cX3_find 40 = .ok (.istore_n 2, 1) := by decide +kernel
theorem dX3_find_41 : decode cX3_find 41 = .ok (.iload_n 2, 1) := by decide +kernel
theorem dX3_find_42 : decode cX3_find 42 = .ok (.aload_n 0, 1) := by decide +kernel
theorem dX3_find_43 : decode cX3_find 43 = .ok (.getfield 18, 3) := by decide +kernel
theorem dX3_find_46 : decode cX3_find 46 = .ok (.getfield 22, 3) := by decide +kernel
theorem dX3_find_49 : decode cX3_find 49 = .ok (.if_icmp .ge 20, 3) := by decide +kernel
theorem dX3_find_52 : decode cX3_find 52 = .ok (.aload_n 0, 1) := by decide +kernel
theorem dX3_find_53 : decode cX3_find 53 = .ok (.getfield 15, 3) := by decide +kernel
theorem dX3_find_56 : decode cX3_find 56 = .ok (.iload_n 2, 1) := by decide +kernel
theorem dX3_find_57 : decode cX3_find 57 = .ok (.aload_n 0, 1) := by decide +kernel
theorem dX3_find_58 : decode cX3_find 58 = .ok (.iload_n 2, 1) := by decide +kernel
theorem dX3_find_59 : decode cX3_find 59 = .ok (.invokevirtual 28, 3) := by decide +kernel
theorem dX3_find_62 : decode cX3_find 62 = .ok (.iastore, 1) := by decide +kernel
theorem dX3_find_63 : decode cX3_find 63 = .ok (.iinc 2 1, 3) := by decide +kernel
theorem dX3_find_66 : decode cX3_find 66 = .ok (.goto (-25), 3) := by decide +kernel
theorem dX3_find_69 : decode cX3_find 69 = .ok (.iconst 0, 1) := by decide +kernel
theorem dX3_find_70 : decode cX3_find 70 = .ok (.istore_n 2, 1) := by decide +kernel
theorem dX3_find_71 : decode cX3_find 71 = .ok (.iload_n 2, 1) := by decide +kernel
theorem dX3_find_72 : decode cX3_find 72 = .ok (.aload_n 0, 1) := by decide +kernel
theorem dX3_find_73 : decode cX3_find 73 = .ok (.getfield 18, 3) := by decide +kernel
theorem dX3_find_76 : decode cX3_find 76 = .ok (.getfield 22, 3) := by decide +kernel
theorem dX3_find_79 : decode cX3_find 79 = .ok (.if_icmp .ge 21, 3) := by decide +kernel
theorem dX3_find_82 : decode cX3_find 82 = .ok (.aload_n 0, 1) := by decide +kernel
theorem dX3_find_83 : decode cX3_find 83 = .ok (.getfield 9, 3) := by decide +kernel
theorem dX3_find_86 : decode cX3_find 86 = .ok (.iload_n 2, 1) := by decide +kernel
theorem dX3_find_87 : decode cX3_find 87 = .ok (.aload_n 0, 1) := by decide +kernel
theorem dX3_find_88 : decode cX3_find 88 = .ok (.getfield 15, 3) := by decide +kernel
theorem dX3_find_91 : decode cX3_find 91 = .ok (.iload_n 2, 1) := by decide +kernel
theorem dX3_find_92 : decode cX3_find 92 = .ok (.iaload, 1) := by decide +kernel
theorem dX3_find_93 : decode cX3_find 93 = .ok (.iastore, 1) := by decide +kernel
theorem dX3_find_94 : decode cX3_find 94 = .ok (.iinc 2 1, 3) := by decide +kernel
theorem dX3_find_97 : decode cX3_find 97 = .ok (.goto (-26), 3) := by decide +kernel
theorem dX3_find_100 : decode cX3_find 100 = .ok (.iinc 1 1, 3) := by decide +kernel
theorem dX3_find_103 : decode cX3_find 103 = .ok (.goto (-75), 3) := by decide +kernel
theorem dX3_find_106 : decode cX3_find 106 = .ok (.return_, 1) := by decide +kernel
theorem dX3_leastMate_0 : decode cX3_leastMate 0 = .ok (.iconst 0, 1) := by decide +kernel
theorem dX3_leastMate_1 : decode cX3_leastMate 1 = .ok (.istore_n 2, 1) := by decide +kernel
theorem dX3_leastMate_2 : decode cX3_leastMate 2 = .ok (.iload_n 2, 1) := by decide +kernel
theorem dX3_leastMate_3 : decode cX3_leastMate 3 = .ok (.iload_n 1, 1) := by decide +kernel
theorem dX3_leastMate_4 : decode cX3_leastMate 4 = .ok (.if_icmp .ge 35, 3) := by decide +kernel
theorem dX3_leastMate_7 : decode cX3_leastMate 7 = .ok (.aload_n 0, 1) := by decide +kernel
theorem dX3_leastMate_8 : decode cX3_leastMate 8 = .ok (.getfield 9, 3) := by decide +kernel
theorem dX3_leastMate_11 : decode cX3_leastMate 11 = .ok (.iload_n 2, 1) := by decide +kernel
theorem dX3_leastMate_12 : decode cX3_leastMate 12 = .ok (.iaload, 1) := by decide +kernel
theorem dX3_leastMate_13 : decode cX3_leastMate 13 = .ok (.aload_n 0, 1) := by decide +kernel
theorem dX3_leastMate_14 : decode cX3_leastMate 14 = .ok (.getfield 9, 3) := by decide +kernel
theorem dX3_leastMate_17 : decode cX3_leastMate 17 = .ok (.iload_n 1, 1) := by decide +kernel
theorem dX3_leastMate_18 : decode cX3_leastMate 18 = .ok (.iaload, 1) := by decide +kernel
theorem dX3_leastMate_19 : decode cX3_leastMate 19 = .ok (.if_icmp .ne 14, 3) := by decide +kernel
theorem dX3_leastMate_22 : decode cX3_leastMate 22 = .ok (.aload_n 0, 1) := by decide +kernel
theorem dX3_leastMate_23 : decode cX3_leastMate 23 = .ok (.iload_n 2, 1) := by decide +kernel
theorem dX3_leastMate_24 : decode cX3_leastMate 24 = .ok (.iload_n 1, 1) := by decide +kernel
theorem dX3_leastMate_25 : decode cX3_leastMate 25 = .ok (.invokevirtual 32, 3) := by decide +kernel
theorem dX3_leastMate_28 : decode cX3_leastMate 28 = .ok (.ifCond .eq 5, 3) := by decide +kernel
theorem dX3_leastMate_31 : decode cX3_leastMate 31 = .ok (.iload_n 2, 1) := by decide +kernel
theorem dX3_leastMate_32 : decode cX3_leastMate 32 = .ok (.ireturn, 1) := by decide +kernel
theorem dX3_leastMate_33 : decode cX3_leastMate 33 = .ok (.iinc 2 1, 3) := by decide +kernel
theorem dX3_leastMate_36 : decode cX3_leastMate 36 = .ok (.goto (-34), 3) := by decide +kernel
theorem dX3_leastMate_39 : decode cX3_leastMate 39 = .ok (.iload_n 1, 1) := by decide +kernel
theorem dX3_leastMate_40 : decode cX3_leastMate 40 = .ok (.ireturn, 1) := by decide +kernel
theorem dX3_looksLike_0 : decode cX3_looksLike 0 = .ok (.aload_n 0, 1) := by decide +kernel
theorem dX3_looksLike_1 : decode cX3_looksLike 1 = .ok (.getfield 18, 3) := by decide +kernel
theorem dX3_looksLike_4 : decode cX3_looksLike 4 = .ok (.iload_n 1, 1) := by decide +kernel
theorem dX3_looksLike_5 : decode cX3_looksLike 5 = .ok (.invokevirtual 36, 3) := by decide +kernel
theorem dX3_looksLike_8 : decode cX3_looksLike 8 = .ok (.aload_n 0, 1) := by decide +kernel
theorem dX3_looksLike_9 : decode cX3_looksLike 9 = .ok (.getfield 18, 3) := by decide +kernel
theorem dX3_looksLike_12 : decode cX3_looksLike 12 = .ok (.iload_n 2, 1) := by decide +kernel
theorem dX3_looksLike_13 : decode cX3_looksLike 13 = .ok (.invokevirtual 36, 3) := by decide +kernel
theorem dX3_looksLike_16 : decode cX3_looksLike 16 = .ok (.if_icmp .ne 24, 3) := by decide +kernel
theorem dX3_looksLike_19 : decode cX3_looksLike 19 = .ok (.aload_n 0, 1) := by decide +kernel
theorem dX3_looksLike_20 : decode cX3_looksLike 20 = .ok (.getfield 18, 3) := by decide +kernel
theorem dX3_looksLike_23 : decode cX3_looksLike 23 = .ok (.getfield 40, 3) := by decide +kernel
theorem dX3_looksLike_26 : decode cX3_looksLike 26 = .ok (.iload_n 1, 1) := by decide +kernel
theorem dX3_looksLike_27 : decode cX3_looksLike 27 = .ok (.iaload, 1) := by decide +kernel
theorem dX3_looksLike_28 : decode cX3_looksLike 28 = .ok (.aload_n 0, 1) := by decide +kernel
theorem dX3_looksLike_29 : decode cX3_looksLike 29 = .ok (.getfield 18, 3) := by decide +kernel
theorem dX3_looksLike_32 : decode cX3_looksLike 32 = .ok (.getfield 40, 3) := by decide +kernel
theorem dX3_looksLike_35 : decode cX3_looksLike 35 = .ok (.iload_n 2, 1) := by decide +kernel
theorem dX3_looksLike_36 : decode cX3_looksLike 36 = .ok (.iaload, 1) := by decide +kernel
theorem dX3_looksLike_37 : decode cX3_looksLike 37 = .ok (.if_icmp .eq 5, 3) := by decide +kernel
theorem dX3_looksLike_40 : decode cX3_looksLike 40 = .ok (.iconst 0, 1) := by decide +kernel
theorem dX3_looksLike_41 : decode cX3_looksLike 41 = .ok (.ireturn, 1) := by decide +kernel
theorem dX3_looksLike_42 : decode cX3_looksLike 42 = .ok (.iconst 0, 1) := by decide +kernel
theorem dX3_looksLike_43 : decode cX3_looksLike 43 = .ok (.istore_n 3, 1) := by decide +kernel
theorem dX3_looksLike_44 : decode cX3_looksLike 44 = .ok (.iload_n 3, 1) := by decide +kernel
theorem dX3_looksLike_45 : decode cX3_looksLike 45 = .ok (.aload_n 0, 1) := by decide +kernel
theorem dX3_looksLike_46 : decode cX3_looksLike 46 = .ok (.getfield 18, 3) := by decide +kernel
theorem dX3_looksLike_49 : decode cX3_looksLike 49 = .ok (.getfield 22, 3) := by decide +kernel
theorem dX3_looksLike_52 : decode cX3_looksLike 52 = .ok (.if_icmp .ge 67, 3) := by decide +kernel
theorem dX3_looksLike_55 : decode cX3_looksLike 55 = .ok (.aload_n 0, 1) := by decide +kernel
theorem dX3_looksLike_56 : decode cX3_looksLike 56 = .ok (.iload_n 3, 1) := by decide +kernel
theorem dX3_looksLike_57 : decode cX3_looksLike 57 = .ok (.invokevirtual 43, 3) := by decide +kernel
theorem dX3_looksLike_60 : decode cX3_looksLike 60 = .ok (.istore 4, 2) := by decide +kernel
theorem dX3_looksLike_62 : decode cX3_looksLike 62 = .ok (.aload_n 0, 1) := by decide +kernel
theorem dX3_looksLike_63 : decode cX3_looksLike 63 = .ok (.getfield 18, 3) := by decide +kernel
theorem dX3_looksLike_66 : decode cX3_looksLike 66 = .ok (.iload_n 1, 1) := by decide +kernel
theorem dX3_looksLike_67 : decode cX3_looksLike 67 = .ok (.iload 4, 2) := by decide +kernel
theorem dX3_looksLike_69 : decode cX3_looksLike 69 = .ok (.invokevirtual 46, 3) := by decide +kernel
theorem dX3_looksLike_72 : decode cX3_looksLike 72 = .ok (.aload_n 0, 1) := by decide +kernel
theorem dX3_looksLike_73 : decode cX3_looksLike 73 = .ok (.getfield 18, 3) := by decide +kernel
theorem dX3_looksLike_76 : decode cX3_looksLike 76 = .ok (.iload_n 2, 1) := by decide +kernel
theorem dX3_looksLike_77 : decode cX3_looksLike 77 = .ok (.invokevirtual 50, 3) := by decide +kernel
theorem dX3_looksLike_80 : decode cX3_looksLike 80 = .ok (.imul, 1) := by decide +kernel
theorem dX3_looksLike_81 : decode cX3_looksLike 81 = .ok (.istore 5, 2) := by decide +kernel
theorem dX3_looksLike_83 : decode cX3_looksLike 83 = .ok (.aload_n 0, 1) := by decide +kernel
theorem dX3_looksLike_84 : decode cX3_looksLike 84 = .ok (.getfield 18, 3) := by decide +kernel
theorem dX3_looksLike_87 : decode cX3_looksLike 87 = .ok (.iload_n 2, 1) := by decide +kernel
theorem dX3_looksLike_88 : decode cX3_looksLike 88 = .ok (.iload 4, 2) := by decide +kernel
theorem dX3_looksLike_90 : decode cX3_looksLike 90 = .ok (.invokevirtual 46, 3) := by decide +kernel
theorem dX3_looksLike_93 : decode cX3_looksLike 93 = .ok (.aload_n 0, 1) := by decide +kernel
theorem dX3_looksLike_94 : decode cX3_looksLike 94 = .ok (.getfield 18, 3) := by decide +kernel
theorem dX3_looksLike_97 : decode cX3_looksLike 97 = .ok (.iload_n 1, 1) := by decide +kernel
theorem dX3_looksLike_98 : decode cX3_looksLike 98 = .ok (.invokevirtual 50, 3) := by decide +kernel
theorem dX3_looksLike_101 : decode cX3_looksLike 101 = .ok (.imul, 1) := by decide +kernel
theorem dX3_looksLike_102 : decode cX3_looksLike 102 = .ok (.istore 6, 2) := by decide +kernel
theorem dX3_looksLike_104 : decode cX3_looksLike 104 = .ok (.iload 5, 2) := by decide +kernel
theorem dX3_looksLike_106 : decode cX3_looksLike 106 = .ok (.iload 6, 2) := by decide +kernel
theorem dX3_looksLike_108 : decode cX3_looksLike 108 = .ok (.if_icmp .eq 5, 3) := by decide +kernel
theorem dX3_looksLike_111 : decode cX3_looksLike 111 = .ok (.iconst 0, 1) := by decide +kernel
theorem dX3_looksLike_112 : decode cX3_looksLike 112 = .ok (.ireturn, 1) := by decide +kernel
theorem dX3_looksLike_113 : decode cX3_looksLike 113 = .ok (.iinc 3 1, 3) := by decide +kernel
theorem dX3_looksLike_116 : decode cX3_looksLike 116 = .ok (.goto (-72), 3) := by decide +kernel
theorem dX3_looksLike_119 : decode cX3_looksLike 119 = .ok (.iconst 1, 1) := by decide +kernel
theorem dX3_looksLike_120 : decode cX3_looksLike 120 = .ok (.ireturn, 1) := by decide +kernel
theorem dX3_membersOf_0 : decode cX3_membersOf 0 = .ok (.iconst 0, 1) := by decide +kernel
theorem dX3_membersOf_1 : decode cX3_membersOf 1 = .ok (.istore_n 2, 1) := by decide +kernel
theorem dX3_membersOf_2 : decode cX3_membersOf 2 = .ok (.iconst 0, 1) := by decide +kernel
theorem dX3_membersOf_3 : decode cX3_membersOf 3 = .ok (.istore_n 3, 1) := by decide +kernel
theorem dX3_membersOf_4 : decode cX3_membersOf 4 = .ok (.iload_n 3, 1) := by decide +kernel
theorem dX3_membersOf_5 : decode cX3_membersOf 5 = .ok (.aload_n 0, 1) := by decide +kernel
theorem dX3_membersOf_6 : decode cX3_membersOf 6 = .ok (.getfield 18, 3) := by decide +kernel
theorem dX3_membersOf_9 : decode cX3_membersOf 9 = .ok (.getfield 22, 3) := by decide +kernel
theorem dX3_membersOf_12 : decode cX3_membersOf 12 = .ok (.if_icmp .ge 25, 3) := by decide +kernel
theorem dX3_membersOf_15 : decode cX3_membersOf 15 = .ok (.aload_n 0, 1) := by decide +kernel
theorem dX3_membersOf_16 : decode cX3_membersOf 16 = .ok (.getfield 9, 3) := by decide +kernel
theorem dX3_membersOf_19 : decode cX3_membersOf 19 = .ok (.iload_n 3, 1) := by decide +kernel
theorem dX3_membersOf_20 : decode cX3_membersOf 20 = .ok (.iaload, 1) := by decide +kernel
theorem dX3_membersOf_21 : decode cX3_membersOf 21 = .ok (.iload_n 1, 1) := by decide +kernel
theorem dX3_membersOf_22 : decode cX3_membersOf 22 = .ok (.if_icmp .ne 9, 3) := by decide +kernel
theorem dX3_membersOf_25 : decode cX3_membersOf 25 = .ok (.iload_n 2, 1) := by decide +kernel
theorem dX3_membersOf_26 : decode cX3_membersOf 26 = .ok (.iconst 1, 1) := by decide +kernel
theorem dX3_membersOf_27 : decode cX3_membersOf 27 = .ok (.iload_n 3, 1) := by decide +kernel
theorem dX3_membersOf_28 : decode cX3_membersOf 28 = .ok (.ishl, 1) := by decide +kernel
theorem dX3_membersOf_29 : decode cX3_membersOf 29 = .ok (.ior, 1) := by decide +kernel
theorem dX3_membersOf_30 : decode cX3_membersOf 30 = .ok (.istore_n 2, 1) := by decide +kernel
theorem dX3_membersOf_31 : decode cX3_membersOf 31 = .ok (.iinc 3 1, 3) := by decide +kernel
theorem dX3_membersOf_34 : decode cX3_membersOf 34 = .ok (.goto (-30), 3) := by decide +kernel
theorem dX3_membersOf_37 : decode cX3_membersOf 37 = .ok (.iload_n 2, 1) := by decide +kernel
theorem dX3_membersOf_38 : decode cX3_membersOf 38 = .ok (.ireturn, 1) := by decide +kernel
theorem dX0_pullInto_0 : decode cX0_pullInto 0 = .ok (.iconst 0, 1) := by decide +kernel
theorem dX0_pullInto_1 : decode cX0_pullInto 1 = .ok (.istore_n 3, 1) := by decide +kernel
theorem dX0_pullInto_2 : decode cX0_pullInto 2 = .ok (.iconst 0, 1) := by decide +kernel
theorem dX0_pullInto_3 : decode cX0_pullInto 3 = .ok (.istore 4, 2) := by decide +kernel
theorem dX0_pullInto_5 : decode cX0_pullInto 5 = .ok (.iload 4, 2) := by decide +kernel
theorem dX0_pullInto_7 : decode cX0_pullInto 7 = .ok (.aload_n 0, 1) := by decide +kernel
theorem dX0_pullInto_8 : decode cX0_pullInto 8 = .ok (.getfield 23, 3) := by decide +kernel
theorem dX0_pullInto_11 : decode cX0_pullInto 11 = .ok (.if_icmp .ge 28, 3) := by decide +kernel
theorem dX0_pullInto_14 : decode cX0_pullInto 14 = .ok (.iload_n 2, 1) := by decide +kernel
theorem dX0_pullInto_15 : decode cX0_pullInto 15 = .ok (.iload 4, 2) := by decide +kernel
theorem dX0_pullInto_17 : decode cX0_pullInto 17 = .ok (.invokestatic 31, 3) := by decide +kernel
theorem dX0_pullInto_20 : decode cX0_pullInto 20 = .ok (.ifCond .eq 13, 3) := by decide +kernel
theorem dX0_pullInto_23 : decode cX0_pullInto 23 = .ok (.iload_n 3, 1) := by decide +kernel
theorem dX0_pullInto_24 : decode cX0_pullInto 24 = .ok (.aload_n 0, 1) := by decide +kernel
theorem dX0_pullInto_25 : decode cX0_pullInto 25 = .ok (.iload_n 1, 1) := by decide +kernel
theorem dX0_pullInto_26 : decode cX0_pullInto 26 = .ok (.iload 4, 2) := by decide +kernel
theorem dX0_pullInto_28 : decode cX0_pullInto 28 = .ok (.invokevirtual 35, 3) := by decide +kernel
theorem dX0_pullInto_31 : decode cX0_pullInto 31 = .ok (.iadd, 1) := by decide +kernel
theorem dX0_pullInto_32 : decode cX0_pullInto 32 = .ok (.istore_n 3, 1) := by decide +kernel
theorem dX0_pullInto_33 : decode cX0_pullInto 33 = .ok (.iinc 4 1, 3) := by decide +kernel
theorem dX0_pullInto_36 : decode cX0_pullInto 36 = .ok (.goto (-31), 3) := by decide +kernel
theorem dX0_pullInto_39 : decode cX0_pullInto 39 = .ok (.iload_n 3, 1) := by decide +kernel
theorem dX0_pullInto_40 : decode cX0_pullInto 40 = .ok (.ireturn, 1) := by decide +kernel
theorem dX0_pullOfAll_0 : decode cX0_pullOfAll 0 = .ok (.aload_n 0, 1) := by decide +kernel
theorem dX0_pullOfAll_1 : decode cX0_pullOfAll 1 = .ok (.iload_n 1, 1) := by decide +kernel
theorem dX0_pullOfAll_2 : decode cX0_pullOfAll 2 = .ok (.invokevirtual 27, 3) := by decide +kernel
theorem dX0_pullOfAll_5 : decode cX0_pullOfAll 5 = .ok (.ifCond .eq 7, 3) := by decide +kernel
theorem dX0_pullOfAll_8 : decode cX0_pullOfAll 8 = .ok (.iconst 1, 1) := by decide +kernel
theorem dX0_pullOfAll_9 : decode cX0_pullOfAll 9 = .ok (.goto 9, 3) := by decide +kernel
theorem dX0_pullOfAll_12 : decode cX0_pullOfAll 12 = .ok (.aload_n 0, 1) := by decide +kernel
theorem dX0_pullOfAll_13 : decode cX0_pullOfAll 13 = .ok (.getfield 16, 3) := by decide +kernel
theorem dX0_pullOfAll_16 : decode cX0_pullOfAll 16 = .ok (.iload_n 1, 1) := by decide +kernel
theorem dX0_pullOfAll_17 : decode cX0_pullOfAll 17 = .ok (.iaload, 1) := by decide +kernel
theorem dX0_pullOfAll_18 : decode cX0_pullOfAll 18 = .ok (.ireturn, 1) := by decide +kernel
theorem dX6_ever_0 : decode cX6_ever 0 = .ok (.aload_n 0, 1) := by decide +kernel
theorem dX6_ever_1 : decode cX6_ever 1 = .ok (.getfield 10, 3) := by decide +kernel
theorem dX6_ever_4 : decode cX6_ever 4 = .ok (.iload_n 1, 1) := by decide +kernel
theorem dX6_ever_5 : decode cX6_ever 5 = .ok (.invokevirtual 67, 3) := by decide +kernel
theorem dX6_ever_8 : decode cX6_ever 8 = .ok (.ifCond .eq 14, 3) := by decide +kernel
theorem dX6_ever_11 : decode cX6_ever 11 = .ok (.aload_n 0, 1) := by decide +kernel
theorem dX6_ever_12 : decode cX6_ever 12 = .ok (.getfield 10, 3) := by decide +kernel
theorem dX6_ever_15 : decode cX6_ever 15 = .ok (.iload_n 2, 1) := by decide +kernel
theorem dX6_ever_16 : decode cX6_ever 16 = .ok (.invokevirtual 67, 3) := by decide +kernel
theorem dX6_ever_19 : decode cX6_ever 19 = .ok (.ifCond .ne 5, 3) := by decide +kernel
theorem dX6_ever_22 : decode cX6_ever 22 = .ok (.iconst (-1), 1) := by decide +kernel
theorem dX6_ever_23 : decode cX6_ever 23 = .ok (.ireturn, 1) := by decide +kernel
theorem dX6_ever_24 : decode cX6_ever 24 = .ok (.aload_n 0, 1) := by decide +kernel
theorem dX6_ever_25 : decode cX6_ever 25 = .ok (.iload_n 1, 1) := by decide +kernel
theorem dX6_ever_26 : decode cX6_ever 26 = .ok (.iconst 1, 1) := by decide +kernel
theorem dX6_ever_27 : decode cX6_ever 27 = .ok (.iload_n 2, 1) := by decide +kernel
theorem dX6_ever_28 : decode cX6_ever 28 = .ok (.ishl, 1) := by decide +kernel
theorem dX6_ever_29 : decode cX6_ever 29 = .ok (.iconst 0, 1) := by decide +kernel
theorem dX6_ever_30 : decode cX6_ever 30 = .ok (.invokevirtual 98, 3) := by decide +kernel
theorem dX6_ever_33 : decode cX6_ever 33 = .ok (.iconst 1, 1) := by decide +kernel
theorem dX6_ever_34 : decode cX6_ever 34 = .ok (.ireturn, 1) := by decide +kernel
theorem dX6_answerOddsToMeet_0 : decode cX6_answerOddsToMeet 0 = .ok (.aload_n 0, 1) := by decide +kernel
theorem dX6_answerOddsToMeet_1 : decode cX6_answerOddsToMeet 1 = .ok (.getfield 21, 3) := by decide +kernel
theorem dX6_answerOddsToMeet_4 : decode cX6_answerOddsToMeet 4 = .ok (.iload_n 2, 1) := by decide +kernel
theorem dX6_answerOddsToMeet_5 : decode cX6_answerOddsToMeet 5 = .ok (.iload_n 3, 1) := by decide +kernel
theorem dX6_answerOddsToMeet_6 : decode cX6_answerOddsToMeet 6 = .ok (.invokevirtual 106, 3) := by decide +kernel
theorem dX6_answerOddsToMeet_9 : decode cX6_answerOddsToMeet 9 = .ok (.istore 4, 2) := by decide +kernel
theorem dX6_answerOddsToMeet_11 : decode cX6_answerOddsToMeet 11 = .ok (.iload_n 2, 1) := by decide +kernel
theorem dX6_answerOddsToMeet_12 : decode cX6_answerOddsToMeet 12 = .ok (.iload_n 1, 1) := by decide +kernel
theorem dX6_answerOddsToMeet_13 : decode cX6_answerOddsToMeet 13 = .ok (.invokestatic 122, 3) := by decide +kernel
theorem dX6_answerOddsToMeet_16 : decode cX6_answerOddsToMeet 16 = .ok (.ifCond .eq 15, 3) := by decide +kernel
theorem dX6_answerOddsToMeet_19 : decode cX6_answerOddsToMeet 19 = .ok (.aload_n 0, 1) := by decide +kernel
theorem dX6_answerOddsToMeet_20 : decode cX6_answerOddsToMeet 20 = .ok (.getfield 49, 3) := by decide +kernel
theorem dX6_answerOddsToMeet_23 : decode cX6_answerOddsToMeet 23 = .ok (.lconst 1, 1) := by decide +kernel
theorem dX6_answerOddsToMeet_24 : decode cX6_answerOddsToMeet 24 = .ok (.lconst 1, 1) := by decide +kernel
theorem dX6_answerOddsToMeet_25 : decode cX6_answerOddsToMeet 25 = .ok (.invokevirtual 59, 3) := by decide +kernel
