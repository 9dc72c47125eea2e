theorem dX9_change_0 : decode cX9_change 0 = .ok (.aload_n 0, 1) := by decide +kernel
theorem dX9_change_1 : decode cX9_change 1 = .ok (.getfield 13, 3) := by decide +kernel
theorem dX9_change_4 : decode cX9_change 4 = .ok (.iload_n 1, 1) := by decide +kernel
theorem dX9_change_5 : decode cX9_change 5 = .ok (.iaload, 1) := by decide +kernel
theorem dX9_change_6 : decode cX9_change 6 = .ok (.istore_n 3, 1) := by decide +kernel
theorem dX9_change_7 : decode cX9_change 7 = .ok (.aload_n 0, 1) := by decide +kernel
theorem dX9_change_8 : decode cX9_change 8 = .ok (.getfield 13, 3) := by decide +kernel
theorem dX9_change_11 : decode cX9_change 11 = .ok (.iload_n 1, 1) := by decide +kernel
theorem dX9_change_12 : decode cX9_change 12 = .ok (.iload_n 2, 1) := by decide +kernel
theorem dX9_change_13 : decode cX9_change 13 = .ok (.iastore, 1) := by decide +kernel
theorem dX9_change_14 : decode cX9_change 14 = .ok (.aload_n 0, 1) := by decide +kernel
theorem dX9_change_15 : decode cX9_change 15 = .ok (.iconst 0, 1) := by decide +kernel
theorem dX9_change_16 : decode cX9_change 16 = .ok (.putfield 168, 3) := by decide +kernel
theorem dX9_change_19 : decode cX9_change 19 = .ok (.iload_n 3, 1) := by decide +kernel
theorem dX9_change_20 : decode cX9_change 20 = .ok (.ireturn, 1) := by decide +kernel
theorem dX9_enteredOnes_0 : decode cX9_enteredOnes 0 = .ok (.aload_n 0, 1) := by decide +kernel
theorem dX9_enteredOnes_1 : decode cX9_enteredOnes 1 = .ok (.bipush 22, 2) := by decide +kernel
theorem dX9_enteredOnes_3 : decode cX9_enteredOnes 3 = .ok (.aload_n 0, 1) := by decide +kernel
theorem dX9_enteredOnes_4 : decode cX9_enteredOnes 4 = .ok (.getfield 13, 3) := by decide +kernel
theorem dX9_enteredOnes_7 : decode cX9_enteredOnes 7 = .ok (.iconst 0, 1) := by decide +kernel
theorem dX9_enteredOnes_8 : decode cX9_enteredOnes 8 = .ok (.iaload, 1) := by decide +kernel
theorem dX9_enteredOnes_9 : decode cX9_enteredOnes 9 = .ok (.invokevirtual 194, 3) := by decide +kernel
theorem dX9_enteredOnes_12 : decode cX9_enteredOnes 12 = .ok (.ireturn, 1) := by decide +kernel
theorem dX9_in_0 : decode cX9_in 0 = .ok (.lload_n 0, 1) := by decide +kernel
theorem dX9_in_1 : decode cX9_in 1 = .ok (.lload_n 2, 1) := by decide +kernel
theorem dX9_in_2 : decode cX9_in 2 = .ok (.lcmp, 1) := by decide +kernel
theorem dX9_in_3 : decode cX9_in 3 = .ok (.ifCond .lt 14, 3) := by decide +kernel
theorem dX9_in_6 : decode cX9_in 6 = .ok (.lload_n 0, 1) := by decide +kernel
theorem dX9_in_7 : decode cX9_in 7 = .ok (.lload 4, 2) := by decide +kernel
theorem dX9_in_9 : decode cX9_in 9 = .ok (.lcmp, 1) := by decide +kernel
theorem dX9_in_10 : decode cX9_in 10 = .ok (.ifCond .gt 7, 3) := by decide +kernel
theorem dX9_in_13 : decode cX9_in 13 = .ok (.iconst 1, 1) := by decide +kernel
theorem dX9_in_14 : decode cX9_in 14 = .ok (.goto 4, 3) := by decide +kernel
theorem dX9_in_17 : decode cX9_in 17 = .ok (.iconst 0, 1) := by decide +kernel
theorem dX9_in_18 : decode cX9_in 18 = .ok (.ireturn, 1) := by decide +kernel
theorem dX9_is_0 : decode cX9_is 0 = .ok (.iload_n 0, 1) := by decide +kernel
theorem dX9_is_1 : decode cX9_is 1 = .ok (.iload_n 1, 1) := by decide +kernel
theorem dX9_is_2 : decode cX9_is 2 = .ok (.ishr, 1) := by decide +kernel
theorem dX9_is_3 : decode cX9_is 3 = .ok (.iconst 1, 1) := by decide +kernel
theorem dX9_is_4 : decode cX9_is 4 = .ok (.iand, 1) := by decide +kernel
theorem dX9_is_5 : decode cX9_is 5 = .ok (.iconst 1, 1) := by decide +kernel
theorem dX9_is_6 : decode cX9_is 6 = .ok (.if_icmp .ne 7, 3) := by decide +kernel
theorem dX9_is_9 : decode cX9_is 9 = .ok (.iconst 1, 1) := by decide +kernel
theorem dX9_is_10 : decode cX9_is 10 = .ok (.goto 4, 3) := by decide +kernel
theorem dX9_is_13 : decode cX9_is 13 = .ok (.iconst 0, 1) := by decide +kernel
theorem dX9_is_14 : decode cX9_is 14 = .ok (.ireturn, 1) := by decide +kernel
theorem dX9_isPerson_0 : decode cX9_isPerson 0 = .ok (.iload_n 1, 1) := by decide +kernel
theorem dX9_isPerson_1 : decode cX9_isPerson 1 = .ok (.i2l, 1) := by decide +kernel
theorem dX9_isPerson_2 : decode cX9_isPerson 2 = .ok (.lconst 0, 1) := by decide +kernel
theorem dX9_isPerson_3 : decode cX9_isPerson 3 = .ok (.aload_n 0, 1) := by decide +kernel
theorem dX9_isPerson_4 : decode cX9_isPerson 4 = .ok (.getfield 13, 3) := by decide +kernel
theorem dX9_isPerson_7 : decode cX9_isPerson 7 = .ok (.iconst 0, 1) := by decide +kernel
theorem dX9_isPerson_8 : decode cX9_isPerson 8 = .ok (.iaload, 1) := by decide +kernel
theorem dX9_isPerson_9 : decode cX9_isPerson 9 = .ok (.i2l, 1) := by decide +kernel
theorem dX9_isPerson_10 : decode cX9_isPerson 10 = .ok (.lconst 1, 1) := by decide +kernel
theorem dX9_isPerson_11 : decode cX9_isPerson 11 = .ok (.lsub, 1) := by decide +kernel
theorem dX9_isPerson_12 : decode cX9_isPerson 12 = .ok (.invokestatic 185, 3) := by decide +kernel
theorem dX9_isPerson_15 : decode cX9_isPerson 15 = .ok (.ireturn, 1) := by decide +kernel
theorem dX9_isRace_0 : decode cX9_isRace 0 = .ok (.iload_n 0, 1) := by decide +kernel
theorem dX9_isRace_1 : decode cX9_isRace 1 = .ok (.i2l, 1) := by decide +kernel
theorem dX9_isRace_2 : decode cX9_isRace 2 = .ok (.lconst 0, 1) := by decide +kernel
theorem dX9_isRace_3 : decode cX9_isRace 3 = .ok (.ldc2_w 192, 3) := by decide +kernel
theorem dX9_isRace_6 : decode cX9_isRace 6 = .ok (.invokestatic 185, 3) := by decide +kernel
theorem dX9_isRace_9 : decode cX9_isRace 9 = .ok (.ireturn, 1) := by decide +kernel
theorem dX9_keepAll_0 : decode cX9_keepAll 0 = .ok (.iconst 0, 1) := by decide +kernel
theorem dX9_keepAll_1 : decode cX9_keepAll 1 = .ok (.istore_n 2, 1) := by decide +kernel
theorem dX9_keepAll_2 : decode cX9_keepAll 2 = .ok (.iload_n 2, 1) := by decide +kernel
theorem dX9_keepAll_3 : decode cX9_keepAll 3 = .ok (.bipush 25, 2) := by decide +kernel
theorem dX9_keepAll_5 : decode cX9_keepAll 5 = .ok (.if_icmp .ge 28, 3) := by decide +kernel
theorem dX9_keepAll_8 : decode cX9_keepAll 8 = .ok (.aload_n 0, 1) := by decide +kernel
theorem dX9_keepAll_9 : decode cX9_keepAll 9 = .ok (.getfield 23, 3) := by decide +kernel
theorem dX9_keepAll_12 : decode cX9_keepAll 12 = .ok (.bipush 25, 2) := by decide +kernel
theorem dX9_keepAll_14 : decode cX9_keepAll 14 = .ok (.iload_n 1, 1) := by decide +kernel
theorem dX9_keepAll_15 : decode cX9_keepAll 15 = .ok (.imul, 1) := by decide +kernel
theorem dX9_keepAll_16 : decode cX9_keepAll 16 = .ok (.iload_n 2, 1) := by decide +kernel
theorem dX9_keepAll_17 : decode cX9_keepAll 17 = .ok (.iadd, 1) := by decide +kernel
theorem dX9_keepAll_18 : decode cX9_keepAll 18 = .ok (.aload_n 0, 1) := by decide +kernel
theorem dX9_keepAll_19 : decode cX9_keepAll 19 = .ok (.getfield 13, 3) := by decide +kernel
theorem dX9_keepAll_22 : decode cX9_keepAll 22 = .ok (.iconst 4, 1) := by decide +kernel
theorem dX9_keepAll_23 : decode cX9_keepAll 23 = .ok (.iload_n 2, 1) := by decide +kernel
theorem dX9_keepAll_24 : decode cX9_keepAll 24 = .ok (.iadd, 1) := by decide +kernel
theorem dX9_keepAll_25 : decode cX9_keepAll 25 = .ok (.iaload, 1) := by decide +kernel
theorem dX9_keepAll_26 : decode cX9_keepAll 26 = .ok (.iastore, 1) := by decide +kernel
theorem dX9_keepAll_27 : decode cX9_keepAll 27 = .ok (.iinc 2 1, 3) := by decide +kernel
theorem dX9_keepAll_30 : decode cX9_keepAll 30 = .ok (.goto (-28), 3) := by decide +kernel
theorem dX9_keepAll_33 : decode cX9_keepAll 33 = .ok (.return_, 1) := by decide +kernel
theorem dX9_ones_0 : decode cX9_ones 0 = .ok (.iconst 0, 1) := by decide +kernel
theorem dX9_ones_1 : decode cX9_ones 1 = .ok (.istore_n 1, 1) := by decide +kernel
theorem dX9_ones_2 : decode cX9_ones 2 = .ok (.iconst 0, 1) := by decide +kernel
theorem dX9_ones_3 : decode cX9_ones 3 = .ok (.istore_n 2, 1) := by decide +kernel
theorem dX9_ones_4 : decode cX9_ones 4 = .ok (.iload_n 2, 1) := by decide +kernel
theorem dX9_ones_5 : decode cX9_ones 5 = .ok (.bipush 7, 2) := by decide +kernel
theorem dX9_ones_7 : decode cX9_ones 7 = .ok (.if_icmp .ge 17, 3) := by decide +kernel
theorem dX9_ones_10 : decode cX9_ones 10 = .ok (.iload_n 1, 1) := by decide +kernel
theorem dX9_ones_11 : decode cX9_ones 11 = .ok (.iload_n 0, 1) := by decide +kernel
theorem dX9_ones_12 : decode cX9_ones 12 = .ok (.iload_n 2, 1) := by decide +kernel
theorem dX9_ones_13 : decode cX9_ones 13 = .ok (.ishr, 1) := by decide +kernel
theorem dX9_ones_14 : decode cX9_ones 14 = .ok (.iconst 1, 1) := by decide +kernel
theorem dX9_ones_15 : decode cX9_ones 15 = .ok (.iand, 1) := by decide +kernel
theorem dX9_ones_16 : decode cX9_ones 16 = .ok (.iadd, 1) := by decide +kernel
theorem dX9_ones_17 : decode cX9_ones 17 = .ok (.istore_n 1, 1) := by decide +kernel
theorem dX9_ones_18 : decode cX9_ones 18 = .ok (.iinc 2 1, 3) := by decide +kernel
theorem dX9_ones_21 : decode cX9_ones 21 = .ok (.goto (-17), 3) := by decide +kernel
theorem dX9_ones_24 : decode cX9_ones 24 = .ok (.iload_n 1, 1) := by decide +kernel
theorem dX9_ones_25 : decode cX9_ones 25 = .ok (.ireturn, 1) := by decide +kernel
theorem dX9_settled_0 : decode cX9_settled 0 = .ok (.aload_n 0, 1) := by decide +kernel
theorem dX9_settled_1 : decode cX9_settled 1 = .ok (.iload_n 1, 1) := by decide +kernel
theorem dX9_settled_2 : decode cX9_settled 2 = .ok (.ifCond .ge 10, 3) := by decide +kernel
theorem dX9_settled_5 : decode cX9_settled 5 = .ok (.aload_n 0, 1) := by decide +kernel
theorem dX9_settled_6 : decode cX9_settled 6 = .ok (.getfield 171, 3) := by decide +kernel
theorem dX9_settled_9 : decode cX9_settled 9 = .ok (.goto 4, 3) := by decide +kernel
theorem dX9_settled_12 : decode cX9_settled 12 = .ok (.iconst 0, 1) := by decide +kernel
theorem dX9_settled_13 : decode cX9_settled 13 = .ok (.putfield 171, 3) := by decide +kernel
theorem dX9_settled_16 : decode cX9_settled 16 = .ok (.aload_n 0, 1) := by decide +kernel
theorem dX9_settled_17 : decode cX9_settled 17 = .ok (.iload_n 1, 1) := by decide +kernel
theorem dX9_settled_18 : decode cX9_settled 18 = .ok (.invokevirtual 174, 3) := by decide +kernel
theorem dX9_settled_21 : decode cX9_settled 21 = .ok (.ireturn, 1) := by decide +kernel
theorem dX9_sumOf_0 : decode cX9_sumOf 0 = .ok (.iconst 0, 1) := by decide +kernel
theorem dX9_sumOf_1 : decode cX9_sumOf 1 = .ok (.istore_n 3, 1) := by decide +kernel
theorem dX9_sumOf_2 : decode cX9_sumOf 2 = .ok (.iconst 0, 1) := by decide +kernel
theorem dX9_sumOf_3 : decode cX9_sumOf 3 = .ok (.istore 4, 2) := by decide +kernel
theorem dX9_sumOf_5 : decode cX9_sumOf 5 = .ok (.iload 4, 2) := by decide +kernel
theorem dX9_sumOf_7 : decode cX9_sumOf 7 = .ok (.iload_n 2, 1) := by decide +kernel
theorem dX9_sumOf_8 : decode cX9_sumOf 8 = .ok (.if_icmp .ge 21, 3) := by decide +kernel
theorem dX9_sumOf_11 : decode cX9_sumOf 11 = .ok (.iload_n 3, 1) := by decide +kernel
theorem dX9_sumOf_12 : decode cX9_sumOf 12 = .ok (.aload_n 0, 1) := by decide +kernel
theorem dX9_sumOf_13 : decode cX9_sumOf 13 = .ok (.getfield 13, 3) := by decide +kernel
theorem dX9_sumOf_16 : decode cX9_sumOf 16 = .ok (.iload_n 1, 1) := by decide +kernel
theorem dX9_sumOf_17 : decode cX9_sumOf 17 = .ok (.iload 4, 2) := by decide +kernel
theorem dX9_sumOf_19 : decode cX9_sumOf 19 = .ok (.iadd, 1) := by decide +kernel
theorem dX9_sumOf_20 : decode cX9_sumOf 20 = .ok (.iaload, 1) := by decide +kernel
theorem dX9_sumOf_21 : decode cX9_sumOf 21 = .ok (.iadd, 1) := by decide +kernel
theorem dX9_sumOf_22 : decode cX9_sumOf 22 = .ok (.istore_n 3, 1) := by decide +kernel
theorem dX9_sumOf_23 : decode cX9_sumOf 23 = .ok (.iinc 4 1, 3) := by decide +kernel
theorem dX9_sumOf_26 : decode cX9_sumOf 26 = .ok (.goto (-21), 3) := by decide +kernel
theorem dX9_sumOf_29 : decode cX9_sumOf 29 = .ok (.iload_n 3, 1) := by decide +kernel
theorem dX9_sumOf_30 : decode cX9_sumOf 30 = .ok (.ireturn, 1) := by decide +kernel
theorem dX9_tell_0 : decode cX9_tell 0 = .ok (.aload_n 0, 1) := by decide +kernel
theorem dX9_tell_1 : decode cX9_tell 1 = .ok (.iload_n 1, 1) := by decide +kernel
theorem dX9_tell_2 : decode cX9_tell 2 = .ok (.ifCond .ge 7, 3) := by decide +kernel
theorem dX9_tell_5 : decode cX9_tell 5 = .ok (.iload_n 1, 1) := by decide +kernel
theorem dX9_tell_6 : decode cX9_tell 6 = .ok (.goto 4, 3) := by decide +kernel
theorem dX9_tell_9 : decode cX9_tell 9 = .ok (.iconst 0, 1) := by decide +kernel
theorem dX9_tell_10 : decode cX9_tell 10 = .ok (.putfield 168, 3) := by decide +kernel
theorem dX9_tell_13 : decode cX9_tell 13 = .ok (.iload_n 1, 1) := by decide +kernel
theorem dX9_tell_14 : decode cX9_tell 14 = .ok (.ifCond .ge 14, 3) := by decide +kernel
theorem dX9_tell_17 : decode cX9_tell 17 = .ok (.aload_n 0, 1) := by decide +kernel
theorem dX9_tell_18 : decode cX9_tell 18 = .ok (.getfield 7, 3) := by decide +kernel
theorem dX9_tell_21 : decode cX9_tell 21 = .ok (.iload_n 1, 1) := by decide +kernel
theorem dX9_tell_22 : decode cX9_tell 22 = .ok (.ineg, 1) := by decide +kernel
theorem dX9_tell_23 : decode cX9_tell 23 = .ok (.dup2, 1) := by decide +kernel
theorem dX9_tell_24 : decode cX9_tell 24 = .ok (.iaload, 1) := by decide +kernel
theorem dX9_tell_25 : decode cX9_tell 25 = .ok (.iconst 1, 1) := by decide +kernel
theorem dX9_tell_26 : decode cX9_tell 26 = .ok (.iadd, 1) := by decide +kernel
theorem dX9_tell_27 : decode cX9_tell 27 = .ok (.iastore, 1) := by decide +kernel
theorem dX9_tell_28 : decode cX9_tell 28 = .ok (.iload_n 1, 1) := by decide +kernel
theorem dX9_tell_29 : decode cX9_tell 29 = .ok (.ireturn, 1) := by decide +kernel
theorem dX9_within_0 : decode cX9_within 0 = .ok (.lload_n 0, 1) := by decide +kernel
theorem dX9_within_1 : decode cX9_within 1 = .ok (.iload_n 2, 1) := by decide +kernel
theorem dX9_within_2 : decode cX9_within 2 = .ok (.i2l, 1) := by decide +kernel
theorem dX9_within_3 : decode cX9_within 3 = .ok (.lcmp, 1) := by decide +kernel
theorem dX9_within_4 : decode cX9_within 4 = .ok (.ifCond .ge 7, 3) := by decide +kernel
theorem dX9_within_7 : decode cX9_within 7 = .ok (.iload_n 2, 1) := by decide +kernel
theorem dX9_within_8 : decode cX9_within 8 = .ok (.goto 16, 3) := by decide +kernel
theorem dX9_within_11 : decode cX9_within 11 = .ok (.lload_n 0, 1) := by decide +kernel
theorem dX9_within_12 : decode cX9_within 12 = .ok (.iload_n 3, 1) := by decide +kernel
theorem dX9_within_13 : decode cX9_within 13 = .ok (.i2l, 1) := by decide +kernel
theorem dX9_within_14 : decode cX9_within 14 = .ok (.lcmp, 1) := by decide +kernel
theorem dX9_within_15 : decode cX9_within 15 = .ok (.ifCond .le 7, 3) := by decide +kernel
theorem dX9_within_18 : decode cX9_within 18 = .ok (.iload_n 3, 1) := by decide +kernel
theorem dX9_within_19 : decode cX9_within 19 = .ok (.goto 5, 3) := by decide +kernel
theorem dX9_within_22 : decode cX9_within 22 = .ok (.lload_n 0, 1) := by decide +kernel
theorem dX9_within_23 : decode cX9_within 23 = .ok (.l2i, 1) := by decide +kernel
theorem dX9_within_24 : decode cX9_within 24 = .ok (.ireturn, 1) := by decide +kernel
