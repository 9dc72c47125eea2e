theorem dX9_act_0 : decode cX9_act 0 = .ok (.iload_n 1, 1) := by decide +kernel
theorem dX9_act_1 : decode cX9_act 1 = .ok (.tableswitch 45 0 2 #[27, 33, 39], 27) := by decide +kernel
theorem dX9_act_28 : decode cX9_act 28 = .ok (.aload_n 0, 1) := by decide +kernel
theorem dX9_act_29 : decode cX9_act 29 = .ok (.iload_n 2, 1) := by decide +kernel
theorem dX9_act_30 : decode cX9_act 30 = .ok (.invokevirtual 446, 3) := by decide +kernel
theorem dX9_act_33 : decode cX9_act 33 = .ok (.ireturn, 1) := by decide +kernel
theorem dX9_act_34 : decode cX9_act 34 = .ok (.aload_n 0, 1) := by decide +kernel
theorem dX9_act_35 : decode cX9_act 35 = .ok (.iload_n 2, 1) := by decide +kernel
theorem dX9_act_36 : decode cX9_act 36 = .ok (.invokevirtual 449, 3) := by decide +kernel
theorem dX9_act_39 : decode cX9_act 39 = .ok (.ireturn, 1) := by decide +kernel
theorem dX9_act_40 : decode cX9_act 40 = .ok (.aload_n 0, 1) := by decide +kernel
theorem dX9_act_41 : decode cX9_act 41 = .ok (.iload_n 2, 1) := by decide +kernel
theorem dX9_act_42 : decode cX9_act 42 = .ok (.invokevirtual 455, 3) := by decide +kernel
theorem dX9_act_45 : decode cX9_act 45 = .ok (.ireturn, 1) := by decide +kernel
theorem dX9_act_46 : decode cX9_act 46 = .ok (.aload_n 0, 1) := by decide +kernel
theorem dX9_act_47 : decode cX9_act 47 = .ok (.invokevirtual 464, 3) := by decide +kernel
theorem dX9_act_50 : decode cX9_act 50 = .ok (.ireturn, 1) := by decide +kernel
theorem dX9_back_0 : decode cX9_back 0 = .ok (.aload_n 0, 1) := by decide +kernel
theorem dX9_back_1 : decode cX9_back 1 = .ok (.iconst 0, 1) := by decide +kernel
theorem dX9_back_2 : decode cX9_back 2 = .ok (.putfield 165, 3) := by decide +kernel
theorem dX9_back_5 : decode cX9_back 5 = .ok (.iload_n 1, 1) := by decide +kernel
theorem dX9_back_6 : decode cX9_back 6 = .ok (.i2l, 1) := by decide +kernel
theorem dX9_back_7 : decode cX9_back 7 = .ok (.lconst 0, 1) := by decide +kernel
theorem dX9_back_8 : decode cX9_back 8 = .ok (.lconst 1, 1) := by decide +kernel
theorem dX9_back_9 : decode cX9_back 9 = .ok (.invokestatic 185, 3) := by decide +kernel
theorem dX9_back_12 : decode cX9_back 12 = .ok (.ifCond .ne 9, 3) := by decide +kernel
theorem dX9_back_15 : decode cX9_back 15 = .ok (.aload_n 0, 1) := by decide +kernel
theorem dX9_back_16 : decode cX9_back 16 = .ok (.iconst (-1), 1) := by decide +kernel
theorem dX9_back_17 : decode cX9_back 17 = .ok (.invokevirtual 174, 3) := by decide +kernel
theorem dX9_back_20 : decode cX9_back 20 = .ok (.ireturn, 1) := by decide +kernel
theorem dX9_back_21 : decode cX9_back 21 = .ok (.aload_n 0, 1) := by decide +kernel
theorem dX9_back_22 : decode cX9_back 22 = .ok (.getfield 19, 3) := by decide +kernel
theorem dX9_back_25 : decode cX9_back 25 = .ok (.iload_n 1, 1) := by decide +kernel
theorem dX9_back_26 : decode cX9_back 26 = .ok (.baload, 1) := by decide +kernel
theorem dX9_back_27 : decode cX9_back 27 = .ok (.ifCond .ne 10, 3) := by decide +kernel
theorem dX9_back_30 : decode cX9_back 30 = .ok (.aload_n 0, 1) := by decide +kernel
theorem dX9_back_31 : decode cX9_back 31 = .ok (.bipush (-2), 2) := by decide +kernel
theorem dX9_back_33 : decode cX9_back 33 = .ok (.invokevirtual 174, 3) := by decide +kernel
theorem dX9_back_36 : decode cX9_back 36 = .ok (.ireturn, 1) := by decide +kernel
theorem dX9_back_37 : decode cX9_back 37 = .ok (.iconst 0, 1) := by decide +kernel
theorem dX9_back_38 : decode cX9_back 38 = .ok (.istore_n 2, 1) := by decide +kernel
theorem dX9_back_39 : decode cX9_back 39 = .ok (.iload_n 2, 1) := by decide +kernel
theorem dX9_back_40 : decode cX9_back 40 = .ok (.sipush 5484, 3) := by decide +kernel
theorem dX9_back_43 : decode cX9_back 43 = .ok (.if_icmp .ge 27, 3) := by decide +kernel
theorem dX9_back_46 : decode cX9_back 46 = .ok (.aload_n 0, 1) := by decide +kernel
theorem dX9_back_47 : decode cX9_back 47 = .ok (.getfield 13, 3) := by decide +kernel
theorem dX9_back_50 : decode cX9_back 50 = .ok (.iload_n 2, 1) := by decide +kernel
theorem dX9_back_51 : decode cX9_back 51 = .ok (.aload_n 0, 1) := by decide +kernel
theorem dX9_back_52 : decode cX9_back 52 = .ok (.getfield 16, 3) := by decide +kernel
theorem dX9_back_55 : decode cX9_back 55 = .ok (.sipush 5484, 3) := by decide +kernel
theorem dX9_back_58 : decode cX9_back 58 = .ok (.iload_n 1, 1) := by decide +kernel
theorem dX9_back_59 : decode cX9_back 59 = .ok (.imul, 1) := by decide +kernel
theorem dX9_back_60 : decode cX9_back 60 = .ok (.iload_n 2, 1) := by decide +kernel
theorem dX9_back_61 : decode cX9_back 61 = .ok (.iadd, 1) := by decide +kernel
theorem dX9_back_62 : decode cX9_back 62 = .ok (.iaload, 1) := by decide +kernel
theorem dX9_back_63 : decode cX9_back 63 = .ok (.iastore, 1) := by decide +kernel
theorem dX9_back_64 : decode cX9_back 64 = .ok (.iinc 2 1, 3) := by decide +kernel
theorem dX9_back_67 : decode cX9_back 67 = .ok (.goto (-28), 3) := by decide +kernel
theorem dX9_back_70 : decode cX9_back 70 = .ok (.aload_n 0, 1) := by decide +kernel
theorem dX9_back_71 : decode cX9_back 71 = .ok (.iconst 0, 1) := by decide +kernel
theorem dX9_back_72 : decode cX9_back 72 = .ok (.invokevirtual 189, 3) := by decide +kernel
theorem dX9_back_75 : decode cX9_back 75 = .ok (.ireturn, 1) := by decide +kernel
theorem dX9_be_0 : decode cX9_be 0 = .ok (.aload_n 0, 1) := by decide +kernel
theorem dX9_be_1 : decode cX9_be 1 = .ok (.iconst 0, 1) := by decide +kernel
theorem dX9_be_2 : decode cX9_be 2 = .ok (.putfield 165, 3) := by decide +kernel
theorem dX9_be_5 : decode cX9_be 5 = .ok (.aload_n 0, 1) := by decide +kernel
theorem dX9_be_6 : decode cX9_be 6 = .ok (.iload_n 1, 1) := by decide +kernel
theorem dX9_be_7 : decode cX9_be 7 = .ok (.invokevirtual 200, 3) := by decide +kernel
theorem dX9_be_10 : decode cX9_be 10 = .ok (.ifCond .eq 42, 3) := by decide +kernel
theorem dX9_be_13 : decode cX9_be 13 = .ok (.iload_n 2, 1) := by decide +kernel
theorem dX9_be_14 : decode cX9_be 14 = .ok (.invokestatic 213, 3) := by decide +kernel
theorem dX9_be_17 : decode cX9_be 17 = .ok (.ifCond .eq 35, 3) := by decide +kernel
theorem dX9_be_20 : decode cX9_be 20 = .ok (.iload_n 3, 1) := by decide +kernel
theorem dX9_be_21 : decode cX9_be 21 = .ok (.i2l, 1) := by decide +kernel
theorem dX9_be_22 : decode cX9_be 22 = .ok (.lconst 1, 1) := by decide +kernel
theorem dX9_be_23 : decode cX9_be 23 = .ok (.ldc2_w 219, 3) := by decide +kernel
theorem dX9_be_26 : decode cX9_be 26 = .ok (.invokestatic 185, 3) := by decide +kernel
theorem dX9_be_29 : decode cX9_be 29 = .ok (.ifCond .eq 23, 3) := by decide +kernel
theorem dX9_be_32 : decode cX9_be 32 = .ok (.iload 4, 2) := by decide +kernel
theorem dX9_be_34 : decode cX9_be 34 = .ok (.i2l, 1) := by decide +kernel
theorem dX9_be_35 : decode cX9_be 35 = .ok (.lconst 0, 1) := by decide +kernel
theorem dX9_be_36 : decode cX9_be 36 = .ok (.lconst 1, 1) := by decide +kernel
theorem dX9_be_37 : decode cX9_be 37 = .ok (.invokestatic 185, 3) := by decide +kernel
theorem dX9_be_40 : decode cX9_be 40 = .ok (.ifCond .eq 12, 3) := by decide +kernel
theorem dX9_be_43 : decode cX9_be 43 = .ok (.aload_n 0, 1) := by decide +kernel
theorem dX9_be_44 : decode cX9_be 44 = .ok (.iload_n 1, 1) := by decide +kernel
theorem dX9_be_45 : decode cX9_be 45 = .ok (.iload_n 2, 1) := by decide +kernel
theorem dX9_be_46 : decode cX9_be 46 = .ok (.invokevirtual 209, 3) := by decide +kernel
theorem dX9_be_49 : decode cX9_be 49 = .ok (.ifCond .eq 5, 3) := by decide +kernel
theorem dX9_be_52 : decode cX9_be 52 = .ok (.iconst (-1), 1) := by decide +kernel
theorem dX9_be_53 : decode cX9_be 53 = .ok (.ireturn, 1) := by decide +kernel
theorem dX9_be_54 : decode cX9_be 54 = .ok (.aload_n 0, 1) := by decide +kernel
theorem dX9_be_55 : decode cX9_be 55 = .ok (.iload_n 2, 1) := by decide +kernel
theorem dX9_be_56 : decode cX9_be 56 = .ok (.invokevirtual 470, 3) := by decide +kernel
theorem dX9_be_59 : decode cX9_be 59 = .ok (.aload_n 0, 1) := by decide +kernel
theorem dX9_be_60 : decode cX9_be 60 = .ok (.invokevirtual 473, 3) := by decide +kernel
theorem dX9_be_63 : decode cX9_be 63 = .ok (.istore 5, 2) := by decide +kernel
theorem dX9_be_65 : decode cX9_be 65 = .ok (.ldc_w 476, 3) := by decide +kernel
theorem dX9_be_68 : decode cX9_be 68 = .ok (.istore 6, 2) := by decide +kernel
theorem dX9_be_70 : decode cX9_be 70 = .ok (.iconst (-1), 1) := by decide +kernel
theorem dX9_be_71 : decode cX9_be 71 = .ok (.istore 7, 2) := by decide +kernel
theorem dX9_be_73 : decode cX9_be 73 = .ok (.iconst 0, 1) := by decide +kernel
theorem dX9_be_74 : decode cX9_be 74 = .ok (.istore 8, 2) := by decide +kernel
theorem dX9_be_76 : decode cX9_be 76 = .ok (.iload 8, 2) := by decide +kernel
theorem dX9_be_78 : decode cX9_be 78 = .ok (.iconst 1, 1) := by decide +kernel
theorem dX9_be_79 : decode cX9_be 79 = .ok (.aload_n 0, 1) := by decide +kernel
theorem dX9_be_80 : decode cX9_be 80 = .ok (.getfield 13, 3) := by decide +kernel
theorem dX9_be_83 : decode cX9_be 83 = .ok (.iconst 0, 1) := by decide +kernel
theorem dX9_be_84 : decode cX9_be 84 = .ok (.iaload, 1) := by decide +kernel
theorem dX9_be_85 : decode cX9_be 85 = .ok (.ishl, 1) := by decide +kernel
theorem dX9_be_86 : decode cX9_be 86 = .ok (.if_icmp .ge 80, 3) := by decide +kernel
theorem dX9_be_89 : decode cX9_be 89 = .ok (.iload 8, 2) := by decide +kernel
theorem dX9_be_91 : decode cX9_be 91 = .ok (.iload_n 1, 1) := by decide +kernel
theorem dX9_be_92 : decode cX9_be 92 = .ok (.invokestatic 467, 3) := by decide +kernel
theorem dX9_be_95 : decode cX9_be 95 = .ok (.ifCond .ne 31, 3) := by decide +kernel
theorem dX9_be_98 : decode cX9_be 98 = .ok (.iload 8, 2) := by decide +kernel
theorem dX9_be_100 : decode cX9_be 100 = .ok (.invokestatic 477, 3) := by decide +kernel
theorem dX9_be_103 : decode cX9_be 103 = .ok (.iload 6, 2) := by decide +kernel
theorem dX9_be_105 : decode cX9_be 105 = .ok (.if_icmp .ge 21, 3) := by decide +kernel
theorem dX9_be_108 : decode cX9_be 108 = .ok (.aload_n 0, 1) := by decide +kernel
theorem dX9_be_109 : decode cX9_be 109 = .ok (.iload_n 1, 1) := by decide +kernel
theorem dX9_be_110 : decode cX9_be 110 = .ok (.iload 5, 2) := by decide +kernel
theorem dX9_be_112 : decode cX9_be 112 = .ok (.iload 8, 2) := by decide +kernel
theorem dX9_be_114 : decode cX9_be 114 = .ok (.ixor, 1) := by decide +kernel
theorem dX9_be_115 : decode cX9_be 115 = .ok (.invokevirtual 480, 3) := by decide +kernel
theorem dX9_be_118 : decode cX9_be 118 = .ok (.iload_n 3, 1) := by decide +kernel
theorem dX9_be_119 : decode cX9_be 119 = .ok (.if_icmp .ne 7, 3) := by decide +kernel
theorem dX9_be_122 : decode cX9_be 122 = .ok (.iconst 1, 1) := by decide +kernel
theorem dX9_be_123 : decode cX9_be 123 = .ok (.goto 4, 3) := by decide +kernel
theorem dX9_be_126 : decode cX9_be 126 = .ok (.iconst 0, 1) := by decide +kernel
theorem dX9_be_127 : decode cX9_be 127 = .ok (.istore 9, 2) := by decide +kernel
theorem dX9_be_129 : decode cX9_be 129 = .ok (.iload 9, 2) := by decide +kernel
theorem dX9_be_131 : decode cX9_be 131 = .ok (.ifCond .eq 8, 3) := by decide +kernel
theorem dX9_be_134 : decode cX9_be 134 = .ok (.iload 8, 2) := by decide +kernel
theorem dX9_be_136 : decode cX9_be 136 = .ok (.goto 5, 3) := by decide +kernel
theorem dX9_be_139 : decode cX9_be 139 = .ok (.iload 7, 2) := by decide +kernel
theorem dX9_be_141 : decode cX9_be 141 = .ok (.istore 7, 2) := by decide +kernel
theorem dX9_be_143 : decode cX9_be 143 = .ok (.iload 9, 2) := by decide +kernel
theorem dX9_be_145 : decode cX9_be 145 = .ok (.ifCond .eq 11, 3) := by decide +kernel
theorem dX9_be_148 : decode cX9_be 148 = .ok (.iload 8, 2) := by decide +kernel
theorem dX9_be_150 : decode cX9_be 150 = .ok (.invokestatic 477, 3) := by decide +kernel
theorem dX9_be_153 : decode cX9_be 153 = .ok (.goto 5, 3) := by decide +kernel
theorem dX9_be_156 : decode cX9_be 156 = .ok (.iload 6, 2) := by decide +kernel
theorem dX9_be_158 : decode cX9_be 158 = .ok (.istore 6, 2) := by decide +kernel
theorem dX9_be_160 : decode cX9_be 160 = .ok (.iinc 8 1, 3) := by decide +kernel
theorem dX9_be_163 : decode cX9_be 163 = .ok (.goto (-87), 3) := by decide +kernel
theorem dX9_be_166 : decode cX9_be 166 = .ok (.iload 7, 2) := by decide +kernel
theorem dX9_be_168 : decode cX9_be 168 = .ok (.iconst (-1), 1) := by decide +kernel
theorem dX9_be_169 : decode cX9_be 169 = .ok (.if_icmp .eq 9, 3) := by decide +kernel
theorem dX9_be_172 : decode cX9_be 172 = .ok (.iload 4, 2) := by decide +kernel
theorem dX9_be_174 : decode cX9_be 174 = .ok (.iconst 1, 1) := by decide +kernel
theorem dX9_be_175 : decode cX9_be 175 = .ok (.if_icmp .ne 8, 3) := by decide +kernel
theorem dX9_be_178 : decode cX9_be 178 = .ok (.iload 7, 2) := by decide +kernel
theorem dX9_be_180 : decode cX9_be 180 = .ok (.goto 5, 3) := by decide +kernel
theorem dX9_be_183 : decode cX9_be 183 = .ok (.iload 6, 2) := by decide +kernel
theorem dX9_be_185 : decode cX9_be 185 = .ok (.ireturn, 1) := by decide +kernel
theorem dX9_beats_0 : decode cX9_beats 0 = .ok (.aload_n 0, 1) := by decide +kernel
theorem dX9_beats_1 : decode cX9_beats 1 = .ok (.iconst 0, 1) := by decide +kernel
theorem dX9_beats_2 : decode cX9_beats 2 = .ok (.putfield 165, 3) := by decide +kernel
theorem dX9_beats_5 : decode cX9_beats 5 = .ok (.iload_n 1, 1) := by decide +kernel
theorem dX9_beats_6 : decode cX9_beats 6 = .ok (.iload_n 2, 1) := by decide +kernel
theorem dX9_beats_7 : decode cX9_beats 7 = .ok (.if_icmp .eq 13, 3) := by decide +kernel
theorem dX9_beats_10 : decode cX9_beats 10 = .ok (.iload_n 3, 1) := by decide +kernel
theorem dX9_beats_11 : decode cX9_beats 11 = .ok (.i2l, 1) := by decide +kernel
theorem dX9_beats_12 : decode cX9_beats 12 = .ok (.lconst 0, 1) := by decide +kernel
theorem dX9_beats_13 : decode cX9_beats 13 = .ok (.lconst 1, 1) := by decide +kernel
theorem dX9_beats_14 : decode cX9_beats 14 = .ok (.invokestatic 185, 3) := by decide +kernel
theorem dX9_beats_17 : decode cX9_beats 17 = .ok (.ifCond .ne 9, 3) := by decide +kernel
theorem dX9_beats_20 : decode cX9_beats 20 = .ok (.aload_n 0, 1) := by decide +kernel
theorem dX9_beats_21 : decode cX9_beats 21 = .ok (.iconst (-1), 1) := by decide +kernel
theorem dX9_beats_22 : decode cX9_beats 22 = .ok (.invokevirtual 174, 3) := by decide +kernel
theorem dX9_beats_25 : decode cX9_beats 25 = .ok (.ireturn, 1) := by decide +kernel
theorem dX9_beats_26 : decode cX9_beats 26 = .ok (.aload_n 0, 1) := by decide +kernel
theorem dX9_beats_27 : decode cX9_beats 27 = .ok (.iload_n 1, 1) := by decide +kernel
theorem dX9_beats_28 : decode cX9_beats 28 = .ok (.invokevirtual 200, 3) := by decide +kernel
theorem dX9_beats_31 : decode cX9_beats 31 = .ok (.ifCond .eq 11, 3) := by decide +kernel
theorem dX9_beats_34 : decode cX9_beats 34 = .ok (.aload_n 0, 1) := by decide +kernel
theorem dX9_beats_35 : decode cX9_beats 35 = .ok (.iload_n 2, 1) := by decide +kernel
theorem dX9_beats_36 : decode cX9_beats 36 = .ok (.invokevirtual 200, 3) := by decide +kernel
theorem dX9_beats_39 : decode cX9_beats 39 = .ok (.ifCond .ne 10, 3) := by decide +kernel
theorem dX9_beats_42 : decode cX9_beats 42 = .ok (.aload_n 0, 1) := by decide +kernel
theorem dX9_beats_43 : decode cX9_beats 43 = .ok (.bipush (-2), 2) := by decide +kernel
theorem dX9_beats_45 : decode cX9_beats 45 = .ok (.invokevirtual 174, 3) := by decide +kernel
theorem dX9_beats_48 : decode cX9_beats 48 = .ok (.ireturn, 1) := by decide +kernel
theorem dX9_beats_49 : decode cX9_beats 49 = .ok (.aload_n 0, 1) := by decide +kernel
theorem dX9_beats_50 : decode cX9_beats 50 = .ok (.getfield 13, 3) := by decide +kernel
theorem dX9_beats_53 : decode cX9_beats 53 = .ok (.bipush 64, 2) := by decide +kernel
theorem dX9_beats_55 : decode cX9_beats 55 = .ok (.iload_n 1, 1) := by decide +kernel
theorem dX9_beats_56 : decode cX9_beats 56 = .ok (.iadd, 1) := by decide +kernel
theorem dX9_beats_57 : decode cX9_beats 57 = .ok (.iaload, 1) := by decide +kernel
theorem dX9_beats_58 : decode cX9_beats 58 = .ok (.iload_n 2, 1) := by decide +kernel
theorem dX9_beats_59 : decode cX9_beats 59 = .ok (.ishr, 1) := by decide +kernel
theorem dX9_beats_60 : decode cX9_beats 60 = .ok (.iconst 1, 1) := by decide +kernel
theorem dX9_beats_61 : decode cX9_beats 61 = .ok (.iand, 1) := by decide +kernel
theorem dX9_beats_62 : decode cX9_beats 62 = .ok (.istore 4, 2) := by decide +kernel
theorem dX9_beats_64 : decode cX9_beats 64 = .ok (.aload_n 0, 1) := by decide +kernel
theorem dX9_beats_65 : decode cX9_beats 65 = .ok (.getfield 13, 3) := by decide +kernel
theorem dX9_beats_68 : decode cX9_beats 68 = .ok (.bipush 64, 2) := by decide +kernel
theorem dX9_beats_70 : decode cX9_beats 70 = .ok (.iload_n 1, 1) := by decide +kernel
theorem dX9_beats_71 : decode cX9_beats 71 = .ok (.iadd, 1) := by decide +kernel
theorem dX9_beats_72 : decode cX9_beats 72 = .ok (.dup2, 1) := by decide +kernel
theorem dX9_beats_73 : decode cX9_beats 73 = .ok (.iaload, 1) := by decide +kernel
theorem dX9_beats_74 : decode cX9_beats 74 = .ok (.iload 4, 2) := by decide +kernel
theorem dX9_beats_76 : decode cX9_beats 76 = .ok (.iload_n 3, 1) := by decide +kernel
theorem dX9_beats_77 : decode cX9_beats 77 = .ok (.if_icmp .ne 7, 3) := by decide +kernel
theorem dX9_beats_80 : decode cX9_beats 80 = .ok (.iconst 0, 1) := by decide +kernel
theorem dX9_beats_81 : decode cX9_beats 81 = .ok (.goto 6, 3) := by decide +kernel
theorem dX9_beats_84 : decode cX9_beats 84 = .ok (.iconst 1, 1) := by decide +kernel
theorem dX9_beats_85 : decode cX9_beats 85 = .ok (.iload_n 2, 1) := by decide +kernel
theorem dX9_beats_86 : decode cX9_beats 86 = .ok (.ishl, 1) := by decide +kernel
theorem dX9_beats_87 : decode cX9_beats 87 = .ok (.ixor, 1) := by decide +kernel
theorem dX9_beats_88 : decode cX9_beats 88 = .ok (.iastore, 1) := by decide +kernel
theorem dX9_beats_89 : decode cX9_beats 89 = .ok (.aload_n 0, 1) := by decide +kernel
theorem dX9_beats_90 : decode cX9_beats 90 = .ok (.iload 4, 2) := by decide +kernel
theorem dX9_beats_92 : decode cX9_beats 92 = .ok (.invokevirtual 174, 3) := by decide +kernel
theorem dX9_beats_95 : decode cX9_beats 95 = .ok (.ireturn, 1) := by decide +kernel
theorem dX9_begin_0 : decode cX9_begin 0 = .ok (.aload_n 0, 1) := by decide +kernel
theorem dX9_begin_1 : decode cX9_begin 1 = .ok (.iconst 0, 1) := by decide +kernel
theorem dX9_begin_2 : decode cX9_begin 2 = .ok (.putfield 243, 3) := by decide +kernel
theorem dX9_begin_5 : decode cX9_begin 5 = .ok (.aload_n 0, 1) := by decide +kernel
theorem dX9_begin_6 : decode cX9_begin 6 = .ok (.iconst 0, 1) := by decide +kernel
theorem dX9_begin_7 : decode cX9_begin 7 = .ok (.putfield 246, 3) := by decide +kernel
theorem dX9_begin_10 : decode cX9_begin 10 = .ok (.aload_n 0, 1) := by decide +kernel
theorem dX9_begin_11 : decode cX9_begin 11 = .ok (.iconst (-1), 1) := by decide +kernel
theorem dX9_begin_12 : decode cX9_begin 12 = .ok (.putfield 38, 3) := by decide +kernel
theorem dX9_begin_15 : decode cX9_begin 15 = .ok (.aload_n 0, 1) := by decide +kernel
theorem dX9_begin_16 : decode cX9_begin 16 = .ok (.invokevirtual 250, 3) := by decide +kernel
theorem dX9_begin_19 : decode cX9_begin 19 = .ok (.return_, 1) := by decide +kernel
theorem dX9_beginText_0 : decode cX9_beginText 0 = .ok (.aload_n 0, 1) := by decide +kernel
theorem dX9_beginText_1 : decode cX9_beginText 1 = .ok (.iload_n 1, 1) := by decide +kernel
theorem dX9_beginText_2 : decode cX9_beginText 2 = .ok (.putfield 323, 3) := by decide +kernel
theorem dX9_beginText_5 : decode cX9_beginText 5 = .ok (.aload_n 0, 1) := by decide +kernel
theorem dX9_beginText_6 : decode cX9_beginText 6 = .ok (.invokevirtual 374, 3) := by decide +kernel
theorem dX9_beginText_9 : decode cX9_beginText 9 = .ok (.aload_n 0, 1) := by decide +kernel
theorem dX9_beginText_10 : decode cX9_beginText 10 = .ok (.iconst 0, 1) := by decide +kernel
theorem dX9_beginText_11 : decode cX9_beginText 11 = .ok (.putfield 377, 3) := by decide +kernel
theorem dX9_beginText_14 : decode cX9_beginText 14 = .ok (.aload_n 0, 1) := by decide +kernel
theorem dX9_beginText_15 : decode cX9_beginText 15 = .ok (.iconst 0, 1) := by decide +kernel
theorem dX9_beginText_16 : decode cX9_beginText 16 = .ok (.putfield 283, 3) := by decide +kernel
theorem dX9_beginText_19 : decode cX9_beginText 19 = .ok (.aload_n 0, 1) := by decide +kernel
theorem dX9_beginText_20 : decode cX9_beginText 20 = .ok (.iconst 0, 1) := by decide +kernel
theorem dX9_beginText_21 : decode cX9_beginText 21 = .ok (.putfield 314, 3) := by decide +kernel
theorem dX9_beginText_24 : decode cX9_beginText 24 = .ok (.return_, 1) := by decide +kernel
theorem dX9_behindSum_0 : decode cX9_behindSum 0 = .ok (.aload_n 0, 1) := by decide +kernel
theorem dX9_behindSum_1 : decode cX9_behindSum 1 = .ok (.bipush 43, 2) := by decide +kernel
theorem dX9_behindSum_3 : decode cX9_behindSum 3 = .ok (.invokevirtual 317, 3) := by decide +kernel
theorem dX9_behindSum_6 : decode cX9_behindSum 6 = .ok (.ifCond .eq 8, 3) := by decide +kernel
theorem dX9_behindSum_9 : decode cX9_behindSum 9 = .ok (.bipush 20, 2) := by decide +kernel
theorem dX9_behindSum_11 : decode cX9_behindSum 11 = .ok (.goto 60, 3) := by decide +kernel
theorem dX9_behindSum_14 : decode cX9_behindSum 14 = .ok (.aload_n 0, 1) := by decide +kernel
theorem dX9_behindSum_15 : decode cX9_behindSum 15 = .ok (.bipush 45, 2) := by decide +kernel
theorem dX9_behindSum_17 : decode cX9_behindSum 17 = .ok (.invokevirtual 317, 3) := by decide +kernel
theorem dX9_behindSum_20 : decode cX9_behindSum 20 = .ok (.ifCond .eq 8, 3) := by decide +kernel
theorem dX9_behindSum_23 : decode cX9_behindSum 23 = .ok (.bipush 21, 2) := by decide +kernel
theorem dX9_behindSum_25 : decode cX9_behindSum 25 = .ok (.goto 46, 3) := by decide +kernel
theorem dX9_behindSum_28 : decode cX9_behindSum 28 = .ok (.aload_n 0, 1) := by decide +kernel
theorem dX9_behindSum_29 : decode cX9_behindSum 29 = .ok (.bipush 42, 2) := by decide +kernel
theorem dX9_behindSum_31 : decode cX9_behindSum 31 = .ok (.invokevirtual 317, 3) := by decide +kernel
theorem dX9_behindSum_34 : decode cX9_behindSum 34 = .ok (.ifCond .eq 8, 3) := by decide +kernel
theorem dX9_behindSum_37 : decode cX9_behindSum 37 = .ok (.bipush 22, 2) := by decide +kernel
theorem dX9_behindSum_39 : decode cX9_behindSum 39 = .ok (.goto 32, 3) := by decide +kernel
theorem dX9_behindSum_42 : decode cX9_behindSum 42 = .ok (.aload_n 0, 1) := by decide +kernel
theorem dX9_behindSum_43 : decode cX9_behindSum 43 = .ok (.bipush 47, 2) := by decide +kernel
theorem dX9_behindSum_45 : decode cX9_behindSum 45 = .ok (.invokevirtual 317, 3) := by decide +kernel
theorem dX9_behindSum_48 : decode cX9_behindSum 48 = .ok (.ifCond .eq 8, 3) := by decide +kernel
theorem dX9_behindSum_51 : decode cX9_behindSum 51 = .ok (.bipush 23, 2) := by decide +kernel
theorem dX9_behindSum_53 : decode cX9_behindSum 53 = .ok (.goto 18, 3) := by decide +kernel
theorem dX9_behindSum_56 : decode cX9_behindSum 56 = .ok (.aload_n 0, 1) := by decide +kernel
theorem dX9_behindSum_57 : decode cX9_behindSum 57 = .ok (.bipush 37, 2) := by decide +kernel
theorem dX9_behindSum_59 : decode cX9_behindSum 59 = .ok (.invokevirtual 317, 3) := by decide +kernel
theorem dX9_behindSum_62 : decode cX9_behindSum 62 = .ok (.ifCond .eq 8, 3) := by decide +kernel
theorem dX9_behindSum_65 : decode cX9_behindSum 65 = .ok (.bipush 24, 2) := by decide +kernel
theorem dX9_behindSum_67 : decode cX9_behindSum 67 = .ok (.goto 4, 3) := by decide +kernel
theorem dX9_behindSum_70 : decode cX9_behindSum 70 = .ok (.iconst (-1), 1) := by decide +kernel
theorem dX9_behindSum_71 : decode cX9_behindSum 71 = .ok (.istore_n 2, 1) := by decide +kernel
theorem dX9_behindSum_72 : decode cX9_behindSum 72 = .ok (.iload_n 2, 1) := by decide +kernel
theorem dX9_behindSum_73 : decode cX9_behindSum 73 = .ok (.iconst (-1), 1) := by decide +kernel
theorem dX9_behindSum_74 : decode cX9_behindSum 74 = .ok (.if_icmp .eq 23, 3) := by decide +kernel
theorem dX9_behindSum_77 : decode cX9_behindSum 77 = .ok (.aload_n 0, 1) := by decide +kernel
theorem dX9_behindSum_78 : decode cX9_behindSum 78 = .ok (.iload_n 2, 1) := by decide +kernel
theorem dX9_behindSum_79 : decode cX9_behindSum 79 = .ok (.invokestatic 289, 3) := by decide +kernel
theorem dX9_behindSum_82 : decode cX9_behindSum 82 = .ok (.invokevirtual 350, 3) := by decide +kernel
theorem dX9_behindSum_85 : decode cX9_behindSum 85 = .ok (.aload_n 0, 1) := by decide +kernel
theorem dX9_behindSum_86 : decode cX9_behindSum 86 = .ok (.iload_n 2, 1) := by decide +kernel
theorem dX9_behindSum_87 : decode cX9_behindSum 87 = .ok (.iconst 0, 1) := by decide +kernel
theorem dX9_behindSum_88 : decode cX9_behindSum 88 = .ok (.invokevirtual 311, 3) := by decide +kernel
theorem dX9_behindSum_91 : decode cX9_behindSum 91 = .ok (.aload_n 0, 1) := by decide +kernel
theorem dX9_behindSum_92 : decode cX9_behindSum 92 = .ok (.invokevirtual 250, 3) := by decide +kernel
theorem dX9_behindSum_95 : decode cX9_behindSum 95 = .ok (.iconst 1, 1) := by decide +kernel
theorem dX9_behindSum_96 : decode cX9_behindSum 96 = .ok (.ireturn, 1) := by decide +kernel
theorem dX9_behindSum_97 : decode cX9_behindSum 97 = .ok (.aload_n 0, 1) := by decide +kernel
theorem dX9_behindSum_98 : decode cX9_behindSum 98 = .ok (.invokevirtual 353, 3) := by decide +kernel
theorem dX9_behindSum_101 : decode cX9_behindSum 101 = .ok (.istore_n 3, 1) := by decide +kernel
theorem dX9_behindSum_102 : decode cX9_behindSum 102 = .ok (.iload_n 3, 1) := by decide +kernel
theorem dX9_behindSum_103 : decode cX9_behindSum 103 = .ok (.bipush 32, 2) := by decide +kernel
theorem dX9_behindSum_105 : decode cX9_behindSum 105 = .ok (.if_icmp .ne 47, 3) := by decide +kernel
theorem dX9_behindSum_108 : decode cX9_behindSum 108 = .ok (.aload_n 0, 1) := by decide +kernel
theorem dX9_behindSum_109 : decode cX9_behindSum 109 = .ok (.aload_n 0, 1) := by decide +kernel
theorem dX9_behindSum_110 : decode cX9_behindSum 110 = .ok (.bipush 93, 2) := by decide +kernel
theorem dX9_behindSum_112 : decode cX9_behindSum 112 = .ok (.invokevirtual 317, 3) := by decide +kernel
theorem dX9_behindSum_115 : decode cX9_behindSum 115 = .ok (.invokevirtual 279, 3) := by decide +kernel
theorem dX9_behindSum_118 : decode cX9_behindSum 118 = .ok (.aload_n 0, 1) := by decide +kernel
theorem dX9_behindSum_119 : decode cX9_behindSum 119 = .ok (.getfield 246, 3) := by decide +kernel
theorem dX9_behindSum_122 : decode cX9_behindSum 122 = .ok (.ifCond .ne 28, 3) := by decide +kernel
theorem dX9_behindSum_125 : decode cX9_behindSum 125 = .ok (.aload_n 0, 1) := by decide +kernel
theorem dX9_behindSum_126 : decode cX9_behindSum 126 = .ok (.iconst 5, 1) := by decide +kernel
theorem dX9_behindSum_127 : decode cX9_behindSum 127 = .ok (.invokevirtual 350, 3) := by decide +kernel
theorem dX9_behindSum_130 : decode cX9_behindSum 130 = .ok (.aload_n 0, 1) := by decide +kernel
theorem dX9_behindSum_131 : decode cX9_behindSum 131 = .ok (.dup, 1) := by decide +kernel
theorem dX9_behindSum_132 : decode cX9_behindSum 132 = .ok (.getfield 286, 3) := by decide +kernel
theorem dX9_behindSum_135 : decode cX9_behindSum 135 = .ok (.iconst 1, 1) := by decide +kernel
theorem dX9_behindSum_136 : decode cX9_behindSum 136 = .ok (.isub, 1) := by decide +kernel
theorem dX9_behindSum_137 : decode cX9_behindSum 137 = .ok (.putfield 286, 3) := by decide +kernel
theorem dX9_behindSum_140 : decode cX9_behindSum 140 = .ok (.aload_n 0, 1) := by decide +kernel
theorem dX9_behindSum_141 : decode cX9_behindSum 141 = .ok (.dup, 1) := by decide +kernel
theorem dX9_behindSum_142 : decode cX9_behindSum 142 = .ok (.getfield 308, 3) := by decide +kernel
theorem dX9_behindSum_145 : decode cX9_behindSum 145 = .ok (.iconst 1, 1) := by decide +kernel
theorem dX9_behindSum_146 : decode cX9_behindSum 146 = .ok (.isub, 1) := by decide +kernel
theorem dX9_behindSum_147 : decode cX9_behindSum 147 = .ok (.putfield 308, 3) := by decide +kernel
theorem dX9_behindSum_150 : decode cX9_behindSum 150 = .ok (.iconst 3, 1) := by decide +kernel
theorem dX9_behindSum_151 : decode cX9_behindSum 151 = .ok (.ireturn, 1) := by decide +kernel
theorem dX9_behindSum_152 : decode cX9_behindSum 152 = .ok (.iload_n 3, 1) := by decide +kernel
theorem dX9_behindSum_153 : decode cX9_behindSum 153 = .ok (.iconst (-1), 1) := by decide +kernel
theorem dX9_behindSum_154 : decode cX9_behindSum 154 = .ok (.if_icmp .ne 9, 3) := by decide +kernel
theorem dX9_behindSum_157 : decode cX9_behindSum 157 = .ok (.iload_n 1, 1) := by decide +kernel
theorem dX9_behindSum_158 : decode cX9_behindSum 158 = .ok (.ifCond .ne 5, 3) := by decide +kernel
theorem dX9_behindSum_161 : decode cX9_behindSum 161 = .ok (.iconst 4, 1) := by decide +kernel
theorem dX9_behindSum_162 : decode cX9_behindSum 162 = .ok (.ireturn, 1) := by decide +kernel
theorem dX9_behindSum_163 : decode cX9_behindSum 163 = .ok (.aload_n 0, 1) := by decide +kernel
theorem dX9_behindSum_164 : decode cX9_behindSum 164 = .ok (.invokevirtual 356, 3) := by decide +kernel
theorem dX9_behindSum_167 : decode cX9_behindSum 167 = .ok (.ifCond .eq 5, 3) := by decide +kernel
theorem dX9_behindSum_170 : decode cX9_behindSum 170 = .ok (.iconst 2, 1) := by decide +kernel
theorem dX9_behindSum_171 : decode cX9_behindSum 171 = .ok (.ireturn, 1) := by decide +kernel
theorem dX9_behindSum_172 : decode cX9_behindSum 172 = .ok (.aload_n 0, 1) := by decide +kernel
theorem dX9_behindSum_173 : decode cX9_behindSum 173 = .ok (.bipush 60, 2) := by decide +kernel
theorem dX9_behindSum_175 : decode cX9_behindSum 175 = .ok (.invokevirtual 317, 3) := by decide +kernel
theorem dX9_behindSum_178 : decode cX9_behindSum 178 = .ok (.ifCond .eq 8, 3) := by decide +kernel
theorem dX9_behindSum_181 : decode cX9_behindSum 181 = .ok (.bipush 25, 2) := by decide +kernel
theorem dX9_behindSum_183 : decode cX9_behindSum 183 = .ok (.goto 19, 3) := by decide +kernel
theorem dX9_behindSum_186 : decode cX9_behindSum 186 = .ok (.aload_n 0, 1) := by decide +kernel
theorem dX9_behindSum_187 : decode cX9_behindSum 187 = .ok (.bipush 62, 2) := by decide +kernel
theorem dX9_behindSum_189 : decode cX9_behindSum 189 = .ok (.invokevirtual 317, 3) := by decide +kernel
theorem dX9_behindSum_192 : decode cX9_behindSum 192 = .ok (.ifCond .eq 8, 3) := by decide +kernel
theorem dX9_behindSum_195 : decode cX9_behindSum 195 = .ok (.bipush 26, 2) := by decide +kernel
theorem dX9_behindSum_197 : decode cX9_behindSum 197 = .ok (.goto 5, 3) := by decide +kernel
theorem dX9_behindSum_200 : decode cX9_behindSum 200 = .ok (.bipush 27, 2) := by decide +kernel
theorem dX9_behindSum_202 : decode cX9_behindSum 202 = .ok (.istore_n 2, 1) := by decide +kernel
theorem dX9_behindSum_203 : decode cX9_behindSum 203 = .ok (.aload_n 0, 1) := by decide +kernel
theorem dX9_behindSum_204 : decode cX9_behindSum 204 = .ok (.iload_n 2, 1) := by decide +kernel
theorem dX9_behindSum_205 : decode cX9_behindSum 205 = .ok (.bipush 27, 2) := by decide +kernel
theorem dX9_behindSum_207 : decode cX9_behindSum 207 = .ok (.if_icmp .ne 12, 3) := by decide +kernel
theorem dX9_behindSum_210 : decode cX9_behindSum 210 = .ok (.aload_n 0, 1) := by decide +kernel
theorem dX9_behindSum_211 : decode cX9_behindSum 211 = .ok (.bipush 61, 2) := by decide +kernel
theorem dX9_behindSum_213 : decode cX9_behindSum 213 = .ok (.invokevirtual 317, 3) := by decide +kernel
theorem dX9_behindSum_216 : decode cX9_behindSum 216 = .ok (.ifCond .eq 7, 3) := by decide +kernel
theorem dX9_behindSum_219 : decode cX9_behindSum 219 = .ok (.iconst 1, 1) := by decide +kernel
theorem dX9_behindSum_220 : decode cX9_behindSum 220 = .ok (.goto 4, 3) := by decide +kernel
theorem dX9_behindSum_223 : decode cX9_behindSum 223 = .ok (.iconst 0, 1) := by decide +kernel
theorem dX9_behindSum_224 : decode cX9_behindSum 224 = .ok (.invokevirtual 279, 3) := by decide +kernel
theorem dX9_behindSum_227 : decode cX9_behindSum 227 = .ok (.aload_n 0, 1) := by decide +kernel
theorem dX9_behindSum_228 : decode cX9_behindSum 228 = .ok (.getfield 246, 3) := by decide +kernel
theorem dX9_behindSum_231 : decode cX9_behindSum 231 = .ok (.ifCond .ne 14, 3) := by decide +kernel
theorem dX9_behindSum_234 : decode cX9_behindSum 234 = .ok (.aload_n 0, 1) := by decide +kernel
theorem dX9_behindSum_235 : decode cX9_behindSum 235 = .ok (.iconst 5, 1) := by decide +kernel
theorem dX9_behindSum_236 : decode cX9_behindSum 236 = .ok (.invokevirtual 350, 3) := by decide +kernel
theorem dX9_behindSum_239 : decode cX9_behindSum 239 = .ok (.aload_n 0, 1) := by decide +kernel
theorem dX9_behindSum_240 : decode cX9_behindSum 240 = .ok (.iload_n 2, 1) := by decide +kernel
theorem dX9_behindSum_241 : decode cX9_behindSum 241 = .ok (.iconst 0, 1) := by decide +kernel
theorem dX9_behindSum_242 : decode cX9_behindSum 242 = .ok (.invokevirtual 311, 3) := by decide +kernel
theorem dX9_behindSum_245 : decode cX9_behindSum 245 = .ok (.iconst 1, 1) := by decide +kernel
theorem dX9_behindSum_246 : decode cX9_behindSum 246 = .ok (.ireturn, 1) := by decide +kernel
theorem dX9_behindTest_0 : decode cX9_behindTest 0 = .ok (.aload_n 0, 1) := by decide +kernel
theorem dX9_behindTest_1 : decode cX9_behindTest 1 = .ok (.ldc2_w 360, 3) := by decide +kernel
theorem dX9_behindTest_4 : decode cX9_behindTest 4 = .ok (.invokevirtual 304, 3) := by decide +kernel
theorem dX9_behindTest_7 : decode cX9_behindTest 7 = .ok (.istore_n 1, 1) := by decide +kernel
theorem dX9_behindTest_8 : decode cX9_behindTest 8 = .ok (.iload_n 1, 1) := by decide +kernel
theorem dX9_behindTest_9 : decode cX9_behindTest 9 = .ok (.ifCond .ne 13, 3) := by decide +kernel
theorem dX9_behindTest_12 : decode cX9_behindTest 12 = .ok (.aload_n 0, 1) := by decide +kernel
theorem dX9_behindTest_13 : decode cX9_behindTest 13 = .ok (.ldc2_w 362, 3) := by decide +kernel
theorem dX9_behindTest_16 : decode cX9_behindTest 16 = .ok (.invokevirtual 304, 3) := by decide +kernel
theorem dX9_behindTest_19 : decode cX9_behindTest 19 = .ok (.ifCond .eq 57, 3) := by decide +kernel
theorem dX9_behindTest_22 : decode cX9_behindTest 22 = .ok (.aload_n 0, 1) := by decide +kernel
theorem dX9_behindTest_23 : decode cX9_behindTest 23 = .ok (.iload_n 1, 1) := by decide +kernel
theorem dX9_behindTest_24 : decode cX9_behindTest 24 = .ok (.ifCond .eq 7, 3) := by decide +kernel
theorem dX9_behindTest_27 : decode cX9_behindTest 27 = .ok (.iconst 2, 1) := by decide +kernel
theorem dX9_behindTest_28 : decode cX9_behindTest 28 = .ok (.goto 4, 3) := by decide +kernel
theorem dX9_behindTest_31 : decode cX9_behindTest 31 = .ok (.iconst 1, 1) := by decide +kernel
theorem dX9_behindTest_32 : decode cX9_behindTest 32 = .ok (.invokevirtual 350, 3) := by decide +kernel
theorem dX9_behindTest_35 : decode cX9_behindTest 35 = .ok (.aload_n 0, 1) := by decide +kernel
theorem dX9_behindTest_36 : decode cX9_behindTest 36 = .ok (.iload_n 1, 1) := by decide +kernel
theorem dX9_behindTest_37 : decode cX9_behindTest 37 = .ok (.ifCond .eq 8, 3) := by decide +kernel
theorem dX9_behindTest_40 : decode cX9_behindTest 40 = .ok (.bipush 29, 2) := by decide +kernel
theorem dX9_behindTest_42 : decode cX9_behindTest 42 = .ok (.goto 5, 3) := by decide +kernel
theorem dX9_behindTest_45 : decode cX9_behindTest 45 = .ok (.bipush 30, 2) := by decide +kernel
theorem dX9_behindTest_47 : decode cX9_behindTest 47 = .ok (.aload_n 0, 1) := by decide +kernel
theorem dX9_behindTest_48 : decode cX9_behindTest 48 = .ok (.getfield 283, 3) := by decide +kernel
theorem dX9_behindTest_51 : decode cX9_behindTest 51 = .ok (.invokevirtual 311, 3) := by decide +kernel
theorem dX9_behindTest_54 : decode cX9_behindTest 54 = .ok (.aload_n 0, 1) := by decide +kernel
theorem dX9_behindTest_55 : decode cX9_behindTest 55 = .ok (.iload_n 1, 1) := by decide +kernel
theorem dX9_behindTest_56 : decode cX9_behindTest 56 = .ok (.ifCond .eq 8, 3) := by decide +kernel
theorem dX9_behindTest_59 : decode cX9_behindTest 59 = .ok (.bipush 29, 2) := by decide +kernel
theorem dX9_behindTest_61 : decode cX9_behindTest 61 = .ok (.goto 5, 3) := by decide +kernel
theorem dX9_behindTest_64 : decode cX9_behindTest 64 = .ok (.bipush 30, 2) := by decide +kernel
theorem dX9_behindTest_66 : decode cX9_behindTest 66 = .ok (.iconst 0, 1) := by decide +kernel
theorem dX9_behindTest_67 : decode cX9_behindTest 67 = .ok (.invokevirtual 292, 3) := by decide +kernel
theorem dX9_behindTest_70 : decode cX9_behindTest 70 = .ok (.aload_n 0, 1) := by decide +kernel
theorem dX9_behindTest_71 : decode cX9_behindTest 71 = .ok (.invokevirtual 250, 3) := by decide +kernel
theorem dX9_behindTest_74 : decode cX9_behindTest 74 = .ok (.iconst 0, 1) := by decide +kernel
theorem dX9_behindTest_75 : decode cX9_behindTest 75 = .ok (.ireturn, 1) := by decide +kernel
theorem dX9_behindTest_76 : decode cX9_behindTest 76 = .ok (.aload_n 0, 1) := by decide +kernel
theorem dX9_behindTest_77 : decode cX9_behindTest 77 = .ok (.invokevirtual 353, 3) := by decide +kernel
theorem dX9_behindTest_80 : decode cX9_behindTest 80 = .ok (.iconst (-1), 1) := by decide +kernel
theorem dX9_behindTest_81 : decode cX9_behindTest 81 = .ok (.if_icmp .ne 5, 3) := by decide +kernel
theorem dX9_behindTest_84 : decode cX9_behindTest 84 = .ok (.iconst 4, 1) := by decide +kernel
theorem dX9_behindTest_85 : decode cX9_behindTest 85 = .ok (.ireturn, 1) := by decide +kernel
theorem dX9_behindTest_86 : decode cX9_behindTest 86 = .ok (.aload_n 0, 1) := by decide +kernel
theorem dX9_behindTest_87 : decode cX9_behindTest 87 = .ok (.aload_n 0, 1) := by decide +kernel
theorem dX9_behindTest_88 : decode cX9_behindTest 88 = .ok (.bipush 41, 2) := by decide +kernel
theorem dX9_behindTest_90 : decode cX9_behindTest 90 = .ok (.invokevirtual 317, 3) := by decide +kernel
theorem dX9_behindTest_93 : decode cX9_behindTest 93 = .ok (.invokevirtual 279, 3) := by decide +kernel
theorem dX9_behindTest_96 : decode cX9_behindTest 96 = .ok (.aload_n 0, 1) := by decide +kernel
theorem dX9_behindTest_97 : decode cX9_behindTest 97 = .ok (.getfield 246, 3) := by decide +kernel
theorem dX9_behindTest_100 : decode cX9_behindTest 100 = .ok (.ifCond .ne 28, 3) := by decide +kernel
theorem dX9_behindTest_103 : decode cX9_behindTest 103 = .ok (.aload_n 0, 1) := by decide +kernel
theorem dX9_behindTest_104 : decode cX9_behindTest 104 = .ok (.iconst 1, 1) := by decide +kernel
theorem dX9_behindTest_105 : decode cX9_behindTest 105 = .ok (.invokevirtual 350, 3) := by decide +kernel
theorem dX9_behindTest_108 : decode cX9_behindTest 108 = .ok (.aload_n 0, 1) := by decide +kernel
theorem dX9_behindTest_109 : decode cX9_behindTest 109 = .ok (.dup, 1) := by decide +kernel
theorem dX9_behindTest_110 : decode cX9_behindTest 110 = .ok (.getfield 286, 3) := by decide +kernel
theorem dX9_behindTest_113 : decode cX9_behindTest 113 = .ok (.iconst 1, 1) := by decide +kernel
theorem dX9_behindTest_114 : decode cX9_behindTest 114 = .ok (.isub, 1) := by decide +kernel
theorem dX9_behindTest_115 : decode cX9_behindTest 115 = .ok (.putfield 286, 3) := by decide +kernel
theorem dX9_behindTest_118 : decode cX9_behindTest 118 = .ok (.aload_n 0, 1) := by decide +kernel
theorem dX9_behindTest_119 : decode cX9_behindTest 119 = .ok (.dup, 1) := by decide +kernel
theorem dX9_behindTest_120 : decode cX9_behindTest 120 = .ok (.getfield 308, 3) := by decide +kernel
theorem dX9_behindTest_123 : decode cX9_behindTest 123 = .ok (.iconst 1, 1) := by decide +kernel
theorem dX9_behindTest_124 : decode cX9_behindTest 124 = .ok (.isub, 1) := by decide +kernel
theorem dX9_behindTest_125 : decode cX9_behindTest 125 = .ok (.putfield 308, 3) := by decide +kernel
theorem dX9_behindTest_128 : decode cX9_behindTest 128 = .ok (.iconst 2, 1) := by decide +kernel
theorem dX9_behindTest_129 : decode cX9_behindTest 129 = .ok (.ireturn, 1) := by decide +kernel
theorem dX9_binds_0 : decode cX9_binds 0 = .ok (.iload_n 0, 1) := by decide +kernel
theorem dX9_binds_1 : decode cX9_binds 1 = .ok (.bipush 31, 2) := by decide +kernel
theorem dX9_binds_3 : decode cX9_binds 3 = .ok (.if_icmp .lt 7, 3) := by decide +kernel
theorem dX9_binds_6 : decode cX9_binds 6 = .ok (.iconst 0, 1) := by decide +kernel
theorem dX9_binds_7 : decode cX9_binds 7 = .ok (.goto 55, 3) := by decide +kernel
theorem dX9_binds_10 : decode cX9_binds 10 = .ok (.iload_n 0, 1) := by decide +kernel
theorem dX9_binds_11 : decode cX9_binds 11 = .ok (.bipush 30, 2) := by decide +kernel
theorem dX9_binds_13 : decode cX9_binds 13 = .ok (.if_icmp .ne 7, 3) := by decide +kernel
theorem dX9_binds_16 : decode cX9_binds 16 = .ok (.iconst 1, 1) := by decide +kernel
theorem dX9_binds_17 : decode cX9_binds 17 = .ok (.goto 45, 3) := by decide +kernel
theorem dX9_binds_20 : decode cX9_binds 20 = .ok (.iload_n 0, 1) := by decide +kernel
theorem dX9_binds_21 : decode cX9_binds 21 = .ok (.bipush 29, 2) := by decide +kernel
theorem dX9_binds_23 : decode cX9_binds 23 = .ok (.if_icmp .ne 7, 3) := by decide +kernel
theorem dX9_binds_26 : decode cX9_binds 26 = .ok (.iconst 2, 1) := by decide +kernel
theorem dX9_binds_27 : decode cX9_binds 27 = .ok (.goto 35, 3) := by decide +kernel
theorem dX9_binds_30 : decode cX9_binds 30 = .ok (.iload_n 0, 1) := by decide +kernel
theorem dX9_binds_31 : decode cX9_binds 31 = .ok (.bipush 28, 2) := by decide +kernel
theorem dX9_binds_33 : decode cX9_binds 33 = .ok (.if_icmp .ne 7, 3) := by decide +kernel
theorem dX9_binds_36 : decode cX9_binds 36 = .ok (.iconst 3, 1) := by decide +kernel
theorem dX9_binds_37 : decode cX9_binds 37 = .ok (.goto 25, 3) := by decide +kernel
theorem dX9_binds_40 : decode cX9_binds 40 = .ok (.iload_n 0, 1) := by decide +kernel
theorem dX9_binds_41 : decode cX9_binds 41 = .ok (.bipush 25, 2) := by decide +kernel
theorem dX9_binds_43 : decode cX9_binds 43 = .ok (.if_icmp .lt 7, 3) := by decide +kernel
theorem dX9_binds_46 : decode cX9_binds 46 = .ok (.iconst 4, 1) := by decide +kernel
theorem dX9_binds_47 : decode cX9_binds 47 = .ok (.goto 15, 3) := by decide +kernel
theorem dX9_binds_50 : decode cX9_binds 50 = .ok (.iload_n 0, 1) := by decide +kernel
theorem dX9_binds_51 : decode cX9_binds 51 = .ok (.bipush 22, 2) := by decide +kernel
theorem dX9_binds_53 : decode cX9_binds 53 = .ok (.if_icmp .lt 8, 3) := by decide +kernel
theorem dX9_binds_56 : decode cX9_binds 56 = .ok (.bipush 6, 2) := by decide +kernel
theorem dX9_binds_58 : decode cX9_binds 58 = .ok (.goto 4, 3) := by decide +kernel
theorem dX9_binds_61 : decode cX9_binds 61 = .ok (.iconst 5, 1) := by decide +kernel
theorem dX9_binds_62 : decode cX9_binds 62 = .ok (.ireturn, 1) := by decide +kernel
theorem dX9_blots_0 : decode cX9_blots 0 = .ok (.aload_n 0, 1) := by decide +kernel
theorem dX9_blots_1 : decode cX9_blots 1 = .ok (.iconst 0, 1) := by decide +kernel
theorem dX9_blots_2 : decode cX9_blots 2 = .ok (.putfield 165, 3) := by decide +kernel
theorem dX9_blots_5 : decode cX9_blots 5 = .ok (.aload_n 0, 1) := by decide +kernel
theorem dX9_blots_6 : decode cX9_blots 6 = .ok (.getfield 234, 3) := by decide +kernel
theorem dX9_blots_9 : decode cX9_blots 9 = .ok (.ireturn, 1) := by decide +kernel
theorem dX9_canBe_0 : decode cX9_canBe 0 = .ok (.aload_n 0, 1) := by decide +kernel
theorem dX9_canBe_1 : decode cX9_canBe 1 = .ok (.iconst 0, 1) := by decide +kernel
theorem dX9_canBe_2 : decode cX9_canBe 2 = .ok (.putfield 165, 3) := by decide +kernel
theorem dX9_canBe_5 : decode cX9_canBe 5 = .ok (.aload_n 0, 1) := by decide +kernel
theorem dX9_canBe_6 : decode cX9_canBe 6 = .ok (.invokevirtual 483, 3) := by decide +kernel
theorem dX9_canBe_9 : decode cX9_canBe 9 = .ok (.ireturn, 1) := by decide +kernel
theorem dX9_centuries_0 : decode cX9_centuries 0 = .ok (.aload_n 0, 1) := by decide +kernel
theorem dX9_centuries_1 : decode cX9_centuries 1 = .ok (.iconst 0, 1) := by decide +kernel
theorem dX9_centuries_2 : decode cX9_centuries 2 = .ok (.putfield 165, 3) := by decide +kernel
theorem dX9_centuries_5 : decode cX9_centuries 5 = .ok (.iload_n 1, 1) := by decide +kernel
theorem dX9_centuries_6 : decode cX9_centuries 6 = .ok (.i2l, 1) := by decide +kernel
theorem dX9_centuries_7 : decode cX9_centuries 7 = .ok (.lconst 0, 1) := by decide +kernel
theorem dX9_centuries_8 : decode cX9_centuries 8 = .ok (.ldc2_w 275, 3) := by decide +kernel
theorem dX9_centuries_11 : decode cX9_centuries 11 = .ok (.invokestatic 185, 3) := by decide +kernel
theorem dX9_centuries_14 : decode cX9_centuries 14 = .ok (.ifCond .eq 15, 3) := by decide +kernel
theorem dX9_centuries_17 : decode cX9_centuries 17 = .ok (.iload_n 2, 1) := by decide +kernel
theorem dX9_centuries_18 : decode cX9_centuries 18 = .ok (.i2l, 1) := by decide +kernel
theorem dX9_centuries_19 : decode cX9_centuries 19 = .ok (.lconst 1, 1) := by decide +kernel
theorem dX9_centuries_20 : decode cX9_centuries 20 = .ok (.ldc2_w 507, 3) := by decide +kernel
theorem dX9_centuries_23 : decode cX9_centuries 23 = .ok (.invokestatic 185, 3) := by decide +kernel
theorem dX9_centuries_26 : decode cX9_centuries 26 = .ok (.ifCond .ne 9, 3) := by decide +kernel
theorem dX9_centuries_29 : decode cX9_centuries 29 = .ok (.aload_n 0, 1) := by decide +kernel
theorem dX9_centuries_30 : decode cX9_centuries 30 = .ok (.iconst (-1), 1) := by decide +kernel
theorem dX9_centuries_31 : decode cX9_centuries 31 = .ok (.invokevirtual 174, 3) := by decide +kernel
theorem dX9_centuries_34 : decode cX9_centuries 34 = .ok (.ireturn, 1) := by decide +kernel
theorem dX9_centuries_35 : decode cX9_centuries 35 = .ok (.aload_n 0, 1) := by decide +kernel
theorem dX9_centuries_36 : decode cX9_centuries 36 = .ok (.getfield 13, 3) := by decide +kernel
theorem dX9_centuries_39 : decode cX9_centuries 39 = .ok (.iconst 0, 1) := by decide +kernel
theorem dX9_centuries_40 : decode cX9_centuries 40 = .ok (.iaload, 1) := by decide +kernel
theorem dX9_centuries_41 : decode cX9_centuries 41 = .ok (.ifCond .ne 10, 3) := by decide +kernel
theorem dX9_centuries_44 : decode cX9_centuries 44 = .ok (.aload_n 0, 1) := by decide +kernel
theorem dX9_centuries_45 : decode cX9_centuries 45 = .ok (.bipush (-3), 2) := by decide +kernel
theorem dX9_centuries_47 : decode cX9_centuries 47 = .ok (.invokevirtual 174, 3) := by decide +kernel
theorem dX9_centuries_50 : decode cX9_centuries 50 = .ok (.ireturn, 1) := by decide +kernel
theorem dX9_centuries_51 : decode cX9_centuries 51 = .ok (.aload_n 0, 1) := by decide +kernel
theorem dX9_centuries_52 : decode cX9_centuries 52 = .ok (.bipush 16, 2) := by decide +kernel
theorem dX9_centuries_54 : decode cX9_centuries 54 = .ok (.invokevirtual 178, 3) := by decide +kernel
theorem dX9_centuries_57 : decode cX9_centuries 57 = .ok (.aload_n 0, 1) := by decide +kernel
theorem dX9_centuries_58 : decode cX9_centuries 58 = .ok (.iload_n 1, 1) := by decide +kernel
theorem dX9_centuries_59 : decode cX9_centuries 59 = .ok (.i2l, 1) := by decide +kernel
theorem dX9_centuries_60 : decode cX9_centuries 60 = .ok (.putfield 547, 3) := by decide +kernel
theorem dX9_centuries_63 : decode cX9_centuries 63 = .ok (.iconst 0, 1) := by decide +kernel
theorem dX9_centuries_64 : decode cX9_centuries 64 = .ok (.istore_n 3, 1) := by decide +kernel
theorem dX9_centuries_65 : decode cX9_centuries 65 = .ok (.iconst 0, 1) := by decide +kernel
theorem dX9_centuries_66 : decode cX9_centuries 66 = .ok (.istore 4, 2) := by decide +kernel
theorem dX9_centuries_68 : decode cX9_centuries 68 = .ok (.iload 4, 2) := by decide +kernel
theorem dX9_centuries_70 : decode cX9_centuries 70 = .ok (.iload_n 2, 1) := by decide +kernel
theorem dX9_centuries_71 : decode cX9_centuries 71 = .ok (.if_icmp .ge 121, 3) := by decide +kernel
theorem dX9_centuries_74 : decode cX9_centuries 74 = .ok (.aload_n 0, 1) := by decide +kernel
theorem dX9_centuries_75 : decode cX9_centuries 75 = .ok (.getfield 13, 3) := by decide +kernel
theorem dX9_centuries_78 : decode cX9_centuries 78 = .ok (.iconst 4, 1) := by decide +kernel
theorem dX9_centuries_79 : decode cX9_centuries 79 = .ok (.iaload, 1) := by decide +kernel
theorem dX9_centuries_80 : decode cX9_centuries 80 = .ok (.sipush 999, 3) := by decide +kernel
theorem dX9_centuries_83 : decode cX9_centuries 83 = .ok (.if_icmp .ge 109, 3) := by decide +kernel
theorem dX9_centuries_86 : decode cX9_centuries 86 = .ok (.aload_n 0, 1) := by decide +kernel
theorem dX9_centuries_87 : decode cX9_centuries 87 = .ok (.aload_n 0, 1) := by decide +kernel
theorem dX9_centuries_88 : decode cX9_centuries 88 = .ok (.getfield 13, 3) := by decide +kernel
theorem dX9_centuries_91 : decode cX9_centuries 91 = .ok (.iconst 0, 1) := by decide +kernel
theorem dX9_centuries_92 : decode cX9_centuries 92 = .ok (.iaload, 1) := by decide +kernel
theorem dX9_centuries_93 : decode cX9_centuries 93 = .ok (.invokevirtual 556, 3) := by decide +kernel
theorem dX9_centuries_96 : decode cX9_centuries 96 = .ok (.istore 5, 2) := by decide +kernel
theorem dX9_centuries_98 : decode cX9_centuries 98 = .ok (.aload_n 0, 1) := by decide +kernel
theorem dX9_centuries_99 : decode cX9_centuries 99 = .ok (.iconst 4, 1) := by decide +kernel
theorem dX9_centuries_100 : decode cX9_centuries 100 = .ok (.invokevirtual 556, 3) := by decide +kernel
theorem dX9_centuries_103 : decode cX9_centuries 103 = .ok (.istore 6, 2) := by decide +kernel
theorem dX9_centuries_105 : decode cX9_centuries 105 = .ok (.aload_n 0, 1) := by decide +kernel
theorem dX9_centuries_106 : decode cX9_centuries 106 = .ok (.iconst 4, 1) := by decide +kernel
theorem dX9_centuries_107 : decode cX9_centuries 107 = .ok (.invokevirtual 556, 3) := by decide +kernel
theorem dX9_centuries_110 : decode cX9_centuries 110 = .ok (.istore 7, 2) := by decide +kernel
theorem dX9_centuries_112 : decode cX9_centuries 112 = .ok (.iload 7, 2) := by decide +kernel
theorem dX9_centuries_114 : decode cX9_centuries 114 = .ok (.iconst 2, 1) := by decide +kernel
theorem dX9_centuries_115 : decode cX9_centuries 115 = .ok (.if_icmp .ge 25, 3) := by decide +kernel
theorem dX9_centuries_118 : decode cX9_centuries 118 = .ok (.aload_n 0, 1) := by decide +kernel
theorem dX9_centuries_119 : decode cX9_centuries 119 = .ok (.getfield 13, 3) := by decide +kernel
theorem dX9_centuries_122 : decode cX9_centuries 122 = .ok (.bipush 22, 2) := by decide +kernel
theorem dX9_centuries_124 : decode cX9_centuries 124 = .ok (.iload 5, 2) := by decide +kernel
theorem dX9_centuries_126 : decode cX9_centuries 126 = .ok (.iadd, 1) := by decide +kernel
theorem dX9_centuries_127 : decode cX9_centuries 127 = .ok (.iconst 1, 1) := by decide +kernel
theorem dX9_centuries_128 : decode cX9_centuries 128 = .ok (.aload_n 0, 1) := by decide +kernel
theorem dX9_centuries_129 : decode cX9_centuries 129 = .ok (.getfield 13, 3) := by decide +kernel
theorem dX9_centuries_132 : decode cX9_centuries 132 = .ok (.bipush 22, 2) := by decide +kernel
theorem dX9_centuries_134 : decode cX9_centuries 134 = .ok (.iload 5, 2) := by decide +kernel
theorem dX9_centuries_136 : decode cX9_centuries 136 = .ok (.iadd, 1) := by decide +kernel
theorem dX9_centuries_137 : decode cX9_centuries 137 = .ok (.iaload, 1) := by decide +kernel
theorem dX9_centuries_138 : decode cX9_centuries 138 = .ok (.isub, 1) := by decide +kernel
theorem dX9_centuries_139 : decode cX9_centuries 139 = .ok (.iastore, 1) := by decide +kernel
theorem dX9_centuries_140 : decode cX9_centuries 140 = .ok (.iload 7, 2) := by decide +kernel
theorem dX9_centuries_142 : decode cX9_centuries 142 = .ok (.iconst 2, 1) := by decide +kernel
theorem dX9_centuries_143 : decode cX9_centuries 143 = .ok (.if_icmp .ne 26, 3) := by decide +kernel
theorem dX9_centuries_146 : decode cX9_centuries 146 = .ok (.aload_n 0, 1) := by decide +kernel
theorem dX9_centuries_147 : decode cX9_centuries 147 = .ok (.iload 6, 2) := by decide +kernel
theorem dX9_centuries_149 : decode cX9_centuries 149 = .ok (.invokevirtual 221, 3) := by decide +kernel
theorem dX9_centuries_152 : decode cX9_centuries 152 = .ok (.aload_n 0, 1) := by decide +kernel
theorem dX9_centuries_153 : decode cX9_centuries 153 = .ok (.getfield 224, 3) := by decide +kernel
theorem dX9_centuries_156 : decode cX9_centuries 156 = .ok (.ifCond .le 13, 3) := by decide +kernel
theorem dX9_centuries_159 : decode cX9_centuries 159 = .ok (.aload_n 0, 1) := by decide +kernel
theorem dX9_centuries_160 : decode cX9_centuries 160 = .ok (.iload 6, 2) := by decide +kernel
theorem dX9_centuries_162 : decode cX9_centuries 162 = .ok (.invokevirtual 443, 3) := by decide +kernel
theorem dX9_centuries_165 : decode cX9_centuries 165 = .ok (.pop, 1) := by decide +kernel
theorem dX9_centuries_166 : decode cX9_centuries 166 = .ok (.iinc 3 1, 3) := by decide +kernel
theorem dX9_centuries_169 : decode cX9_centuries 169 = .ok (.iload 7, 2) := by decide +kernel
theorem dX9_centuries_171 : decode cX9_centuries 171 = .ok (.iconst 3, 1) := by decide +kernel
theorem dX9_centuries_172 : decode cX9_centuries 172 = .ok (.if_icmp .ne 9, 3) := by decide +kernel
theorem dX9_centuries_175 : decode cX9_centuries 175 = .ok (.aload_n 0, 1) := by decide +kernel
theorem dX9_centuries_176 : decode cX9_centuries 176 = .ok (.iload 5, 2) := by decide +kernel
theorem dX9_centuries_178 : decode cX9_centuries 178 = .ok (.invokevirtual 452, 3) := by decide +kernel
theorem dX9_centuries_181 : decode cX9_centuries 181 = .ok (.aload_n 0, 1) := by decide +kernel
theorem dX9_centuries_182 : decode cX9_centuries 182 = .ok (.invokevirtual 461, 3) := by decide +kernel
theorem dX9_centuries_185 : decode cX9_centuries 185 = .ok (.pop, 1) := by decide +kernel
theorem dX9_centuries_186 : decode cX9_centuries 186 = .ok (.iinc 4 1, 3) := by decide +kernel
theorem dX9_centuries_189 : decode cX9_centuries 189 = .ok (.goto (-121), 3) := by decide +kernel
theorem dX9_centuries_192 : decode cX9_centuries 192 = .ok (.iconst 0, 1) := by decide +kernel
theorem dX9_centuries_193 : decode cX9_centuries 193 = .ok (.istore 4, 2) := by decide +kernel
theorem dX9_centuries_195 : decode cX9_centuries 195 = .ok (.iload 4, 2) := by decide +kernel
theorem dX9_centuries_197 : decode cX9_centuries 197 = .ok (.bipush 25, 2) := by decide +kernel
theorem dX9_centuries_199 : decode cX9_centuries 199 = .ok (.if_icmp .ge 25, 3) := by decide +kernel
theorem dX9_centuries_202 : decode cX9_centuries 202 = .ok (.aload_n 0, 1) := by decide +kernel
theorem dX9_centuries_203 : decode cX9_centuries 203 = .ok (.getfield 159, 3) := by decide +kernel
theorem dX9_centuries_206 : decode cX9_centuries 206 = .ok (.iload 4, 2) := by decide +kernel
theorem dX9_centuries_208 : decode cX9_centuries 208 = .ok (.aload_n 0, 1) := by decide +kernel
theorem dX9_centuries_209 : decode cX9_centuries 209 = .ok (.getfield 13, 3) := by decide +kernel
theorem dX9_centuries_212 : decode cX9_centuries 212 = .ok (.iconst 4, 1) := by decide +kernel
theorem dX9_centuries_213 : decode cX9_centuries 213 = .ok (.iload 4, 2) := by decide +kernel
theorem dX9_centuries_215 : decode cX9_centuries 215 = .ok (.iadd, 1) := by decide +kernel
theorem dX9_centuries_216 : decode cX9_centuries 216 = .ok (.iaload, 1) := by decide +kernel
theorem dX9_centuries_217 : decode cX9_centuries 217 = .ok (.iastore, 1) := by decide +kernel
theorem dX9_centuries_218 : decode cX9_centuries 218 = .ok (.iinc 4 1, 3) := by decide +kernel
theorem dX9_centuries_221 : decode cX9_centuries 221 = .ok (.goto (-26), 3) := by decide +kernel
theorem dX9_centuries_224 : decode cX9_centuries 224 = .ok (.aload_n 0, 1) := by decide +kernel
theorem dX9_centuries_225 : decode cX9_centuries 225 = .ok (.aload_n 0, 1) := by decide +kernel
theorem dX9_centuries_226 : decode cX9_centuries 226 = .ok (.getfield 13, 3) := by decide +kernel
theorem dX9_centuries_229 : decode cX9_centuries 229 = .ok (.iconst 0, 1) := by decide +kernel
theorem dX9_centuries_230 : decode cX9_centuries 230 = .ok (.iaload, 1) := by decide +kernel
theorem dX9_centuries_231 : decode cX9_centuries 231 = .ok (.putfield 162, 3) := by decide +kernel
theorem dX9_centuries_234 : decode cX9_centuries 234 = .ok (.aload_n 0, 1) := by decide +kernel
theorem dX9_centuries_235 : decode cX9_centuries 235 = .ok (.bipush 16, 2) := by decide +kernel
theorem dX9_centuries_237 : decode cX9_centuries 237 = .ok (.invokevirtual 182, 3) := by decide +kernel
theorem dX9_centuries_240 : decode cX9_centuries 240 = .ok (.aload_n 0, 1) := by decide +kernel
theorem dX9_centuries_241 : decode cX9_centuries 241 = .ok (.iload_n 3, 1) := by decide +kernel
theorem dX9_centuries_242 : decode cX9_centuries 242 = .ok (.invokevirtual 174, 3) := by decide +kernel
theorem dX9_centuries_245 : decode cX9_centuries 245 = .ok (.ireturn, 1) := by decide +kernel
theorem dX9_change_0 : decode cX9_change 0 = .ok (.aload_n 0, 1) := by decide +kernel
theorem dX9_change_1 : decode cX9_change 1 = .ok (.getfield 13, 3) := by decide +kernel
theorem dX9_change_4 : decode cX9_change 4 = .ok (.iload_n 1, 1) := by decide +kernel
theorem dX9_change_5 : decode cX9_change 5 = .ok (.iaload, 1) := by decide +kernel
theorem dX9_change_6 : decode cX9_change 6 = .ok (.istore_n 3, 1) := by decide +kernel
theorem dX9_change_7 : decode cX9_change 7 = .ok (.aload_n 0, 1) := by decide +kernel
theorem dX9_change_8 : decode cX9_change 8 = .ok (.getfield 13, 3) := by decide +kernel
theorem dX9_change_11 : decode cX9_change 11 = .ok (.iload_n 1, 1) := by decide +kernel
theorem dX9_change_12 : decode cX9_change 12 = .ok (.iload_n 2, 1) := by decide +kernel
theorem dX9_change_13 : decode cX9_change 13 = .ok (.iastore, 1) := by decide +kernel
theorem dX9_change_14 : decode cX9_change 14 = .ok (.aload_n 0, 1) := by decide +kernel
theorem dX9_change_15 : decode cX9_change 15 = .ok (.iconst 0, 1) := by decide +kernel
theorem dX9_change_16 : decode cX9_change 16 = .ok (.putfield 168, 3) := by decide +kernel
theorem dX9_change_19 : decode cX9_change 19 = .ok (.iload_n 3, 1) := by decide +kernel
theorem dX9_change_20 : decode cX9_change 20 = .ok (.ireturn, 1) := by decide +kernel
theorem dX9_circles_0 : decode cX9_circles 0 = .ok (.aload_n 0, 1) := by decide +kernel
theorem dX9_circles_1 : decode cX9_circles 1 = .ok (.iconst 0, 1) := by decide +kernel
theorem dX9_circles_2 : decode cX9_circles 2 = .ok (.putfield 165, 3) := by decide +kernel
theorem dX9_circles_5 : decode cX9_circles 5 = .ok (.iconst 0, 1) := by decide +kernel
theorem dX9_circles_6 : decode cX9_circles 6 = .ok (.istore_n 1, 1) := by decide +kernel
theorem dX9_circles_7 : decode cX9_circles 7 = .ok (.iconst 0, 1) := by decide +kernel
theorem dX9_circles_8 : decode cX9_circles 8 = .ok (.istore_n 2, 1) := by decide +kernel
theorem dX9_circles_9 : decode cX9_circles 9 = .ok (.iload_n 2, 1) := by decide +kernel
theorem dX9_circles_10 : decode cX9_circles 10 = .ok (.aload_n 0, 1) := by decide +kernel
theorem dX9_circles_11 : decode cX9_circles 11 = .ok (.getfield 13, 3) := by decide +kernel
theorem dX9_circles_14 : decode cX9_circles 14 = .ok (.iconst 0, 1) := by decide +kernel
theorem dX9_circles_15 : decode cX9_circles 15 = .ok (.iaload, 1) := by decide +kernel
theorem dX9_circles_16 : decode cX9_circles 16 = .ok (.if_icmp .ge 115, 3) := by decide +kernel
theorem dX9_circles_19 : decode cX9_circles 19 = .ok (.iload_n 2, 1) := by decide +kernel
theorem dX9_circles_20 : decode cX9_circles 20 = .ok (.iconst 1, 1) := by decide +kernel
theorem dX9_circles_21 : decode cX9_circles 21 = .ok (.iadd, 1) := by decide +kernel
theorem dX9_circles_22 : decode cX9_circles 22 = .ok (.istore_n 3, 1) := by decide +kernel
theorem dX9_circles_23 : decode cX9_circles 23 = .ok (.iload_n 3, 1) := by decide +kernel
theorem dX9_circles_24 : decode cX9_circles 24 = .ok (.aload_n 0, 1) := by decide +kernel
theorem dX9_circles_25 : decode cX9_circles 25 = .ok (.getfield 13, 3) := by decide +kernel
theorem dX9_circles_28 : decode cX9_circles 28 = .ok (.iconst 0, 1) := by decide +kernel
theorem dX9_circles_29 : decode cX9_circles 29 = .ok (.iaload, 1) := by decide +kernel
theorem dX9_circles_30 : decode cX9_circles 30 = .ok (.if_icmp .ge 95, 3) := by decide +kernel
theorem dX9_circles_33 : decode cX9_circles 33 = .ok (.iload_n 2, 1) := by decide +kernel
theorem dX9_circles_34 : decode cX9_circles 34 = .ok (.iconst 1, 1) := by decide +kernel
theorem dX9_circles_35 : decode cX9_circles 35 = .ok (.iadd, 1) := by decide +kernel
theorem dX9_circles_36 : decode cX9_circles 36 = .ok (.istore 4, 2) := by decide +kernel
theorem dX9_circles_38 : decode cX9_circles 38 = .ok (.iload 4, 2) := by decide +kernel
theorem dX9_circles_40 : decode cX9_circles 40 = .ok (.aload_n 0, 1) := by decide +kernel
theorem dX9_circles_41 : decode cX9_circles 41 = .ok (.getfield 13, 3) := by decide +kernel
theorem dX9_circles_44 : decode cX9_circles 44 = .ok (.iconst 0, 1) := by decide +kernel
theorem dX9_circles_45 : decode cX9_circles 45 = .ok (.iaload, 1) := by decide +kernel
theorem dX9_circles_46 : decode cX9_circles 46 = .ok (.if_icmp .ge 73, 3) := by decide +kernel
theorem dX9_circles_49 : decode cX9_circles 49 = .ok (.iload_n 1, 1) := by decide +kernel
theorem dX9_circles_50 : decode cX9_circles 50 = .ok (.iload_n 3, 1) := by decide +kernel
theorem dX9_circles_51 : decode cX9_circles 51 = .ok (.iload 4, 2) := by decide +kernel
theorem dX9_circles_53 : decode cX9_circles 53 = .ok (.if_icmp .eq 57, 3) := by decide +kernel
theorem dX9_circles_56 : decode cX9_circles 56 = .ok (.aload_n 0, 1) := by decide +kernel
theorem dX9_circles_57 : decode cX9_circles 57 = .ok (.getfield 13, 3) := by decide +kernel
theorem dX9_circles_60 : decode cX9_circles 60 = .ok (.bipush 64, 2) := by decide +kernel
theorem dX9_circles_62 : decode cX9_circles 62 = .ok (.iload_n 2, 1) := by decide +kernel
theorem dX9_circles_63 : decode cX9_circles 63 = .ok (.iadd, 1) := by decide +kernel
theorem dX9_circles_64 : decode cX9_circles 64 = .ok (.iaload, 1) := by decide +kernel
theorem dX9_circles_65 : decode cX9_circles 65 = .ok (.iload_n 3, 1) := by decide +kernel
theorem dX9_circles_66 : decode cX9_circles 66 = .ok (.invokestatic 467, 3) := by decide +kernel
theorem dX9_circles_69 : decode cX9_circles 69 = .ok (.ifCond .eq 41, 3) := by decide +kernel
theorem dX9_circles_72 : decode cX9_circles 72 = .ok (.aload_n 0, 1) := by decide +kernel
theorem dX9_circles_73 : decode cX9_circles 73 = .ok (.getfield 13, 3) := by decide +kernel
theorem dX9_circles_76 : decode cX9_circles 76 = .ok (.bipush 64, 2) := by decide +kernel
theorem dX9_circles_78 : decode cX9_circles 78 = .ok (.iload_n 3, 1) := by decide +kernel
theorem dX9_circles_79 : decode cX9_circles 79 = .ok (.iadd, 1) := by decide +kernel
theorem dX9_circles_80 : decode cX9_circles 80 = .ok (.iaload, 1) := by decide +kernel
theorem dX9_circles_81 : decode cX9_circles 81 = .ok (.iload 4, 2) := by decide +kernel
theorem dX9_circles_83 : decode cX9_circles 83 = .ok (.invokestatic 467, 3) := by decide +kernel
theorem dX9_circles_86 : decode cX9_circles 86 = .ok (.ifCond .eq 24, 3) := by decide +kernel
theorem dX9_circles_89 : decode cX9_circles 89 = .ok (.aload_n 0, 1) := by decide +kernel
theorem dX9_circles_90 : decode cX9_circles 90 = .ok (.getfield 13, 3) := by decide +kernel
theorem dX9_circles_93 : decode cX9_circles 93 = .ok (.bipush 64, 2) := by decide +kernel
theorem dX9_circles_95 : decode cX9_circles 95 = .ok (.iload 4, 2) := by decide +kernel
theorem dX9_circles_97 : decode cX9_circles 97 = .ok (.iadd, 1) := by decide +kernel
theorem dX9_circles_98 : decode cX9_circles 98 = .ok (.iaload, 1) := by decide +kernel
theorem dX9_circles_99 : decode cX9_circles 99 = .ok (.iload_n 2, 1) := by decide +kernel
theorem dX9_circles_100 : decode cX9_circles 100 = .ok (.invokestatic 467, 3) := by decide +kernel
theorem dX9_circles_103 : decode cX9_circles 103 = .ok (.ifCond .eq 7, 3) := by decide +kernel
theorem dX9_circles_106 : decode cX9_circles 106 = .ok (.iconst 1, 1) := by decide +kernel
theorem dX9_circles_107 : decode cX9_circles 107 = .ok (.goto 4, 3) := by decide +kernel
theorem dX9_circles_110 : decode cX9_circles 110 = .ok (.iconst 0, 1) := by decide +kernel
theorem dX9_circles_111 : decode cX9_circles 111 = .ok (.iadd, 1) := by decide +kernel
theorem dX9_circles_112 : decode cX9_circles 112 = .ok (.istore_n 1, 1) := by decide +kernel
theorem dX9_circles_113 : decode cX9_circles 113 = .ok (.iinc 4 1, 3) := by decide +kernel
theorem dX9_circles_116 : decode cX9_circles 116 = .ok (.goto (-78), 3) := by decide +kernel
theorem dX9_circles_119 : decode cX9_circles 119 = .ok (.iinc 3 1, 3) := by decide +kernel
theorem dX9_circles_122 : decode cX9_circles 122 = .ok (.goto (-99), 3) := by decide +kernel
theorem dX9_circles_125 : decode cX9_circles 125 = .ok (.iinc 2 1, 3) := by decide +kernel
theorem dX9_circles_128 : decode cX9_circles 128 = .ok (.goto (-119), 3) := by decide +kernel
theorem dX9_circles_131 : decode cX9_circles 131 = .ok (.iload_n 1, 1) := by decide +kernel
theorem dX9_circles_132 : decode cX9_circles 132 = .ok (.ireturn, 1) := by decide +kernel
theorem dX9_compare_0 : decode cX9_compare 0 = .ok (.aload_n 0, 1) := by decide +kernel
theorem dX9_compare_1 : decode cX9_compare 1 = .ok (.iconst 0, 1) := by decide +kernel
theorem dX9_compare_2 : decode cX9_compare 2 = .ok (.putfield 165, 3) := by decide +kernel
theorem dX9_compare_5 : decode cX9_compare 5 = .ok (.aload_n 0, 1) := by decide +kernel
theorem dX9_compare_6 : decode cX9_compare 6 = .ok (.iload_n 1, 1) := by decide +kernel
theorem dX9_compare_7 : decode cX9_compare 7 = .ok (.invokevirtual 394, 3) := by decide +kernel
theorem dX9_compare_10 : decode cX9_compare 10 = .ok (.ifCond .eq 10, 3) := by decide +kernel
theorem dX9_compare_13 : decode cX9_compare 13 = .ok (.iload_n 2, 1) := by decide +kernel
theorem dX9_compare_14 : decode cX9_compare 14 = .ok (.invokestatic 213, 3) := by decide +kernel
theorem dX9_compare_17 : decode cX9_compare 17 = .ok (.ifCond .ne 5, 3) := by decide +kernel
theorem dX9_compare_20 : decode cX9_compare 20 = .ok (.iconst (-1), 1) := by decide +kernel
theorem dX9_compare_21 : decode cX9_compare 21 = .ok (.ireturn, 1) := by decide +kernel
theorem dX9_compare_22 : decode cX9_compare 22 = .ok (.aload_n 0, 1) := by decide +kernel
theorem dX9_compare_23 : decode cX9_compare 23 = .ok (.getfield 13, 3) := by decide +kernel
theorem dX9_compare_26 : decode cX9_compare 26 = .ok (.iconst 3, 1) := by decide +kernel
theorem dX9_compare_27 : decode cX9_compare 27 = .ok (.iaload, 1) := by decide +kernel
theorem dX9_compare_28 : decode cX9_compare 28 = .ok (.istore_n 3, 1) := by decide +kernel
theorem dX9_compare_29 : decode cX9_compare 29 = .ok (.aload_n 0, 1) := by decide +kernel
theorem dX9_compare_30 : decode cX9_compare 30 = .ok (.getfield 13, 3) := by decide +kernel
theorem dX9_compare_33 : decode cX9_compare 33 = .ok (.iconst 3, 1) := by decide +kernel
theorem dX9_compare_34 : decode cX9_compare 34 = .ok (.iload_n 1, 1) := by decide +kernel
theorem dX9_compare_35 : decode cX9_compare 35 = .ok (.iastore, 1) := by decide +kernel
theorem dX9_compare_36 : decode cX9_compare 36 = .ok (.aload_n 0, 1) := by decide +kernel
theorem dX9_compare_37 : decode cX9_compare 37 = .ok (.iload_n 2, 1) := by decide +kernel
theorem dX9_compare_38 : decode cX9_compare 38 = .ok (.invokevirtual 221, 3) := by decide +kernel
theorem dX9_compare_41 : decode cX9_compare 41 = .ok (.aload_n 0, 1) := by decide +kernel
theorem dX9_compare_42 : decode cX9_compare 42 = .ok (.getfield 13, 3) := by decide +kernel
theorem dX9_compare_45 : decode cX9_compare 45 = .ok (.iconst 3, 1) := by decide +kernel
theorem dX9_compare_46 : decode cX9_compare 46 = .ok (.iload_n 3, 1) := by decide +kernel
theorem dX9_compare_47 : decode cX9_compare 47 = .ok (.iastore, 1) := by decide +kernel
theorem dX9_compare_48 : decode cX9_compare 48 = .ok (.aload_n 0, 1) := by decide +kernel
theorem dX9_compare_49 : decode cX9_compare 49 = .ok (.getfield 224, 3) := by decide +kernel
theorem dX9_compare_52 : decode cX9_compare 52 = .ok (.ifCond .ne 7, 3) := by decide +kernel
theorem dX9_compare_55 : decode cX9_compare 55 = .ok (.iconst (-1), 1) := by decide +kernel
theorem dX9_compare_56 : decode cX9_compare 56 = .ok (.goto 9, 3) := by decide +kernel
theorem dX9_compare_59 : decode cX9_compare 59 = .ok (.aload_n 0, 1) := by decide +kernel
theorem dX9_compare_60 : decode cX9_compare 60 = .ok (.getfield 111, 3) := by decide +kernel
theorem dX9_compare_63 : decode cX9_compare 63 = .ok (.iconst 0, 1) := by decide +kernel
theorem dX9_compare_64 : decode cX9_compare 64 = .ok (.iaload, 1) := by decide +kernel
theorem dX9_compare_65 : decode cX9_compare 65 = .ok (.ireturn, 1) := by decide +kernel
theorem dX9_count_0 : decode cX9_count 0 = .ok (.aload_n 0, 1) := by decide +kernel
theorem dX9_count_1 : decode cX9_count 1 = .ok (.iconst 0, 1) := by decide +kernel
theorem dX9_count_2 : decode cX9_count 2 = .ok (.putfield 165, 3) := by decide +kernel
theorem dX9_count_5 : decode cX9_count 5 = .ok (.iload_n 1, 1) := by decide +kernel
theorem dX9_count_6 : decode cX9_count 6 = .ok (.tableswitch 170 0 13 #[70, 77, 82, 90, 103, 110, 117, 122, 127, 134, 141, 148, 155, 163], 70) := by decide +kernel
theorem dX9_count_76 : decode cX9_count 76 = .ok (.aload_n 0, 1) := by decide +kernel
theorem dX9_count_77 : decode cX9_count 77 = .ok (.getfield 13, 3) := by decide +kernel
theorem dX9_count_80 : decode cX9_count 80 = .ok (.iconst 0, 1) := by decide +kernel
theorem dX9_count_81 : decode cX9_count 81 = .ok (.iaload, 1) := by decide +kernel
theorem dX9_count_82 : decode cX9_count 82 = .ok (.ireturn, 1) := by decide +kernel
theorem dX9_count_83 : decode cX9_count 83 = .ok (.aload_n 0, 1) := by decide +kernel
theorem dX9_count_84 : decode cX9_count 84 = .ok (.invokevirtual 529, 3) := by decide +kernel
theorem dX9_count_87 : decode cX9_count 87 = .ok (.ireturn, 1) := by decide +kernel
theorem dX9_count_88 : decode cX9_count 88 = .ok (.aload_n 0, 1) := by decide +kernel
theorem dX9_count_89 : decode cX9_count 89 = .ok (.getfield 13, 3) := by decide +kernel
theorem dX9_count_92 : decode cX9_count 92 = .ok (.bipush 7, 2) := by decide +kernel
theorem dX9_count_94 : decode cX9_count 94 = .ok (.iaload, 1) := by decide +kernel
theorem dX9_count_95 : decode cX9_count 95 = .ok (.ireturn, 1) := by decide +kernel
theorem dX9_count_96 : decode cX9_count 96 = .ok (.aload_n 0, 1) := by decide +kernel
theorem dX9_count_97 : decode cX9_count 97 = .ok (.bipush 15, 2) := by decide +kernel
theorem dX9_count_99 : decode cX9_count 99 = .ok (.aload_n 0, 1) := by decide +kernel
theorem dX9_count_100 : decode cX9_count 100 = .ok (.getfield 13, 3) := by decide +kernel
theorem dX9_count_103 : decode cX9_count 103 = .ok (.iconst 0, 1) := by decide +kernel
theorem dX9_count_104 : decode cX9_count 104 = .ok (.iaload, 1) := by decide +kernel
theorem dX9_count_105 : decode cX9_count 105 = .ok (.invokevirtual 194, 3) := by decide +kernel
theorem dX9_count_108 : decode cX9_count 108 = .ok (.ireturn, 1) := by decide +kernel
theorem dX9_count_109 : decode cX9_count 109 = .ok (.aload_n 0, 1) := by decide +kernel
theorem dX9_count_110 : decode cX9_count 110 = .ok (.getfield 13, 3) := by decide +kernel
theorem dX9_count_113 : decode cX9_count 113 = .ok (.iconst 1, 1) := by decide +kernel
theorem dX9_count_114 : decode cX9_count 114 = .ok (.iaload, 1) := by decide +kernel
theorem dX9_count_115 : decode cX9_count 115 = .ok (.ireturn, 1) := by decide +kernel
theorem dX9_count_116 : decode cX9_count 116 = .ok (.aload_n 0, 1) := by decide +kernel
theorem dX9_count_117 : decode cX9_count 117 = .ok (.getfield 13, 3) := by decide +kernel
theorem dX9_count_120 : decode cX9_count 120 = .ok (.iconst 2, 1) := by decide +kernel
theorem dX9_count_121 : decode cX9_count 121 = .ok (.iaload, 1) := by decide +kernel
theorem dX9_count_122 : decode cX9_count 122 = .ok (.ireturn, 1) := by decide +kernel
theorem dX9_count_123 : decode cX9_count 123 = .ok (.aload_n 0, 1) := by decide +kernel
theorem dX9_count_124 : decode cX9_count 124 = .ok (.getfield 171, 3) := by decide +kernel
theorem dX9_count_127 : decode cX9_count 127 = .ok (.ireturn, 1) := by decide +kernel
theorem dX9_count_128 : decode cX9_count 128 = .ok (.aload_n 0, 1) := by decide +kernel
theorem dX9_count_129 : decode cX9_count 129 = .ok (.getfield 231, 3) := by decide +kernel
theorem dX9_count_132 : decode cX9_count 132 = .ok (.ireturn, 1) := by decide +kernel
theorem dX9_count_133 : decode cX9_count 133 = .ok (.aload_n 0, 1) := by decide +kernel
theorem dX9_count_134 : decode cX9_count 134 = .ok (.getfield 7, 3) := by decide +kernel
theorem dX9_count_137 : decode cX9_count 137 = .ok (.iconst 1, 1) := by decide +kernel
theorem dX9_count_138 : decode cX9_count 138 = .ok (.iaload, 1) := by decide +kernel
theorem dX9_count_139 : decode cX9_count 139 = .ok (.ireturn, 1) := by decide +kernel
theorem dX9_count_140 : decode cX9_count 140 = .ok (.aload_n 0, 1) := by decide +kernel
theorem dX9_count_141 : decode cX9_count 141 = .ok (.getfield 7, 3) := by decide +kernel
theorem dX9_count_144 : decode cX9_count 144 = .ok (.iconst 2, 1) := by decide +kernel
theorem dX9_count_145 : decode cX9_count 145 = .ok (.iaload, 1) := by decide +kernel
theorem dX9_count_146 : decode cX9_count 146 = .ok (.ireturn, 1) := by decide +kernel
theorem dX9_count_147 : decode cX9_count 147 = .ok (.aload_n 0, 1) := by decide +kernel
theorem dX9_count_148 : decode cX9_count 148 = .ok (.getfield 7, 3) := by decide +kernel
theorem dX9_count_151 : decode cX9_count 151 = .ok (.iconst 3, 1) := by decide +kernel
theorem dX9_count_152 : decode cX9_count 152 = .ok (.iaload, 1) := by decide +kernel
theorem dX9_count_153 : decode cX9_count 153 = .ok (.ireturn, 1) := by decide +kernel
theorem dX9_count_154 : decode cX9_count 154 = .ok (.aload_n 0, 1) := by decide +kernel
theorem dX9_count_155 : decode cX9_count 155 = .ok (.getfield 7, 3) := by decide +kernel
theorem dX9_count_158 : decode cX9_count 158 = .ok (.iconst 5, 1) := by decide +kernel
theorem dX9_count_159 : decode cX9_count 159 = .ok (.iaload, 1) := by decide +kernel
theorem dX9_count_160 : decode cX9_count 160 = .ok (.ireturn, 1) := by decide +kernel
theorem dX9_count_161 : decode cX9_count 161 = .ok (.aload_n 0, 1) := by decide +kernel
theorem dX9_count_162 : decode cX9_count 162 = .ok (.getfield 7, 3) := by decide +kernel
theorem dX9_count_165 : decode cX9_count 165 = .ok (.bipush 6, 2) := by decide +kernel
theorem dX9_count_167 : decode cX9_count 167 = .ok (.iaload, 1) := by decide +kernel
theorem dX9_count_168 : decode cX9_count 168 = .ok (.ireturn, 1) := by decide +kernel
theorem dX9_count_169 : decode cX9_count 169 = .ok (.aload_n 0, 1) := by decide +kernel
theorem dX9_count_170 : decode cX9_count 170 = .ok (.getfield 13, 3) := by decide +kernel
theorem dX9_count_173 : decode cX9_count 173 = .ok (.iconst 3, 1) := by decide +kernel
theorem dX9_count_174 : decode cX9_count 174 = .ok (.iaload, 1) := by decide +kernel
theorem dX9_count_175 : decode cX9_count 175 = .ok (.ireturn, 1) := by decide +kernel
theorem dX9_count_176 : decode cX9_count 176 = .ok (.iload_n 1, 1) := by decide +kernel
theorem dX9_count_177 : decode cX9_count 177 = .ok (.i2l, 1) := by decide +kernel
theorem dX9_count_178 : decode cX9_count 178 = .ok (.ldc2_w 561, 3) := by decide +kernel
theorem dX9_count_181 : decode cX9_count 181 = .ok (.ldc2_w 563, 3) := by decide +kernel
theorem dX9_count_184 : decode cX9_count 184 = .ok (.invokestatic 185, 3) := by decide +kernel
theorem dX9_count_187 : decode cX9_count 187 = .ok (.ifCond .eq 17, 3) := by decide +kernel
theorem dX9_count_190 : decode cX9_count 190 = .ok (.aload_n 0, 1) := by decide +kernel
theorem dX9_count_191 : decode cX9_count 191 = .ok (.getfield 13, 3) := by decide +kernel
theorem dX9_count_194 : decode cX9_count 194 = .ok (.iconst 4, 1) := by decide +kernel
theorem dX9_count_195 : decode cX9_count 195 = .ok (.iload_n 1, 1) := by decide +kernel
theorem dX9_count_196 : decode cX9_count 196 = .ok (.iadd, 1) := by decide +kernel
theorem dX9_count_197 : decode cX9_count 197 = .ok (.bipush 14, 2) := by decide +kernel
theorem dX9_count_199 : decode cX9_count 199 = .ok (.isub, 1) := by decide +kernel
theorem dX9_count_200 : decode cX9_count 200 = .ok (.iaload, 1) := by decide +kernel
theorem dX9_count_201 : decode cX9_count 201 = .ok (.goto 4, 3) := by decide +kernel
theorem dX9_count_204 : decode cX9_count 204 = .ok (.iconst (-1), 1) := by decide +kernel
theorem dX9_count_205 : decode cX9_count 205 = .ok (.ireturn, 1) := by decide +kernel
theorem dX9_crowned_0 : decode cX9_crowned 0 = .ok (.aload_n 0, 1) := by decide +kernel
theorem dX9_crowned_1 : decode cX9_crowned 1 = .ok (.iconst 0, 1) := by decide +kernel
theorem dX9_crowned_2 : decode cX9_crowned 2 = .ok (.putfield 165, 3) := by decide +kernel
theorem dX9_crowned_5 : decode cX9_crowned 5 = .ok (.iload_n 1, 1) := by decide +kernel
theorem dX9_crowned_6 : decode cX9_crowned 6 = .ok (.i2l, 1) := by decide +kernel
theorem dX9_crowned_7 : decode cX9_crowned 7 = .ok (.lconst 0, 1) := by decide +kernel
theorem dX9_crowned_8 : decode cX9_crowned 8 = .ok (.ldc2_w 431, 3) := by decide +kernel
theorem dX9_crowned_11 : decode cX9_crowned 11 = .ok (.invokestatic 185, 3) := by decide +kernel
theorem dX9_crowned_14 : decode cX9_crowned 14 = .ok (.ifCond .ne 5, 3) := by decide +kernel
theorem dX9_crowned_17 : decode cX9_crowned 17 = .ok (.iconst (-1), 1) := by decide +kernel
theorem dX9_crowned_18 : decode cX9_crowned 18 = .ok (.ireturn, 1) := by decide +kernel
theorem dX9_crowned_19 : decode cX9_crowned 19 = .ok (.aload_n 0, 1) := by decide +kernel
theorem dX9_crowned_20 : decode cX9_crowned 20 = .ok (.invokevirtual 498, 3) := by decide +kernel
theorem dX9_crowned_23 : decode cX9_crowned 23 = .ok (.istore_n 2, 1) := by decide +kernel
theorem dX9_crowned_24 : decode cX9_crowned 24 = .ok (.iload_n 1, 1) := by decide +kernel
theorem dX9_crowned_25 : decode cX9_crowned 25 = .ok (.ifCond .ne 7, 3) := by decide +kernel
theorem dX9_crowned_28 : decode cX9_crowned 28 = .ok (.iload_n 2, 1) := by decide +kernel
theorem dX9_crowned_29 : decode cX9_crowned 29 = .ok (.goto 11, 3) := by decide +kernel
theorem dX9_crowned_32 : decode cX9_crowned 32 = .ok (.aload_n 0, 1) := by decide +kernel
theorem dX9_crowned_33 : decode cX9_crowned 33 = .ok (.getfield 129, 3) := by decide +kernel
theorem dX9_crowned_36 : decode cX9_crowned 36 = .ok (.iload_n 1, 1) := by decide +kernel
theorem dX9_crowned_37 : decode cX9_crowned 37 = .ok (.iconst 1, 1) := by decide +kernel
theorem dX9_crowned_38 : decode cX9_crowned 38 = .ok (.isub, 1) := by decide +kernel
theorem dX9_crowned_39 : decode cX9_crowned 39 = .ok (.iaload, 1) := by decide +kernel
theorem dX9_crowned_40 : decode cX9_crowned 40 = .ok (.ireturn, 1) := by decide +kernel
theorem dX9_draw_0 : decode cX9_draw 0 = .ok (.aload_n 0, 1) := by decide +kernel
theorem dX9_draw_1 : decode cX9_draw 1 = .ok (.aload_n 0, 1) := by decide +kernel
theorem dX9_draw_2 : decode cX9_draw 2 = .ok (.getfield 547, 3) := by decide +kernel
theorem dX9_draw_5 : decode cX9_draw 5 = .ok (.ldc2_w 550, 3) := by decide +kernel
theorem dX9_draw_8 : decode cX9_draw 8 = .ok (.lmul, 1) := by decide +kernel
theorem dX9_draw_9 : decode cX9_draw 9 = .ok (.ldc2_w 552, 3) := by decide +kernel
theorem dX9_draw_12 : decode cX9_draw 12 = .ok (.ladd, 1) := by decide +kernel
theorem dX9_draw_13 : decode cX9_draw 13 = .ok (.ldc2_w 554, 3) := by decide +kernel
theorem dX9_draw_16 : decode cX9_draw 16 = .ok (.lrem, 1) := by decide +kernel
theorem dX9_draw_17 : decode cX9_draw 17 = .ok (.putfield 547, 3) := by decide +kernel
theorem dX9_draw_20 : decode cX9_draw 20 = .ok (.aload_n 0, 1) := by decide +kernel
theorem dX9_draw_21 : decode cX9_draw 21 = .ok (.getfield 547, 3) := by decide +kernel
theorem dX9_draw_24 : decode cX9_draw 24 = .ok (.iload_n 1, 1) := by decide +kernel
theorem dX9_draw_25 : decode cX9_draw 25 = .ok (.i2l, 1) := by decide +kernel
theorem dX9_draw_26 : decode cX9_draw 26 = .ok (.lrem, 1) := by decide +kernel
theorem dX9_draw_27 : decode cX9_draw 27 = .ok (.l2i, 1) := by decide +kernel
theorem dX9_draw_28 : decode cX9_draw 28 = .ok (.ireturn, 1) := by decide +kernel
theorem dX9_drawn_0 : decode cX9_drawn 0 = .ok (.aload_n 0, 1) := by decide +kernel
theorem dX9_drawn_1 : decode cX9_drawn 1 = .ok (.iconst 0, 1) := by decide +kernel
theorem dX9_drawn_2 : decode cX9_drawn 2 = .ok (.putfield 165, 3) := by decide +kernel
theorem dX9_drawn_5 : decode cX9_drawn 5 = .ok (.iload_n 1, 1) := by decide +kernel
theorem dX9_drawn_6 : decode cX9_drawn 6 = .ok (.i2l, 1) := by decide +kernel
theorem dX9_drawn_7 : decode cX9_drawn 7 = .ok (.lconst 0, 1) := by decide +kernel
theorem dX9_drawn_8 : decode cX9_drawn 8 = .ok (.aload_n 0, 1) := by decide +kernel
theorem dX9_drawn_9 : decode cX9_drawn 9 = .ok (.getfield 162, 3) := by decide +kernel
theorem dX9_drawn_12 : decode cX9_drawn 12 = .ok (.i2l, 1) := by decide +kernel
theorem dX9_drawn_13 : decode cX9_drawn 13 = .ok (.lconst 1, 1) := by decide +kernel
theorem dX9_drawn_14 : decode cX9_drawn 14 = .ok (.lsub, 1) := by decide +kernel
theorem dX9_drawn_15 : decode cX9_drawn 15 = .ok (.invokestatic 185, 3) := by decide +kernel
theorem dX9_drawn_18 : decode cX9_drawn 18 = .ok (.ifCond .eq 15, 3) := by decide +kernel
theorem dX9_drawn_21 : decode cX9_drawn 21 = .ok (.iload_n 2, 1) := by decide +kernel
theorem dX9_drawn_22 : decode cX9_drawn 22 = .ok (.i2l, 1) := by decide +kernel
theorem dX9_drawn_23 : decode cX9_drawn 23 = .ok (.lconst 0, 1) := by decide +kernel
theorem dX9_drawn_24 : decode cX9_drawn 24 = .ok (.ldc2_w 559, 3) := by decide +kernel
theorem dX9_drawn_27 : decode cX9_drawn 27 = .ok (.invokestatic 185, 3) := by decide +kernel
theorem dX9_drawn_30 : decode cX9_drawn 30 = .ok (.ifCond .ne 5, 3) := by decide +kernel
theorem dX9_drawn_33 : decode cX9_drawn 33 = .ok (.iconst (-1), 1) := by decide +kernel
theorem dX9_drawn_34 : decode cX9_drawn 34 = .ok (.ireturn, 1) := by decide +kernel
theorem dX9_drawn_35 : decode cX9_drawn 35 = .ok (.aload_n 0, 1) := by decide +kernel
theorem dX9_drawn_36 : decode cX9_drawn 36 = .ok (.getfield 159, 3) := by decide +kernel
theorem dX9_drawn_39 : decode cX9_drawn 39 = .ok (.iload_n 2, 1) := by decide +kernel
theorem dX9_drawn_40 : decode cX9_drawn 40 = .ok (.ifCond .ne 8, 3) := by decide +kernel
theorem dX9_drawn_43 : decode cX9_drawn 43 = .ok (.bipush 8, 2) := by decide +kernel
theorem dX9_drawn_45 : decode cX9_drawn 45 = .ok (.goto 15, 3) := by decide +kernel
theorem dX9_drawn_48 : decode cX9_drawn 48 = .ok (.iload_n 2, 1) := by decide +kernel
theorem dX9_drawn_49 : decode cX9_drawn 49 = .ok (.iconst 1, 1) := by decide +kernel
theorem dX9_drawn_50 : decode cX9_drawn 50 = .ok (.if_icmp .ne 8, 3) := by decide +kernel
theorem dX9_drawn_53 : decode cX9_drawn 53 = .ok (.bipush 15, 2) := by decide +kernel
theorem dX9_drawn_55 : decode cX9_drawn 55 = .ok (.goto 5, 3) := by decide +kernel
theorem dX9_drawn_58 : decode cX9_drawn 58 = .ok (.bipush 22, 2) := by decide +kernel
theorem dX9_drawn_60 : decode cX9_drawn 60 = .ok (.iconst 4, 1) := by decide +kernel
theorem dX9_drawn_61 : decode cX9_drawn 61 = .ok (.isub, 1) := by decide +kernel
theorem dX9_drawn_62 : decode cX9_drawn 62 = .ok (.iload_n 1, 1) := by decide +kernel
theorem dX9_drawn_63 : decode cX9_drawn 63 = .ok (.iadd, 1) := by decide +kernel
theorem dX9_drawn_64 : decode cX9_drawn 64 = .ok (.iaload, 1) := by decide +kernel
theorem dX9_drawn_65 : decode cX9_drawn 65 = .ok (.ireturn, 1) := by decide +kernel
theorem dX9_elder_0 : decode cX9_elder 0 = .ok (.iconst 0, 1) := by decide +kernel
theorem dX9_elder_1 : decode cX9_elder 1 = .ok (.istore_n 2, 1) := by decide +kernel
theorem dX9_elder_2 : decode cX9_elder 2 = .ok (.iconst 0, 1) := by decide +kernel
theorem dX9_elder_3 : decode cX9_elder 3 = .ok (.istore_n 3, 1) := by decide +kernel
theorem dX9_elder_4 : decode cX9_elder 4 = .ok (.iload_n 3, 1) := by decide +kernel
theorem dX9_elder_5 : decode cX9_elder 5 = .ok (.iload_n 1, 1) := by decide +kernel
theorem dX9_elder_6 : decode cX9_elder 6 = .ok (.if_icmp .ge 38, 3) := by decide +kernel
theorem dX9_elder_9 : decode cX9_elder 9 = .ok (.iload_n 2, 1) := by decide +kernel
theorem dX9_elder_10 : decode cX9_elder 10 = .ok (.aload_n 0, 1) := by decide +kernel
theorem dX9_elder_11 : decode cX9_elder 11 = .ok (.getfield 13, 3) := by decide +kernel
theorem dX9_elder_14 : decode cX9_elder 14 = .ok (.bipush 29, 2) := by decide +kernel
theorem dX9_elder_16 : decode cX9_elder 16 = .ok (.iload_n 3, 1) := by decide +kernel
theorem dX9_elder_17 : decode cX9_elder 17 = .ok (.iadd, 1) := by decide +kernel
theorem dX9_elder_18 : decode cX9_elder 18 = .ok (.iaload, 1) := by decide +kernel
theorem dX9_elder_19 : decode cX9_elder 19 = .ok (.aload_n 0, 1) := by decide +kernel
theorem dX9_elder_20 : decode cX9_elder 20 = .ok (.getfield 13, 3) := by decide +kernel
theorem dX9_elder_23 : decode cX9_elder 23 = .ok (.bipush 29, 2) := by decide +kernel
theorem dX9_elder_25 : decode cX9_elder 25 = .ok (.iload_n 1, 1) := by decide +kernel
theorem dX9_elder_26 : decode cX9_elder 26 = .ok (.iadd, 1) := by decide +kernel
theorem dX9_elder_27 : decode cX9_elder 27 = .ok (.iaload, 1) := by decide +kernel
theorem dX9_elder_28 : decode cX9_elder 28 = .ok (.if_icmp .ne 7, 3) := by decide +kernel
theorem dX9_elder_31 : decode cX9_elder 31 = .ok (.iconst 1, 1) := by decide +kernel
theorem dX9_elder_32 : decode cX9_elder 32 = .ok (.goto 4, 3) := by decide +kernel
theorem dX9_elder_35 : decode cX9_elder 35 = .ok (.iconst 0, 1) := by decide +kernel
theorem dX9_elder_36 : decode cX9_elder 36 = .ok (.iadd, 1) := by decide +kernel
theorem dX9_elder_37 : decode cX9_elder 37 = .ok (.istore_n 2, 1) := by decide +kernel
theorem dX9_elder_38 : decode cX9_elder 38 = .ok (.iinc 3 1, 3) := by decide +kernel
theorem dX9_elder_41 : decode cX9_elder 41 = .ok (.goto (-37), 3) := by decide +kernel
theorem dX9_elder_44 : decode cX9_elder 44 = .ok (.iload_n 2, 1) := by decide +kernel
theorem dX9_elder_45 : decode cX9_elder 45 = .ok (.ireturn, 1) := by decide +kernel
theorem dX9_emit_0 : decode cX9_emit 0 = .ok (.aload_n 0, 1) := by decide +kernel
theorem dX9_emit_1 : decode cX9_emit 1 = .ok (.getfield 45, 3) := by decide +kernel
theorem dX9_emit_4 : decode cX9_emit 4 = .ok (.aload_n 0, 1) := by decide +kernel
theorem dX9_emit_5 : decode cX9_emit 5 = .ok (.getfield 283, 3) := by decide +kernel
theorem dX9_emit_8 : decode cX9_emit 8 = .ok (.iload_n 1, 1) := by decide +kernel
theorem dX9_emit_9 : decode cX9_emit 9 = .ok (.iastore, 1) := by decide +kernel
theorem dX9_emit_10 : decode cX9_emit 10 = .ok (.aload_n 0, 1) := by decide +kernel
theorem dX9_emit_11 : decode cX9_emit 11 = .ok (.getfield 48, 3) := by decide +kernel
theorem dX9_emit_14 : decode cX9_emit 14 = .ok (.aload_n 0, 1) := by decide +kernel
theorem dX9_emit_15 : decode cX9_emit 15 = .ok (.getfield 283, 3) := by decide +kernel
theorem dX9_emit_18 : decode cX9_emit 18 = .ok (.iload_n 2, 1) := by decide +kernel
theorem dX9_emit_19 : decode cX9_emit 19 = .ok (.iastore, 1) := by decide +kernel
theorem dX9_emit_20 : decode cX9_emit 20 = .ok (.aload_n 0, 1) := by decide +kernel
theorem dX9_emit_21 : decode cX9_emit 21 = .ok (.dup, 1) := by decide +kernel
theorem dX9_emit_22 : decode cX9_emit 22 = .ok (.getfield 283, 3) := by decide +kernel
theorem dX9_emit_25 : decode cX9_emit 25 = .ok (.iconst 1, 1) := by decide +kernel
theorem dX9_emit_26 : decode cX9_emit 26 = .ok (.iadd, 1) := by decide +kernel
theorem dX9_emit_27 : decode cX9_emit 27 = .ok (.putfield 283, 3) := by decide +kernel
theorem dX9_emit_30 : decode cX9_emit 30 = .ok (.return_, 1) := by decide +kernel
theorem dX9_end_0 : decode cX9_end 0 = .ok (.aload_n 0, 1) := by decide +kernel
theorem dX9_end_1 : decode cX9_end 1 = .ok (.iconst 0, 1) := by decide +kernel
theorem dX9_end_2 : decode cX9_end 2 = .ok (.putfield 165, 3) := by decide +kernel
theorem dX9_end_5 : decode cX9_end 5 = .ok (.iload_n 1, 1) := by decide +kernel
theorem dX9_end_6 : decode cX9_end 6 = .ok (.ifCond .lt 11, 3) := by decide +kernel
theorem dX9_end_9 : decode cX9_end 9 = .ok (.iload_n 1, 1) := by decide +kernel
theorem dX9_end_10 : decode cX9_end 10 = .ok (.aload_n 0, 1) := by decide +kernel
theorem dX9_end_11 : decode cX9_end 11 = .ok (.getfield 231, 3) := by decide +kernel
theorem dX9_end_14 : decode cX9_end 14 = .ok (.if_icmp .le 5, 3) := by decide +kernel
theorem dX9_end_17 : decode cX9_end 17 = .ok (.iconst (-1), 1) := by decide +kernel
theorem dX9_end_18 : decode cX9_end 18 = .ok (.ireturn, 1) := by decide +kernel
theorem dX9_end_19 : decode cX9_end 19 = .ok (.aload_n 0, 1) := by decide +kernel
theorem dX9_end_20 : decode cX9_end 20 = .ok (.iload_n 1, 1) := by decide +kernel
theorem dX9_end_21 : decode cX9_end 21 = .ok (.putfield 231, 3) := by decide +kernel
theorem dX9_end_24 : decode cX9_end 24 = .ok (.iload_n 1, 1) := by decide +kernel
theorem dX9_end_25 : decode cX9_end 25 = .ok (.ireturn, 1) := by decide +kernel
theorem dX9_endText_0 : decode cX9_endText 0 = .ok (.aload_n 0, 1) := by decide +kernel
theorem dX9_endText_1 : decode cX9_endText 1 = .ok (.getfield 246, 3) := by decide +kernel
theorem dX9_endText_4 : decode cX9_endText 4 = .ok (.ifCond .ne 15, 3) := by decide +kernel
theorem dX9_endText_7 : decode cX9_endText 7 = .ok (.aload_n 0, 1) := by decide +kernel
theorem dX9_endText_8 : decode cX9_endText 8 = .ok (.getfield 266, 3) := by decide +kernel
theorem dX9_endText_11 : decode cX9_endText 11 = .ok (.ifCond .eq 8, 3) := by decide +kernel
theorem dX9_endText_14 : decode cX9_endText 14 = .ok (.aload_n 0, 1) := by decide +kernel
theorem dX9_endText_15 : decode cX9_endText 15 = .ok (.iconst 0, 1) := by decide +kernel
theorem dX9_endText_16 : decode cX9_endText 16 = .ok (.invokevirtual 279, 3) := by decide +kernel
theorem dX9_endText_19 : decode cX9_endText 19 = .ok (.aload_n 0, 1) := by decide +kernel
theorem dX9_endText_20 : decode cX9_endText 20 = .ok (.iconst 0, 1) := by decide +kernel
theorem dX9_endText_21 : decode cX9_endText 21 = .ok (.putfield 323, 3) := by decide +kernel
theorem dX9_endText_24 : decode cX9_endText 24 = .ok (.aload_n 0, 1) := by decide +kernel
theorem dX9_endText_25 : decode cX9_endText 25 = .ok (.iconst 0, 1) := by decide +kernel
theorem dX9_endText_26 : decode cX9_endText 26 = .ok (.putfield 231, 3) := by decide +kernel
theorem dX9_endText_29 : decode cX9_endText 29 = .ok (.return_, 1) := by decide +kernel
theorem dX9_enter_0 : decode cX9_enter 0 = .ok (.aload_n 0, 1) := by decide +kernel
theorem dX9_enter_1 : decode cX9_enter 1 = .ok (.iconst 0, 1) := by decide +kernel
theorem dX9_enter_2 : decode cX9_enter 2 = .ok (.putfield 165, 3) := by decide +kernel
theorem dX9_enter_5 : decode cX9_enter 5 = .ok (.aload_n 0, 1) := by decide +kernel
theorem dX9_enter_6 : decode cX9_enter 6 = .ok (.aload_n 0, 1) := by decide +kernel
theorem dX9_enter_7 : decode cX9_enter 7 = .ok (.iload_n 1, 1) := by decide +kernel
theorem dX9_enter_8 : decode cX9_enter 8 = .ok (.invokevirtual 449, 3) := by decide +kernel
theorem dX9_enter_11 : decode cX9_enter 11 = .ok (.invokevirtual 174, 3) := by decide +kernel
theorem dX9_enter_14 : decode cX9_enter 14 = .ok (.ireturn, 1) := by decide +kernel
theorem dX9_enterNow_0 : decode cX9_enterNow 0 = .ok (.aload_n 0, 1) := by decide +kernel
theorem dX9_enterNow_1 : decode cX9_enterNow 1 = .ok (.iload_n 1, 1) := by decide +kernel
theorem dX9_enterNow_2 : decode cX9_enterNow 2 = .ok (.invokevirtual 200, 3) := by decide +kernel
theorem dX9_enterNow_5 : decode cX9_enterNow 5 = .ok (.ifCond .ne 6, 3) := by decide +kernel
theorem dX9_enterNow_8 : decode cX9_enterNow 8 = .ok (.bipush (-2), 2) := by decide +kernel
theorem dX9_enterNow_10 : decode cX9_enterNow 10 = .ok (.ireturn, 1) := by decide +kernel
theorem dX9_enterNow_11 : decode cX9_enterNow 11 = .ok (.aload_n 0, 1) := by decide +kernel
theorem dX9_enterNow_12 : decode cX9_enterNow 12 = .ok (.iconst 1, 1) := by decide +kernel
theorem dX9_enterNow_13 : decode cX9_enterNow 13 = .ok (.invokevirtual 440, 3) := by decide +kernel
theorem dX9_enterNow_16 : decode cX9_enterNow 16 = .ok (.aload_n 0, 1) := by decide +kernel
theorem dX9_enterNow_17 : decode cX9_enterNow 17 = .ok (.getfield 13, 3) := by decide +kernel
theorem dX9_enterNow_20 : decode cX9_enterNow 20 = .ok (.bipush 22, 2) := by decide +kernel
theorem dX9_enterNow_22 : decode cX9_enterNow 22 = .ok (.iload_n 1, 1) := by decide +kernel
theorem dX9_enterNow_23 : decode cX9_enterNow 23 = .ok (.iadd, 1) := by decide +kernel
theorem dX9_enterNow_24 : decode cX9_enterNow 24 = .ok (.iconst 1, 1) := by decide +kernel
theorem dX9_enterNow_25 : decode cX9_enterNow 25 = .ok (.aload_n 0, 1) := by decide +kernel
theorem dX9_enterNow_26 : decode cX9_enterNow 26 = .ok (.getfield 13, 3) := by decide +kernel
theorem dX9_enterNow_29 : decode cX9_enterNow 29 = .ok (.bipush 22, 2) := by decide +kernel
theorem dX9_enterNow_31 : decode cX9_enterNow 31 = .ok (.iload_n 1, 1) := by decide +kernel
theorem dX9_enterNow_32 : decode cX9_enterNow 32 = .ok (.iadd, 1) := by decide +kernel
theorem dX9_enterNow_33 : decode cX9_enterNow 33 = .ok (.iaload, 1) := by decide +kernel
theorem dX9_enterNow_34 : decode cX9_enterNow 34 = .ok (.isub, 1) := by decide +kernel
theorem dX9_enterNow_35 : decode cX9_enterNow 35 = .ok (.iastore, 1) := by decide +kernel
theorem dX9_enterNow_36 : decode cX9_enterNow 36 = .ok (.aload_n 0, 1) := by decide +kernel
theorem dX9_enterNow_37 : decode cX9_enterNow 37 = .ok (.getfield 13, 3) := by decide +kernel
theorem dX9_enterNow_40 : decode cX9_enterNow 40 = .ok (.bipush 22, 2) := by decide +kernel
theorem dX9_enterNow_42 : decode cX9_enterNow 42 = .ok (.iload_n 1, 1) := by decide +kernel
theorem dX9_enterNow_43 : decode cX9_enterNow 43 = .ok (.iadd, 1) := by decide +kernel
theorem dX9_enterNow_44 : decode cX9_enterNow 44 = .ok (.iaload, 1) := by decide +kernel
theorem dX9_enterNow_45 : decode cX9_enterNow 45 = .ok (.ireturn, 1) := by decide +kernel
theorem dX9_enteredBits_0 : decode cX9_enteredBits 0 = .ok (.iconst 0, 1) := by decide +kernel
theorem dX9_enteredBits_1 : decode cX9_enteredBits 1 = .ok (.istore_n 1, 1) := by decide +kernel
theorem dX9_enteredBits_2 : decode cX9_enteredBits 2 = .ok (.iconst 0, 1) := by decide +kernel
theorem dX9_enteredBits_3 : decode cX9_enteredBits 3 = .ok (.istore_n 2, 1) := by decide +kernel
theorem dX9_enteredBits_4 : decode cX9_enteredBits 4 = .ok (.iload_n 2, 1) := by decide +kernel
theorem dX9_enteredBits_5 : decode cX9_enteredBits 5 = .ok (.aload_n 0, 1) := by decide +kernel
theorem dX9_enteredBits_6 : decode cX9_enteredBits 6 = .ok (.getfield 13, 3) := by decide +kernel
theorem dX9_enteredBits_9 : decode cX9_enteredBits 9 = .ok (.iconst 0, 1) := by decide +kernel
theorem dX9_enteredBits_10 : decode cX9_enteredBits 10 = .ok (.iaload, 1) := by decide +kernel
theorem dX9_enteredBits_11 : decode cX9_enteredBits 11 = .ok (.if_icmp .ge 23, 3) := by decide +kernel
theorem dX9_enteredBits_14 : decode cX9_enteredBits 14 = .ok (.iload_n 1, 1) := by decide +kernel
theorem dX9_enteredBits_15 : decode cX9_enteredBits 15 = .ok (.aload_n 0, 1) := by decide +kernel
theorem dX9_enteredBits_16 : decode cX9_enteredBits 16 = .ok (.getfield 13, 3) := by decide +kernel
theorem dX9_enteredBits_19 : decode cX9_enteredBits 19 = .ok (.bipush 22, 2) := by decide +kernel
theorem dX9_enteredBits_21 : decode cX9_enteredBits 21 = .ok (.iload_n 2, 1) := by decide +kernel
theorem dX9_enteredBits_22 : decode cX9_enteredBits 22 = .ok (.iadd, 1) := by decide +kernel
theorem dX9_enteredBits_23 : decode cX9_enteredBits 23 = .ok (.iaload, 1) := by decide +kernel
theorem dX9_enteredBits_24 : decode cX9_enteredBits 24 = .ok (.iload_n 2, 1) := by decide +kernel
theorem dX9_enteredBits_25 : decode cX9_enteredBits 25 = .ok (.ishl, 1) := by decide +kernel
theorem dX9_enteredBits_26 : decode cX9_enteredBits 26 = .ok (.ior, 1) := by decide +kernel
theorem dX9_enteredBits_27 : decode cX9_enteredBits 27 = .ok (.istore_n 1, 1) := by decide +kernel
theorem dX9_enteredBits_28 : decode cX9_enteredBits 28 = .ok (.iinc 2 1, 3) := by decide +kernel
theorem dX9_enteredBits_31 : decode cX9_enteredBits 31 = .ok (.goto (-27), 3) := by decide +kernel
theorem dX9_enteredBits_34 : decode cX9_enteredBits 34 = .ok (.iload_n 1, 1) := by decide +kernel
theorem dX9_enteredBits_35 : decode cX9_enteredBits 35 = .ok (.ireturn, 1) := by decide +kernel
theorem dX9_enteredOnes_0 : decode cX9_enteredOnes 0 = .ok (.aload_n 0, 1) := by decide +kernel
theorem dX9_enteredOnes_1 : decode cX9_enteredOnes 1 = .ok (.bipush 22, 2) := by decide +kernel
theorem dX9_enteredOnes_3 : decode cX9_enteredOnes 3 = .ok (.aload_n 0, 1) := by decide +kernel
theorem dX9_enteredOnes_4 : decode cX9_enteredOnes 4 = .ok (.getfield 13, 3) := by decide +kernel
theorem dX9_enteredOnes_7 : decode cX9_enteredOnes 7 = .ok (.iconst 0, 1) := by decide +kernel
theorem dX9_enteredOnes_8 : decode cX9_enteredOnes 8 = .ok (.iaload, 1) := by decide +kernel
theorem dX9_enteredOnes_9 : decode cX9_enteredOnes 9 = .ok (.invokevirtual 194, 3) := by decide +kernel
theorem dX9_enteredOnes_12 : decode cX9_enteredOnes 12 = .ok (.ireturn, 1) := by decide +kernel
theorem dX9_fault_0 : decode cX9_fault 0 = .ok (.aload_n 0, 1) := by decide +kernel
theorem dX9_fault_1 : decode cX9_fault 1 = .ok (.iconst 0, 1) := by decide +kernel
theorem dX9_fault_2 : decode cX9_fault 2 = .ok (.putfield 165, 3) := by decide +kernel
theorem dX9_fault_5 : decode cX9_fault 5 = .ok (.aload_n 0, 1) := by decide +kernel
theorem dX9_fault_6 : decode cX9_fault 6 = .ok (.getfield 38, 3) := by decide +kernel
theorem dX9_fault_9 : decode cX9_fault 9 = .ok (.ireturn, 1) := by decide +kernel
theorem dX9_feed_0 : decode cX9_feed 0 = .ok (.aload_n 0, 1) := by decide +kernel
theorem dX9_feed_1 : decode cX9_feed 1 = .ok (.iconst 0, 1) := by decide +kernel
theorem dX9_feed_2 : decode cX9_feed 2 = .ok (.putfield 165, 3) := by decide +kernel
theorem dX9_feed_5 : decode cX9_feed 5 = .ok (.aload_n 0, 1) := by decide +kernel
theorem dX9_feed_6 : decode cX9_feed 6 = .ok (.getfield 231, 3) := by decide +kernel
theorem dX9_feed_9 : decode cX9_feed 9 = .ok (.bipush 20, 2) := by decide +kernel
theorem dX9_feed_11 : decode cX9_feed 11 = .ok (.iadd, 1) := by decide +kernel
theorem dX9_feed_12 : decode cX9_feed 12 = .ok (.sipush 400, 3) := by decide +kernel
theorem dX9_feed_15 : decode cX9_feed 15 = .ok (.if_icmp .le 5, 3) := by decide +kernel
theorem dX9_feed_18 : decode cX9_feed 18 = .ok (.iconst (-1), 1) := by decide +kernel
theorem dX9_feed_19 : decode cX9_feed 19 = .ok (.ireturn, 1) := by decide +kernel
theorem dX9_feed_20 : decode cX9_feed 20 = .ok (.aload_n 0, 1) := by decide +kernel
theorem dX9_feed_21 : decode cX9_feed 21 = .ok (.iload_n 1, 1) := by decide +kernel
theorem dX9_feed_22 : decode cX9_feed 22 = .ok (.invokevirtual 240, 3) := by decide +kernel
theorem dX9_feed_25 : decode cX9_feed 25 = .ok (.aload_n 0, 1) := by decide +kernel
theorem dX9_feed_26 : decode cX9_feed 26 = .ok (.iload_n 2, 1) := by decide +kernel
theorem dX9_feed_27 : decode cX9_feed 27 = .ok (.invokevirtual 240, 3) := by decide +kernel
theorem dX9_feed_30 : decode cX9_feed 30 = .ok (.aload_n 0, 1) := by decide +kernel
theorem dX9_feed_31 : decode cX9_feed 31 = .ok (.iload_n 3, 1) := by decide +kernel
theorem dX9_feed_32 : decode cX9_feed 32 = .ok (.invokevirtual 240, 3) := by decide +kernel
theorem dX9_feed_35 : decode cX9_feed 35 = .ok (.aload_n 0, 1) := by decide +kernel
theorem dX9_feed_36 : decode cX9_feed 36 = .ok (.iload 4, 2) := by decide +kernel
theorem dX9_feed_38 : decode cX9_feed 38 = .ok (.invokevirtual 240, 3) := by decide +kernel
theorem dX9_feed_41 : decode cX9_feed 41 = .ok (.aload_n 0, 1) := by decide +kernel
theorem dX9_feed_42 : decode cX9_feed 42 = .ok (.iload 5, 2) := by decide +kernel
theorem dX9_feed_44 : decode cX9_feed 44 = .ok (.invokevirtual 240, 3) := by decide +kernel
theorem dX9_feed_47 : decode cX9_feed 47 = .ok (.aload_n 0, 1) := by decide +kernel
theorem dX9_feed_48 : decode cX9_feed 48 = .ok (.getfield 231, 3) := by decide +kernel
theorem dX9_feed_51 : decode cX9_feed 51 = .ok (.ireturn, 1) := by decide +kernel
theorem dX9_few_0 : decode cX9_few 0 = .ok (.aload_n 0, 1) := by decide +kernel
theorem dX9_few_1 : decode cX9_few 1 = .ok (.iconst 0, 1) := by decide +kernel
theorem dX9_few_2 : decode cX9_few 2 = .ok (.putfield 165, 3) := by decide +kernel
theorem dX9_few_5 : decode cX9_few 5 = .ok (.iload_n 1, 1) := by decide +kernel
theorem dX9_few_6 : decode cX9_few 6 = .ok (.i2l, 1) := by decide +kernel
theorem dX9_few_7 : decode cX9_few 7 = .ok (.lconst 1, 1) := by decide +kernel
theorem dX9_few_8 : decode cX9_few 8 = .ok (.ldc2_w 296, 3) := by decide +kernel
theorem dX9_few_11 : decode cX9_few 11 = .ok (.invokestatic 185, 3) := by decide +kernel
theorem dX9_few_14 : decode cX9_few 14 = .ok (.ifCond .eq 15, 3) := by decide +kernel
theorem dX9_few_17 : decode cX9_few 17 = .ok (.iload_n 2, 1) := by decide +kernel
theorem dX9_few_18 : decode cX9_few 18 = .ok (.i2l, 1) := by decide +kernel
theorem dX9_few_19 : decode cX9_few 19 = .ok (.lconst 0, 1) := by decide +kernel
theorem dX9_few_20 : decode cX9_few 20 = .ok (.ldc2_w 511, 3) := by decide +kernel
theorem dX9_few_23 : decode cX9_few 23 = .ok (.invokestatic 185, 3) := by decide +kernel
theorem dX9_few_26 : decode cX9_few 26 = .ok (.ifCond .ne 7, 3) := by decide +kernel
theorem dX9_few_29 : decode cX9_few 29 = .ok (.ldc2_w 273, 3) := by decide +kernel
theorem dX9_few_32 : decode cX9_few 32 = .ok (.lreturn, 1) := by decide +kernel
theorem dX9_few_33 : decode cX9_few 33 = .ok (.iconst 0, 1) := by decide +kernel
theorem dX9_few_34 : decode cX9_few 34 = .ok (.istore_n 3, 1) := by decide +kernel
theorem dX9_few_35 : decode cX9_few 35 = .ok (.iload_n 3, 1) := by decide +kernel
theorem dX9_few_36 : decode cX9_few 36 = .ok (.bipush 21, 2) := by decide +kernel
theorem dX9_few_38 : decode cX9_few 38 = .ok (.if_icmp .ge 26, 3) := by decide +kernel
theorem dX9_few_41 : decode cX9_few 41 = .ok (.aload_n 0, 1) := by decide +kernel
theorem dX9_few_42 : decode cX9_few 42 = .ok (.getfield 141, 3) := by decide +kernel
theorem dX9_few_45 : decode cX9_few 45 = .ok (.iload_n 3, 1) := by decide +kernel
theorem dX9_few_46 : decode cX9_few 46 = .ok (.iload_n 3, 1) := by decide +kernel
theorem dX9_few_47 : decode cX9_few 47 = .ok (.ifCond .ne 9, 3) := by decide +kernel
theorem dX9_few_50 : decode cX9_few 50 = .ok (.ldc2_w 513, 3) := by decide +kernel
theorem dX9_few_53 : decode cX9_few 53 = .ok (.goto 4, 3) := by decide +kernel
theorem dX9_few_56 : decode cX9_few 56 = .ok (.lconst 0, 1) := by decide +kernel
theorem dX9_few_57 : decode cX9_few 57 = .ok (.lastore, 1) := by decide +kernel
theorem dX9_few_58 : decode cX9_few 58 = .ok (.iinc 3 1, 3) := by decide +kernel
theorem dX9_few_61 : decode cX9_few 61 = .ok (.goto (-26), 3) := by decide +kernel
theorem dX9_few_64 : decode cX9_few 64 = .ok (.aload_n 0, 1) := by decide +kernel
theorem dX9_few_65 : decode cX9_few 65 = .ok (.getfield 13, 3) := by decide +kernel
theorem dX9_few_68 : decode cX9_few 68 = .ok (.iconst 5, 1) := by decide +kernel
theorem dX9_few_69 : decode cX9_few 69 = .ok (.iaload, 1) := by decide +kernel
theorem dX9_few_70 : decode cX9_few 70 = .ok (.istore_n 3, 1) := by decide +kernel
theorem dX9_few_71 : decode cX9_few 71 = .ok (.iconst 0, 1) := by decide +kernel
theorem dX9_few_72 : decode cX9_few 72 = .ok (.istore 4, 2) := by decide +kernel
theorem dX9_few_74 : decode cX9_few 74 = .ok (.iload 4, 2) := by decide +kernel
theorem dX9_few_76 : decode cX9_few 76 = .ok (.iload_n 2, 1) := by decide +kernel
theorem dX9_few_77 : decode cX9_few 77 = .ok (.if_icmp .ge 74, 3) := by decide +kernel
theorem dX9_few_80 : decode cX9_few 80 = .ok (.iload_n 1, 1) := by decide +kernel
theorem dX9_few_81 : decode cX9_few 81 = .ok (.iconst 1, 1) := by decide +kernel
theorem dX9_few_82 : decode cX9_few 82 = .ok (.isub, 1) := by decide +kernel
theorem dX9_few_83 : decode cX9_few 83 = .ok (.istore 5, 2) := by decide +kernel
theorem dX9_few_85 : decode cX9_few 85 = .ok (.iload 5, 2) := by decide +kernel
theorem dX9_few_87 : decode cX9_few 87 = .ok (.ifCond .lt 58, 3) := by decide +kernel
theorem dX9_few_90 : decode cX9_few 90 = .ok (.aload_n 0, 1) := by decide +kernel
theorem dX9_few_91 : decode cX9_few 91 = .ok (.getfield 141, 3) := by decide +kernel
theorem dX9_few_94 : decode cX9_few 94 = .ok (.iload 5, 2) := by decide +kernel
theorem dX9_few_96 : decode cX9_few 96 = .ok (.laload, 1) := by decide +kernel
theorem dX9_few_97 : decode cX9_few 97 = .ok (.lstore 6, 2) := by decide +kernel
theorem dX9_few_99 : decode cX9_few 99 = .ok (.aload_n 0, 1) := by decide +kernel
theorem dX9_few_100 : decode cX9_few 100 = .ok (.getfield 141, 3) := by decide +kernel
theorem dX9_few_103 : decode cX9_few 103 = .ok (.iload 5, 2) := by decide +kernel
theorem dX9_few_105 : decode cX9_few 105 = .ok (.lload 6, 2) := by decide +kernel
theorem dX9_few_107 : decode cX9_few 107 = .ok (.bipush 10, 2) := by decide +kernel
theorem dX9_few_109 : decode cX9_few 109 = .ok (.iload_n 3, 1) := by decide +kernel
theorem dX9_few_110 : decode cX9_few 110 = .ok (.isub, 1) := by decide +kernel
theorem dX9_few_111 : decode cX9_few 111 = .ok (.i2l, 1) := by decide +kernel
theorem dX9_few_112 : decode cX9_few 112 = .ok (.lmul, 1) := by decide +kernel
theorem dX9_few_113 : decode cX9_few 113 = .ok (.ldc2_w 229, 3) := by decide +kernel
theorem dX9_few_116 : decode cX9_few 116 = .ok (.ldiv, 1) := by decide +kernel
theorem dX9_few_117 : decode cX9_few 117 = .ok (.lastore, 1) := by decide +kernel
theorem dX9_few_118 : decode cX9_few 118 = .ok (.aload_n 0, 1) := by decide +kernel
theorem dX9_few_119 : decode cX9_few 119 = .ok (.getfield 141, 3) := by decide +kernel
theorem dX9_few_122 : decode cX9_few 122 = .ok (.iload 5, 2) := by decide +kernel
theorem dX9_few_124 : decode cX9_few 124 = .ok (.iconst 1, 1) := by decide +kernel
theorem dX9_few_125 : decode cX9_few 125 = .ok (.iadd, 1) := by decide +kernel
theorem dX9_few_126 : decode cX9_few 126 = .ok (.dup2, 1) := by decide +kernel
theorem dX9_few_127 : decode cX9_few 127 = .ok (.laload, 1) := by decide +kernel
theorem dX9_few_128 : decode cX9_few 128 = .ok (.lload 6, 2) := by decide +kernel
theorem dX9_few_130 : decode cX9_few 130 = .ok (.iload_n 3, 1) := by decide +kernel
theorem dX9_few_131 : decode cX9_few 131 = .ok (.i2l, 1) := by decide +kernel
theorem dX9_few_132 : decode cX9_few 132 = .ok (.lmul, 1) := by decide +kernel
theorem dX9_few_133 : decode cX9_few 133 = .ok (.ldc2_w 229, 3) := by decide +kernel
theorem dX9_few_136 : decode cX9_few 136 = .ok (.ldiv, 1) := by decide +kernel
theorem dX9_few_137 : decode cX9_few 137 = .ok (.ladd, 1) := by decide +kernel
theorem dX9_few_138 : decode cX9_few 138 = .ok (.lastore, 1) := by decide +kernel
theorem dX9_few_139 : decode cX9_few 139 = .ok (.iinc 5 (-1), 3) := by decide +kernel
theorem dX9_few_142 : decode cX9_few 142 = .ok (.goto (-57), 3) := by decide +kernel
theorem dX9_few_145 : decode cX9_few 145 = .ok (.iinc 4 1, 3) := by decide +kernel
theorem dX9_few_148 : decode cX9_few 148 = .ok (.goto (-74), 3) := by decide +kernel
theorem dX9_few_151 : decode cX9_few 151 = .ok (.lconst 0, 1) := by decide +kernel
theorem dX9_few_152 : decode cX9_few 152 = .ok (.lstore 4, 2) := by decide +kernel
theorem dX9_few_154 : decode cX9_few 154 = .ok (.iconst 0, 1) := by decide +kernel
theorem dX9_few_155 : decode cX9_few 155 = .ok (.istore 6, 2) := by decide +kernel
theorem dX9_few_157 : decode cX9_few 157 = .ok (.iload 6, 2) := by decide +kernel
theorem dX9_few_159 : decode cX9_few 159 = .ok (.iload_n 1, 1) := by decide +kernel
theorem dX9_few_160 : decode cX9_few 160 = .ok (.if_icmp .ge 21, 3) := by decide +kernel
theorem dX9_few_163 : decode cX9_few 163 = .ok (.lload 4, 2) := by decide +kernel
theorem dX9_few_165 : decode cX9_few 165 = .ok (.aload_n 0, 1) := by decide +kernel
theorem dX9_few_166 : decode cX9_few 166 = .ok (.getfield 141, 3) := by decide +kernel
theorem dX9_few_169 : decode cX9_few 169 = .ok (.iload 6, 2) := by decide +kernel
theorem dX9_few_171 : decode cX9_few 171 = .ok (.laload, 1) := by decide +kernel
theorem dX9_few_172 : decode cX9_few 172 = .ok (.ladd, 1) := by decide +kernel
theorem dX9_few_173 : decode cX9_few 173 = .ok (.lstore 4, 2) := by decide +kernel
theorem dX9_few_175 : decode cX9_few 175 = .ok (.iinc 6 1, 3) := by decide +kernel
theorem dX9_few_178 : decode cX9_few 178 = .ok (.goto (-21), 3) := by decide +kernel
theorem dX9_few_181 : decode cX9_few 181 = .ok (.lload 4, 2) := by decide +kernel
theorem dX9_few_183 : decode cX9_few 183 = .ok (.lreturn, 1) := by decide +kernel
theorem dX9_findCrowned_0 : decode cX9_findCrowned 0 = .ok (.iconst 0, 1) := by decide +kernel
theorem dX9_findCrowned_1 : decode cX9_findCrowned 1 = .ok (.istore_n 1, 1) := by decide +kernel
theorem dX9_findCrowned_2 : decode cX9_findCrowned 2 = .ok (.iload_n 1, 1) := by decide +kernel
theorem dX9_findCrowned_3 : decode cX9_findCrowned 3 = .ok (.bipush 7, 2) := by decide +kernel
theorem dX9_findCrowned_5 : decode cX9_findCrowned 5 = .ok (.if_icmp .ge 59, 3) := by decide +kernel
theorem dX9_findCrowned_8 : decode cX9_findCrowned 8 = .ok (.iconst 0, 1) := by decide +kernel
theorem dX9_findCrowned_9 : decode cX9_findCrowned 9 = .ok (.istore_n 2, 1) := by decide +kernel
theorem dX9_findCrowned_10 : decode cX9_findCrowned 10 = .ok (.iload_n 2, 1) := by decide +kernel
theorem dX9_findCrowned_11 : decode cX9_findCrowned 11 = .ok (.iconst 4, 1) := by decide +kernel
theorem dX9_findCrowned_12 : decode cX9_findCrowned 12 = .ok (.if_icmp .ge 46, 3) := by decide +kernel
theorem dX9_findCrowned_15 : decode cX9_findCrowned 15 = .ok (.aload_n 0, 1) := by decide +kernel
theorem dX9_findCrowned_16 : decode cX9_findCrowned 16 = .ok (.getfield 123, 3) := by decide +kernel
theorem dX9_findCrowned_19 : decode cX9_findCrowned 19 = .ok (.iconst 4, 1) := by decide +kernel
theorem dX9_findCrowned_20 : decode cX9_findCrowned 20 = .ok (.iload_n 1, 1) := by decide +kernel
theorem dX9_findCrowned_21 : decode cX9_findCrowned 21 = .ok (.imul, 1) := by decide +kernel
theorem dX9_findCrowned_22 : decode cX9_findCrowned 22 = .ok (.iload_n 2, 1) := by decide +kernel
theorem dX9_findCrowned_23 : decode cX9_findCrowned 23 = .ok (.iadd, 1) := by decide +kernel
theorem dX9_findCrowned_24 : decode cX9_findCrowned 24 = .ok (.aload_n 0, 1) := by decide +kernel
theorem dX9_findCrowned_25 : decode cX9_findCrowned 25 = .ok (.iload_n 1, 1) := by decide +kernel
theorem dX9_findCrowned_26 : decode cX9_findCrowned 26 = .ok (.invokevirtual 200, 3) := by decide +kernel
theorem dX9_findCrowned_29 : decode cX9_findCrowned 29 = .ok (.ifCond .eq 21, 3) := by decide +kernel
theorem dX9_findCrowned_32 : decode cX9_findCrowned 32 = .ok (.aload_n 0, 1) := by decide +kernel
theorem dX9_findCrowned_33 : decode cX9_findCrowned 33 = .ok (.iload_n 1, 1) := by decide +kernel
theorem dX9_findCrowned_34 : decode cX9_findCrowned 34 = .ok (.iload_n 2, 1) := by decide +kernel
theorem dX9_findCrowned_35 : decode cX9_findCrowned 35 = .ok (.invokevirtual 209, 3) := by decide +kernel
theorem dX9_findCrowned_38 : decode cX9_findCrowned 38 = .ok (.ifCond .ne 12, 3) := by decide +kernel
theorem dX9_findCrowned_41 : decode cX9_findCrowned 41 = .ok (.aload_n 0, 1) := by decide +kernel
theorem dX9_findCrowned_42 : decode cX9_findCrowned 42 = .ok (.iload_n 1, 1) := by decide +kernel
theorem dX9_findCrowned_43 : decode cX9_findCrowned 43 = .ok (.iload_n 2, 1) := by decide +kernel
theorem dX9_findCrowned_44 : decode cX9_findCrowned 44 = .ok (.invokevirtual 206, 3) := by decide +kernel
theorem dX9_findCrowned_47 : decode cX9_findCrowned 47 = .ok (.goto 4, 3) := by decide +kernel
theorem dX9_findCrowned_50 : decode cX9_findCrowned 50 = .ok (.iconst (-1), 1) := by decide +kernel
theorem dX9_findCrowned_51 : decode cX9_findCrowned 51 = .ok (.iastore, 1) := by decide +kernel
theorem dX9_findCrowned_52 : decode cX9_findCrowned 52 = .ok (.iinc 2 1, 3) := by decide +kernel
theorem dX9_findCrowned_55 : decode cX9_findCrowned 55 = .ok (.goto (-45), 3) := by decide +kernel
theorem dX9_findCrowned_58 : decode cX9_findCrowned 58 = .ok (.iinc 1 1, 3) := by decide +kernel
theorem dX9_findCrowned_61 : decode cX9_findCrowned 61 = .ok (.goto (-59), 3) := by decide +kernel
theorem dX9_findCrowned_64 : decode cX9_findCrowned 64 = .ok (.iconst (-1), 1) := by decide +kernel
theorem dX9_findCrowned_65 : decode cX9_findCrowned 65 = .ok (.istore_n 1, 1) := by decide +kernel
theorem dX9_findCrowned_66 : decode cX9_findCrowned 66 = .ok (.iconst 0, 1) := by decide +kernel
theorem dX9_findCrowned_67 : decode cX9_findCrowned 67 = .ok (.istore_n 2, 1) := by decide +kernel
theorem dX9_findCrowned_68 : decode cX9_findCrowned 68 = .ok (.aload_n 0, 1) := by decide +kernel
theorem dX9_findCrowned_69 : decode cX9_findCrowned 69 = .ok (.getfield 126, 3) := by decide +kernel
theorem dX9_findCrowned_72 : decode cX9_findCrowned 72 = .ok (.iconst 0, 1) := by decide +kernel
theorem dX9_findCrowned_73 : decode cX9_findCrowned 73 = .ok (.iconst (-1), 1) := by decide +kernel
theorem dX9_findCrowned_74 : decode cX9_findCrowned 74 = .ok (.iastore, 1) := by decide +kernel
theorem dX9_findCrowned_75 : decode cX9_findCrowned 75 = .ok (.iload_n 2, 1) := by decide +kernel
theorem dX9_findCrowned_76 : decode cX9_findCrowned 76 = .ok (.ifCond .lt 115, 3) := by decide +kernel
theorem dX9_findCrowned_79 : decode cX9_findCrowned 79 = .ok (.aload_n 0, 1) := by decide +kernel
theorem dX9_findCrowned_80 : decode cX9_findCrowned 80 = .ok (.getfield 126, 3) := by decide +kernel
theorem dX9_findCrowned_83 : decode cX9_findCrowned 83 = .ok (.iload_n 2, 1) := by decide +kernel
theorem dX9_findCrowned_84 : decode cX9_findCrowned 84 = .ok (.dup2, 1) := by decide +kernel
theorem dX9_findCrowned_85 : decode cX9_findCrowned 85 = .ok (.iaload, 1) := by decide +kernel
theorem dX9_findCrowned_86 : decode cX9_findCrowned 86 = .ok (.iconst 1, 1) := by decide +kernel
theorem dX9_findCrowned_87 : decode cX9_findCrowned 87 = .ok (.iadd, 1) := by decide +kernel
theorem dX9_findCrowned_88 : decode cX9_findCrowned 88 = .ok (.iastore, 1) := by decide +kernel
theorem dX9_findCrowned_89 : decode cX9_findCrowned 89 = .ok (.iload_n 2, 1) := by decide +kernel
theorem dX9_findCrowned_90 : decode cX9_findCrowned 90 = .ok (.iconst 4, 1) := by decide +kernel
theorem dX9_findCrowned_91 : decode cX9_findCrowned 91 = .ok (.if_icmp .eq 14, 3) := by decide +kernel
theorem dX9_findCrowned_94 : decode cX9_findCrowned 94 = .ok (.aload_n 0, 1) := by decide +kernel
theorem dX9_findCrowned_95 : decode cX9_findCrowned 95 = .ok (.getfield 126, 3) := by decide +kernel
theorem dX9_findCrowned_98 : decode cX9_findCrowned 98 = .ok (.iload_n 2, 1) := by decide +kernel
theorem dX9_findCrowned_99 : decode cX9_findCrowned 99 = .ok (.iaload, 1) := by decide +kernel
theorem dX9_findCrowned_100 : decode cX9_findCrowned 100 = .ok (.bipush 7, 2) := by decide +kernel
theorem dX9_findCrowned_102 : decode cX9_findCrowned 102 = .ok (.if_icmp .le 68, 3) := by decide +kernel
theorem dX9_findCrowned_105 : decode cX9_findCrowned 105 = .ok (.iload_n 2, 1) := by decide +kernel
theorem dX9_findCrowned_106 : decode cX9_findCrowned 106 = .ok (.iconst 4, 1) := by decide +kernel
theorem dX9_findCrowned_107 : decode cX9_findCrowned 107 = .ok (.if_icmp .ne 10, 3) := by decide +kernel
theorem dX9_findCrowned_110 : decode cX9_findCrowned 110 = .ok (.aload_n 0, 1) := by decide +kernel
theorem dX9_findCrowned_111 : decode cX9_findCrowned 111 = .ok (.invokevirtual 492, 3) := by decide +kernel
theorem dX9_findCrowned_114 : decode cX9_findCrowned 114 = .ok (.goto 4, 3) := by decide +kernel
theorem dX9_findCrowned_117 : decode cX9_findCrowned 117 = .ok (.iconst (-1), 1) := by decide +kernel
theorem dX9_findCrowned_118 : decode cX9_findCrowned 118 = .ok (.istore_n 3, 1) := by decide +kernel
theorem dX9_findCrowned_119 : decode cX9_findCrowned 119 = .ok (.iconst 0, 1) := by decide +kernel
theorem dX9_findCrowned_120 : decode cX9_findCrowned 120 = .ok (.istore 4, 2) := by decide +kernel
theorem dX9_findCrowned_122 : decode cX9_findCrowned 122 = .ok (.iload 4, 2) := by decide +kernel
theorem dX9_findCrowned_124 : decode cX9_findCrowned 124 = .ok (.iconst 4, 1) := by decide +kernel
theorem dX9_findCrowned_125 : decode cX9_findCrowned 125 = .ok (.if_icmp .ge 28, 3) := by decide +kernel
theorem dX9_findCrowned_128 : decode cX9_findCrowned 128 = .ok (.iload_n 3, 1) := by decide +kernel
theorem dX9_findCrowned_129 : decode cX9_findCrowned 129 = .ok (.iload_n 1, 1) := by decide +kernel
theorem dX9_findCrowned_130 : decode cX9_findCrowned 130 = .ok (.if_icmp .le 23, 3) := by decide +kernel
theorem dX9_findCrowned_133 : decode cX9_findCrowned 133 = .ok (.aload_n 0, 1) := by decide +kernel
theorem dX9_findCrowned_134 : decode cX9_findCrowned 134 = .ok (.getfield 129, 3) := by decide +kernel
theorem dX9_findCrowned_137 : decode cX9_findCrowned 137 = .ok (.iload 4, 2) := by decide +kernel
theorem dX9_findCrowned_139 : decode cX9_findCrowned 139 = .ok (.aload_n 0, 1) := by decide +kernel
theorem dX9_findCrowned_140 : decode cX9_findCrowned 140 = .ok (.getfield 126, 3) := by decide +kernel
theorem dX9_findCrowned_143 : decode cX9_findCrowned 143 = .ok (.iload 4, 2) := by decide +kernel
theorem dX9_findCrowned_145 : decode cX9_findCrowned 145 = .ok (.iaload, 1) := by decide +kernel
theorem dX9_findCrowned_146 : decode cX9_findCrowned 146 = .ok (.iastore, 1) := by decide +kernel
theorem dX9_findCrowned_147 : decode cX9_findCrowned 147 = .ok (.iinc 4 1, 3) := by decide +kernel
theorem dX9_findCrowned_150 : decode cX9_findCrowned 150 = .ok (.goto (-28), 3) := by decide +kernel
theorem dX9_findCrowned_153 : decode cX9_findCrowned 153 = .ok (.iload_n 3, 1) := by decide +kernel
theorem dX9_findCrowned_154 : decode cX9_findCrowned 154 = .ok (.iload_n 1, 1) := by decide +kernel
theorem dX9_findCrowned_155 : decode cX9_findCrowned 155 = .ok (.if_icmp .le 7, 3) := by decide +kernel
theorem dX9_findCrowned_158 : decode cX9_findCrowned 158 = .ok (.iload_n 3, 1) := by decide +kernel
theorem dX9_findCrowned_159 : decode cX9_findCrowned 159 = .ok (.goto 4, 3) := by decide +kernel
theorem dX9_findCrowned_162 : decode cX9_findCrowned 162 = .ok (.iload_n 1, 1) := by decide +kernel
theorem dX9_findCrowned_163 : decode cX9_findCrowned 163 = .ok (.istore_n 1, 1) := by decide +kernel
theorem dX9_findCrowned_164 : decode cX9_findCrowned 164 = .ok (.iinc 2 (-1), 3) := by decide +kernel
theorem dX9_findCrowned_167 : decode cX9_findCrowned 167 = .ok (.goto (-92), 3) := by decide +kernel
theorem dX9_findCrowned_170 : decode cX9_findCrowned 170 = .ok (.aload_n 0, 1) := by decide +kernel
theorem dX9_findCrowned_171 : decode cX9_findCrowned 171 = .ok (.iload_n 2, 1) := by decide +kernel
theorem dX9_findCrowned_172 : decode cX9_findCrowned 172 = .ok (.invokevirtual 495, 3) := by decide +kernel
theorem dX9_findCrowned_175 : decode cX9_findCrowned 175 = .ok (.ifCond .eq (-100), 3) := by decide +kernel
theorem dX9_findCrowned_178 : decode cX9_findCrowned 178 = .ok (.iinc 2 1, 3) := by decide +kernel
theorem dX9_findCrowned_181 : decode cX9_findCrowned 181 = .ok (.aload_n 0, 1) := by decide +kernel
theorem dX9_findCrowned_182 : decode cX9_findCrowned 182 = .ok (.getfield 126, 3) := by decide +kernel
theorem dX9_findCrowned_185 : decode cX9_findCrowned 185 = .ok (.iload_n 2, 1) := by decide +kernel
theorem dX9_findCrowned_186 : decode cX9_findCrowned 186 = .ok (.iconst (-1), 1) := by decide +kernel
theorem dX9_findCrowned_187 : decode cX9_findCrowned 187 = .ok (.iastore, 1) := by decide +kernel
theorem dX9_findCrowned_188 : decode cX9_findCrowned 188 = .ok (.goto (-113), 3) := by decide +kernel
theorem dX9_findCrowned_191 : decode cX9_findCrowned 191 = .ok (.iload_n 1, 1) := by decide +kernel
theorem dX9_findCrowned_192 : decode cX9_findCrowned 192 = .ok (.ireturn, 1) := by decide +kernel
theorem dX9_force_0 : decode cX9_force 0 = .ok (.aload_n 0, 1) := by decide +kernel
theorem dX9_force_1 : decode cX9_force 1 = .ok (.iconst 0, 1) := by decide +kernel
theorem dX9_force_2 : decode cX9_force 2 = .ok (.putfield 165, 3) := by decide +kernel
theorem dX9_force_5 : decode cX9_force 5 = .ok (.aload_n 0, 1) := by decide +kernel
theorem dX9_force_6 : decode cX9_force 6 = .ok (.iload_n 1, 1) := by decide +kernel
theorem dX9_force_7 : decode cX9_force 7 = .ok (.invokevirtual 394, 3) := by decide +kernel
theorem dX9_force_10 : decode cX9_force 10 = .ok (.ifCond .eq 12, 3) := by decide +kernel
theorem dX9_force_13 : decode cX9_force 13 = .ok (.aload_n 0, 1) := by decide +kernel
theorem dX9_force_14 : decode cX9_force 14 = .ok (.iconst 3, 1) := by decide +kernel
theorem dX9_force_15 : decode cX9_force 15 = .ok (.iload_n 1, 1) := by decide +kernel
theorem dX9_force_16 : decode cX9_force 16 = .ok (.invokevirtual 216, 3) := by decide +kernel
theorem dX9_force_19 : decode cX9_force 19 = .ok (.goto 9, 3) := by decide +kernel
theorem dX9_force_22 : decode cX9_force 22 = .ok (.aload_n 0, 1) := by decide +kernel
theorem dX9_force_23 : decode cX9_force 23 = .ok (.bipush (-2), 2) := by decide +kernel
theorem dX9_force_25 : decode cX9_force 25 = .ok (.invokevirtual 174, 3) := by decide +kernel
theorem dX9_force_28 : decode cX9_force 28 = .ok (.ireturn, 1) := by decide +kernel
theorem dX9_forget_0 : decode cX9_forget 0 = .ok (.aload_n 0, 1) := by decide +kernel
theorem dX9_forget_1 : decode cX9_forget 1 = .ok (.iconst 0, 1) := by decide +kernel
theorem dX9_forget_2 : decode cX9_forget 2 = .ok (.putfield 165, 3) := by decide +kernel
theorem dX9_forget_5 : decode cX9_forget 5 = .ok (.aload_n 0, 1) := by decide +kernel
theorem dX9_forget_6 : decode cX9_forget 6 = .ok (.getfield 13, 3) := by decide +kernel
theorem dX9_forget_9 : decode cX9_forget 9 = .ok (.iconst 1, 1) := by decide +kernel
theorem dX9_forget_10 : decode cX9_forget 10 = .ok (.iaload, 1) := by decide +kernel
theorem dX9_forget_11 : decode cX9_forget 11 = .ok (.istore_n 1, 1) := by decide +kernel
theorem dX9_forget_12 : decode cX9_forget 12 = .ok (.aload_n 0, 1) := by decide +kernel
theorem dX9_forget_13 : decode cX9_forget 13 = .ok (.getfield 13, 3) := by decide +kernel
theorem dX9_forget_16 : decode cX9_forget 16 = .ok (.iconst 1, 1) := by decide +kernel
theorem dX9_forget_17 : decode cX9_forget 17 = .ok (.iconst 0, 1) := by decide +kernel
theorem dX9_forget_18 : decode cX9_forget 18 = .ok (.iastore, 1) := by decide +kernel
theorem dX9_forget_19 : decode cX9_forget 19 = .ok (.iload_n 1, 1) := by decide +kernel
theorem dX9_forget_20 : decode cX9_forget 20 = .ok (.ireturn, 1) := by decide +kernel
theorem dX9_four_0 : decode cX9_four 0 = .ok (.bipush 24, 2) := by decide +kernel
theorem dX9_four_2 : decode cX9_four 2 = .ok (.istore_n 2, 1) := by decide +kernel
theorem dX9_four_3 : decode cX9_four 3 = .ok (.iload_n 2, 1) := by decide +kernel
theorem dX9_four_4 : decode cX9_four 4 = .ok (.ifCond .lt 35, 3) := by decide +kernel
theorem dX9_four_7 : decode cX9_four 7 = .ok (.aload_n 0, 1) := by decide +kernel
theorem dX9_four_8 : decode cX9_four 8 = .ok (.getfield 35, 3) := by decide +kernel
theorem dX9_four_11 : decode cX9_four 11 = .ok (.aload_n 0, 1) := by decide +kernel
theorem dX9_four_12 : decode cX9_four 12 = .ok (.getfield 231, 3) := by decide +kernel
theorem dX9_four_15 : decode cX9_four 15 = .ok (.iload_n 1, 1) := by decide +kernel
theorem dX9_four_16 : decode cX9_four 16 = .ok (.iload_n 2, 1) := by decide +kernel
theorem dX9_four_17 : decode cX9_four 17 = .ok (.ishr, 1) := by decide +kernel
theorem dX9_four_18 : decode cX9_four 18 = .ok (.sipush 255, 3) := by decide +kernel
theorem dX9_four_21 : decode cX9_four 21 = .ok (.iand, 1) := by decide +kernel
theorem dX9_four_22 : decode cX9_four 22 = .ok (.iastore, 1) := by decide +kernel
theorem dX9_four_23 : decode cX9_four 23 = .ok (.aload_n 0, 1) := by decide +kernel
theorem dX9_four_24 : decode cX9_four 24 = .ok (.dup, 1) := by decide +kernel
theorem dX9_four_25 : decode cX9_four 25 = .ok (.getfield 231, 3) := by decide +kernel
theorem dX9_four_28 : decode cX9_four 28 = .ok (.iconst 1, 1) := by decide +kernel
theorem dX9_four_29 : decode cX9_four 29 = .ok (.iadd, 1) := by decide +kernel
theorem dX9_four_30 : decode cX9_four 30 = .ok (.putfield 231, 3) := by decide +kernel
theorem dX9_four_33 : decode cX9_four 33 = .ok (.iinc 2 (-8), 3) := by decide +kernel
theorem dX9_four_36 : decode cX9_four 36 = .ok (.goto (-33), 3) := by decide +kernel
theorem dX9_four_39 : decode cX9_four 39 = .ok (.return_, 1) := by decide +kernel
theorem dX9_giveBack_0 : decode cX9_giveBack 0 = .ok (.aload_n 0, 1) := by decide +kernel
theorem dX9_giveBack_1 : decode cX9_giveBack 1 = .ok (.bipush 17, 2) := by decide +kernel
theorem dX9_giveBack_3 : decode cX9_giveBack 3 = .ok (.invokevirtual 182, 3) := by decide +kernel
theorem dX9_giveBack_6 : decode cX9_giveBack 6 = .ok (.iconst 0, 1) := by decide +kernel
theorem dX9_giveBack_7 : decode cX9_giveBack 7 = .ok (.istore_n 2, 1) := by decide +kernel
theorem dX9_giveBack_8 : decode cX9_giveBack 8 = .ok (.iload_n 2, 1) := by decide +kernel
theorem dX9_giveBack_9 : decode cX9_giveBack 9 = .ok (.sipush 400, 3) := by decide +kernel
theorem dX9_giveBack_12 : decode cX9_giveBack 12 = .ok (.if_icmp .ge 21, 3) := by decide +kernel
theorem dX9_giveBack_15 : decode cX9_giveBack 15 = .ok (.aload_n 0, 1) := by decide +kernel
theorem dX9_giveBack_16 : decode cX9_giveBack 16 = .ok (.getfield 23, 3) := by decide +kernel
theorem dX9_giveBack_19 : decode cX9_giveBack 19 = .ok (.iload_n 2, 1) := by decide +kernel
theorem dX9_giveBack_20 : decode cX9_giveBack 20 = .ok (.aload_n 0, 1) := by decide +kernel
theorem dX9_giveBack_21 : decode cX9_giveBack 21 = .ok (.getfield 29, 3) := by decide +kernel
theorem dX9_giveBack_24 : decode cX9_giveBack 24 = .ok (.iload_n 2, 1) := by decide +kernel
theorem dX9_giveBack_25 : decode cX9_giveBack 25 = .ok (.iaload, 1) := by decide +kernel
theorem dX9_giveBack_26 : decode cX9_giveBack 26 = .ok (.iastore, 1) := by decide +kernel
theorem dX9_giveBack_27 : decode cX9_giveBack 27 = .ok (.iinc 2 1, 3) := by decide +kernel
theorem dX9_giveBack_30 : decode cX9_giveBack 30 = .ok (.goto (-22), 3) := by decide +kernel
theorem dX9_giveBack_33 : decode cX9_giveBack 33 = .ok (.iconst 0, 1) := by decide +kernel
theorem dX9_giveBack_34 : decode cX9_giveBack 34 = .ok (.istore_n 2, 1) := by decide +kernel
theorem dX9_giveBack_35 : decode cX9_giveBack 35 = .ok (.iload_n 2, 1) := by decide +kernel
theorem dX9_giveBack_36 : decode cX9_giveBack 36 = .ok (.bipush 16, 2) := by decide +kernel
theorem dX9_giveBack_38 : decode cX9_giveBack 38 = .ok (.if_icmp .ge 21, 3) := by decide +kernel
theorem dX9_giveBack_41 : decode cX9_giveBack 41 = .ok (.aload_n 0, 1) := by decide +kernel
theorem dX9_giveBack_42 : decode cX9_giveBack 42 = .ok (.getfield 26, 3) := by decide +kernel
theorem dX9_giveBack_45 : decode cX9_giveBack 45 = .ok (.iload_n 2, 1) := by decide +kernel
theorem dX9_giveBack_46 : decode cX9_giveBack 46 = .ok (.aload_n 0, 1) := by decide +kernel
theorem dX9_giveBack_47 : decode cX9_giveBack 47 = .ok (.getfield 32, 3) := by decide +kernel
theorem dX9_giveBack_50 : decode cX9_giveBack 50 = .ok (.iload_n 2, 1) := by decide +kernel
theorem dX9_giveBack_51 : decode cX9_giveBack 51 = .ok (.iaload, 1) := by decide +kernel
theorem dX9_giveBack_52 : decode cX9_giveBack 52 = .ok (.iastore, 1) := by decide +kernel
theorem dX9_giveBack_53 : decode cX9_giveBack 53 = .ok (.iinc 2 1, 3) := by decide +kernel
theorem dX9_giveBack_56 : decode cX9_giveBack 56 = .ok (.goto (-21), 3) := by decide +kernel
theorem dX9_giveBack_59 : decode cX9_giveBack 59 = .ok (.aload_n 0, 1) := by decide +kernel
theorem dX9_giveBack_60 : decode cX9_giveBack 60 = .ok (.iload_n 1, 1) := by decide +kernel
theorem dX9_giveBack_61 : decode cX9_giveBack 61 = .ok (.putfield 171, 3) := by decide +kernel
theorem dX9_giveBack_64 : decode cX9_giveBack 64 = .ok (.return_, 1) := by decide +kernel
theorem dX9_hasLike_0 : decode cX9_hasLike 0 = .ok (.iconst 0, 1) := by decide +kernel
theorem dX9_hasLike_1 : decode cX9_hasLike 1 = .ok (.istore_n 2, 1) := by decide +kernel
theorem dX9_hasLike_2 : decode cX9_hasLike 2 = .ok (.iconst 0, 1) := by decide +kernel
theorem dX9_hasLike_3 : decode cX9_hasLike 3 = .ok (.istore_n 3, 1) := by decide +kernel
theorem dX9_hasLike_4 : decode cX9_hasLike 4 = .ok (.iload_n 3, 1) := by decide +kernel
theorem dX9_hasLike_5 : decode cX9_hasLike 5 = .ok (.iload_n 1, 1) := by decide +kernel
theorem dX9_hasLike_6 : decode cX9_hasLike 6 = .ok (.if_icmp .ge 40, 3) := by decide +kernel
theorem dX9_hasLike_9 : decode cX9_hasLike 9 = .ok (.iload_n 2, 1) := by decide +kernel
theorem dX9_hasLike_10 : decode cX9_hasLike 10 = .ok (.ifCond .ne 24, 3) := by decide +kernel
theorem dX9_hasLike_13 : decode cX9_hasLike 13 = .ok (.aload_n 0, 1) := by decide +kernel
theorem dX9_hasLike_14 : decode cX9_hasLike 14 = .ok (.getfield 13, 3) := by decide +kernel
theorem dX9_hasLike_17 : decode cX9_hasLike 17 = .ok (.bipush 8, 2) := by decide +kernel
theorem dX9_hasLike_19 : decode cX9_hasLike 19 = .ok (.iload_n 3, 1) := by decide +kernel
theorem dX9_hasLike_20 : decode cX9_hasLike 20 = .ok (.iadd, 1) := by decide +kernel
theorem dX9_hasLike_21 : decode cX9_hasLike 21 = .ok (.iaload, 1) := by decide +kernel
theorem dX9_hasLike_22 : decode cX9_hasLike 22 = .ok (.aload_n 0, 1) := by decide +kernel
theorem dX9_hasLike_23 : decode cX9_hasLike 23 = .ok (.getfield 13, 3) := by decide +kernel
theorem dX9_hasLike_26 : decode cX9_hasLike 26 = .ok (.bipush 8, 2) := by decide +kernel
theorem dX9_hasLike_28 : decode cX9_hasLike 28 = .ok (.iload_n 1, 1) := by decide +kernel
theorem dX9_hasLike_29 : decode cX9_hasLike 29 = .ok (.iadd, 1) := by decide +kernel
theorem dX9_hasLike_30 : decode cX9_hasLike 30 = .ok (.iaload, 1) := by decide +kernel
theorem dX9_hasLike_31 : decode cX9_hasLike 31 = .ok (.if_icmp .ne 7, 3) := by decide +kernel
theorem dX9_hasLike_34 : decode cX9_hasLike 34 = .ok (.iconst 1, 1) := by decide +kernel
theorem dX9_hasLike_35 : decode cX9_hasLike 35 = .ok (.goto 4, 3) := by decide +kernel
theorem dX9_hasLike_38 : decode cX9_hasLike 38 = .ok (.iconst 0, 1) := by decide +kernel
theorem dX9_hasLike_39 : decode cX9_hasLike 39 = .ok (.istore_n 2, 1) := by decide +kernel
theorem dX9_hasLike_40 : decode cX9_hasLike 40 = .ok (.iinc 3 1, 3) := by decide +kernel
theorem dX9_hasLike_43 : decode cX9_hasLike 43 = .ok (.goto (-39), 3) := by decide +kernel
theorem dX9_hasLike_46 : decode cX9_hasLike 46 = .ok (.iload_n 2, 1) := by decide +kernel
theorem dX9_hasLike_47 : decode cX9_hasLike 47 = .ok (.ireturn, 1) := by decide +kernel
theorem dX9_heir_0 : decode cX9_heir 0 = .ok (.aload_n 0, 1) := by decide +kernel
theorem dX9_heir_1 : decode cX9_heir 1 = .ok (.iconst 0, 1) := by decide +kernel
theorem dX9_heir_2 : decode cX9_heir 2 = .ok (.putfield 165, 3) := by decide +kernel
theorem dX9_heir_5 : decode cX9_heir 5 = .ok (.aload_n 0, 1) := by decide +kernel
theorem dX9_heir_6 : decode cX9_heir 6 = .ok (.invokevirtual 504, 3) := by decide +kernel
theorem dX9_heir_9 : decode cX9_heir 9 = .ok (.istore_n 2, 1) := by decide +kernel
theorem dX9_heir_10 : decode cX9_heir 10 = .ok (.iload_n 1, 1) := by decide +kernel
theorem dX9_heir_11 : decode cX9_heir 11 = .ok (.iconst (-1), 1) := by decide +kernel
theorem dX9_heir_12 : decode cX9_heir 12 = .ok (.if_icmp .ne 7, 3) := by decide +kernel
theorem dX9_heir_15 : decode cX9_heir 15 = .ok (.iload_n 2, 1) := by decide +kernel
theorem dX9_heir_16 : decode cX9_heir 16 = .ok (.goto 26, 3) := by decide +kernel
theorem dX9_heir_19 : decode cX9_heir 19 = .ok (.iload_n 1, 1) := by decide +kernel
theorem dX9_heir_20 : decode cX9_heir 20 = .ok (.i2l, 1) := by decide +kernel
theorem dX9_heir_21 : decode cX9_heir 21 = .ok (.lconst 0, 1) := by decide +kernel
theorem dX9_heir_22 : decode cX9_heir 22 = .ok (.iload_n 2, 1) := by decide +kernel
theorem dX9_heir_23 : decode cX9_heir 23 = .ok (.i2l, 1) := by decide +kernel
theorem dX9_heir_24 : decode cX9_heir 24 = .ok (.lconst 1, 1) := by decide +kernel
theorem dX9_heir_25 : decode cX9_heir 25 = .ok (.lsub, 1) := by decide +kernel
theorem dX9_heir_26 : decode cX9_heir 26 = .ok (.invokestatic 185, 3) := by decide +kernel
theorem dX9_heir_29 : decode cX9_heir 29 = .ok (.ifCond .eq 12, 3) := by decide +kernel
theorem dX9_heir_32 : decode cX9_heir 32 = .ok (.aload_n 0, 1) := by decide +kernel
theorem dX9_heir_33 : decode cX9_heir 33 = .ok (.getfield 135, 3) := by decide +kernel
theorem dX9_heir_36 : decode cX9_heir 36 = .ok (.iload_n 1, 1) := by decide +kernel
theorem dX9_heir_37 : decode cX9_heir 37 = .ok (.iaload, 1) := by decide +kernel
theorem dX9_heir_38 : decode cX9_heir 38 = .ok (.goto 4, 3) := by decide +kernel
theorem dX9_heir_41 : decode cX9_heir 41 = .ok (.iconst (-1), 1) := by decide +kernel
theorem dX9_heir_42 : decode cX9_heir 42 = .ok (.ireturn, 1) := by decide +kernel
theorem dX9_image_0 : decode cX9_image 0 = .ok (.aload_n 0, 1) := by decide +kernel
theorem dX9_image_1 : decode cX9_image 1 = .ok (.iconst 0, 1) := by decide +kernel
theorem dX9_image_2 : decode cX9_image 2 = .ok (.putfield 165, 3) := by decide +kernel
theorem dX9_image_5 : decode cX9_image 5 = .ok (.iload_n 1, 1) := by decide +kernel
theorem dX9_image_6 : decode cX9_image 6 = .ok (.i2l, 1) := by decide +kernel
theorem dX9_image_7 : decode cX9_image 7 = .ok (.lconst 0, 1) := by decide +kernel
theorem dX9_image_8 : decode cX9_image 8 = .ok (.lconst 1, 1) := by decide +kernel
theorem dX9_image_9 : decode cX9_image 9 = .ok (.invokestatic 185, 3) := by decide +kernel
theorem dX9_image_12 : decode cX9_image 12 = .ok (.ifCond .ne 9, 3) := by decide +kernel
theorem dX9_image_15 : decode cX9_image 15 = .ok (.aload_n 0, 1) := by decide +kernel
theorem dX9_image_16 : decode cX9_image 16 = .ok (.iconst (-1), 1) := by decide +kernel
theorem dX9_image_17 : decode cX9_image 17 = .ok (.invokevirtual 174, 3) := by decide +kernel
theorem dX9_image_20 : decode cX9_image 20 = .ok (.ireturn, 1) := by decide +kernel
theorem dX9_image_21 : decode cX9_image 21 = .ok (.iconst 0, 1) := by decide +kernel
theorem dX9_image_22 : decode cX9_image 22 = .ok (.istore_n 2, 1) := by decide +kernel
theorem dX9_image_23 : decode cX9_image 23 = .ok (.iload_n 2, 1) := by decide +kernel
theorem dX9_image_24 : decode cX9_image 24 = .ok (.sipush 5484, 3) := by decide +kernel
theorem dX9_image_27 : decode cX9_image 27 = .ok (.if_icmp .ge 27, 3) := by decide +kernel
theorem dX9_image_30 : decode cX9_image 30 = .ok (.aload_n 0, 1) := by decide +kernel
theorem dX9_image_31 : decode cX9_image 31 = .ok (.getfield 16, 3) := by decide +kernel
theorem dX9_image_34 : decode cX9_image 34 = .ok (.sipush 5484, 3) := by decide +kernel
theorem dX9_image_37 : decode cX9_image 37 = .ok (.iload_n 1, 1) := by decide +kernel
theorem dX9_image_38 : decode cX9_image 38 = .ok (.imul, 1) := by decide +kernel
theorem dX9_image_39 : decode cX9_image 39 = .ok (.iload_n 2, 1) := by decide +kernel
theorem dX9_image_40 : decode cX9_image 40 = .ok (.iadd, 1) := by decide +kernel
theorem dX9_image_41 : decode cX9_image 41 = .ok (.aload_n 0, 1) := by decide +kernel
theorem dX9_image_42 : decode cX9_image 42 = .ok (.getfield 13, 3) := by decide +kernel
theorem dX9_image_45 : decode cX9_image 45 = .ok (.iload_n 2, 1) := by decide +kernel
theorem dX9_image_46 : decode cX9_image 46 = .ok (.iaload, 1) := by decide +kernel
theorem dX9_image_47 : decode cX9_image 47 = .ok (.iastore, 1) := by decide +kernel
theorem dX9_image_48 : decode cX9_image 48 = .ok (.iinc 2 1, 3) := by decide +kernel
theorem dX9_image_51 : decode cX9_image 51 = .ok (.goto (-28), 3) := by decide +kernel
theorem dX9_image_54 : decode cX9_image 54 = .ok (.aload_n 0, 1) := by decide +kernel
theorem dX9_image_55 : decode cX9_image 55 = .ok (.getfield 19, 3) := by decide +kernel
theorem dX9_image_58 : decode cX9_image 58 = .ok (.iload_n 1, 1) := by decide +kernel
theorem dX9_image_59 : decode cX9_image 59 = .ok (.iconst 1, 1) := by decide +kernel
theorem dX9_image_60 : decode cX9_image 60 = .ok (.bastore, 1) := by decide +kernel
theorem dX9_image_61 : decode cX9_image 61 = .ok (.aload_n 0, 1) := by decide +kernel
theorem dX9_image_62 : decode cX9_image 62 = .ok (.iconst 0, 1) := by decide +kernel
theorem dX9_image_63 : decode cX9_image 63 = .ok (.invokevirtual 174, 3) := by decide +kernel
theorem dX9_image_66 : decode cX9_image 66 = .ok (.ireturn, 1) := by decide +kernel
theorem dX9_in_0 : decode cX9_in 0 = .ok (.lload_n 0, 1) := by decide +kernel
theorem dX9_in_1 : decode cX9_in 1 = .ok (.lload_n 2, 1) := by decide +kernel
theorem dX9_in_2 : decode cX9_in 2 = .ok (.lcmp, 1) := by decide +kernel
theorem dX9_in_3 : decode cX9_in 3 = .ok (.ifCond .lt 14, 3) := by decide +kernel
theorem dX9_in_6 : decode cX9_in 6 = .ok (.lload_n 0, 1) := by decide +kernel
theorem dX9_in_7 : decode cX9_in 7 = .ok (.lload 4, 2) := by decide +kernel
theorem dX9_in_9 : decode cX9_in 9 = .ok (.lcmp, 1) := by decide +kernel
theorem dX9_in_10 : decode cX9_in 10 = .ok (.ifCond .gt 7, 3) := by decide +kernel
theorem dX9_in_13 : decode cX9_in 13 = .ok (.iconst 1, 1) := by decide +kernel
theorem dX9_in_14 : decode cX9_in 14 = .ok (.goto 4, 3) := by decide +kernel
theorem dX9_in_17 : decode cX9_in 17 = .ok (.iconst 0, 1) := by decide +kernel
theorem dX9_in_18 : decode cX9_in 18 = .ok (.ireturn, 1) := by decide +kernel
theorem dX9_inner_0 : decode cX9_inner 0 = .ok (.iconst (-1), 1) := by decide +kernel
theorem dX9_inner_1 : decode cX9_inner 1 = .ok (.istore_n 1, 1) := by decide +kernel
theorem dX9_inner_2 : decode cX9_inner 2 = .ok (.iconst 0, 1) := by decide +kernel
theorem dX9_inner_3 : decode cX9_inner 3 = .ok (.istore_n 2, 1) := by decide +kernel
theorem dX9_inner_4 : decode cX9_inner 4 = .ok (.iload_n 2, 1) := by decide +kernel
theorem dX9_inner_5 : decode cX9_inner 5 = .ok (.aload_n 0, 1) := by decide +kernel
theorem dX9_inner_6 : decode cX9_inner 6 = .ok (.getfield 286, 3) := by decide +kernel
theorem dX9_inner_9 : decode cX9_inner 9 = .ok (.if_icmp .ge 31, 3) := by decide +kernel
theorem dX9_inner_12 : decode cX9_inner 12 = .ok (.aload_n 0, 1) := by decide +kernel
theorem dX9_inner_13 : decode cX9_inner 13 = .ok (.getfield 51, 3) := by decide +kernel
theorem dX9_inner_16 : decode cX9_inner 16 = .ok (.iload_n 2, 1) := by decide +kernel
theorem dX9_inner_17 : decode cX9_inner 17 = .ok (.iaload, 1) := by decide +kernel
theorem dX9_inner_18 : decode cX9_inner 18 = .ok (.bipush 31, 2) := by decide +kernel
theorem dX9_inner_20 : decode cX9_inner 20 = .ok (.if_icmp .lt 12, 3) := by decide +kernel
theorem dX9_inner_23 : decode cX9_inner 23 = .ok (.aload_n 0, 1) := by decide +kernel
theorem dX9_inner_24 : decode cX9_inner 24 = .ok (.getfield 51, 3) := by decide +kernel
theorem dX9_inner_27 : decode cX9_inner 27 = .ok (.iload_n 2, 1) := by decide +kernel
theorem dX9_inner_28 : decode cX9_inner 28 = .ok (.iaload, 1) := by decide +kernel
theorem dX9_inner_29 : decode cX9_inner 29 = .ok (.goto 4, 3) := by decide +kernel
theorem dX9_inner_32 : decode cX9_inner 32 = .ok (.iload_n 1, 1) := by decide +kernel
theorem dX9_inner_33 : decode cX9_inner 33 = .ok (.istore_n 1, 1) := by decide +kernel
theorem dX9_inner_34 : decode cX9_inner 34 = .ok (.iinc 2 1, 3) := by decide +kernel
theorem dX9_inner_37 : decode cX9_inner 37 = .ok (.goto (-33), 3) := by decide +kernel
theorem dX9_inner_40 : decode cX9_inner 40 = .ok (.iload_n 1, 1) := by decide +kernel
theorem dX9_inner_41 : decode cX9_inner 41 = .ok (.ireturn, 1) := by decide +kernel
theorem dX9_is_0 : decode cX9_is 0 = .ok (.iload_n 0, 1) := by decide +kernel
theorem dX9_is_1 : decode cX9_is 1 = .ok (.iload_n 1, 1) := by decide +kernel
theorem dX9_is_2 : decode cX9_is 2 = .ok (.ishr, 1) := by decide +kernel
theorem dX9_is_3 : decode cX9_is 3 = .ok (.iconst 1, 1) := by decide +kernel
theorem dX9_is_4 : decode cX9_is 4 = .ok (.iand, 1) := by decide +kernel
theorem dX9_is_5 : decode cX9_is 5 = .ok (.iconst 1, 1) := by decide +kernel
theorem dX9_is_6 : decode cX9_is 6 = .ok (.if_icmp .ne 7, 3) := by decide +kernel
theorem dX9_is_9 : decode cX9_is 9 = .ok (.iconst 1, 1) := by decide +kernel
theorem dX9_is_10 : decode cX9_is 10 = .ok (.goto 4, 3) := by decide +kernel
theorem dX9_is_13 : decode cX9_is 13 = .ok (.iconst 0, 1) := by decide +kernel
theorem dX9_is_14 : decode cX9_is 14 = .ok (.ireturn, 1) := by decide +kernel
theorem dX9_isBarred_0 : decode cX9_isBarred 0 = .ok (.aload_n 0, 1) := by decide +kernel
theorem dX9_isBarred_1 : decode cX9_isBarred 1 = .ok (.iconst 3, 1) := by decide +kernel
theorem dX9_isBarred_2 : decode cX9_isBarred 2 = .ok (.iload_n 1, 1) := by decide +kernel
theorem dX9_isBarred_3 : decode cX9_isBarred 3 = .ok (.iload_n 2, 1) := by decide +kernel
theorem dX9_isBarred_4 : decode cX9_isBarred 4 = .ok (.iconst (-1), 1) := by decide +kernel
theorem dX9_isBarred_5 : decode cX9_isBarred 5 = .ok (.lconst 0, 1) := by decide +kernel
theorem dX9_isBarred_6 : decode cX9_isBarred 6 = .ok (.invokevirtual 423, 3) := by decide +kernel
theorem dX9_isBarred_9 : decode cX9_isBarred 9 = .ok (.lconst 1, 1) := by decide +kernel
theorem dX9_isBarred_10 : decode cX9_isBarred 10 = .ok (.lcmp, 1) := by decide +kernel
theorem dX9_isBarred_11 : decode cX9_isBarred 11 = .ok (.ifCond .ne 7, 3) := by decide +kernel
theorem dX9_isBarred_14 : decode cX9_isBarred 14 = .ok (.iconst 1, 1) := by decide +kernel
theorem dX9_isBarred_15 : decode cX9_isBarred 15 = .ok (.goto 4, 3) := by decide +kernel
theorem dX9_isBarred_18 : decode cX9_isBarred 18 = .ok (.iconst 0, 1) := by decide +kernel
theorem dX9_isBarred_19 : decode cX9_isBarred 19 = .ok (.ireturn, 1) := by decide +kernel
theorem dX9_isCompared_0 : decode cX9_isCompared 0 = .ok (.aload_n 0, 1) := by decide +kernel
theorem dX9_isCompared_1 : decode cX9_isCompared 1 = .ok (.getfield 286, 3) := by decide +kernel
theorem dX9_isCompared_4 : decode cX9_isCompared 4 = .ok (.iconst 1, 1) := by decide +kernel
theorem dX9_isCompared_5 : decode cX9_isCompared 5 = .ok (.isub, 1) := by decide +kernel
theorem dX9_isCompared_6 : decode cX9_isCompared 6 = .ok (.istore_n 1, 1) := by decide +kernel
theorem dX9_isCompared_7 : decode cX9_isCompared 7 = .ok (.iload_n 1, 1) := by decide +kernel
theorem dX9_isCompared_8 : decode cX9_isCompared 8 = .ok (.ifCond .lt 28, 3) := by decide +kernel
theorem dX9_isCompared_11 : decode cX9_isCompared 11 = .ok (.aload_n 0, 1) := by decide +kernel
theorem dX9_isCompared_12 : decode cX9_isCompared 12 = .ok (.getfield 51, 3) := by decide +kernel
theorem dX9_isCompared_15 : decode cX9_isCompared 15 = .ok (.iload_n 1, 1) := by decide +kernel
theorem dX9_isCompared_16 : decode cX9_isCompared 16 = .ok (.iaload, 1) := by decide +kernel
theorem dX9_isCompared_17 : decode cX9_isCompared 17 = .ok (.i2l, 1) := by decide +kernel
theorem dX9_isCompared_18 : decode cX9_isCompared 18 = .ok (.ldc2_w 296, 3) := by decide +kernel
theorem dX9_isCompared_21 : decode cX9_isCompared 21 = .ok (.ldc2_w 298, 3) := by decide +kernel
theorem dX9_isCompared_24 : decode cX9_isCompared 24 = .ok (.invokestatic 185, 3) := by decide +kernel
theorem dX9_isCompared_27 : decode cX9_isCompared 27 = .ok (.ifCond .eq 9, 3) := by decide +kernel
theorem dX9_isCompared_30 : decode cX9_isCompared 30 = .ok (.iinc 1 (-1), 3) := by decide +kernel
theorem dX9_isCompared_33 : decode cX9_isCompared 33 = .ok (.goto (-26), 3) := by decide +kernel
theorem dX9_isCompared_36 : decode cX9_isCompared 36 = .ok (.iload_n 1, 1) := by decide +kernel
theorem dX9_isCompared_37 : decode cX9_isCompared 37 = .ok (.ifCond .lt 26, 3) := by decide +kernel
theorem dX9_isCompared_40 : decode cX9_isCompared 40 = .ok (.aload_n 0, 1) := by decide +kernel
theorem dX9_isCompared_41 : decode cX9_isCompared 41 = .ok (.getfield 51, 3) := by decide +kernel
theorem dX9_isCompared_44 : decode cX9_isCompared 44 = .ok (.iload_n 1, 1) := by decide +kernel
theorem dX9_isCompared_45 : decode cX9_isCompared 45 = .ok (.iaload, 1) := by decide +kernel
theorem dX9_isCompared_46 : decode cX9_isCompared 46 = .ok (.i2l, 1) := by decide +kernel
theorem dX9_isCompared_47 : decode cX9_isCompared 47 = .ok (.ldc2_w 300, 3) := by decide +kernel
theorem dX9_isCompared_50 : decode cX9_isCompared 50 = .ok (.ldc2_w 302, 3) := by decide +kernel
theorem dX9_isCompared_53 : decode cX9_isCompared 53 = .ok (.invokestatic 185, 3) := by decide +kernel
theorem dX9_isCompared_56 : decode cX9_isCompared 56 = .ok (.ifCond .eq 7, 3) := by decide +kernel
theorem dX9_isCompared_59 : decode cX9_isCompared 59 = .ok (.iconst 1, 1) := by decide +kernel
theorem dX9_isCompared_60 : decode cX9_isCompared 60 = .ok (.goto 4, 3) := by decide +kernel
theorem dX9_isCompared_63 : decode cX9_isCompared 63 = .ok (.iconst 0, 1) := by decide +kernel
theorem dX9_isCompared_64 : decode cX9_isCompared 64 = .ok (.ireturn, 1) := by decide +kernel
theorem dX9_isDigit_0 : decode cX9_isDigit 0 = .ok (.iload_n 0, 1) := by decide +kernel
theorem dX9_isDigit_1 : decode cX9_isDigit 1 = .ok (.bipush 48, 2) := by decide +kernel
theorem dX9_isDigit_3 : decode cX9_isDigit 3 = .ok (.if_icmp .lt 13, 3) := by decide +kernel
theorem dX9_isDigit_6 : decode cX9_isDigit 6 = .ok (.iload_n 0, 1) := by decide +kernel
theorem dX9_isDigit_7 : decode cX9_isDigit 7 = .ok (.bipush 57, 2) := by decide +kernel
theorem dX9_isDigit_9 : decode cX9_isDigit 9 = .ok (.if_icmp .gt 7, 3) := by decide +kernel
theorem dX9_isDigit_12 : decode cX9_isDigit 12 = .ok (.iconst 1, 1) := by decide +kernel
theorem dX9_isDigit_13 : decode cX9_isDigit 13 = .ok (.goto 4, 3) := by decide +kernel
theorem dX9_isDigit_16 : decode cX9_isDigit 16 = .ok (.iconst 0, 1) := by decide +kernel
theorem dX9_isDigit_17 : decode cX9_isDigit 17 = .ok (.ireturn, 1) := by decide +kernel
theorem dX9_isFree_0 : decode cX9_isFree 0 = .ok (.aload_n 0, 1) := by decide +kernel
theorem dX9_isFree_1 : decode cX9_isFree 1 = .ok (.getfield 126, 3) := by decide +kernel
theorem dX9_isFree_4 : decode cX9_isFree 4 = .ok (.iload_n 1, 1) := by decide +kernel
theorem dX9_isFree_5 : decode cX9_isFree 5 = .ok (.iaload, 1) := by decide +kernel
theorem dX9_isFree_6 : decode cX9_isFree 6 = .ok (.bipush 7, 2) := by decide +kernel
theorem dX9_isFree_8 : decode cX9_isFree 8 = .ok (.if_icmp .eq 22, 3) := by decide +kernel
theorem dX9_isFree_11 : decode cX9_isFree 11 = .ok (.aload_n 0, 1) := by decide +kernel
theorem dX9_isFree_12 : decode cX9_isFree 12 = .ok (.getfield 123, 3) := by decide +kernel
theorem dX9_isFree_15 : decode cX9_isFree 15 = .ok (.iconst 4, 1) := by decide +kernel
theorem dX9_isFree_16 : decode cX9_isFree 16 = .ok (.aload_n 0, 1) := by decide +kernel
theorem dX9_isFree_17 : decode cX9_isFree 17 = .ok (.getfield 126, 3) := by decide +kernel
theorem dX9_isFree_20 : decode cX9_isFree 20 = .ok (.iload_n 1, 1) := by decide +kernel
theorem dX9_isFree_21 : decode cX9_isFree 21 = .ok (.iaload, 1) := by decide +kernel
theorem dX9_isFree_22 : decode cX9_isFree 22 = .ok (.imul, 1) := by decide +kernel
theorem dX9_isFree_23 : decode cX9_isFree 23 = .ok (.iload_n 1, 1) := by decide +kernel
theorem dX9_isFree_24 : decode cX9_isFree 24 = .ok (.iadd, 1) := by decide +kernel
theorem dX9_isFree_25 : decode cX9_isFree 25 = .ok (.iaload, 1) := by decide +kernel
theorem dX9_isFree_26 : decode cX9_isFree 26 = .ok (.iconst (-1), 1) := by decide +kernel
theorem dX9_isFree_27 : decode cX9_isFree 27 = .ok (.if_icmp .eq 7, 3) := by decide +kernel
theorem dX9_isFree_30 : decode cX9_isFree 30 = .ok (.iconst 1, 1) := by decide +kernel
theorem dX9_isFree_31 : decode cX9_isFree 31 = .ok (.goto 4, 3) := by decide +kernel
theorem dX9_isFree_34 : decode cX9_isFree 34 = .ok (.iconst 0, 1) := by decide +kernel
theorem dX9_isFree_35 : decode cX9_isFree 35 = .ok (.istore_n 2, 1) := by decide +kernel
theorem dX9_isFree_36 : decode cX9_isFree 36 = .ok (.iconst 0, 1) := by decide +kernel
theorem dX9_isFree_37 : decode cX9_isFree 37 = .ok (.istore_n 3, 1) := by decide +kernel
theorem dX9_isFree_38 : decode cX9_isFree 38 = .ok (.iload_n 3, 1) := by decide +kernel
theorem dX9_isFree_39 : decode cX9_isFree 39 = .ok (.iload_n 1, 1) := by decide +kernel
theorem dX9_isFree_40 : decode cX9_isFree 40 = .ok (.if_icmp .ge 45, 3) := by decide +kernel
theorem dX9_isFree_43 : decode cX9_isFree 43 = .ok (.iload_n 2, 1) := by decide +kernel
theorem dX9_isFree_44 : decode cX9_isFree 44 = .ok (.ifCond .eq 33, 3) := by decide +kernel
theorem dX9_isFree_47 : decode cX9_isFree 47 = .ok (.aload_n 0, 1) := by decide +kernel
theorem dX9_isFree_48 : decode cX9_isFree 48 = .ok (.getfield 126, 3) := by decide +kernel
theorem dX9_isFree_51 : decode cX9_isFree 51 = .ok (.iload_n 1, 1) := by decide +kernel
theorem dX9_isFree_52 : decode cX9_isFree 52 = .ok (.iaload, 1) := by decide +kernel
theorem dX9_isFree_53 : decode cX9_isFree 53 = .ok (.bipush 7, 2) := by decide +kernel
theorem dX9_isFree_55 : decode cX9_isFree 55 = .ok (.if_icmp .eq 18, 3) := by decide +kernel
theorem dX9_isFree_58 : decode cX9_isFree 58 = .ok (.aload_n 0, 1) := by decide +kernel
theorem dX9_isFree_59 : decode cX9_isFree 59 = .ok (.getfield 126, 3) := by decide +kernel
theorem dX9_isFree_62 : decode cX9_isFree 62 = .ok (.iload_n 3, 1) := by decide +kernel
theorem dX9_isFree_63 : decode cX9_isFree 63 = .ok (.iaload, 1) := by decide +kernel
theorem dX9_isFree_64 : decode cX9_isFree 64 = .ok (.aload_n 0, 1) := by decide +kernel
theorem dX9_isFree_65 : decode cX9_isFree 65 = .ok (.getfield 126, 3) := by decide +kernel
theorem dX9_isFree_68 : decode cX9_isFree 68 = .ok (.iload_n 1, 1) := by decide +kernel
theorem dX9_isFree_69 : decode cX9_isFree 69 = .ok (.iaload, 1) := by decide +kernel
theorem dX9_isFree_70 : decode cX9_isFree 70 = .ok (.if_icmp .eq 7, 3) := by decide +kernel
theorem dX9_isFree_73 : decode cX9_isFree 73 = .ok (.iconst 1, 1) := by decide +kernel
theorem dX9_isFree_74 : decode cX9_isFree 74 = .ok (.goto 4, 3) := by decide +kernel
theorem dX9_isFree_77 : decode cX9_isFree 77 = .ok (.iconst 0, 1) := by decide +kernel
theorem dX9_isFree_78 : decode cX9_isFree 78 = .ok (.istore_n 2, 1) := by decide +kernel
theorem dX9_isFree_79 : decode cX9_isFree 79 = .ok (.iinc 3 1, 3) := by decide +kernel
theorem dX9_isFree_82 : decode cX9_isFree 82 = .ok (.goto (-44), 3) := by decide +kernel
theorem dX9_isFree_85 : decode cX9_isFree 85 = .ok (.iload_n 2, 1) := by decide +kernel
theorem dX9_isFree_86 : decode cX9_isFree 86 = .ok (.ireturn, 1) := by decide +kernel
theorem dX9_isLaw_0 : decode cX9_isLaw 0 = .ok (.iload_n 1, 1) := by decide +kernel
theorem dX9_isLaw_1 : decode cX9_isLaw 1 = .ok (.iconst (-1), 1) := by decide +kernel
theorem dX9_isLaw_2 : decode cX9_isLaw 2 = .ok (.if_icmp .eq 21, 3) := by decide +kernel
theorem dX9_isLaw_5 : decode cX9_isLaw 5 = .ok (.iload_n 1, 1) := by decide +kernel
theorem dX9_isLaw_6 : decode cX9_isLaw 6 = .ok (.i2l, 1) := by decide +kernel
theorem dX9_isLaw_7 : decode cX9_isLaw 7 = .ok (.lconst 0, 1) := by decide +kernel
theorem dX9_isLaw_8 : decode cX9_isLaw 8 = .ok (.aload_n 0, 1) := by decide +kernel
theorem dX9_isLaw_9 : decode cX9_isLaw 9 = .ok (.getfield 13, 3) := by decide +kernel
theorem dX9_isLaw_12 : decode cX9_isLaw 12 = .ok (.iconst 2, 1) := by decide +kernel
theorem dX9_isLaw_13 : decode cX9_isLaw 13 = .ok (.iaload, 1) := by decide +kernel
theorem dX9_isLaw_14 : decode cX9_isLaw 14 = .ok (.i2l, 1) := by decide +kernel
theorem dX9_isLaw_15 : decode cX9_isLaw 15 = .ok (.lconst 1, 1) := by decide +kernel
theorem dX9_isLaw_16 : decode cX9_isLaw 16 = .ok (.lsub, 1) := by decide +kernel
theorem dX9_isLaw_17 : decode cX9_isLaw 17 = .ok (.invokestatic 185, 3) := by decide +kernel
theorem dX9_isLaw_20 : decode cX9_isLaw 20 = .ok (.ifCond .eq 7, 3) := by decide +kernel
theorem dX9_isLaw_23 : decode cX9_isLaw 23 = .ok (.iconst 1, 1) := by decide +kernel
theorem dX9_isLaw_24 : decode cX9_isLaw 24 = .ok (.goto 4, 3) := by decide +kernel
theorem dX9_isLaw_27 : decode cX9_isLaw 27 = .ok (.iconst 0, 1) := by decide +kernel
theorem dX9_isLaw_28 : decode cX9_isLaw 28 = .ok (.ireturn, 1) := by decide +kernel
theorem dX9_isPerson_0 : decode cX9_isPerson 0 = .ok (.iload_n 1, 1) := by decide +kernel
theorem dX9_isPerson_1 : decode cX9_isPerson 1 = .ok (.i2l, 1) := by decide +kernel
theorem dX9_isPerson_2 : decode cX9_isPerson 2 = .ok (.lconst 0, 1) := by decide +kernel
theorem dX9_isPerson_3 : decode cX9_isPerson 3 = .ok (.aload_n 0, 1) := by decide +kernel
theorem dX9_isPerson_4 : decode cX9_isPerson 4 = .ok (.getfield 13, 3) := by decide +kernel
theorem dX9_isPerson_7 : decode cX9_isPerson 7 = .ok (.iconst 0, 1) := by decide +kernel
theorem dX9_isPerson_8 : decode cX9_isPerson 8 = .ok (.iaload, 1) := by decide +kernel
theorem dX9_isPerson_9 : decode cX9_isPerson 9 = .ok (.i2l, 1) := by decide +kernel
theorem dX9_isPerson_10 : decode cX9_isPerson 10 = .ok (.lconst 1, 1) := by decide +kernel
theorem dX9_isPerson_11 : decode cX9_isPerson 11 = .ok (.lsub, 1) := by decide +kernel
theorem dX9_isPerson_12 : decode cX9_isPerson 12 = .ok (.invokestatic 185, 3) := by decide +kernel
theorem dX9_isPerson_15 : decode cX9_isPerson 15 = .ok (.ireturn, 1) := by decide +kernel
theorem dX9_isRace_0 : decode cX9_isRace 0 = .ok (.iload_n 0, 1) := by decide +kernel
theorem dX9_isRace_1 : decode cX9_isRace 1 = .ok (.i2l, 1) := by decide +kernel
theorem dX9_isRace_2 : decode cX9_isRace 2 = .ok (.lconst 0, 1) := by decide +kernel
theorem dX9_isRace_3 : decode cX9_isRace 3 = .ok (.ldc2_w 192, 3) := by decide +kernel
theorem dX9_isRace_6 : decode cX9_isRace 6 = .ok (.invokestatic 185, 3) := by decide +kernel
theorem dX9_isRace_9 : decode cX9_isRace 9 = .ok (.ireturn, 1) := by decide +kernel
theorem dX9_isSign_0 : decode cX9_isSign 0 = .ok (.aload_n 0, 1) := by decide +kernel
theorem dX9_isSign_1 : decode cX9_isSign 1 = .ok (.getfield 266, 3) := by decide +kernel
theorem dX9_isSign_4 : decode cX9_isSign 4 = .ok (.iconst 3, 1) := by decide +kernel
theorem dX9_isSign_5 : decode cX9_isSign 5 = .ok (.if_icmp .ne 17, 3) := by decide +kernel
theorem dX9_isSign_8 : decode cX9_isSign 8 = .ok (.aload_n 0, 1) := by decide +kernel
theorem dX9_isSign_9 : decode cX9_isSign 9 = .ok (.getfield 256, 3) := by decide +kernel
theorem dX9_isSign_12 : decode cX9_isSign 12 = .ok (.iload_n 1, 1) := by decide +kernel
theorem dX9_isSign_13 : decode cX9_isSign 13 = .ok (.i2l, 1) := by decide +kernel
theorem dX9_isSign_14 : decode cX9_isSign 14 = .ok (.lcmp, 1) := by decide +kernel
theorem dX9_isSign_15 : decode cX9_isSign 15 = .ok (.ifCond .ne 7, 3) := by decide +kernel
theorem dX9_isSign_18 : decode cX9_isSign 18 = .ok (.iconst 1, 1) := by decide +kernel
theorem dX9_isSign_19 : decode cX9_isSign 19 = .ok (.goto 4, 3) := by decide +kernel
theorem dX9_isSign_22 : decode cX9_isSign 22 = .ok (.iconst 0, 1) := by decide +kernel
theorem dX9_isSign_23 : decode cX9_isSign 23 = .ok (.ireturn, 1) := by decide +kernel
theorem dX9_isSmall_0 : decode cX9_isSmall 0 = .ok (.iload_n 0, 1) := by decide +kernel
theorem dX9_isSmall_1 : decode cX9_isSmall 1 = .ok (.bipush 97, 2) := by decide +kernel
theorem dX9_isSmall_3 : decode cX9_isSmall 3 = .ok (.if_icmp .lt 13, 3) := by decide +kernel
theorem dX9_isSmall_6 : decode cX9_isSmall 6 = .ok (.iload_n 0, 1) := by decide +kernel
theorem dX9_isSmall_7 : decode cX9_isSmall 7 = .ok (.bipush 122, 2) := by decide +kernel
theorem dX9_isSmall_9 : decode cX9_isSmall 9 = .ok (.if_icmp .gt 7, 3) := by decide +kernel
theorem dX9_isSmall_12 : decode cX9_isSmall 12 = .ok (.iconst 1, 1) := by decide +kernel
theorem dX9_isSmall_13 : decode cX9_isSmall 13 = .ok (.goto 4, 3) := by decide +kernel
theorem dX9_isSmall_16 : decode cX9_isSmall 16 = .ok (.iconst 0, 1) := by decide +kernel
theorem dX9_isSmall_17 : decode cX9_isSmall 17 = .ok (.ireturn, 1) := by decide +kernel
theorem dX9_isSo_0 : decode cX9_isSo 0 = .ok (.aload_n 0, 1) := by decide +kernel
theorem dX9_isSo_1 : decode cX9_isSo 1 = .ok (.getfield 13, 3) := by decide +kernel
theorem dX9_isSo_4 : decode cX9_isSo 4 = .ok (.iload_n 1, 1) := by decide +kernel
theorem dX9_isSo_5 : decode cX9_isSo 5 = .ok (.iconst 5, 1) := by decide +kernel
theorem dX9_isSo_6 : decode cX9_isSo 6 = .ok (.iadd, 1) := by decide +kernel
theorem dX9_isSo_7 : decode cX9_isSo 7 = .ok (.iaload, 1) := by decide +kernel
theorem dX9_isSo_8 : decode cX9_isSo 8 = .ok (.aload_n 0, 1) := by decide +kernel
theorem dX9_isSo_9 : decode cX9_isSo 9 = .ok (.getfield 13, 3) := by decide +kernel
theorem dX9_isSo_12 : decode cX9_isSo 12 = .ok (.iload_n 1, 1) := by decide +kernel
theorem dX9_isSo_13 : decode cX9_isSo 13 = .ok (.bipush 6, 2) := by decide +kernel
theorem dX9_isSo_15 : decode cX9_isSo 15 = .ok (.iadd, 1) := by decide +kernel
theorem dX9_isSo_16 : decode cX9_isSo 16 = .ok (.iaload, 1) := by decide +kernel
theorem dX9_isSo_17 : decode cX9_isSo 17 = .ok (.if_icmp .ge 42, 3) := by decide +kernel
theorem dX9_isSo_20 : decode cX9_isSo 20 = .ok (.aload_n 0, 1) := by decide +kernel
theorem dX9_isSo_21 : decode cX9_isSo 21 = .ok (.aload_n 0, 1) := by decide +kernel
theorem dX9_isSo_22 : decode cX9_isSo 22 = .ok (.getfield 13, 3) := by decide +kernel
theorem dX9_isSo_25 : decode cX9_isSo 25 = .ok (.iload_n 1, 1) := by decide +kernel
theorem dX9_isSo_26 : decode cX9_isSo 26 = .ok (.iconst 5, 1) := by decide +kernel
theorem dX9_isSo_27 : decode cX9_isSo 27 = .ok (.iadd, 1) := by decide +kernel
theorem dX9_isSo_28 : decode cX9_isSo 28 = .ok (.iaload, 1) := by decide +kernel
theorem dX9_isSo_29 : decode cX9_isSo 29 = .ok (.aload_n 0, 1) := by decide +kernel
theorem dX9_isSo_30 : decode cX9_isSo 30 = .ok (.getfield 13, 3) := by decide +kernel
theorem dX9_isSo_33 : decode cX9_isSo 33 = .ok (.iload_n 1, 1) := by decide +kernel
theorem dX9_isSo_34 : decode cX9_isSo 34 = .ok (.bipush 6, 2) := by decide +kernel
theorem dX9_isSo_36 : decode cX9_isSo 36 = .ok (.iadd, 1) := by decide +kernel
theorem dX9_isSo_37 : decode cX9_isSo 37 = .ok (.iaload, 1) := by decide +kernel
theorem dX9_isSo_38 : decode cX9_isSo 38 = .ok (.invokevirtual 414, 3) := by decide +kernel
theorem dX9_isSo_41 : decode cX9_isSo 41 = .ok (.aload_n 0, 1) := by decide +kernel
theorem dX9_isSo_42 : decode cX9_isSo 42 = .ok (.getfield 397, 3) := by decide +kernel
theorem dX9_isSo_45 : decode cX9_isSo 45 = .ok (.ifCond .ne 12, 3) := by decide +kernel
theorem dX9_isSo_48 : decode cX9_isSo 48 = .ok (.aload_n 0, 1) := by decide +kernel
theorem dX9_isSo_49 : decode cX9_isSo 49 = .ok (.getfield 411, 3) := by decide +kernel
theorem dX9_isSo_52 : decode cX9_isSo 52 = .ok (.lconst 0, 1) := by decide +kernel
theorem dX9_isSo_53 : decode cX9_isSo 53 = .ok (.lcmp, 1) := by decide +kernel
theorem dX9_isSo_54 : decode cX9_isSo 54 = .ok (.ifCond .ne 5, 3) := by decide +kernel
theorem dX9_isSo_57 : decode cX9_isSo 57 = .ok (.iconst 0, 1) := by decide +kernel
theorem dX9_isSo_58 : decode cX9_isSo 58 = .ok (.ireturn, 1) := by decide +kernel
theorem dX9_isSo_59 : decode cX9_isSo 59 = .ok (.aload_n 0, 1) := by decide +kernel
theorem dX9_isSo_60 : decode cX9_isSo 60 = .ok (.getfield 13, 3) := by decide +kernel
theorem dX9_isSo_63 : decode cX9_isSo 63 = .ok (.iload_n 1, 1) := by decide +kernel
theorem dX9_isSo_64 : decode cX9_isSo 64 = .ok (.iaload, 1) := by decide +kernel
theorem dX9_isSo_65 : decode cX9_isSo 65 = .ok (.iconst 3, 1) := by decide +kernel
theorem dX9_isSo_66 : decode cX9_isSo 66 = .ok (.if_icmp .eq 44, 3) := by decide +kernel
theorem dX9_isSo_69 : decode cX9_isSo 69 = .ok (.aload_n 0, 1) := by decide +kernel
theorem dX9_isSo_70 : decode cX9_isSo 70 = .ok (.aload_n 0, 1) := by decide +kernel
theorem dX9_isSo_71 : decode cX9_isSo 71 = .ok (.getfield 13, 3) := by decide +kernel
theorem dX9_isSo_74 : decode cX9_isSo 74 = .ok (.iload_n 1, 1) := by decide +kernel
theorem dX9_isSo_75 : decode cX9_isSo 75 = .ok (.iconst 3, 1) := by decide +kernel
theorem dX9_isSo_76 : decode cX9_isSo 76 = .ok (.iadd, 1) := by decide +kernel
theorem dX9_isSo_77 : decode cX9_isSo 77 = .ok (.iaload, 1) := by decide +kernel
theorem dX9_isSo_78 : decode cX9_isSo 78 = .ok (.aload_n 0, 1) := by decide +kernel
theorem dX9_isSo_79 : decode cX9_isSo 79 = .ok (.getfield 13, 3) := by decide +kernel
theorem dX9_isSo_82 : decode cX9_isSo 82 = .ok (.iload_n 1, 1) := by decide +kernel
theorem dX9_isSo_83 : decode cX9_isSo 83 = .ok (.iconst 4, 1) := by decide +kernel
theorem dX9_isSo_84 : decode cX9_isSo 84 = .ok (.iadd, 1) := by decide +kernel
theorem dX9_isSo_85 : decode cX9_isSo 85 = .ok (.iaload, 1) := by decide +kernel
theorem dX9_isSo_86 : decode cX9_isSo 86 = .ok (.invokevirtual 414, 3) := by decide +kernel
theorem dX9_isSo_89 : decode cX9_isSo 89 = .ok (.aload_n 0, 1) := by decide +kernel
theorem dX9_isSo_90 : decode cX9_isSo 90 = .ok (.aload_n 0, 1) := by decide +kernel
theorem dX9_isSo_91 : decode cX9_isSo 91 = .ok (.getfield 411, 3) := by decide +kernel
theorem dX9_isSo_94 : decode cX9_isSo 94 = .ok (.putfield 417, 3) := by decide +kernel
theorem dX9_isSo_97 : decode cX9_isSo 97 = .ok (.aload_n 0, 1) := by decide +kernel
theorem dX9_isSo_98 : decode cX9_isSo 98 = .ok (.getfield 397, 3) := by decide +kernel
theorem dX9_isSo_101 : decode cX9_isSo 101 = .ok (.ifCond .ne 7, 3) := by decide +kernel
theorem dX9_isSo_104 : decode cX9_isSo 104 = .ok (.iconst 1, 1) := by decide +kernel
theorem dX9_isSo_105 : decode cX9_isSo 105 = .ok (.goto 4, 3) := by decide +kernel
theorem dX9_isSo_108 : decode cX9_isSo 108 = .ok (.iconst 0, 1) := by decide +kernel
theorem dX9_isSo_109 : decode cX9_isSo 109 = .ok (.ireturn, 1) := by decide +kernel
theorem dX9_isSo_110 : decode cX9_isSo 110 = .ok (.iconst 1, 1) := by decide +kernel
theorem dX9_isSo_111 : decode cX9_isSo 111 = .ok (.ireturn, 1) := by decide +kernel
theorem dX9_isTold_0 : decode cX9_isTold 0 = .ok (.aload_n 0, 1) := by decide +kernel
theorem dX9_isTold_1 : decode cX9_isTold 1 = .ok (.aload_n 0, 1) := by decide +kernel
theorem dX9_isTold_2 : decode cX9_isTold 2 = .ok (.getfield 35, 3) := by decide +kernel
theorem dX9_isTold_5 : decode cX9_isTold 5 = .ok (.iload_n 1, 1) := by decide +kernel
theorem dX9_isTold_6 : decode cX9_isTold 6 = .ok (.iaload, 1) := by decide +kernel
theorem dX9_isTold_7 : decode cX9_isTold 7 = .ok (.invokevirtual 200, 3) := by decide +kernel
theorem dX9_isTold_10 : decode cX9_isTold 10 = .ok (.istore_n 2, 1) := by decide +kernel
theorem dX9_isTold_11 : decode cX9_isTold 11 = .ok (.iconst 0, 1) := by decide +kernel
theorem dX9_isTold_12 : decode cX9_isTold 12 = .ok (.istore_n 3, 1) := by decide +kernel
theorem dX9_isTold_13 : decode cX9_isTold 13 = .ok (.iload_n 3, 1) := by decide +kernel
theorem dX9_isTold_14 : decode cX9_isTold 14 = .ok (.iconst 4, 1) := by decide +kernel
theorem dX9_isTold_15 : decode cX9_isTold 15 = .ok (.if_icmp .ge 40, 3) := by decide +kernel
theorem dX9_isTold_18 : decode cX9_isTold 18 = .ok (.iload_n 2, 1) := by decide +kernel
theorem dX9_isTold_19 : decode cX9_isTold 19 = .ok (.ifCond .eq 28, 3) := by decide +kernel
theorem dX9_isTold_22 : decode cX9_isTold 22 = .ok (.aload_n 0, 1) := by decide +kernel
theorem dX9_isTold_23 : decode cX9_isTold 23 = .ok (.getfield 35, 3) := by decide +kernel
theorem dX9_isTold_26 : decode cX9_isTold 26 = .ok (.iload_n 1, 1) := by decide +kernel
theorem dX9_isTold_27 : decode cX9_isTold 27 = .ok (.iconst 1, 1) := by decide +kernel
theorem dX9_isTold_28 : decode cX9_isTold 28 = .ok (.iadd, 1) := by decide +kernel
theorem dX9_isTold_29 : decode cX9_isTold 29 = .ok (.iload_n 3, 1) := by decide +kernel
theorem dX9_isTold_30 : decode cX9_isTold 30 = .ok (.iadd, 1) := by decide +kernel
theorem dX9_isTold_31 : decode cX9_isTold 31 = .ok (.iaload, 1) := by decide +kernel
theorem dX9_isTold_32 : decode cX9_isTold 32 = .ok (.i2l, 1) := by decide +kernel
theorem dX9_isTold_33 : decode cX9_isTold 33 = .ok (.lconst 0, 1) := by decide +kernel
theorem dX9_isTold_34 : decode cX9_isTold 34 = .ok (.ldc2_w 198, 3) := by decide +kernel
theorem dX9_isTold_37 : decode cX9_isTold 37 = .ok (.invokestatic 185, 3) := by decide +kernel
theorem dX9_isTold_40 : decode cX9_isTold 40 = .ok (.ifCond .eq 7, 3) := by decide +kernel
theorem dX9_isTold_43 : decode cX9_isTold 43 = .ok (.iconst 1, 1) := by decide +kernel
theorem dX9_isTold_44 : decode cX9_isTold 44 = .ok (.goto 4, 3) := by decide +kernel
theorem dX9_isTold_47 : decode cX9_isTold 47 = .ok (.iconst 0, 1) := by decide +kernel
theorem dX9_isTold_48 : decode cX9_isTold 48 = .ok (.istore_n 2, 1) := by decide +kernel
theorem dX9_isTold_49 : decode cX9_isTold 49 = .ok (.iinc 3 1, 3) := by decide +kernel
theorem dX9_isTold_52 : decode cX9_isTold 52 = .ok (.goto (-39), 3) := by decide +kernel
theorem dX9_isTold_55 : decode cX9_isTold 55 = .ok (.iload_n 2, 1) := by decide +kernel
theorem dX9_isTold_56 : decode cX9_isTold 56 = .ok (.ireturn, 1) := by decide +kernel
theorem dX9_isWord_0 : decode cX9_isWord 0 = .ok (.aload_n 0, 1) := by decide +kernel
theorem dX9_isWord_1 : decode cX9_isWord 1 = .ok (.getfield 266, 3) := by decide +kernel
theorem dX9_isWord_4 : decode cX9_isWord 4 = .ok (.iconst 1, 1) := by decide +kernel
theorem dX9_isWord_5 : decode cX9_isWord 5 = .ok (.if_icmp .ne 16, 3) := by decide +kernel
theorem dX9_isWord_8 : decode cX9_isWord 8 = .ok (.aload_n 0, 1) := by decide +kernel
theorem dX9_isWord_9 : decode cX9_isWord 9 = .ok (.getfield 256, 3) := by decide +kernel
theorem dX9_isWord_12 : decode cX9_isWord 12 = .ok (.lload_n 1, 1) := by decide +kernel
theorem dX9_isWord_13 : decode cX9_isWord 13 = .ok (.lcmp, 1) := by decide +kernel
theorem dX9_isWord_14 : decode cX9_isWord 14 = .ok (.ifCond .ne 7, 3) := by decide +kernel
theorem dX9_isWord_17 : decode cX9_isWord 17 = .ok (.iconst 1, 1) := by decide +kernel
theorem dX9_isWord_18 : decode cX9_isWord 18 = .ok (.goto 4, 3) := by decide +kernel
theorem dX9_isWord_21 : decode cX9_isWord 21 = .ok (.iconst 0, 1) := by decide +kernel
theorem dX9_isWord_22 : decode cX9_isWord 22 = .ok (.ireturn, 1) := by decide +kernel
theorem dX9_keepAll_0 : decode cX9_keepAll 0 = .ok (.iconst 0, 1) := by decide +kernel
theorem dX9_keepAll_1 : decode cX9_keepAll 1 = .ok (.istore_n 2, 1) := by decide +kernel
theorem dX9_keepAll_2 : decode cX9_keepAll 2 = .ok (.iload_n 2, 1) := by decide +kernel
theorem dX9_keepAll_3 : decode cX9_keepAll 3 = .ok (.bipush 25, 2) := by decide +kernel
theorem dX9_keepAll_5 : decode cX9_keepAll 5 = .ok (.if_icmp .ge 28, 3) := by decide +kernel
theorem dX9_keepAll_8 : decode cX9_keepAll 8 = .ok (.aload_n 0, 1) := by decide +kernel
theorem dX9_keepAll_9 : decode cX9_keepAll 9 = .ok (.getfield 23, 3) := by decide +kernel
theorem dX9_keepAll_12 : decode cX9_keepAll 12 = .ok (.bipush 25, 2) := by decide +kernel
theorem dX9_keepAll_14 : decode cX9_keepAll 14 = .ok (.iload_n 1, 1) := by decide +kernel
theorem dX9_keepAll_15 : decode cX9_keepAll 15 = .ok (.imul, 1) := by decide +kernel
theorem dX9_keepAll_16 : decode cX9_keepAll 16 = .ok (.iload_n 2, 1) := by decide +kernel
theorem dX9_keepAll_17 : decode cX9_keepAll 17 = .ok (.iadd, 1) := by decide +kernel
theorem dX9_keepAll_18 : decode cX9_keepAll 18 = .ok (.aload_n 0, 1) := by decide +kernel
theorem dX9_keepAll_19 : decode cX9_keepAll 19 = .ok (.getfield 13, 3) := by decide +kernel
theorem dX9_keepAll_22 : decode cX9_keepAll 22 = .ok (.iconst 4, 1) := by decide +kernel
theorem dX9_keepAll_23 : decode cX9_keepAll 23 = .ok (.iload_n 2, 1) := by decide +kernel
theorem dX9_keepAll_24 : decode cX9_keepAll 24 = .ok (.iadd, 1) := by decide +kernel
theorem dX9_keepAll_25 : decode cX9_keepAll 25 = .ok (.iaload, 1) := by decide +kernel
theorem dX9_keepAll_26 : decode cX9_keepAll 26 = .ok (.iastore, 1) := by decide +kernel
theorem dX9_keepAll_27 : decode cX9_keepAll 27 = .ok (.iinc 2 1, 3) := by decide +kernel
theorem dX9_keepAll_30 : decode cX9_keepAll 30 = .ok (.goto (-28), 3) := by decide +kernel
theorem dX9_keepAll_33 : decode cX9_keepAll 33 = .ok (.return_, 1) := by decide +kernel
theorem dX9_ladder_0 : decode cX9_ladder 0 = .ok (.aload_n 0, 1) := by decide +kernel
theorem dX9_ladder_1 : decode cX9_ladder 1 = .ok (.iconst 0, 1) := by decide +kernel
theorem dX9_ladder_2 : decode cX9_ladder 2 = .ok (.putfield 165, 3) := by decide +kernel
theorem dX9_ladder_5 : decode cX9_ladder 5 = .ok (.iload_n 1, 1) := by decide +kernel
theorem dX9_ladder_6 : decode cX9_ladder 6 = .ok (.i2l, 1) := by decide +kernel
theorem dX9_ladder_7 : decode cX9_ladder 7 = .ok (.lconst 1, 1) := by decide +kernel
theorem dX9_ladder_8 : decode cX9_ladder 8 = .ok (.ldc2_w 507, 3) := by decide +kernel
theorem dX9_ladder_11 : decode cX9_ladder 11 = .ok (.invokestatic 185, 3) := by decide +kernel
theorem dX9_ladder_14 : decode cX9_ladder 14 = .ok (.ifCond .eq 15, 3) := by decide +kernel
theorem dX9_ladder_17 : decode cX9_ladder 17 = .ok (.iload_n 2, 1) := by decide +kernel
theorem dX9_ladder_18 : decode cX9_ladder 18 = .ok (.i2l, 1) := by decide +kernel
theorem dX9_ladder_19 : decode cX9_ladder 19 = .ok (.lconst 1, 1) := by decide +kernel
theorem dX9_ladder_20 : decode cX9_ladder 20 = .ok (.ldc2_w 509, 3) := by decide +kernel
theorem dX9_ladder_23 : decode cX9_ladder 23 = .ok (.invokestatic 185, 3) := by decide +kernel
theorem dX9_ladder_26 : decode cX9_ladder 26 = .ok (.ifCond .ne 7, 3) := by decide +kernel
theorem dX9_ladder_29 : decode cX9_ladder 29 = .ok (.ldc2_w 273, 3) := by decide +kernel
theorem dX9_ladder_32 : decode cX9_ladder 32 = .ok (.lreturn, 1) := by decide +kernel
theorem dX9_ladder_33 : decode cX9_ladder 33 = .ok (.aload_n 0, 1) := by decide +kernel
theorem dX9_ladder_34 : decode cX9_ladder 34 = .ok (.getfield 138, 3) := by decide +kernel
theorem dX9_ladder_37 : decode cX9_ladder 37 = .ok (.iconst 0, 1) := by decide +kernel
theorem dX9_ladder_38 : decode cX9_ladder 38 = .ok (.lconst 1, 1) := by decide +kernel
theorem dX9_ladder_39 : decode cX9_ladder 39 = .ok (.lastore, 1) := by decide +kernel
theorem dX9_ladder_40 : decode cX9_ladder 40 = .ok (.iconst 1, 1) := by decide +kernel
theorem dX9_ladder_41 : decode cX9_ladder 41 = .ok (.istore_n 3, 1) := by decide +kernel
theorem dX9_ladder_42 : decode cX9_ladder 42 = .ok (.iload_n 3, 1) := by decide +kernel
theorem dX9_ladder_43 : decode cX9_ladder 43 = .ok (.iload_n 1, 1) := by decide +kernel
theorem dX9_ladder_44 : decode cX9_ladder 44 = .ok (.if_icmp .gt 60, 3) := by decide +kernel
theorem dX9_ladder_47 : decode cX9_ladder 47 = .ok (.aload_n 0, 1) := by decide +kernel
theorem dX9_ladder_48 : decode cX9_ladder 48 = .ok (.getfield 138, 3) := by decide +kernel
theorem dX9_ladder_51 : decode cX9_ladder 51 = .ok (.iload_n 3, 1) := by decide +kernel
theorem dX9_ladder_52 : decode cX9_ladder 52 = .ok (.lconst 0, 1) := by decide +kernel
theorem dX9_ladder_53 : decode cX9_ladder 53 = .ok (.lastore, 1) := by decide +kernel
theorem dX9_ladder_54 : decode cX9_ladder 54 = .ok (.iconst 1, 1) := by decide +kernel
theorem dX9_ladder_55 : decode cX9_ladder 55 = .ok (.istore 4, 2) := by decide +kernel
theorem dX9_ladder_57 : decode cX9_ladder 57 = .ok (.iload 4, 2) := by decide +kernel
theorem dX9_ladder_59 : decode cX9_ladder 59 = .ok (.iload_n 2, 1) := by decide +kernel
theorem dX9_ladder_60 : decode cX9_ladder 60 = .ok (.if_icmp .gt 38, 3) := by decide +kernel
theorem dX9_ladder_63 : decode cX9_ladder 63 = .ok (.iload 4, 2) := by decide +kernel
theorem dX9_ladder_65 : decode cX9_ladder 65 = .ok (.iload_n 3, 1) := by decide +kernel
theorem dX9_ladder_66 : decode cX9_ladder 66 = .ok (.if_icmp .gt 32, 3) := by decide +kernel
theorem dX9_ladder_69 : decode cX9_ladder 69 = .ok (.iload_n 3, 1) := by decide +kernel
theorem dX9_ladder_70 : decode cX9_ladder 70 = .ok (.iconst 2, 1) := by decide +kernel
theorem dX9_ladder_71 : decode cX9_ladder 71 = .ok (.if_icmp .eq 27, 3) := by decide +kernel
theorem dX9_ladder_74 : decode cX9_ladder 74 = .ok (.aload_n 0, 1) := by decide +kernel
theorem dX9_ladder_75 : decode cX9_ladder 75 = .ok (.getfield 138, 3) := by decide +kernel
theorem dX9_ladder_78 : decode cX9_ladder 78 = .ok (.iload_n 3, 1) := by decide +kernel
theorem dX9_ladder_79 : decode cX9_ladder 79 = .ok (.dup2, 1) := by decide +kernel
theorem dX9_ladder_80 : decode cX9_ladder 80 = .ok (.laload, 1) := by decide +kernel
theorem dX9_ladder_81 : decode cX9_ladder 81 = .ok (.aload_n 0, 1) := by decide +kernel
theorem dX9_ladder_82 : decode cX9_ladder 82 = .ok (.getfield 138, 3) := by decide +kernel
theorem dX9_ladder_85 : decode cX9_ladder 85 = .ok (.iload_n 3, 1) := by decide +kernel
theorem dX9_ladder_86 : decode cX9_ladder 86 = .ok (.iload 4, 2) := by decide +kernel
theorem dX9_ladder_88 : decode cX9_ladder 88 = .ok (.isub, 1) := by decide +kernel
theorem dX9_ladder_89 : decode cX9_ladder 89 = .ok (.laload, 1) := by decide +kernel
theorem dX9_ladder_90 : decode cX9_ladder 90 = .ok (.ladd, 1) := by decide +kernel
theorem dX9_ladder_91 : decode cX9_ladder 91 = .ok (.lastore, 1) := by decide +kernel
theorem dX9_ladder_92 : decode cX9_ladder 92 = .ok (.iinc 4 1, 3) := by decide +kernel
theorem dX9_ladder_95 : decode cX9_ladder 95 = .ok (.goto (-38), 3) := by decide +kernel
theorem dX9_ladder_98 : decode cX9_ladder 98 = .ok (.iinc 3 1, 3) := by decide +kernel
theorem dX9_ladder_101 : decode cX9_ladder 101 = .ok (.goto (-59), 3) := by decide +kernel
theorem dX9_ladder_104 : decode cX9_ladder 104 = .ok (.aload_n 0, 1) := by decide +kernel
theorem dX9_ladder_105 : decode cX9_ladder 105 = .ok (.getfield 138, 3) := by decide +kernel
theorem dX9_ladder_108 : decode cX9_ladder 108 = .ok (.iload_n 1, 1) := by decide +kernel
theorem dX9_ladder_109 : decode cX9_ladder 109 = .ok (.laload, 1) := by decide +kernel
theorem dX9_ladder_110 : decode cX9_ladder 110 = .ok (.lreturn, 1) := by decide +kernel
theorem dX9_law_0 : decode cX9_law 0 = .ok (.aload_n 0, 1) := by decide +kernel
theorem dX9_law_1 : decode cX9_law 1 = .ok (.iconst 0, 1) := by decide +kernel
theorem dX9_law_2 : decode cX9_law 2 = .ok (.putfield 165, 3) := by decide +kernel
theorem dX9_law_5 : decode cX9_law 5 = .ok (.aload_n 0, 1) := by decide +kernel
theorem dX9_law_6 : decode cX9_law 6 = .ok (.getfield 13, 3) := by decide +kernel
theorem dX9_law_9 : decode cX9_law 9 = .ok (.iconst 2, 1) := by decide +kernel
theorem dX9_law_10 : decode cX9_law 10 = .ok (.iaload, 1) := by decide +kernel
theorem dX9_law_11 : decode cX9_law 11 = .ok (.bipush 6, 2) := by decide +kernel
theorem dX9_law_13 : decode cX9_law 13 = .ok (.if_icmp .ne 15, 3) := by decide +kernel
theorem dX9_law_16 : decode cX9_law 16 = .ok (.aload_n 0, 1) := by decide +kernel
theorem dX9_law_17 : decode cX9_law 17 = .ok (.iconst 0, 1) := by decide +kernel
theorem dX9_law_18 : decode cX9_law 18 = .ok (.putfield 231, 3) := by decide +kernel
theorem dX9_law_21 : decode cX9_law 21 = .ok (.aload_n 0, 1) := by decide +kernel
theorem dX9_law_22 : decode cX9_law 22 = .ok (.bipush (-5), 2) := by decide +kernel
theorem dX9_law_24 : decode cX9_law 24 = .ok (.invokevirtual 174, 3) := by decide +kernel
theorem dX9_law_27 : decode cX9_law 27 = .ok (.ireturn, 1) := by decide +kernel
theorem dX9_law_28 : decode cX9_law 28 = .ok (.aload_n 0, 1) := by decide +kernel
theorem dX9_law_29 : decode cX9_law 29 = .ok (.iconst 0, 1) := by decide +kernel
theorem dX9_law_30 : decode cX9_law 30 = .ok (.invokevirtual 385, 3) := by decide +kernel
theorem dX9_law_33 : decode cX9_law 33 = .ok (.aload_n 0, 1) := by decide +kernel
theorem dX9_law_34 : decode cX9_law 34 = .ok (.invokevirtual 388, 3) := by decide +kernel
theorem dX9_law_37 : decode cX9_law 37 = .ok (.aload_n 0, 1) := by decide +kernel
theorem dX9_law_38 : decode cX9_law 38 = .ok (.getfield 246, 3) := by decide +kernel
theorem dX9_law_41 : decode cX9_law 41 = .ok (.ifCond .ne 23, 3) := by decide +kernel
theorem dX9_law_44 : decode cX9_law 44 = .ok (.aload_n 0, 1) := by decide +kernel
theorem dX9_law_45 : decode cX9_law 45 = .ok (.bipush 59, 2) := by decide +kernel
theorem dX9_law_47 : decode cX9_law 47 = .ok (.invokevirtual 317, 3) := by decide +kernel
theorem dX9_law_50 : decode cX9_law 50 = .ok (.ifCond .eq 14, 3) := by decide +kernel
theorem dX9_law_53 : decode cX9_law 53 = .ok (.aload_n 0, 1) := by decide +kernel
theorem dX9_law_54 : decode cX9_law 54 = .ok (.invokevirtual 250, 3) := by decide +kernel
theorem dX9_law_57 : decode cX9_law 57 = .ok (.aload_n 0, 1) := by decide +kernel
theorem dX9_law_58 : decode cX9_law 58 = .ok (.invokevirtual 388, 3) := by decide +kernel
theorem dX9_law_61 : decode cX9_law 61 = .ok (.goto (-24), 3) := by decide +kernel
theorem dX9_law_64 : decode cX9_law 64 = .ok (.aload_n 0, 1) := by decide +kernel
theorem dX9_law_65 : decode cX9_law 65 = .ok (.invokevirtual 391, 3) := by decide +kernel
theorem dX9_law_68 : decode cX9_law 68 = .ok (.aload_n 0, 1) := by decide +kernel
theorem dX9_law_69 : decode cX9_law 69 = .ok (.getfield 246, 3) := by decide +kernel
theorem dX9_law_72 : decode cX9_law 72 = .ok (.ifCond .eq 10, 3) := by decide +kernel
theorem dX9_law_75 : decode cX9_law 75 = .ok (.aload_n 0, 1) := by decide +kernel
theorem dX9_law_76 : decode cX9_law 76 = .ok (.bipush (-6), 2) := by decide +kernel
theorem dX9_law_78 : decode cX9_law 78 = .ok (.invokevirtual 174, 3) := by decide +kernel
theorem dX9_law_81 : decode cX9_law 81 = .ok (.ireturn, 1) := by decide +kernel
theorem dX9_law_82 : decode cX9_law 82 = .ok (.bipush 84, 2) := by decide +kernel
theorem dX9_law_84 : decode cX9_law 84 = .ok (.sipush 900, 3) := by decide +kernel
theorem dX9_law_87 : decode cX9_law 87 = .ok (.aload_n 0, 1) := by decide +kernel
theorem dX9_law_88 : decode cX9_law 88 = .ok (.getfield 13, 3) := by decide +kernel
theorem dX9_law_91 : decode cX9_law 91 = .ok (.iconst 2, 1) := by decide +kernel
theorem dX9_law_92 : decode cX9_law 92 = .ok (.iaload, 1) := by decide +kernel
theorem dX9_law_93 : decode cX9_law 93 = .ok (.imul, 1) := by decide +kernel
theorem dX9_law_94 : decode cX9_law 94 = .ok (.iadd, 1) := by decide +kernel
theorem dX9_law_95 : decode cX9_law 95 = .ok (.istore_n 1, 1) := by decide +kernel
theorem dX9_law_96 : decode cX9_law 96 = .ok (.aload_n 0, 1) := by decide +kernel
theorem dX9_law_97 : decode cX9_law 97 = .ok (.getfield 13, 3) := by decide +kernel
theorem dX9_law_100 : decode cX9_law 100 = .ok (.iload_n 1, 1) := by decide +kernel
theorem dX9_law_101 : decode cX9_law 101 = .ok (.iconst 1, 1) := by decide +kernel
theorem dX9_law_102 : decode cX9_law 102 = .ok (.iadd, 1) := by decide +kernel
theorem dX9_law_103 : decode cX9_law 103 = .ok (.aload_n 0, 1) := by decide +kernel
theorem dX9_law_104 : decode cX9_law 104 = .ok (.getfield 377, 3) := by decide +kernel
theorem dX9_law_107 : decode cX9_law 107 = .ok (.iastore, 1) := by decide +kernel
theorem dX9_law_108 : decode cX9_law 108 = .ok (.iconst 0, 1) := by decide +kernel
theorem dX9_law_109 : decode cX9_law 109 = .ok (.istore_n 2, 1) := by decide +kernel
theorem dX9_law_110 : decode cX9_law 110 = .ok (.iload_n 2, 1) := by decide +kernel
theorem dX9_law_111 : decode cX9_law 111 = .ok (.bipush 8, 2) := by decide +kernel
theorem dX9_law_113 : decode cX9_law 113 = .ok (.aload_n 0, 1) := by decide +kernel
theorem dX9_law_114 : decode cX9_law 114 = .ok (.getfield 377, 3) := by decide +kernel
theorem dX9_law_117 : decode cX9_law 117 = .ok (.imul, 1) := by decide +kernel
theorem dX9_law_118 : decode cX9_law 118 = .ok (.if_icmp .ge 25, 3) := by decide +kernel
theorem dX9_law_121 : decode cX9_law 121 = .ok (.aload_n 0, 1) := by decide +kernel
theorem dX9_law_122 : decode cX9_law 122 = .ok (.getfield 13, 3) := by decide +kernel
theorem dX9_law_125 : decode cX9_law 125 = .ok (.iload_n 1, 1) := by decide +kernel
theorem dX9_law_126 : decode cX9_law 126 = .ok (.iconst 2, 1) := by decide +kernel
theorem dX9_law_127 : decode cX9_law 127 = .ok (.iadd, 1) := by decide +kernel
theorem dX9_law_128 : decode cX9_law 128 = .ok (.iload_n 2, 1) := by decide +kernel
theorem dX9_law_129 : decode cX9_law 129 = .ok (.iadd, 1) := by decide +kernel
theorem dX9_law_130 : decode cX9_law 130 = .ok (.aload_n 0, 1) := by decide +kernel
theorem dX9_law_131 : decode cX9_law 131 = .ok (.getfield 42, 3) := by decide +kernel
theorem dX9_law_134 : decode cX9_law 134 = .ok (.iload_n 2, 1) := by decide +kernel
theorem dX9_law_135 : decode cX9_law 135 = .ok (.iaload, 1) := by decide +kernel
theorem dX9_law_136 : decode cX9_law 136 = .ok (.iastore, 1) := by decide +kernel
theorem dX9_law_137 : decode cX9_law 137 = .ok (.iinc 2 1, 3) := by decide +kernel
theorem dX9_law_140 : decode cX9_law 140 = .ok (.goto (-30), 3) := by decide +kernel
theorem dX9_law_143 : decode cX9_law 143 = .ok (.iconst 0, 1) := by decide +kernel
theorem dX9_law_144 : decode cX9_law 144 = .ok (.istore_n 2, 1) := by decide +kernel
theorem dX9_law_145 : decode cX9_law 145 = .ok (.iload_n 2, 1) := by decide +kernel
theorem dX9_law_146 : decode cX9_law 146 = .ok (.aload_n 0, 1) := by decide +kernel
theorem dX9_law_147 : decode cX9_law 147 = .ok (.getfield 283, 3) := by decide +kernel
theorem dX9_law_150 : decode cX9_law 150 = .ok (.if_icmp .ge 49, 3) := by decide +kernel
theorem dX9_law_153 : decode cX9_law 153 = .ok (.aload_n 0, 1) := by decide +kernel
theorem dX9_law_154 : decode cX9_law 154 = .ok (.getfield 13, 3) := by decide +kernel
theorem dX9_law_157 : decode cX9_law 157 = .ok (.iload_n 1, 1) := by decide +kernel
theorem dX9_law_158 : decode cX9_law 158 = .ok (.bipush 98, 2) := by decide +kernel
theorem dX9_law_160 : decode cX9_law 160 = .ok (.iadd, 1) := by decide +kernel
theorem dX9_law_161 : decode cX9_law 161 = .ok (.iconst 2, 1) := by decide +kernel
theorem dX9_law_162 : decode cX9_law 162 = .ok (.iload_n 2, 1) := by decide +kernel
theorem dX9_law_163 : decode cX9_law 163 = .ok (.imul, 1) := by decide +kernel
theorem dX9_law_164 : decode cX9_law 164 = .ok (.iadd, 1) := by decide +kernel
theorem dX9_law_165 : decode cX9_law 165 = .ok (.aload_n 0, 1) := by decide +kernel
theorem dX9_law_166 : decode cX9_law 166 = .ok (.getfield 45, 3) := by decide +kernel
theorem dX9_law_169 : decode cX9_law 169 = .ok (.iload_n 2, 1) := by decide +kernel
theorem dX9_law_170 : decode cX9_law 170 = .ok (.iaload, 1) := by decide +kernel
theorem dX9_law_171 : decode cX9_law 171 = .ok (.iastore, 1) := by decide +kernel
theorem dX9_law_172 : decode cX9_law 172 = .ok (.aload_n 0, 1) := by decide +kernel
theorem dX9_law_173 : decode cX9_law 173 = .ok (.getfield 13, 3) := by decide +kernel
theorem dX9_law_176 : decode cX9_law 176 = .ok (.iload_n 1, 1) := by decide +kernel
theorem dX9_law_177 : decode cX9_law 177 = .ok (.bipush 98, 2) := by decide +kernel
theorem dX9_law_179 : decode cX9_law 179 = .ok (.iadd, 1) := by decide +kernel
theorem dX9_law_180 : decode cX9_law 180 = .ok (.iconst 2, 1) := by decide +kernel
theorem dX9_law_181 : decode cX9_law 181 = .ok (.iload_n 2, 1) := by decide +kernel
theorem dX9_law_182 : decode cX9_law 182 = .ok (.imul, 1) := by decide +kernel
theorem dX9_law_183 : decode cX9_law 183 = .ok (.iadd, 1) := by decide +kernel
theorem dX9_law_184 : decode cX9_law 184 = .ok (.iconst 1, 1) := by decide +kernel
theorem dX9_law_185 : decode cX9_law 185 = .ok (.iadd, 1) := by decide +kernel
theorem dX9_law_186 : decode cX9_law 186 = .ok (.aload_n 0, 1) := by decide +kernel
theorem dX9_law_187 : decode cX9_law 187 = .ok (.getfield 48, 3) := by decide +kernel
theorem dX9_law_190 : decode cX9_law 190 = .ok (.iload_n 2, 1) := by decide +kernel
theorem dX9_law_191 : decode cX9_law 191 = .ok (.iaload, 1) := by decide +kernel
theorem dX9_law_192 : decode cX9_law 192 = .ok (.iastore, 1) := by decide +kernel
theorem dX9_law_193 : decode cX9_law 193 = .ok (.iinc 2 1, 3) := by decide +kernel
theorem dX9_law_196 : decode cX9_law 196 = .ok (.goto (-51), 3) := by decide +kernel
theorem dX9_law_199 : decode cX9_law 199 = .ok (.aload_n 0, 1) := by decide +kernel
theorem dX9_law_200 : decode cX9_law 200 = .ok (.getfield 13, 3) := by decide +kernel
theorem dX9_law_203 : decode cX9_law 203 = .ok (.iconst 2, 1) := by decide +kernel
theorem dX9_law_204 : decode cX9_law 204 = .ok (.dup2, 1) := by decide +kernel
theorem dX9_law_205 : decode cX9_law 205 = .ok (.iaload, 1) := by decide +kernel
theorem dX9_law_206 : decode cX9_law 206 = .ok (.iconst 1, 1) := by decide +kernel
theorem dX9_law_207 : decode cX9_law 207 = .ok (.iadd, 1) := by decide +kernel
theorem dX9_law_208 : decode cX9_law 208 = .ok (.iastore, 1) := by decide +kernel
theorem dX9_law_209 : decode cX9_law 209 = .ok (.aload_n 0, 1) := by decide +kernel
theorem dX9_law_210 : decode cX9_law 210 = .ok (.aload_n 0, 1) := by decide +kernel
theorem dX9_law_211 : decode cX9_law 211 = .ok (.getfield 13, 3) := by decide +kernel
theorem dX9_law_214 : decode cX9_law 214 = .ok (.iconst 2, 1) := by decide +kernel
theorem dX9_law_215 : decode cX9_law 215 = .ok (.iaload, 1) := by decide +kernel
theorem dX9_law_216 : decode cX9_law 216 = .ok (.iconst 1, 1) := by decide +kernel
theorem dX9_law_217 : decode cX9_law 217 = .ok (.isub, 1) := by decide +kernel
theorem dX9_law_218 : decode cX9_law 218 = .ok (.invokevirtual 174, 3) := by decide +kernel
theorem dX9_law_221 : decode cX9_law 221 = .ok (.ireturn, 1) := by decide +kernel
theorem dX9_layLeft_0 : decode cX9_layLeft 0 = .ok (.iconst 1, 1) := by decide +kernel
theorem dX9_layLeft_1 : decode cX9_layLeft 1 = .ok (.aload_n 0, 1) := by decide +kernel
theorem dX9_layLeft_2 : decode cX9_layLeft 2 = .ok (.getfield 13, 3) := by decide +kernel
theorem dX9_layLeft_5 : decode cX9_layLeft 5 = .ok (.iconst 0, 1) := by decide +kernel
theorem dX9_layLeft_6 : decode cX9_layLeft 6 = .ok (.iaload, 1) := by decide +kernel
theorem dX9_layLeft_7 : decode cX9_layLeft 7 = .ok (.ishl, 1) := by decide +kernel
theorem dX9_layLeft_8 : decode cX9_layLeft 8 = .ok (.iconst 1, 1) := by decide +kernel
theorem dX9_layLeft_9 : decode cX9_layLeft 9 = .ok (.isub, 1) := by decide +kernel
theorem dX9_layLeft_10 : decode cX9_layLeft 10 = .ok (.istore_n 1, 1) := by decide +kernel
theorem dX9_layLeft_11 : decode cX9_layLeft 11 = .ok (.aload_n 0, 1) := by decide +kernel
theorem dX9_layLeft_12 : decode cX9_layLeft 12 = .ok (.getfield 120, 3) := by decide +kernel
theorem dX9_layLeft_15 : decode cX9_layLeft 15 = .ok (.iload_n 1, 1) := by decide +kernel
theorem dX9_layLeft_16 : decode cX9_layLeft 16 = .ok (.iconst 0, 1) := by decide +kernel
theorem dX9_layLeft_17 : decode cX9_layLeft 17 = .ok (.iastore, 1) := by decide +kernel
theorem dX9_layLeft_18 : decode cX9_layLeft 18 = .ok (.iload_n 1, 1) := by decide +kernel
theorem dX9_layLeft_19 : decode cX9_layLeft 19 = .ok (.iconst 1, 1) := by decide +kernel
theorem dX9_layLeft_20 : decode cX9_layLeft 20 = .ok (.isub, 1) := by decide +kernel
theorem dX9_layLeft_21 : decode cX9_layLeft 21 = .ok (.istore_n 2, 1) := by decide +kernel
theorem dX9_layLeft_22 : decode cX9_layLeft 22 = .ok (.iload_n 2, 1) := by decide +kernel
theorem dX9_layLeft_23 : decode cX9_layLeft 23 = .ok (.ifCond .lt 72, 3) := by decide +kernel
theorem dX9_layLeft_26 : decode cX9_layLeft 26 = .ok (.aload_n 0, 1) := by decide +kernel
theorem dX9_layLeft_27 : decode cX9_layLeft 27 = .ok (.getfield 120, 3) := by decide +kernel
theorem dX9_layLeft_30 : decode cX9_layLeft 30 = .ok (.iload_n 2, 1) := by decide +kernel
theorem dX9_layLeft_31 : decode cX9_layLeft 31 = .ok (.ldc_w 476, 3) := by decide +kernel
theorem dX9_layLeft_34 : decode cX9_layLeft 34 = .ok (.iastore, 1) := by decide +kernel
theorem dX9_layLeft_35 : decode cX9_layLeft 35 = .ok (.iconst 0, 1) := by decide +kernel
theorem dX9_layLeft_36 : decode cX9_layLeft 36 = .ok (.istore_n 3, 1) := by decide +kernel
theorem dX9_layLeft_37 : decode cX9_layLeft 37 = .ok (.iload_n 3, 1) := by decide +kernel
theorem dX9_layLeft_38 : decode cX9_layLeft 38 = .ok (.aload_n 0, 1) := by decide +kernel
theorem dX9_layLeft_39 : decode cX9_layLeft 39 = .ok (.getfield 13, 3) := by decide +kernel
theorem dX9_layLeft_42 : decode cX9_layLeft 42 = .ok (.iconst 0, 1) := by decide +kernel
theorem dX9_layLeft_43 : decode cX9_layLeft 43 = .ok (.iaload, 1) := by decide +kernel
theorem dX9_layLeft_44 : decode cX9_layLeft 44 = .ok (.if_icmp .ge 45, 3) := by decide +kernel
theorem dX9_layLeft_47 : decode cX9_layLeft 47 = .ok (.aload_n 0, 1) := by decide +kernel
theorem dX9_layLeft_48 : decode cX9_layLeft 48 = .ok (.iload_n 2, 1) := by decide +kernel
theorem dX9_layLeft_49 : decode cX9_layLeft 49 = .ok (.iload_n 3, 1) := by decide +kernel
theorem dX9_layLeft_50 : decode cX9_layLeft 50 = .ok (.invokevirtual 486, 3) := by decide +kernel
theorem dX9_layLeft_53 : decode cX9_layLeft 53 = .ok (.istore 4, 2) := by decide +kernel
theorem dX9_layLeft_55 : decode cX9_layLeft 55 = .ok (.aload_n 0, 1) := by decide +kernel
theorem dX9_layLeft_56 : decode cX9_layLeft 56 = .ok (.getfield 120, 3) := by decide +kernel
theorem dX9_layLeft_59 : decode cX9_layLeft 59 = .ok (.iload_n 2, 1) := by decide +kernel
theorem dX9_layLeft_60 : decode cX9_layLeft 60 = .ok (.iload 4, 2) := by decide +kernel
theorem dX9_layLeft_62 : decode cX9_layLeft 62 = .ok (.aload_n 0, 1) := by decide +kernel
theorem dX9_layLeft_63 : decode cX9_layLeft 63 = .ok (.getfield 120, 3) := by decide +kernel
theorem dX9_layLeft_66 : decode cX9_layLeft 66 = .ok (.iload_n 2, 1) := by decide +kernel
theorem dX9_layLeft_67 : decode cX9_layLeft 67 = .ok (.iaload, 1) := by decide +kernel
theorem dX9_layLeft_68 : decode cX9_layLeft 68 = .ok (.if_icmp .ge 8, 3) := by decide +kernel
theorem dX9_layLeft_71 : decode cX9_layLeft 71 = .ok (.iload 4, 2) := by decide +kernel
theorem dX9_layLeft_73 : decode cX9_layLeft 73 = .ok (.goto 9, 3) := by decide +kernel
theorem dX9_layLeft_76 : decode cX9_layLeft 76 = .ok (.aload_n 0, 1) := by decide +kernel
theorem dX9_layLeft_77 : decode cX9_layLeft 77 = .ok (.getfield 120, 3) := by decide +kernel
theorem dX9_layLeft_80 : decode cX9_layLeft 80 = .ok (.iload_n 2, 1) := by decide +kernel
theorem dX9_layLeft_81 : decode cX9_layLeft 81 = .ok (.iaload, 1) := by decide +kernel
theorem dX9_layLeft_82 : decode cX9_layLeft 82 = .ok (.iastore, 1) := by decide +kernel
theorem dX9_layLeft_83 : decode cX9_layLeft 83 = .ok (.iinc 3 1, 3) := by decide +kernel
theorem dX9_layLeft_86 : decode cX9_layLeft 86 = .ok (.goto (-49), 3) := by decide +kernel
theorem dX9_layLeft_89 : decode cX9_layLeft 89 = .ok (.iinc 2 (-1), 3) := by decide +kernel
theorem dX9_layLeft_92 : decode cX9_layLeft 92 = .ok (.goto (-70), 3) := by decide +kernel
theorem dX9_layLeft_95 : decode cX9_layLeft 95 = .ok (.return_, 1) := by decide +kernel
theorem dX9_layLine_0 : decode cX9_layLine 0 = .ok (.iconst 0, 1) := by decide +kernel
theorem dX9_layLine_1 : decode cX9_layLine 1 = .ok (.istore_n 1, 1) := by decide +kernel
theorem dX9_layLine_2 : decode cX9_layLine 2 = .ok (.iconst 0, 1) := by decide +kernel
theorem dX9_layLine_3 : decode cX9_layLine 3 = .ok (.istore_n 2, 1) := by decide +kernel
theorem dX9_layLine_4 : decode cX9_layLine 4 = .ok (.aload_n 0, 1) := by decide +kernel
theorem dX9_layLine_5 : decode cX9_layLine 5 = .ok (.getfield 13, 3) := by decide +kernel
theorem dX9_layLine_8 : decode cX9_layLine 8 = .ok (.iconst 0, 1) := by decide +kernel
theorem dX9_layLine_9 : decode cX9_layLine 9 = .ok (.iaload, 1) := by decide +kernel
theorem dX9_layLine_10 : decode cX9_layLine 10 = .ok (.iconst 1, 1) := by decide +kernel
theorem dX9_layLine_11 : decode cX9_layLine 11 = .ok (.isub, 1) := by decide +kernel
theorem dX9_layLine_12 : decode cX9_layLine 12 = .ok (.istore_n 3, 1) := by decide +kernel
theorem dX9_layLine_13 : decode cX9_layLine 13 = .ok (.iload_n 3, 1) := by decide +kernel
theorem dX9_layLine_14 : decode cX9_layLine 14 = .ok (.ifCond .lt 32, 3) := by decide +kernel
theorem dX9_layLine_17 : decode cX9_layLine 17 = .ok (.aload_n 0, 1) := by decide +kernel
theorem dX9_layLine_18 : decode cX9_layLine 18 = .ok (.getfield 13, 3) := by decide +kernel
theorem dX9_layLine_21 : decode cX9_layLine 21 = .ok (.bipush 29, 2) := by decide +kernel
theorem dX9_layLine_23 : decode cX9_layLine 23 = .ok (.iload_n 3, 1) := by decide +kernel
theorem dX9_layLine_24 : decode cX9_layLine 24 = .ok (.iadd, 1) := by decide +kernel
theorem dX9_layLine_25 : decode cX9_layLine 25 = .ok (.iaload, 1) := by decide +kernel
theorem dX9_layLine_26 : decode cX9_layLine 26 = .ok (.iconst (-1), 1) := by decide +kernel
theorem dX9_layLine_27 : decode cX9_layLine 27 = .ok (.if_icmp .ne 13, 3) := by decide +kernel
theorem dX9_layLine_30 : decode cX9_layLine 30 = .ok (.aload_n 0, 1) := by decide +kernel
theorem dX9_layLine_31 : decode cX9_layLine 31 = .ok (.getfield 132, 3) := by decide +kernel
theorem dX9_layLine_34 : decode cX9_layLine 34 = .ok (.iload_n 2, 1) := by decide +kernel
theorem dX9_layLine_35 : decode cX9_layLine 35 = .ok (.iload_n 3, 1) := by decide +kernel
theorem dX9_layLine_36 : decode cX9_layLine 36 = .ok (.iastore, 1) := by decide +kernel
theorem dX9_layLine_37 : decode cX9_layLine 37 = .ok (.iinc 2 1, 3) := by decide +kernel
theorem dX9_layLine_40 : decode cX9_layLine 40 = .ok (.iinc 3 (-1), 3) := by decide +kernel
theorem dX9_layLine_43 : decode cX9_layLine 43 = .ok (.goto (-30), 3) := by decide +kernel
theorem dX9_layLine_46 : decode cX9_layLine 46 = .ok (.iload_n 2, 1) := by decide +kernel
theorem dX9_layLine_47 : decode cX9_layLine 47 = .ok (.ifCond .le 82, 3) := by decide +kernel
theorem dX9_layLine_50 : decode cX9_layLine 50 = .ok (.iinc 2 (-1), 3) := by decide +kernel
theorem dX9_layLine_53 : decode cX9_layLine 53 = .ok (.aload_n 0, 1) := by decide +kernel
theorem dX9_layLine_54 : decode cX9_layLine 54 = .ok (.getfield 132, 3) := by decide +kernel
theorem dX9_layLine_57 : decode cX9_layLine 57 = .ok (.iload_n 2, 1) := by decide +kernel
theorem dX9_layLine_58 : decode cX9_layLine 58 = .ok (.iaload, 1) := by decide +kernel
theorem dX9_layLine_59 : decode cX9_layLine 59 = .ok (.istore_n 3, 1) := by decide +kernel
theorem dX9_layLine_60 : decode cX9_layLine 60 = .ok (.aload_n 0, 1) := by decide +kernel
theorem dX9_layLine_61 : decode cX9_layLine 61 = .ok (.iload_n 3, 1) := by decide +kernel
theorem dX9_layLine_62 : decode cX9_layLine 62 = .ok (.invokevirtual 501, 3) := by decide +kernel
theorem dX9_layLine_65 : decode cX9_layLine 65 = .ok (.iconst 1, 1) := by decide +kernel
theorem dX9_layLine_66 : decode cX9_layLine 66 = .ok (.if_icmp .eq 13, 3) := by decide +kernel
theorem dX9_layLine_69 : decode cX9_layLine 69 = .ok (.aload_n 0, 1) := by decide +kernel
theorem dX9_layLine_70 : decode cX9_layLine 70 = .ok (.getfield 135, 3) := by decide +kernel
theorem dX9_layLine_73 : decode cX9_layLine 73 = .ok (.iload_n 1, 1) := by decide +kernel
theorem dX9_layLine_74 : decode cX9_layLine 74 = .ok (.iload_n 3, 1) := by decide +kernel
theorem dX9_layLine_75 : decode cX9_layLine 75 = .ok (.iastore, 1) := by decide +kernel
theorem dX9_layLine_76 : decode cX9_layLine 76 = .ok (.iinc 1 1, 3) := by decide +kernel
theorem dX9_layLine_79 : decode cX9_layLine 79 = .ok (.aload_n 0, 1) := by decide +kernel
theorem dX9_layLine_80 : decode cX9_layLine 80 = .ok (.getfield 13, 3) := by decide +kernel
theorem dX9_layLine_83 : decode cX9_layLine 83 = .ok (.iconst 0, 1) := by decide +kernel
theorem dX9_layLine_84 : decode cX9_layLine 84 = .ok (.iaload, 1) := by decide +kernel
theorem dX9_layLine_85 : decode cX9_layLine 85 = .ok (.iconst 1, 1) := by decide +kernel
theorem dX9_layLine_86 : decode cX9_layLine 86 = .ok (.isub, 1) := by decide +kernel
theorem dX9_layLine_87 : decode cX9_layLine 87 = .ok (.istore 4, 2) := by decide +kernel
theorem dX9_layLine_89 : decode cX9_layLine 89 = .ok (.iload 4, 2) := by decide +kernel
theorem dX9_layLine_91 : decode cX9_layLine 91 = .ok (.iload_n 3, 1) := by decide +kernel
theorem dX9_layLine_92 : decode cX9_layLine 92 = .ok (.if_icmp .le 34, 3) := by decide +kernel
theorem dX9_layLine_95 : decode cX9_layLine 95 = .ok (.aload_n 0, 1) := by decide +kernel
theorem dX9_layLine_96 : decode cX9_layLine 96 = .ok (.getfield 13, 3) := by decide +kernel
theorem dX9_layLine_99 : decode cX9_layLine 99 = .ok (.bipush 29, 2) := by decide +kernel
theorem dX9_layLine_101 : decode cX9_layLine 101 = .ok (.iload 4, 2) := by decide +kernel
theorem dX9_layLine_103 : decode cX9_layLine 103 = .ok (.iadd, 1) := by decide +kernel
theorem dX9_layLine_104 : decode cX9_layLine 104 = .ok (.iaload, 1) := by decide +kernel
theorem dX9_layLine_105 : decode cX9_layLine 105 = .ok (.iload_n 3, 1) := by decide +kernel
theorem dX9_layLine_106 : decode cX9_layLine 106 = .ok (.if_icmp .ne 14, 3) := by decide +kernel
theorem dX9_layLine_109 : decode cX9_layLine 109 = .ok (.aload_n 0, 1) := by decide +kernel
theorem dX9_layLine_110 : decode cX9_layLine 110 = .ok (.getfield 132, 3) := by decide +kernel
theorem dX9_layLine_113 : decode cX9_layLine 113 = .ok (.iload_n 2, 1) := by decide +kernel
theorem dX9_layLine_114 : decode cX9_layLine 114 = .ok (.iload 4, 2) := by decide +kernel
theorem dX9_layLine_116 : decode cX9_layLine 116 = .ok (.iastore, 1) := by decide +kernel
theorem dX9_layLine_117 : decode cX9_layLine 117 = .ok (.iinc 2 1, 3) := by decide +kernel
theorem dX9_layLine_120 : decode cX9_layLine 120 = .ok (.iinc 4 (-1), 3) := by decide +kernel
theorem dX9_layLine_123 : decode cX9_layLine 123 = .ok (.goto (-34), 3) := by decide +kernel
theorem dX9_layLine_126 : decode cX9_layLine 126 = .ok (.goto (-80), 3) := by decide +kernel
theorem dX9_layLine_129 : decode cX9_layLine 129 = .ok (.iload_n 1, 1) := by decide +kernel
theorem dX9_layLine_130 : decode cX9_layLine 130 = .ok (.ireturn, 1) := by decide +kernel
theorem dX9_layPlaces_0 : decode cX9_layPlaces 0 = .ok (.aload_n 0, 1) := by decide +kernel
theorem dX9_layPlaces_1 : decode cX9_layPlaces 1 = .ok (.iconst 0, 1) := by decide +kernel
theorem dX9_layPlaces_2 : decode cX9_layPlaces 2 = .ok (.putfield 224, 3) := by decide +kernel
theorem dX9_layPlaces_5 : decode cX9_layPlaces 5 = .ok (.iconst 0, 1) := by decide +kernel
theorem dX9_layPlaces_6 : decode cX9_layPlaces 6 = .ok (.istore_n 2, 1) := by decide +kernel
theorem dX9_layPlaces_7 : decode cX9_layPlaces 7 = .ok (.iload_n 2, 1) := by decide +kernel
theorem dX9_layPlaces_8 : decode cX9_layPlaces 8 = .ok (.aload_n 0, 1) := by decide +kernel
theorem dX9_layPlaces_9 : decode cX9_layPlaces 9 = .ok (.getfield 13, 3) := by decide +kernel
theorem dX9_layPlaces_12 : decode cX9_layPlaces 12 = .ok (.iconst 0, 1) := by decide +kernel
theorem dX9_layPlaces_13 : decode cX9_layPlaces 13 = .ok (.iaload, 1) := by decide +kernel
theorem dX9_layPlaces_14 : decode cX9_layPlaces 14 = .ok (.if_icmp .ge 111, 3) := by decide +kernel
theorem dX9_layPlaces_17 : decode cX9_layPlaces 17 = .ok (.aload_n 0, 1) := by decide +kernel
theorem dX9_layPlaces_18 : decode cX9_layPlaces 18 = .ok (.getfield 13, 3) := by decide +kernel
theorem dX9_layPlaces_21 : decode cX9_layPlaces 21 = .ok (.bipush 22, 2) := by decide +kernel
theorem dX9_layPlaces_23 : decode cX9_layPlaces 23 = .ok (.iload_n 2, 1) := by decide +kernel
theorem dX9_layPlaces_24 : decode cX9_layPlaces 24 = .ok (.iadd, 1) := by decide +kernel
theorem dX9_layPlaces_25 : decode cX9_layPlaces 25 = .ok (.iaload, 1) := by decide +kernel
theorem dX9_layPlaces_26 : decode cX9_layPlaces 26 = .ok (.iconst 1, 1) := by decide +kernel
theorem dX9_layPlaces_27 : decode cX9_layPlaces 27 = .ok (.if_icmp .ne 92, 3) := by decide +kernel
theorem dX9_layPlaces_30 : decode cX9_layPlaces 30 = .ok (.aload_n 0, 1) := by decide +kernel
theorem dX9_layPlaces_31 : decode cX9_layPlaces 31 = .ok (.iload_n 2, 1) := by decide +kernel
theorem dX9_layPlaces_32 : decode cX9_layPlaces 32 = .ok (.iload_n 1, 1) := by decide +kernel
theorem dX9_layPlaces_33 : decode cX9_layPlaces 33 = .ok (.invokevirtual 209, 3) := by decide +kernel
theorem dX9_layPlaces_36 : decode cX9_layPlaces 36 = .ok (.ifCond .ne 83, 3) := by decide +kernel
theorem dX9_layPlaces_39 : decode cX9_layPlaces 39 = .ok (.aload_n 0, 1) := by decide +kernel
theorem dX9_layPlaces_40 : decode cX9_layPlaces 40 = .ok (.getfield 108, 3) := by decide +kernel
theorem dX9_layPlaces_43 : decode cX9_layPlaces 43 = .ok (.iload_n 2, 1) := by decide +kernel
theorem dX9_layPlaces_44 : decode cX9_layPlaces 44 = .ok (.aload_n 0, 1) := by decide +kernel
theorem dX9_layPlaces_45 : decode cX9_layPlaces 45 = .ok (.iload_n 2, 1) := by decide +kernel
theorem dX9_layPlaces_46 : decode cX9_layPlaces 46 = .ok (.iload_n 1, 1) := by decide +kernel
theorem dX9_layPlaces_47 : decode cX9_layPlaces 47 = .ok (.invokevirtual 206, 3) := by decide +kernel
theorem dX9_layPlaces_50 : decode cX9_layPlaces 50 = .ok (.iastore, 1) := by decide +kernel
theorem dX9_layPlaces_51 : decode cX9_layPlaces 51 = .ok (.aload_n 0, 1) := by decide +kernel
theorem dX9_layPlaces_52 : decode cX9_layPlaces 52 = .ok (.getfield 224, 3) := by decide +kernel
theorem dX9_layPlaces_55 : decode cX9_layPlaces 55 = .ok (.istore_n 3, 1) := by decide +kernel
theorem dX9_layPlaces_56 : decode cX9_layPlaces 56 = .ok (.iload_n 3, 1) := by decide +kernel
theorem dX9_layPlaces_57 : decode cX9_layPlaces 57 = .ok (.ifCond .le 45, 3) := by decide +kernel
theorem dX9_layPlaces_60 : decode cX9_layPlaces 60 = .ok (.aload_n 0, 1) := by decide +kernel
theorem dX9_layPlaces_61 : decode cX9_layPlaces 61 = .ok (.getfield 108, 3) := by decide +kernel
theorem dX9_layPlaces_64 : decode cX9_layPlaces 64 = .ok (.aload_n 0, 1) := by decide +kernel
theorem dX9_layPlaces_65 : decode cX9_layPlaces 65 = .ok (.getfield 111, 3) := by decide +kernel
theorem dX9_layPlaces_68 : decode cX9_layPlaces 68 = .ok (.iload_n 3, 1) := by decide +kernel
theorem dX9_layPlaces_69 : decode cX9_layPlaces 69 = .ok (.iconst 1, 1) := by decide +kernel
theorem dX9_layPlaces_70 : decode cX9_layPlaces 70 = .ok (.isub, 1) := by decide +kernel
theorem dX9_layPlaces_71 : decode cX9_layPlaces 71 = .ok (.iaload, 1) := by decide +kernel
theorem dX9_layPlaces_72 : decode cX9_layPlaces 72 = .ok (.iaload, 1) := by decide +kernel
theorem dX9_layPlaces_73 : decode cX9_layPlaces 73 = .ok (.aload_n 0, 1) := by decide +kernel
theorem dX9_layPlaces_74 : decode cX9_layPlaces 74 = .ok (.getfield 108, 3) := by decide +kernel
theorem dX9_layPlaces_77 : decode cX9_layPlaces 77 = .ok (.iload_n 2, 1) := by decide +kernel
theorem dX9_layPlaces_78 : decode cX9_layPlaces 78 = .ok (.iaload, 1) := by decide +kernel
theorem dX9_layPlaces_79 : decode cX9_layPlaces 79 = .ok (.if_icmp .ge 23, 3) := by decide +kernel
theorem dX9_layPlaces_82 : decode cX9_layPlaces 82 = .ok (.aload_n 0, 1) := by decide +kernel
theorem dX9_layPlaces_83 : decode cX9_layPlaces 83 = .ok (.getfield 111, 3) := by decide +kernel
theorem dX9_layPlaces_86 : decode cX9_layPlaces 86 = .ok (.iload_n 3, 1) := by decide +kernel
theorem dX9_layPlaces_87 : decode cX9_layPlaces 87 = .ok (.aload_n 0, 1) := by decide +kernel
theorem dX9_layPlaces_88 : decode cX9_layPlaces 88 = .ok (.getfield 111, 3) := by decide +kernel
theorem dX9_layPlaces_91 : decode cX9_layPlaces 91 = .ok (.iload_n 3, 1) := by decide +kernel
theorem dX9_layPlaces_92 : decode cX9_layPlaces 92 = .ok (.iconst 1, 1) := by decide +kernel
theorem dX9_layPlaces_93 : decode cX9_layPlaces 93 = .ok (.isub, 1) := by decide +kernel
theorem dX9_layPlaces_94 : decode cX9_layPlaces 94 = .ok (.iaload, 1) := by decide +kernel
theorem dX9_layPlaces_95 : decode cX9_layPlaces 95 = .ok (.iastore, 1) := by decide +kernel
theorem dX9_layPlaces_96 : decode cX9_layPlaces 96 = .ok (.iinc 3 (-1), 3) := by decide +kernel
theorem dX9_layPlaces_99 : decode cX9_layPlaces 99 = .ok (.goto (-43), 3) := by decide +kernel
theorem dX9_layPlaces_102 : decode cX9_layPlaces 102 = .ok (.aload_n 0, 1) := by decide +kernel
theorem dX9_layPlaces_103 : decode cX9_layPlaces 103 = .ok (.getfield 111, 3) := by decide +kernel
theorem dX9_layPlaces_106 : decode cX9_layPlaces 106 = .ok (.iload_n 3, 1) := by decide +kernel
theorem dX9_layPlaces_107 : decode cX9_layPlaces 107 = .ok (.iload_n 2, 1) := by decide +kernel
theorem dX9_layPlaces_108 : decode cX9_layPlaces 108 = .ok (.iastore, 1) := by decide +kernel
theorem dX9_layPlaces_109 : decode cX9_layPlaces 109 = .ok (.aload_n 0, 1) := by decide +kernel
theorem dX9_layPlaces_110 : decode cX9_layPlaces 110 = .ok (.dup, 1) := by decide +kernel
theorem dX9_layPlaces_111 : decode cX9_layPlaces 111 = .ok (.getfield 224, 3) := by decide +kernel
theorem dX9_layPlaces_114 : decode cX9_layPlaces 114 = .ok (.iconst 1, 1) := by decide +kernel
theorem dX9_layPlaces_115 : decode cX9_layPlaces 115 = .ok (.iadd, 1) := by decide +kernel
theorem dX9_layPlaces_116 : decode cX9_layPlaces 116 = .ok (.putfield 224, 3) := by decide +kernel
theorem dX9_layPlaces_119 : decode cX9_layPlaces 119 = .ok (.iinc 2 1, 3) := by decide +kernel
theorem dX9_layPlaces_122 : decode cX9_layPlaces 122 = .ok (.goto (-115), 3) := by decide +kernel
theorem dX9_layPlaces_125 : decode cX9_layPlaces 125 = .ok (.return_, 1) := by decide +kernel
theorem dX9_layRuns_0 : decode cX9_layRuns 0 = .ok (.iconst 0, 1) := by decide +kernel
theorem dX9_layRuns_1 : decode cX9_layRuns 1 = .ok (.istore_n 2, 1) := by decide +kernel
theorem dX9_layRuns_2 : decode cX9_layRuns 2 = .ok (.iload_n 2, 1) := by decide +kernel
theorem dX9_layRuns_3 : decode cX9_layRuns 3 = .ok (.aload_n 0, 1) := by decide +kernel
theorem dX9_layRuns_4 : decode cX9_layRuns 4 = .ok (.getfield 13, 3) := by decide +kernel
theorem dX9_layRuns_7 : decode cX9_layRuns 7 = .ok (.iconst 0, 1) := by decide +kernel
theorem dX9_layRuns_8 : decode cX9_layRuns 8 = .ok (.iaload, 1) := by decide +kernel
theorem dX9_layRuns_9 : decode cX9_layRuns 9 = .ok (.if_icmp .ge 33, 3) := by decide +kernel
theorem dX9_layRuns_12 : decode cX9_layRuns 12 = .ok (.aload_n 0, 1) := by decide +kernel
theorem dX9_layRuns_13 : decode cX9_layRuns 13 = .ok (.getfield 108, 3) := by decide +kernel
theorem dX9_layRuns_16 : decode cX9_layRuns 16 = .ok (.iload_n 2, 1) := by decide +kernel
theorem dX9_layRuns_17 : decode cX9_layRuns 17 = .ok (.aload_n 0, 1) := by decide +kernel
theorem dX9_layRuns_18 : decode cX9_layRuns 18 = .ok (.iload_n 2, 1) := by decide +kernel
theorem dX9_layRuns_19 : decode cX9_layRuns 19 = .ok (.iload_n 1, 1) := by decide +kernel
theorem dX9_layRuns_20 : decode cX9_layRuns 20 = .ok (.invokevirtual 206, 3) := by decide +kernel
theorem dX9_layRuns_23 : decode cX9_layRuns 23 = .ok (.iastore, 1) := by decide +kernel
theorem dX9_layRuns_24 : decode cX9_layRuns 24 = .ok (.aload_n 0, 1) := by decide +kernel
theorem dX9_layRuns_25 : decode cX9_layRuns 25 = .ok (.getfield 114, 3) := by decide +kernel
theorem dX9_layRuns_28 : decode cX9_layRuns 28 = .ok (.iload_n 2, 1) := by decide +kernel
theorem dX9_layRuns_29 : decode cX9_layRuns 29 = .ok (.aload_n 0, 1) := by decide +kernel
theorem dX9_layRuns_30 : decode cX9_layRuns 30 = .ok (.iload_n 2, 1) := by decide +kernel
theorem dX9_layRuns_31 : decode cX9_layRuns 31 = .ok (.iload_n 1, 1) := by decide +kernel
theorem dX9_layRuns_32 : decode cX9_layRuns 32 = .ok (.invokevirtual 209, 3) := by decide +kernel
theorem dX9_layRuns_35 : decode cX9_layRuns 35 = .ok (.bastore, 1) := by decide +kernel
theorem dX9_layRuns_36 : decode cX9_layRuns 36 = .ok (.iinc 2 1, 3) := by decide +kernel
theorem dX9_layRuns_39 : decode cX9_layRuns 39 = .ok (.goto (-37), 3) := by decide +kernel
theorem dX9_layRuns_42 : decode cX9_layRuns 42 = .ok (.return_, 1) := by decide +kernel
theorem dX9_leaf_0 : decode cX9_leaf 0 = .ok (.aload_n 0, 1) := by decide +kernel
theorem dX9_leaf_1 : decode cX9_leaf 1 = .ok (.iload_n 1, 1) := by decide +kernel
theorem dX9_leaf_2 : decode cX9_leaf 2 = .ok (.ifCond .eq 16, 3) := by decide +kernel
theorem dX9_leaf_5 : decode cX9_leaf 5 = .ok (.aload_n 0, 1) := by decide +kernel
theorem dX9_leaf_6 : decode cX9_leaf 6 = .ok (.getfield 314, 3) := by decide +kernel
theorem dX9_leaf_9 : decode cX9_leaf 9 = .ok (.bipush 50, 2) := by decide +kernel
theorem dX9_leaf_11 : decode cX9_leaf 11 = .ok (.if_icmp .ge 7, 3) := by decide +kernel
theorem dX9_leaf_14 : decode cX9_leaf 14 = .ok (.iconst 1, 1) := by decide +kernel
theorem dX9_leaf_15 : decode cX9_leaf 15 = .ok (.goto 4, 3) := by decide +kernel
theorem dX9_leaf_18 : decode cX9_leaf 18 = .ok (.iconst 0, 1) := by decide +kernel
theorem dX9_leaf_19 : decode cX9_leaf 19 = .ok (.invokevirtual 279, 3) := by decide +kernel
theorem dX9_leaf_22 : decode cX9_leaf 22 = .ok (.aload_n 0, 1) := by decide +kernel
theorem dX9_leaf_23 : decode cX9_leaf 23 = .ok (.getfield 246, 3) := by decide +kernel
theorem dX9_leaf_26 : decode cX9_leaf 26 = .ok (.ifCond .ne 19, 3) := by decide +kernel
theorem dX9_leaf_29 : decode cX9_leaf 29 = .ok (.aload_n 0, 1) := by decide +kernel
theorem dX9_leaf_30 : decode cX9_leaf 30 = .ok (.iload_n 2, 1) := by decide +kernel
theorem dX9_leaf_31 : decode cX9_leaf 31 = .ok (.iload_n 3, 1) := by decide +kernel
theorem dX9_leaf_32 : decode cX9_leaf 32 = .ok (.invokevirtual 292, 3) := by decide +kernel
theorem dX9_leaf_35 : decode cX9_leaf 35 = .ok (.aload_n 0, 1) := by decide +kernel
theorem dX9_leaf_36 : decode cX9_leaf 36 = .ok (.dup, 1) := by decide +kernel
theorem dX9_leaf_37 : decode cX9_leaf 37 = .ok (.getfield 314, 3) := by decide +kernel
theorem dX9_leaf_40 : decode cX9_leaf 40 = .ok (.iconst 1, 1) := by decide +kernel
theorem dX9_leaf_41 : decode cX9_leaf 41 = .ok (.iadd, 1) := by decide +kernel
theorem dX9_leaf_42 : decode cX9_leaf 42 = .ok (.putfield 314, 3) := by decide +kernel
theorem dX9_leaf_45 : decode cX9_leaf 45 = .ok (.return_, 1) := by decide +kernel
theorem dX9_leftBy_0 : decode cX9_leftBy 0 = .ok (.iload_n 1, 1) := by decide +kernel
theorem dX9_leftBy_1 : decode cX9_leftBy 1 = .ok (.iload_n 2, 1) := by decide +kernel
theorem dX9_leftBy_2 : decode cX9_leftBy 2 = .ok (.invokestatic 467, 3) := by decide +kernel
theorem dX9_leftBy_5 : decode cX9_leftBy 5 = .ok (.ifCond .eq 9, 3) := by decide +kernel
theorem dX9_leftBy_8 : decode cX9_leftBy 8 = .ok (.ldc_w 476, 3) := by decide +kernel
theorem dX9_leftBy_11 : decode cX9_leftBy 11 = .ok (.goto 28, 3) := by decide +kernel
theorem dX9_leftBy_14 : decode cX9_leftBy 14 = .ok (.aload_n 0, 1) := by decide +kernel
theorem dX9_leftBy_15 : decode cX9_leftBy 15 = .ok (.getfield 13, 3) := by decide +kernel
theorem dX9_leftBy_18 : decode cX9_leftBy 18 = .ok (.bipush 64, 2) := by decide +kernel
theorem dX9_leftBy_20 : decode cX9_leftBy 20 = .ok (.iload_n 2, 1) := by decide +kernel
theorem dX9_leftBy_21 : decode cX9_leftBy 21 = .ok (.iadd, 1) := by decide +kernel
theorem dX9_leftBy_22 : decode cX9_leftBy 22 = .ok (.iaload, 1) := by decide +kernel
theorem dX9_leftBy_23 : decode cX9_leftBy 23 = .ok (.iload_n 1, 1) := by decide +kernel
theorem dX9_leftBy_24 : decode cX9_leftBy 24 = .ok (.iand, 1) := by decide +kernel
theorem dX9_leftBy_25 : decode cX9_leftBy 25 = .ok (.invokestatic 477, 3) := by decide +kernel
theorem dX9_leftBy_28 : decode cX9_leftBy 28 = .ok (.aload_n 0, 1) := by decide +kernel
theorem dX9_leftBy_29 : decode cX9_leftBy 29 = .ok (.getfield 120, 3) := by decide +kernel
theorem dX9_leftBy_32 : decode cX9_leftBy 32 = .ok (.iload_n 1, 1) := by decide +kernel
theorem dX9_leftBy_33 : decode cX9_leftBy 33 = .ok (.iconst 1, 1) := by decide +kernel
theorem dX9_leftBy_34 : decode cX9_leftBy 34 = .ok (.iload_n 2, 1) := by decide +kernel
theorem dX9_leftBy_35 : decode cX9_leftBy 35 = .ok (.ishl, 1) := by decide +kernel
theorem dX9_leftBy_36 : decode cX9_leftBy 36 = .ok (.ior, 1) := by decide +kernel
theorem dX9_leftBy_37 : decode cX9_leftBy 37 = .ok (.iaload, 1) := by decide +kernel
theorem dX9_leftBy_38 : decode cX9_leftBy 38 = .ok (.iadd, 1) := by decide +kernel
theorem dX9_leftBy_39 : decode cX9_leftBy 39 = .ok (.ireturn, 1) := by decide +kernel
theorem dX9_look_0 : decode cX9_look 0 = .ok (.aload_n 0, 1) := by decide +kernel
theorem dX9_look_1 : decode cX9_look 1 = .ok (.iconst 0, 1) := by decide +kernel
theorem dX9_look_2 : decode cX9_look 2 = .ok (.putfield 165, 3) := by decide +kernel
theorem dX9_look_5 : decode cX9_look 5 = .ok (.aload_n 0, 1) := by decide +kernel
theorem dX9_look_6 : decode cX9_look 6 = .ok (.invokevirtual 483, 3) := by decide +kernel
theorem dX9_look_9 : decode cX9_look 9 = .ok (.istore_n 2, 1) := by decide +kernel
theorem dX9_look_10 : decode cX9_look 10 = .ok (.iload_n 1, 1) := by decide +kernel
theorem dX9_look_11 : decode cX9_look 11 = .ok (.i2l, 1) := by decide +kernel
theorem dX9_look_12 : decode cX9_look 12 = .ok (.lconst 0, 1) := by decide +kernel
theorem dX9_look_13 : decode cX9_look 13 = .ok (.lconst 1, 1) := by decide +kernel
theorem dX9_look_14 : decode cX9_look 14 = .ok (.invokestatic 185, 3) := by decide +kernel
theorem dX9_look_17 : decode cX9_look 17 = .ok (.ifCond .eq 7, 3) := by decide +kernel
theorem dX9_look_20 : decode cX9_look 20 = .ok (.iload_n 2, 1) := by decide +kernel
theorem dX9_look_21 : decode cX9_look 21 = .ok (.ifCond .ne 5, 3) := by decide +kernel
theorem dX9_look_24 : decode cX9_look 24 = .ok (.iconst (-1), 1) := by decide +kernel
theorem dX9_look_25 : decode cX9_look 25 = .ok (.ireturn, 1) := by decide +kernel
theorem dX9_look_26 : decode cX9_look 26 = .ok (.ldc_w 476, 3) := by decide +kernel
theorem dX9_look_29 : decode cX9_look 29 = .ok (.istore_n 3, 1) := by decide +kernel
theorem dX9_look_30 : decode cX9_look 30 = .ok (.iconst (-1), 1) := by decide +kernel
theorem dX9_look_31 : decode cX9_look 31 = .ok (.istore 4, 2) := by decide +kernel
theorem dX9_look_33 : decode cX9_look 33 = .ok (.iconst 0, 1) := by decide +kernel
theorem dX9_look_34 : decode cX9_look 34 = .ok (.istore 5, 2) := by decide +kernel
theorem dX9_look_36 : decode cX9_look 36 = .ok (.iload 5, 2) := by decide +kernel
theorem dX9_look_38 : decode cX9_look 38 = .ok (.iconst 4, 1) := by decide +kernel
theorem dX9_look_39 : decode cX9_look 39 = .ok (.if_icmp .ge 140, 3) := by decide +kernel
theorem dX9_look_42 : decode cX9_look 42 = .ok (.iconst 0, 1) := by decide +kernel
theorem dX9_look_43 : decode cX9_look 43 = .ok (.istore 6, 2) := by decide +kernel
theorem dX9_look_45 : decode cX9_look 45 = .ok (.iload 6, 2) := by decide +kernel
theorem dX9_look_47 : decode cX9_look 47 = .ok (.bipush 10, 2) := by decide +kernel
theorem dX9_look_49 : decode cX9_look 49 = .ok (.if_icmp .ge 17, 3) := by decide +kernel
theorem dX9_look_52 : decode cX9_look 52 = .ok (.aload_n 0, 1) := by decide +kernel
theorem dX9_look_53 : decode cX9_look 53 = .ok (.getfield 117, 3) := by decide +kernel
theorem dX9_look_56 : decode cX9_look 56 = .ok (.iload 6, 2) := by decide +kernel
theorem dX9_look_58 : decode cX9_look 58 = .ok (.iconst 0, 1) := by decide +kernel
theorem dX9_look_59 : decode cX9_look 59 = .ok (.iastore, 1) := by decide +kernel
theorem dX9_look_60 : decode cX9_look 60 = .ok (.iinc 6 1, 3) := by decide +kernel
theorem dX9_look_63 : decode cX9_look 63 = .ok (.goto (-18), 3) := by decide +kernel
theorem dX9_look_66 : decode cX9_look 66 = .ok (.iconst 0, 1) := by decide +kernel
theorem dX9_look_67 : decode cX9_look 67 = .ok (.istore 6, 2) := by decide +kernel
theorem dX9_look_69 : decode cX9_look 69 = .ok (.iconst 0, 1) := by decide +kernel
theorem dX9_look_70 : decode cX9_look 70 = .ok (.istore 7, 2) := by decide +kernel
theorem dX9_look_72 : decode cX9_look 72 = .ok (.iload 7, 2) := by decide +kernel
theorem dX9_look_74 : decode cX9_look 74 = .ok (.aload_n 0, 1) := by decide +kernel
theorem dX9_look_75 : decode cX9_look 75 = .ok (.getfield 13, 3) := by decide +kernel
theorem dX9_look_78 : decode cX9_look 78 = .ok (.iconst 0, 1) := by decide +kernel
theorem dX9_look_79 : decode cX9_look 79 = .ok (.iaload, 1) := by decide +kernel
theorem dX9_look_80 : decode cX9_look 80 = .ok (.if_icmp .ge 65, 3) := by decide +kernel
theorem dX9_look_83 : decode cX9_look 83 = .ok (.iload_n 2, 1) := by decide +kernel
theorem dX9_look_84 : decode cX9_look 84 = .ok (.iload 7, 2) := by decide +kernel
theorem dX9_look_86 : decode cX9_look 86 = .ok (.invokestatic 467, 3) := by decide +kernel
theorem dX9_look_89 : decode cX9_look 89 = .ok (.ifCond .eq 50, 3) := by decide +kernel
theorem dX9_look_92 : decode cX9_look 92 = .ok (.aload_n 0, 1) := by decide +kernel
theorem dX9_look_93 : decode cX9_look 93 = .ok (.iload 7, 2) := by decide +kernel
theorem dX9_look_95 : decode cX9_look 95 = .ok (.iload 5, 2) := by decide +kernel
theorem dX9_look_97 : decode cX9_look 97 = .ok (.invokevirtual 437, 3) := by decide +kernel
theorem dX9_look_100 : decode cX9_look 100 = .ok (.istore 8, 2) := by decide +kernel
theorem dX9_look_102 : decode cX9_look 102 = .ok (.aload_n 0, 1) := by decide +kernel
theorem dX9_look_103 : decode cX9_look 103 = .ok (.getfield 117, 3) := by decide +kernel
theorem dX9_look_106 : decode cX9_look 106 = .ok (.iload 8, 2) := by decide +kernel
theorem dX9_look_108 : decode cX9_look 108 = .ok (.dup2, 1) := by decide +kernel
theorem dX9_look_109 : decode cX9_look 109 = .ok (.iaload, 1) := by decide +kernel
theorem dX9_look_110 : decode cX9_look 110 = .ok (.iconst 1, 1) := by decide +kernel
theorem dX9_look_111 : decode cX9_look 111 = .ok (.iadd, 1) := by decide +kernel
theorem dX9_look_112 : decode cX9_look 112 = .ok (.iastore, 1) := by decide +kernel
theorem dX9_look_113 : decode cX9_look 113 = .ok (.aload_n 0, 1) := by decide +kernel
theorem dX9_look_114 : decode cX9_look 114 = .ok (.getfield 117, 3) := by decide +kernel
theorem dX9_look_117 : decode cX9_look 117 = .ok (.iload 8, 2) := by decide +kernel
theorem dX9_look_119 : decode cX9_look 119 = .ok (.iaload, 1) := by decide +kernel
theorem dX9_look_120 : decode cX9_look 120 = .ok (.iload 6, 2) := by decide +kernel
theorem dX9_look_122 : decode cX9_look 122 = .ok (.if_icmp .le 13, 3) := by decide +kernel
theorem dX9_look_125 : decode cX9_look 125 = .ok (.aload_n 0, 1) := by decide +kernel
theorem dX9_look_126 : decode cX9_look 126 = .ok (.getfield 117, 3) := by decide +kernel
theorem dX9_look_129 : decode cX9_look 129 = .ok (.iload 8, 2) := by decide +kernel
theorem dX9_look_131 : decode cX9_look 131 = .ok (.iaload, 1) := by decide +kernel
theorem dX9_look_132 : decode cX9_look 132 = .ok (.goto 5, 3) := by decide +kernel
theorem dX9_look_135 : decode cX9_look 135 = .ok (.iload 6, 2) := by decide +kernel
theorem dX9_look_137 : decode cX9_look 137 = .ok (.istore 6, 2) := by decide +kernel
theorem dX9_look_139 : decode cX9_look 139 = .ok (.iinc 7 1, 3) := by decide +kernel
theorem dX9_look_142 : decode cX9_look 142 = .ok (.goto (-70), 3) := by decide +kernel
theorem dX9_look_145 : decode cX9_look 145 = .ok (.iload 6, 2) := by decide +kernel
theorem dX9_look_147 : decode cX9_look 147 = .ok (.iload_n 3, 1) := by decide +kernel
theorem dX9_look_148 : decode cX9_look 148 = .ok (.if_icmp .ge 8, 3) := by decide +kernel
theorem dX9_look_151 : decode cX9_look 151 = .ok (.iload 5, 2) := by decide +kernel
theorem dX9_look_153 : decode cX9_look 153 = .ok (.goto 5, 3) := by decide +kernel
theorem dX9_look_156 : decode cX9_look 156 = .ok (.iload 4, 2) := by decide +kernel
theorem dX9_look_158 : decode cX9_look 158 = .ok (.istore 4, 2) := by decide +kernel
theorem dX9_look_160 : decode cX9_look 160 = .ok (.iload 6, 2) := by decide +kernel
theorem dX9_look_162 : decode cX9_look 162 = .ok (.iload_n 3, 1) := by decide +kernel
theorem dX9_look_163 : decode cX9_look 163 = .ok (.if_icmp .ge 8, 3) := by decide +kernel
theorem dX9_look_166 : decode cX9_look 166 = .ok (.iload 6, 2) := by decide +kernel
theorem dX9_look_168 : decode cX9_look 168 = .ok (.goto 4, 3) := by decide +kernel
theorem dX9_look_171 : decode cX9_look 171 = .ok (.iload_n 3, 1) := by decide +kernel
theorem dX9_look_172 : decode cX9_look 172 = .ok (.istore_n 3, 1) := by decide +kernel
theorem dX9_look_173 : decode cX9_look 173 = .ok (.iinc 5 1, 3) := by decide +kernel
theorem dX9_look_176 : decode cX9_look 176 = .ok (.goto (-140), 3) := by decide +kernel
theorem dX9_look_179 : decode cX9_look 179 = .ok (.iload_n 1, 1) := by decide +kernel
theorem dX9_look_180 : decode cX9_look 180 = .ok (.ifCond .ne 8, 3) := by decide +kernel
theorem dX9_look_183 : decode cX9_look 183 = .ok (.iload 4, 2) := by decide +kernel
theorem dX9_look_185 : decode cX9_look 185 = .ok (.goto 4, 3) := by decide +kernel
theorem dX9_look_188 : decode cX9_look 188 = .ok (.iload_n 3, 1) := by decide +kernel
theorem dX9_look_189 : decode cX9_look 189 = .ok (.ireturn, 1) := by decide +kernel
theorem dX9_must_0 : decode cX9_must 0 = .ok (.aload_n 0, 1) := by decide +kernel
theorem dX9_must_1 : decode cX9_must 1 = .ok (.getfield 246, 3) := by decide +kernel
theorem dX9_must_4 : decode cX9_must 4 = .ok (.ifCond .ne 20, 3) := by decide +kernel
theorem dX9_must_7 : decode cX9_must 7 = .ok (.iload_n 1, 1) := by decide +kernel
theorem dX9_must_8 : decode cX9_must 8 = .ok (.ifCond .ne 16, 3) := by decide +kernel
theorem dX9_must_11 : decode cX9_must 11 = .ok (.aload_n 0, 1) := by decide +kernel
theorem dX9_must_12 : decode cX9_must 12 = .ok (.iconst 1, 1) := by decide +kernel
theorem dX9_must_13 : decode cX9_must 13 = .ok (.putfield 246, 3) := by decide +kernel
theorem dX9_must_16 : decode cX9_must 16 = .ok (.aload_n 0, 1) := by decide +kernel
theorem dX9_must_17 : decode cX9_must 17 = .ok (.aload_n 0, 1) := by decide +kernel
theorem dX9_must_18 : decode cX9_must 18 = .ok (.getfield 253, 3) := by decide +kernel
theorem dX9_must_21 : decode cX9_must 21 = .ok (.putfield 38, 3) := by decide +kernel
theorem dX9_must_24 : decode cX9_must 24 = .ok (.aload_n 0, 1) := by decide +kernel
theorem dX9_must_25 : decode cX9_must 25 = .ok (.getfield 246, 3) := by decide +kernel
theorem dX9_must_28 : decode cX9_must 28 = .ok (.ifCond .ne 7, 3) := by decide +kernel
theorem dX9_must_31 : decode cX9_must 31 = .ok (.aload_n 0, 1) := by decide +kernel
theorem dX9_must_32 : decode cX9_must 32 = .ok (.invokevirtual 250, 3) := by decide +kernel
theorem dX9_must_35 : decode cX9_must 35 = .ok (.return_, 1) := by decide +kernel
theorem dX9_never_0 : decode cX9_never 0 = .ok (.aload_n 0, 1) := by decide +kernel
theorem dX9_never_1 : decode cX9_never 1 = .ok (.iconst 0, 1) := by decide +kernel
theorem dX9_never_2 : decode cX9_never 2 = .ok (.putfield 165, 3) := by decide +kernel
theorem dX9_never_5 : decode cX9_never 5 = .ok (.iconst 1, 1) := by decide +kernel
theorem dX9_never_6 : decode cX9_never 6 = .ok (.aload_n 0, 1) := by decide +kernel
theorem dX9_never_7 : decode cX9_never 7 = .ok (.getfield 13, 3) := by decide +kernel
theorem dX9_never_10 : decode cX9_never 10 = .ok (.iconst 0, 1) := by decide +kernel
theorem dX9_never_11 : decode cX9_never 11 = .ok (.iaload, 1) := by decide +kernel
theorem dX9_never_12 : decode cX9_never 12 = .ok (.ishl, 1) := by decide +kernel
theorem dX9_never_13 : decode cX9_never 13 = .ok (.iconst 1, 1) := by decide +kernel
theorem dX9_never_14 : decode cX9_never 14 = .ok (.isub, 1) := by decide +kernel
theorem dX9_never_15 : decode cX9_never 15 = .ok (.istore_n 1, 1) := by decide +kernel
theorem dX9_never_16 : decode cX9_never 16 = .ok (.iconst 0, 1) := by decide +kernel
theorem dX9_never_17 : decode cX9_never 17 = .ok (.istore_n 2, 1) := by decide +kernel
theorem dX9_never_18 : decode cX9_never 18 = .ok (.iload_n 2, 1) := by decide +kernel
theorem dX9_never_19 : decode cX9_never 19 = .ok (.iconst 4, 1) := by decide +kernel
theorem dX9_never_20 : decode cX9_never 20 = .ok (.if_icmp .ge 64, 3) := by decide +kernel
theorem dX9_never_23 : decode cX9_never 23 = .ok (.aload_n 0, 1) := by decide +kernel
theorem dX9_never_24 : decode cX9_never 24 = .ok (.iload_n 2, 1) := by decide +kernel
theorem dX9_never_25 : decode cX9_never 25 = .ok (.invokevirtual 470, 3) := by decide +kernel
theorem dX9_never_28 : decode cX9_never 28 = .ok (.iconst 0, 1) := by decide +kernel
theorem dX9_never_29 : decode cX9_never 29 = .ok (.istore_n 3, 1) := by decide +kernel
theorem dX9_never_30 : decode cX9_never 30 = .ok (.iload_n 3, 1) := by decide +kernel
theorem dX9_never_31 : decode cX9_never 31 = .ok (.aload_n 0, 1) := by decide +kernel
theorem dX9_never_32 : decode cX9_never 32 = .ok (.getfield 13, 3) := by decide +kernel
theorem dX9_never_35 : decode cX9_never 35 = .ok (.iconst 0, 1) := by decide +kernel
theorem dX9_never_36 : decode cX9_never 36 = .ok (.iaload, 1) := by decide +kernel
theorem dX9_never_37 : decode cX9_never 37 = .ok (.if_icmp .ge 41, 3) := by decide +kernel
theorem dX9_never_40 : decode cX9_never 40 = .ok (.iload_n 1, 1) := by decide +kernel
theorem dX9_never_41 : decode cX9_never 41 = .ok (.aload_n 0, 1) := by decide +kernel
theorem dX9_never_42 : decode cX9_never 42 = .ok (.getfield 114, 3) := by decide +kernel
theorem dX9_never_45 : decode cX9_never 45 = .ok (.iload_n 3, 1) := by decide +kernel
theorem dX9_never_46 : decode cX9_never 46 = .ok (.baload, 1) := by decide +kernel
theorem dX9_never_47 : decode cX9_never 47 = .ok (.ifCond .ne 14, 3) := by decide +kernel
theorem dX9_never_50 : decode cX9_never 50 = .ok (.aload_n 0, 1) := by decide +kernel
theorem dX9_never_51 : decode cX9_never 51 = .ok (.iload_n 3, 1) := by decide +kernel
theorem dX9_never_52 : decode cX9_never 52 = .ok (.bipush 127, 2) := by decide +kernel
theorem dX9_never_54 : decode cX9_never 54 = .ok (.invokevirtual 480, 3) := by decide +kernel
theorem dX9_never_57 : decode cX9_never 57 = .ok (.iconst 1, 1) := by decide +kernel
theorem dX9_never_58 : decode cX9_never 58 = .ok (.if_icmp .ne 7, 3) := by decide +kernel
theorem dX9_never_61 : decode cX9_never 61 = .ok (.iconst (-1), 1) := by decide +kernel
theorem dX9_never_62 : decode cX9_never 62 = .ok (.goto 8, 3) := by decide +kernel
theorem dX9_never_65 : decode cX9_never 65 = .ok (.iconst 1, 1) := by decide +kernel
theorem dX9_never_66 : decode cX9_never 66 = .ok (.iload_n 3, 1) := by decide +kernel
theorem dX9_never_67 : decode cX9_never 67 = .ok (.ishl, 1) := by decide +kernel
theorem dX9_never_68 : decode cX9_never 68 = .ok (.iconst (-1), 1) := by decide +kernel
theorem dX9_never_69 : decode cX9_never 69 = .ok (.ixor, 1) := by decide +kernel
theorem dX9_never_70 : decode cX9_never 70 = .ok (.iand, 1) := by decide +kernel
theorem dX9_never_71 : decode cX9_never 71 = .ok (.istore_n 1, 1) := by decide +kernel
theorem dX9_never_72 : decode cX9_never 72 = .ok (.iinc 3 1, 3) := by decide +kernel
theorem dX9_never_75 : decode cX9_never 75 = .ok (.goto (-45), 3) := by decide +kernel
theorem dX9_never_78 : decode cX9_never 78 = .ok (.iinc 2 1, 3) := by decide +kernel
theorem dX9_never_81 : decode cX9_never 81 = .ok (.goto (-63), 3) := by decide +kernel
theorem dX9_never_84 : decode cX9_never 84 = .ok (.iload_n 1, 1) := by decide +kernel
theorem dX9_never_85 : decode cX9_never 85 = .ok (.ireturn, 1) := by decide +kernel
theorem dX9_next_0 : decode cX9_next 0 = .ok (.aload_n 0, 1) := by decide +kernel
theorem dX9_next_1 : decode cX9_next 1 = .ok (.aload_n 0, 1) := by decide +kernel
theorem dX9_next_2 : decode cX9_next 2 = .ok (.getfield 243, 3) := by decide +kernel
theorem dX9_next_5 : decode cX9_next 5 = .ok (.putfield 253, 3) := by decide +kernel
theorem dX9_next_8 : decode cX9_next 8 = .ok (.aload_n 0, 1) := by decide +kernel
theorem dX9_next_9 : decode cX9_next 9 = .ok (.getfield 253, 3) := by decide +kernel
theorem dX9_next_12 : decode cX9_next 12 = .ok (.aload_n 0, 1) := by decide +kernel
theorem dX9_next_13 : decode cX9_next 13 = .ok (.getfield 231, 3) := by decide +kernel
theorem dX9_next_16 : decode cX9_next 16 = .ok (.if_icmp .ge 30, 3) := by decide +kernel
theorem dX9_next_19 : decode cX9_next 19 = .ok (.aload_n 0, 1) := by decide +kernel
theorem dX9_next_20 : decode cX9_next 20 = .ok (.getfield 35, 3) := by decide +kernel
theorem dX9_next_23 : decode cX9_next 23 = .ok (.aload_n 0, 1) := by decide +kernel
theorem dX9_next_24 : decode cX9_next 24 = .ok (.getfield 253, 3) := by decide +kernel
theorem dX9_next_27 : decode cX9_next 27 = .ok (.iaload, 1) := by decide +kernel
theorem dX9_next_28 : decode cX9_next 28 = .ok (.bipush 32, 2) := by decide +kernel
theorem dX9_next_30 : decode cX9_next 30 = .ok (.if_icmp .ne 16, 3) := by decide +kernel
theorem dX9_next_33 : decode cX9_next 33 = .ok (.aload_n 0, 1) := by decide +kernel
theorem dX9_next_34 : decode cX9_next 34 = .ok (.dup, 1) := by decide +kernel
theorem dX9_next_35 : decode cX9_next 35 = .ok (.getfield 253, 3) := by decide +kernel
theorem dX9_next_38 : decode cX9_next 38 = .ok (.iconst 1, 1) := by decide +kernel
theorem dX9_next_39 : decode cX9_next 39 = .ok (.iadd, 1) := by decide +kernel
theorem dX9_next_40 : decode cX9_next 40 = .ok (.putfield 253, 3) := by decide +kernel
theorem dX9_next_43 : decode cX9_next 43 = .ok (.goto (-35), 3) := by decide +kernel
theorem dX9_next_46 : decode cX9_next 46 = .ok (.aload_n 0, 1) := by decide +kernel
theorem dX9_next_47 : decode cX9_next 47 = .ok (.aload_n 0, 1) := by decide +kernel
theorem dX9_next_48 : decode cX9_next 48 = .ok (.getfield 253, 3) := by decide +kernel
theorem dX9_next_51 : decode cX9_next 51 = .ok (.putfield 243, 3) := by decide +kernel
theorem dX9_next_54 : decode cX9_next 54 = .ok (.aload_n 0, 1) := by decide +kernel
theorem dX9_next_55 : decode cX9_next 55 = .ok (.lconst 0, 1) := by decide +kernel
theorem dX9_next_56 : decode cX9_next 56 = .ok (.putfield 256, 3) := by decide +kernel
theorem dX9_next_59 : decode cX9_next 59 = .ok (.aload_n 0, 1) := by decide +kernel
theorem dX9_next_60 : decode cX9_next 60 = .ok (.aload_n 0, 1) := by decide +kernel
theorem dX9_next_61 : decode cX9_next 61 = .ok (.getfield 253, 3) := by decide +kernel
theorem dX9_next_64 : decode cX9_next 64 = .ok (.aload_n 0, 1) := by decide +kernel
theorem dX9_next_65 : decode cX9_next 65 = .ok (.getfield 231, 3) := by decide +kernel
theorem dX9_next_68 : decode cX9_next 68 = .ok (.if_icmp .ne 7, 3) := by decide +kernel
theorem dX9_next_71 : decode cX9_next 71 = .ok (.iconst 0, 1) := by decide +kernel
theorem dX9_next_72 : decode cX9_next 72 = .ok (.goto 42, 3) := by decide +kernel
theorem dX9_next_75 : decode cX9_next 75 = .ok (.aload_n 0, 1) := by decide +kernel
theorem dX9_next_76 : decode cX9_next 76 = .ok (.getfield 35, 3) := by decide +kernel
theorem dX9_next_79 : decode cX9_next 79 = .ok (.aload_n 0, 1) := by decide +kernel
theorem dX9_next_80 : decode cX9_next 80 = .ok (.getfield 253, 3) := by decide +kernel
theorem dX9_next_83 : decode cX9_next 83 = .ok (.iaload, 1) := by decide +kernel
theorem dX9_next_84 : decode cX9_next 84 = .ok (.invokestatic 260, 3) := by decide +kernel
theorem dX9_next_87 : decode cX9_next 87 = .ok (.ifCond .eq 7, 3) := by decide +kernel
theorem dX9_next_90 : decode cX9_next 90 = .ok (.iconst 1, 1) := by decide +kernel
theorem dX9_next_91 : decode cX9_next 91 = .ok (.goto 23, 3) := by decide +kernel
theorem dX9_next_94 : decode cX9_next 94 = .ok (.aload_n 0, 1) := by decide +kernel
theorem dX9_next_95 : decode cX9_next 95 = .ok (.getfield 35, 3) := by decide +kernel
theorem dX9_next_98 : decode cX9_next 98 = .ok (.aload_n 0, 1) := by decide +kernel
theorem dX9_next_99 : decode cX9_next 99 = .ok (.getfield 253, 3) := by decide +kernel
theorem dX9_next_102 : decode cX9_next 102 = .ok (.iaload, 1) := by decide +kernel
theorem dX9_next_103 : decode cX9_next 103 = .ok (.invokestatic 263, 3) := by decide +kernel
theorem dX9_next_106 : decode cX9_next 106 = .ok (.ifCond .eq 7, 3) := by decide +kernel
theorem dX9_next_109 : decode cX9_next 109 = .ok (.iconst 2, 1) := by decide +kernel
theorem dX9_next_110 : decode cX9_next 110 = .ok (.goto 4, 3) := by decide +kernel
theorem dX9_next_113 : decode cX9_next 113 = .ok (.iconst 3, 1) := by decide +kernel
theorem dX9_next_114 : decode cX9_next 114 = .ok (.putfield 266, 3) := by decide +kernel
theorem dX9_next_117 : decode cX9_next 117 = .ok (.aload_n 0, 1) := by decide +kernel
theorem dX9_next_118 : decode cX9_next 118 = .ok (.getfield 266, 3) := by decide +kernel
theorem dX9_next_121 : decode cX9_next 121 = .ok (.iconst 3, 1) := by decide +kernel
theorem dX9_next_122 : decode cX9_next 122 = .ok (.if_icmp .ne 27, 3) := by decide +kernel
theorem dX9_next_125 : decode cX9_next 125 = .ok (.aload_n 0, 1) := by decide +kernel
theorem dX9_next_126 : decode cX9_next 126 = .ok (.aload_n 0, 1) := by decide +kernel
theorem dX9_next_127 : decode cX9_next 127 = .ok (.getfield 35, 3) := by decide +kernel
theorem dX9_next_130 : decode cX9_next 130 = .ok (.aload_n 0, 1) := by decide +kernel
theorem dX9_next_131 : decode cX9_next 131 = .ok (.getfield 253, 3) := by decide +kernel
theorem dX9_next_134 : decode cX9_next 134 = .ok (.iaload, 1) := by decide +kernel
theorem dX9_next_135 : decode cX9_next 135 = .ok (.i2l, 1) := by decide +kernel
theorem dX9_next_136 : decode cX9_next 136 = .ok (.putfield 256, 3) := by decide +kernel
theorem dX9_next_139 : decode cX9_next 139 = .ok (.aload_n 0, 1) := by decide +kernel
theorem dX9_next_140 : decode cX9_next 140 = .ok (.dup, 1) := by decide +kernel
theorem dX9_next_141 : decode cX9_next 141 = .ok (.getfield 243, 3) := by decide +kernel
theorem dX9_next_144 : decode cX9_next 144 = .ok (.iconst 1, 1) := by decide +kernel
theorem dX9_next_145 : decode cX9_next 145 = .ok (.iadd, 1) := by decide +kernel
theorem dX9_next_146 : decode cX9_next 146 = .ok (.putfield 243, 3) := by decide +kernel
theorem dX9_next_149 : decode cX9_next 149 = .ok (.aload_n 0, 1) := by decide +kernel
theorem dX9_next_150 : decode cX9_next 150 = .ok (.getfield 266, 3) := by decide +kernel
theorem dX9_next_153 : decode cX9_next 153 = .ok (.iconst 1, 1) := by decide +kernel
theorem dX9_next_154 : decode cX9_next 154 = .ok (.if_icmp .ne 89, 3) := by decide +kernel
theorem dX9_next_157 : decode cX9_next 157 = .ok (.aload_n 0, 1) := by decide +kernel
theorem dX9_next_158 : decode cX9_next 158 = .ok (.getfield 243, 3) := by decide +kernel
theorem dX9_next_161 : decode cX9_next 161 = .ok (.aload_n 0, 1) := by decide +kernel
theorem dX9_next_162 : decode cX9_next 162 = .ok (.getfield 231, 3) := by decide +kernel
theorem dX9_next_165 : decode cX9_next 165 = .ok (.if_icmp .ge 78, 3) := by decide +kernel
theorem dX9_next_168 : decode cX9_next 168 = .ok (.aload_n 0, 1) := by decide +kernel
theorem dX9_next_169 : decode cX9_next 169 = .ok (.getfield 35, 3) := by decide +kernel
theorem dX9_next_172 : decode cX9_next 172 = .ok (.aload_n 0, 1) := by decide +kernel
theorem dX9_next_173 : decode cX9_next 173 = .ok (.getfield 243, 3) := by decide +kernel
theorem dX9_next_176 : decode cX9_next 176 = .ok (.iaload, 1) := by decide +kernel
theorem dX9_next_177 : decode cX9_next 177 = .ok (.invokestatic 260, 3) := by decide +kernel
theorem dX9_next_180 : decode cX9_next 180 = .ok (.ifCond .eq 63, 3) := by decide +kernel
theorem dX9_next_183 : decode cX9_next 183 = .ok (.aload_n 0, 1) := by decide +kernel
theorem dX9_next_184 : decode cX9_next 184 = .ok (.aload_n 0, 1) := by decide +kernel
theorem dX9_next_185 : decode cX9_next 185 = .ok (.getfield 243, 3) := by decide +kernel
theorem dX9_next_188 : decode cX9_next 188 = .ok (.aload_n 0, 1) := by decide +kernel
theorem dX9_next_189 : decode cX9_next 189 = .ok (.getfield 253, 3) := by decide +kernel
theorem dX9_next_192 : decode cX9_next 192 = .ok (.isub, 1) := by decide +kernel
theorem dX9_next_193 : decode cX9_next 193 = .ok (.bipush 10, 2) := by decide +kernel
theorem dX9_next_195 : decode cX9_next 195 = .ok (.if_icmp .ge 29, 3) := by decide +kernel
theorem dX9_next_198 : decode cX9_next 198 = .ok (.aload_n 0, 1) := by decide +kernel
theorem dX9_next_199 : decode cX9_next 199 = .ok (.getfield 256, 3) := by decide +kernel
theorem dX9_next_202 : decode cX9_next 202 = .ok (.ldc2_w 269, 3) := by decide +kernel
theorem dX9_next_205 : decode cX9_next 205 = .ok (.lmul, 1) := by decide +kernel
theorem dX9_next_206 : decode cX9_next 206 = .ok (.aload_n 0, 1) := by decide +kernel
theorem dX9_next_207 : decode cX9_next 207 = .ok (.getfield 35, 3) := by decide +kernel
theorem dX9_next_210 : decode cX9_next 210 = .ok (.aload_n 0, 1) := by decide +kernel
theorem dX9_next_211 : decode cX9_next 211 = .ok (.getfield 243, 3) := by decide +kernel
theorem dX9_next_214 : decode cX9_next 214 = .ok (.iaload, 1) := by decide +kernel
theorem dX9_next_215 : decode cX9_next 215 = .ok (.i2l, 1) := by decide +kernel
theorem dX9_next_216 : decode cX9_next 216 = .ok (.ladd, 1) := by decide +kernel
theorem dX9_next_217 : decode cX9_next 217 = .ok (.ldc2_w 271, 3) := by decide +kernel
theorem dX9_next_220 : decode cX9_next 220 = .ok (.lsub, 1) := by decide +kernel
theorem dX9_next_221 : decode cX9_next 221 = .ok (.goto 6, 3) := by decide +kernel
theorem dX9_next_224 : decode cX9_next 224 = .ok (.ldc2_w 273, 3) := by decide +kernel
theorem dX9_next_227 : decode cX9_next 227 = .ok (.putfield 256, 3) := by decide +kernel
theorem dX9_next_230 : decode cX9_next 230 = .ok (.aload_n 0, 1) := by decide +kernel
theorem dX9_next_231 : decode cX9_next 231 = .ok (.dup, 1) := by decide +kernel
theorem dX9_next_232 : decode cX9_next 232 = .ok (.getfield 243, 3) := by decide +kernel
theorem dX9_next_235 : decode cX9_next 235 = .ok (.iconst 1, 1) := by decide +kernel
theorem dX9_next_236 : decode cX9_next 236 = .ok (.iadd, 1) := by decide +kernel
theorem dX9_next_237 : decode cX9_next 237 = .ok (.putfield 243, 3) := by decide +kernel
theorem dX9_next_240 : decode cX9_next 240 = .ok (.goto (-91), 3) := by decide +kernel
theorem dX9_next_243 : decode cX9_next 243 = .ok (.aload_n 0, 1) := by decide +kernel
theorem dX9_next_244 : decode cX9_next 244 = .ok (.getfield 266, 3) := by decide +kernel
theorem dX9_next_247 : decode cX9_next 247 = .ok (.iconst 2, 1) := by decide +kernel
theorem dX9_next_248 : decode cX9_next 248 = .ok (.if_icmp .ne 87, 3) := by decide +kernel
theorem dX9_next_251 : decode cX9_next 251 = .ok (.aload_n 0, 1) := by decide +kernel
theorem dX9_next_252 : decode cX9_next 252 = .ok (.getfield 243, 3) := by decide +kernel
theorem dX9_next_255 : decode cX9_next 255 = .ok (.aload_n 0, 1) := by decide +kernel
theorem dX9_next_256 : decode cX9_next 256 = .ok (.getfield 231, 3) := by decide +kernel
theorem dX9_next_259 : decode cX9_next 259 = .ok (.if_icmp .ge 76, 3) := by decide +kernel
theorem dX9_next_262 : decode cX9_next 262 = .ok (.aload_n 0, 1) := by decide +kernel
theorem dX9_next_263 : decode cX9_next 263 = .ok (.getfield 35, 3) := by decide +kernel
theorem dX9_next_266 : decode cX9_next 266 = .ok (.aload_n 0, 1) := by decide +kernel
theorem dX9_next_267 : decode cX9_next 267 = .ok (.getfield 243, 3) := by decide +kernel
theorem dX9_next_270 : decode cX9_next 270 = .ok (.iaload, 1) := by decide +kernel
theorem dX9_next_271 : decode cX9_next 271 = .ok (.invokestatic 263, 3) := by decide +kernel
theorem dX9_next_274 : decode cX9_next 274 = .ok (.ifCond .eq 61, 3) := by decide +kernel
theorem dX9_next_277 : decode cX9_next 277 = .ok (.aload_n 0, 1) := by decide +kernel
theorem dX9_next_278 : decode cX9_next 278 = .ok (.aload_n 0, 1) := by decide +kernel
theorem dX9_next_279 : decode cX9_next 279 = .ok (.getfield 256, 3) := by decide +kernel
theorem dX9_next_282 : decode cX9_next 282 = .ok (.ldc2_w 275, 3) := by decide +kernel
theorem dX9_next_285 : decode cX9_next 285 = .ok (.lcmp, 1) := by decide +kernel
theorem dX9_next_286 : decode cX9_next 286 = .ok (.ifCond .le 10, 3) := by decide +kernel
theorem dX9_next_289 : decode cX9_next 289 = .ok (.aload_n 0, 1) := by decide +kernel
theorem dX9_next_290 : decode cX9_next 290 = .ok (.getfield 256, 3) := by decide +kernel
theorem dX9_next_293 : decode cX9_next 293 = .ok (.goto 26, 3) := by decide +kernel
theorem dX9_next_296 : decode cX9_next 296 = .ok (.aload_n 0, 1) := by decide +kernel
theorem dX9_next_297 : decode cX9_next 297 = .ok (.getfield 256, 3) := by decide +kernel
theorem dX9_next_300 : decode cX9_next 300 = .ok (.ldc2_w 229, 3) := by decide +kernel
theorem dX9_next_303 : decode cX9_next 303 = .ok (.lmul, 1) := by decide +kernel
theorem dX9_next_304 : decode cX9_next 304 = .ok (.aload_n 0, 1) := by decide +kernel
theorem dX9_next_305 : decode cX9_next 305 = .ok (.getfield 35, 3) := by decide +kernel
theorem dX9_next_308 : decode cX9_next 308 = .ok (.aload_n 0, 1) := by decide +kernel
theorem dX9_next_309 : decode cX9_next 309 = .ok (.getfield 243, 3) := by decide +kernel
theorem dX9_next_312 : decode cX9_next 312 = .ok (.iaload, 1) := by decide +kernel
theorem dX9_next_313 : decode cX9_next 313 = .ok (.i2l, 1) := by decide +kernel
theorem dX9_next_314 : decode cX9_next 314 = .ok (.ladd, 1) := by decide +kernel
theorem dX9_next_315 : decode cX9_next 315 = .ok (.ldc2_w 277, 3) := by decide +kernel
theorem dX9_next_318 : decode cX9_next 318 = .ok (.lsub, 1) := by decide +kernel
theorem dX9_next_319 : decode cX9_next 319 = .ok (.putfield 256, 3) := by decide +kernel
theorem dX9_next_322 : decode cX9_next 322 = .ok (.aload_n 0, 1) := by decide +kernel
theorem dX9_next_323 : decode cX9_next 323 = .ok (.dup, 1) := by decide +kernel
theorem dX9_next_324 : decode cX9_next 324 = .ok (.getfield 243, 3) := by decide +kernel
theorem dX9_next_327 : decode cX9_next 327 = .ok (.iconst 1, 1) := by decide +kernel
theorem dX9_next_328 : decode cX9_next 328 = .ok (.iadd, 1) := by decide +kernel
theorem dX9_next_329 : decode cX9_next 329 = .ok (.putfield 243, 3) := by decide +kernel
theorem dX9_next_332 : decode cX9_next 332 = .ok (.goto (-89), 3) := by decide +kernel
theorem dX9_next_335 : decode cX9_next 335 = .ok (.return_, 1) := by decide +kernel
theorem dX9_number_0 : decode cX9_number 0 = .ok (.aload_n 0, 1) := by decide +kernel
theorem dX9_number_1 : decode cX9_number 1 = .ok (.getfield 256, 3) := by decide +kernel
theorem dX9_number_4 : decode cX9_number 4 = .ok (.l2i, 1) := by decide +kernel
theorem dX9_number_5 : decode cX9_number 5 = .ok (.istore 5, 2) := by decide +kernel
theorem dX9_number_7 : decode cX9_number 7 = .ok (.aload_n 0, 1) := by decide +kernel
theorem dX9_number_8 : decode cX9_number 8 = .ok (.aload_n 0, 1) := by decide +kernel
theorem dX9_number_9 : decode cX9_number 9 = .ok (.getfield 266, 3) := by decide +kernel
theorem dX9_number_12 : decode cX9_number 12 = .ok (.iconst 2, 1) := by decide +kernel
theorem dX9_number_13 : decode cX9_number 13 = .ok (.if_icmp .ne 19, 3) := by decide +kernel
theorem dX9_number_16 : decode cX9_number 16 = .ok (.aload_n 0, 1) := by decide +kernel
theorem dX9_number_17 : decode cX9_number 17 = .ok (.getfield 256, 3) := by decide +kernel
theorem dX9_number_20 : decode cX9_number 20 = .ok (.lload_n 1, 1) := by decide +kernel
theorem dX9_number_21 : decode cX9_number 21 = .ok (.lload_n 3, 1) := by decide +kernel
theorem dX9_number_22 : decode cX9_number 22 = .ok (.invokestatic 185, 3) := by decide +kernel
theorem dX9_number_25 : decode cX9_number 25 = .ok (.ifCond .eq 7, 3) := by decide +kernel
theorem dX9_number_28 : decode cX9_number 28 = .ok (.iconst 1, 1) := by decide +kernel
theorem dX9_number_29 : decode cX9_number 29 = .ok (.goto 4, 3) := by decide +kernel
theorem dX9_number_32 : decode cX9_number 32 = .ok (.iconst 0, 1) := by decide +kernel
theorem dX9_number_33 : decode cX9_number 33 = .ok (.invokevirtual 279, 3) := by decide +kernel
theorem dX9_number_36 : decode cX9_number 36 = .ok (.iload 5, 2) := by decide +kernel
theorem dX9_number_38 : decode cX9_number 38 = .ok (.ireturn, 1) := by decide +kernel
theorem dX9_of_0 : decode cX9_of 0 = .ok (.aload_n 0, 1) := by decide +kernel
theorem dX9_of_1 : decode cX9_of 1 = .ok (.iconst 0, 1) := by decide +kernel
theorem dX9_of_2 : decode cX9_of 2 = .ok (.putfield 165, 3) := by decide +kernel
theorem dX9_of_5 : decode cX9_of 5 = .ok (.aload_n 0, 1) := by decide +kernel
theorem dX9_of_6 : decode cX9_of 6 = .ok (.iload_n 1, 1) := by decide +kernel
theorem dX9_of_7 : decode cX9_of 7 = .ok (.invokevirtual 200, 3) := by decide +kernel
theorem dX9_of_10 : decode cX9_of 10 = .ok (.ifCond .eq 15, 3) := by decide +kernel
theorem dX9_of_13 : decode cX9_of 13 = .ok (.iload_n 2, 1) := by decide +kernel
theorem dX9_of_14 : decode cX9_of 14 = .ok (.i2l, 1) := by decide +kernel
theorem dX9_of_15 : decode cX9_of 15 = .ok (.lconst 0, 1) := by decide +kernel
theorem dX9_of_16 : decode cX9_of 16 = .ok (.ldc2_w 204, 3) := by decide +kernel
theorem dX9_of_19 : decode cX9_of 19 = .ok (.invokestatic 185, 3) := by decide +kernel
theorem dX9_of_22 : decode cX9_of 22 = .ok (.ifCond .ne 5, 3) := by decide +kernel
theorem dX9_of_25 : decode cX9_of 25 = .ok (.iconst (-1), 1) := by decide +kernel
theorem dX9_of_26 : decode cX9_of 26 = .ok (.ireturn, 1) := by decide +kernel
theorem dX9_of_27 : decode cX9_of 27 = .ok (.iload_n 2, 1) := by decide +kernel
theorem dX9_of_28 : decode cX9_of 28 = .ok (.tableswitch 72 0 3 #[32, 42, 52, 62], 32) := by decide +kernel
theorem dX9_of_60 : decode cX9_of 60 = .ok (.aload_n 0, 1) := by decide +kernel
theorem dX9_of_61 : decode cX9_of 61 = .ok (.getfield 13, 3) := by decide +kernel
theorem dX9_of_64 : decode cX9_of 64 = .ok (.bipush 8, 2) := by decide +kernel
theorem dX9_of_66 : decode cX9_of 66 = .ok (.iload_n 1, 1) := by decide +kernel
theorem dX9_of_67 : decode cX9_of 67 = .ok (.iadd, 1) := by decide +kernel
theorem dX9_of_68 : decode cX9_of 68 = .ok (.iaload, 1) := by decide +kernel
theorem dX9_of_69 : decode cX9_of 69 = .ok (.ireturn, 1) := by decide +kernel
theorem dX9_of_70 : decode cX9_of 70 = .ok (.aload_n 0, 1) := by decide +kernel
theorem dX9_of_71 : decode cX9_of 71 = .ok (.getfield 13, 3) := by decide +kernel
theorem dX9_of_74 : decode cX9_of 74 = .ok (.bipush 15, 2) := by decide +kernel
theorem dX9_of_76 : decode cX9_of 76 = .ok (.iload_n 1, 1) := by decide +kernel
theorem dX9_of_77 : decode cX9_of 77 = .ok (.iadd, 1) := by decide +kernel
theorem dX9_of_78 : decode cX9_of 78 = .ok (.iaload, 1) := by decide +kernel
theorem dX9_of_79 : decode cX9_of 79 = .ok (.ireturn, 1) := by decide +kernel
theorem dX9_of_80 : decode cX9_of 80 = .ok (.aload_n 0, 1) := by decide +kernel
theorem dX9_of_81 : decode cX9_of 81 = .ok (.getfield 13, 3) := by decide +kernel
theorem dX9_of_84 : decode cX9_of 84 = .ok (.bipush 22, 2) := by decide +kernel
theorem dX9_of_86 : decode cX9_of 86 = .ok (.iload_n 1, 1) := by decide +kernel
theorem dX9_of_87 : decode cX9_of 87 = .ok (.iadd, 1) := by decide +kernel
theorem dX9_of_88 : decode cX9_of 88 = .ok (.iaload, 1) := by decide +kernel
theorem dX9_of_89 : decode cX9_of 89 = .ok (.ireturn, 1) := by decide +kernel
theorem dX9_of_90 : decode cX9_of 90 = .ok (.aload_n 0, 1) := by decide +kernel
theorem dX9_of_91 : decode cX9_of 91 = .ok (.getfield 13, 3) := by decide +kernel
theorem dX9_of_94 : decode cX9_of 94 = .ok (.bipush 29, 2) := by decide +kernel
theorem dX9_of_96 : decode cX9_of 96 = .ok (.iload_n 1, 1) := by decide +kernel
theorem dX9_of_97 : decode cX9_of 97 = .ok (.iadd, 1) := by decide +kernel
theorem dX9_of_98 : decode cX9_of 98 = .ok (.iaload, 1) := by decide +kernel
theorem dX9_of_99 : decode cX9_of 99 = .ok (.ireturn, 1) := by decide +kernel
theorem dX9_of_100 : decode cX9_of 100 = .ok (.iload_n 2, 1) := by decide +kernel
theorem dX9_of_101 : decode cX9_of 101 = .ok (.iconst 4, 1) := by decide +kernel
theorem dX9_of_102 : decode cX9_of 102 = .ok (.irem, 1) := by decide +kernel
theorem dX9_of_103 : decode cX9_of 103 = .ok (.istore_n 3, 1) := by decide +kernel
theorem dX9_of_104 : decode cX9_of 104 = .ok (.iload_n 2, 1) := by decide +kernel
theorem dX9_of_105 : decode cX9_of 105 = .ok (.bipush 8, 2) := by decide +kernel
theorem dX9_of_107 : decode cX9_of 107 = .ok (.if_icmp .ge 19, 3) := by decide +kernel
theorem dX9_of_110 : decode cX9_of 110 = .ok (.aload_n 0, 1) := by decide +kernel
theorem dX9_of_111 : decode cX9_of 111 = .ok (.getfield 13, 3) := by decide +kernel
theorem dX9_of_114 : decode cX9_of 114 = .ok (.bipush 36, 2) := by decide +kernel
theorem dX9_of_116 : decode cX9_of 116 = .ok (.iconst 4, 1) := by decide +kernel
theorem dX9_of_117 : decode cX9_of 117 = .ok (.iload_n 1, 1) := by decide +kernel
theorem dX9_of_118 : decode cX9_of 118 = .ok (.imul, 1) := by decide +kernel
theorem dX9_of_119 : decode cX9_of 119 = .ok (.iadd, 1) := by decide +kernel
theorem dX9_of_120 : decode cX9_of 120 = .ok (.iload_n 3, 1) := by decide +kernel
theorem dX9_of_121 : decode cX9_of 121 = .ok (.iadd, 1) := by decide +kernel
theorem dX9_of_122 : decode cX9_of 122 = .ok (.iaload, 1) := by decide +kernel
theorem dX9_of_123 : decode cX9_of 123 = .ok (.goto 32, 3) := by decide +kernel
theorem dX9_of_126 : decode cX9_of 126 = .ok (.iload_n 2, 1) := by decide +kernel
theorem dX9_of_127 : decode cX9_of 127 = .ok (.bipush 12, 2) := by decide +kernel
theorem dX9_of_129 : decode cX9_of 129 = .ok (.if_icmp .ge 12, 3) := by decide +kernel
theorem dX9_of_132 : decode cX9_of 132 = .ok (.aload_n 0, 1) := by decide +kernel
theorem dX9_of_133 : decode cX9_of 133 = .ok (.iload_n 1, 1) := by decide +kernel
theorem dX9_of_134 : decode cX9_of 134 = .ok (.iload_n 3, 1) := by decide +kernel
theorem dX9_of_135 : decode cX9_of 135 = .ok (.invokevirtual 206, 3) := by decide +kernel
theorem dX9_of_138 : decode cX9_of 138 = .ok (.goto 17, 3) := by decide +kernel
theorem dX9_of_141 : decode cX9_of 141 = .ok (.aload_n 0, 1) := by decide +kernel
theorem dX9_of_142 : decode cX9_of 142 = .ok (.iload_n 1, 1) := by decide +kernel
theorem dX9_of_143 : decode cX9_of 143 = .ok (.iload_n 3, 1) := by decide +kernel
theorem dX9_of_144 : decode cX9_of 144 = .ok (.invokevirtual 209, 3) := by decide +kernel
theorem dX9_of_147 : decode cX9_of 147 = .ok (.ifCond .eq 7, 3) := by decide +kernel
theorem dX9_of_150 : decode cX9_of 150 = .ok (.iconst 1, 1) := by decide +kernel
theorem dX9_of_151 : decode cX9_of 151 = .ok (.goto 4, 3) := by decide +kernel
theorem dX9_of_154 : decode cX9_of 154 = .ok (.iconst 0, 1) := by decide +kernel
theorem dX9_of_155 : decode cX9_of 155 = .ok (.ireturn, 1) := by decide +kernel
theorem dX9_ones_0 : decode cX9_ones 0 = .ok (.iconst 0, 1) := by decide +kernel
theorem dX9_ones_1 : decode cX9_ones 1 = .ok (.istore_n 1, 1) := by decide +kernel
theorem dX9_ones_2 : decode cX9_ones 2 = .ok (.iconst 0, 1) := by decide +kernel
theorem dX9_ones_3 : decode cX9_ones 3 = .ok (.istore_n 2, 1) := by decide +kernel
theorem dX9_ones_4 : decode cX9_ones 4 = .ok (.iload_n 2, 1) := by decide +kernel
theorem dX9_ones_5 : decode cX9_ones 5 = .ok (.bipush 7, 2) := by decide +kernel
theorem dX9_ones_7 : decode cX9_ones 7 = .ok (.if_icmp .ge 17, 3) := by decide +kernel
theorem dX9_ones_10 : decode cX9_ones 10 = .ok (.iload_n 1, 1) := by decide +kernel
theorem dX9_ones_11 : decode cX9_ones 11 = .ok (.iload_n 0, 1) := by decide +kernel
theorem dX9_ones_12 : decode cX9_ones 12 = .ok (.iload_n 2, 1) := by decide +kernel
theorem dX9_ones_13 : decode cX9_ones 13 = .ok (.ishr, 1) := by decide +kernel
theorem dX9_ones_14 : decode cX9_ones 14 = .ok (.iconst 1, 1) := by decide +kernel
theorem dX9_ones_15 : decode cX9_ones 15 = .ok (.iand, 1) := by decide +kernel
theorem dX9_ones_16 : decode cX9_ones 16 = .ok (.iadd, 1) := by decide +kernel
theorem dX9_ones_17 : decode cX9_ones 17 = .ok (.istore_n 1, 1) := by decide +kernel
theorem dX9_ones_18 : decode cX9_ones 18 = .ok (.iinc 2 1, 3) := by decide +kernel
theorem dX9_ones_21 : decode cX9_ones 21 = .ok (.goto (-17), 3) := by decide +kernel
theorem dX9_ones_24 : decode cX9_ones 24 = .ok (.iload_n 1, 1) := by decide +kernel
theorem dX9_ones_25 : decode cX9_ones 25 = .ok (.ireturn, 1) := by decide +kernel
theorem dX9_openBracket_0 : decode cX9_openBracket 0 = .ok (.aload_n 0, 1) := by decide +kernel
theorem dX9_openBracket_1 : decode cX9_openBracket 1 = .ok (.aload_n 0, 1) := by decide +kernel
theorem dX9_openBracket_2 : decode cX9_openBracket 2 = .ok (.getfield 308, 3) := by decide +kernel
theorem dX9_openBracket_5 : decode cX9_openBracket 5 = .ok (.bipush 8, 2) := by decide +kernel
theorem dX9_openBracket_7 : decode cX9_openBracket 7 = .ok (.if_icmp .ge 7, 3) := by decide +kernel
theorem dX9_openBracket_10 : decode cX9_openBracket 10 = .ok (.iconst 1, 1) := by decide +kernel
theorem dX9_openBracket_11 : decode cX9_openBracket 11 = .ok (.goto 4, 3) := by decide +kernel
theorem dX9_openBracket_14 : decode cX9_openBracket 14 = .ok (.iconst 0, 1) := by decide +kernel
theorem dX9_openBracket_15 : decode cX9_openBracket 15 = .ok (.invokevirtual 279, 3) := by decide +kernel
theorem dX9_openBracket_18 : decode cX9_openBracket 18 = .ok (.aload_n 0, 1) := by decide +kernel
theorem dX9_openBracket_19 : decode cX9_openBracket 19 = .ok (.getfield 246, 3) := by decide +kernel
theorem dX9_openBracket_22 : decode cX9_openBracket 22 = .ok (.ifCond .ne 19, 3) := by decide +kernel
theorem dX9_openBracket_25 : decode cX9_openBracket 25 = .ok (.aload_n 0, 1) := by decide +kernel
theorem dX9_openBracket_26 : decode cX9_openBracket 26 = .ok (.dup, 1) := by decide +kernel
theorem dX9_openBracket_27 : decode cX9_openBracket 27 = .ok (.getfield 308, 3) := by decide +kernel
theorem dX9_openBracket_30 : decode cX9_openBracket 30 = .ok (.iconst 1, 1) := by decide +kernel
theorem dX9_openBracket_31 : decode cX9_openBracket 31 = .ok (.iadd, 1) := by decide +kernel
theorem dX9_openBracket_32 : decode cX9_openBracket 32 = .ok (.putfield 308, 3) := by decide +kernel
theorem dX9_openBracket_35 : decode cX9_openBracket 35 = .ok (.aload_n 0, 1) := by decide +kernel
theorem dX9_openBracket_36 : decode cX9_openBracket 36 = .ok (.iload_n 1, 1) := by decide +kernel
theorem dX9_openBracket_37 : decode cX9_openBracket 37 = .ok (.iconst 0, 1) := by decide +kernel
theorem dX9_openBracket_38 : decode cX9_openBracket 38 = .ok (.invokevirtual 311, 3) := by decide +kernel
theorem dX9_openBracket_41 : decode cX9_openBracket 41 = .ok (.return_, 1) := by decide +kernel
theorem dX9_orderPartAt_0 : decode cX9_orderPartAt 0 = .ok (.iconst (-1), 1) := by decide +kernel
theorem dX9_orderPartAt_1 : decode cX9_orderPartAt 1 = .ok (.istore_n 1, 1) := by decide +kernel
theorem dX9_orderPartAt_2 : decode cX9_orderPartAt 2 = .ok (.iconst 0, 1) := by decide +kernel
theorem dX9_orderPartAt_3 : decode cX9_orderPartAt 3 = .ok (.istore_n 2, 1) := by decide +kernel
theorem dX9_orderPartAt_4 : decode cX9_orderPartAt 4 = .ok (.iload_n 2, 1) := by decide +kernel
theorem dX9_orderPartAt_5 : decode cX9_orderPartAt 5 = .ok (.bipush 7, 2) := by decide +kernel
theorem dX9_orderPartAt_7 : decode cX9_orderPartAt 7 = .ok (.if_icmp .ge 30, 3) := by decide +kernel
theorem dX9_orderPartAt_10 : decode cX9_orderPartAt 10 = .ok (.aload_n 0, 1) := by decide +kernel
theorem dX9_orderPartAt_11 : decode cX9_orderPartAt 11 = .ok (.aload_n 0, 1) := by decide +kernel
theorem dX9_orderPartAt_12 : decode cX9_orderPartAt 12 = .ok (.getfield 85, 3) := by decide +kernel
theorem dX9_orderPartAt_15 : decode cX9_orderPartAt 15 = .ok (.iload_n 2, 1) := by decide +kernel
theorem dX9_orderPartAt_16 : decode cX9_orderPartAt 16 = .ok (.laload, 1) := by decide +kernel
theorem dX9_orderPartAt_17 : decode cX9_orderPartAt 17 = .ok (.invokevirtual 304, 3) := by decide +kernel
theorem dX9_orderPartAt_20 : decode cX9_orderPartAt 20 = .ok (.ifCond .eq 9, 3) := by decide +kernel
theorem dX9_orderPartAt_23 : decode cX9_orderPartAt 23 = .ok (.iload_n 2, 1) := by decide +kernel
theorem dX9_orderPartAt_24 : decode cX9_orderPartAt 24 = .ok (.iconst 1, 1) := by decide +kernel
theorem dX9_orderPartAt_25 : decode cX9_orderPartAt 25 = .ok (.iadd, 1) := by decide +kernel
theorem dX9_orderPartAt_26 : decode cX9_orderPartAt 26 = .ok (.goto 4, 3) := by decide +kernel
theorem dX9_orderPartAt_29 : decode cX9_orderPartAt 29 = .ok (.iload_n 1, 1) := by decide +kernel
theorem dX9_orderPartAt_30 : decode cX9_orderPartAt 30 = .ok (.istore_n 1, 1) := by decide +kernel
theorem dX9_orderPartAt_31 : decode cX9_orderPartAt 31 = .ok (.iinc 2 1, 3) := by decide +kernel
theorem dX9_orderPartAt_34 : decode cX9_orderPartAt 34 = .ok (.goto (-30), 3) := by decide +kernel
theorem dX9_orderPartAt_37 : decode cX9_orderPartAt 37 = .ok (.iload_n 1, 1) := by decide +kernel
theorem dX9_orderPartAt_38 : decode cX9_orderPartAt 38 = .ok (.ireturn, 1) := by decide +kernel
theorem dX9_orderSum_0 : decode cX9_orderSum 0 = .ok (.aload_n 0, 1) := by decide +kernel
theorem dX9_orderSum_1 : decode cX9_orderSum 1 = .ok (.getfield 520, 3) := by decide +kernel
theorem dX9_orderSum_4 : decode cX9_orderSum 4 = .ok (.ifCond .ne 20, 3) := by decide +kernel
theorem dX9_orderSum_7 : decode cX9_orderSum 7 = .ok (.aload_n 0, 1) := by decide +kernel
theorem dX9_orderSum_8 : decode cX9_orderSum 8 = .ok (.getfield 153, 3) := by decide +kernel
theorem dX9_orderSum_11 : decode cX9_orderSum 11 = .ok (.iload_n 1, 1) := by decide +kernel
theorem dX9_orderSum_12 : decode cX9_orderSum 12 = .ok (.iaload, 1) := by decide +kernel
theorem dX9_orderSum_13 : decode cX9_orderSum 13 = .ok (.aload_n 0, 1) := by decide +kernel
theorem dX9_orderSum_14 : decode cX9_orderSum 14 = .ok (.getfield 153, 3) := by decide +kernel
theorem dX9_orderSum_17 : decode cX9_orderSum 17 = .ok (.iload_n 1, 1) := by decide +kernel
theorem dX9_orderSum_18 : decode cX9_orderSum 18 = .ok (.iconst 1, 1) := by decide +kernel
theorem dX9_orderSum_19 : decode cX9_orderSum 19 = .ok (.iadd, 1) := by decide +kernel
theorem dX9_orderSum_20 : decode cX9_orderSum 20 = .ok (.iaload, 1) := by decide +kernel
theorem dX9_orderSum_21 : decode cX9_orderSum 21 = .ok (.if_icmp .ne 5, 3) := by decide +kernel
theorem dX9_orderSum_24 : decode cX9_orderSum 24 = .ok (.iconst (-1), 1) := by decide +kernel
theorem dX9_orderSum_25 : decode cX9_orderSum 25 = .ok (.ireturn, 1) := by decide +kernel
theorem dX9_orderSum_26 : decode cX9_orderSum 26 = .ok (.aload_n 0, 1) := by decide +kernel
theorem dX9_orderSum_27 : decode cX9_orderSum 27 = .ok (.iconst 1, 1) := by decide +kernel
theorem dX9_orderSum_28 : decode cX9_orderSum 28 = .ok (.putfield 323, 3) := by decide +kernel
theorem dX9_orderSum_31 : decode cX9_orderSum 31 = .ok (.aload_n 0, 1) := by decide +kernel
theorem dX9_orderSum_32 : decode cX9_orderSum 32 = .ok (.aload_n 0, 1) := by decide +kernel
theorem dX9_orderSum_33 : decode cX9_orderSum 33 = .ok (.getfield 153, 3) := by decide +kernel
theorem dX9_orderSum_36 : decode cX9_orderSum 36 = .ok (.iload_n 1, 1) := by decide +kernel
theorem dX9_orderSum_37 : decode cX9_orderSum 37 = .ok (.iaload, 1) := by decide +kernel
theorem dX9_orderSum_38 : decode cX9_orderSum 38 = .ok (.aload_n 0, 1) := by decide +kernel
theorem dX9_orderSum_39 : decode cX9_orderSum 39 = .ok (.getfield 153, 3) := by decide +kernel
theorem dX9_orderSum_42 : decode cX9_orderSum 42 = .ok (.iload_n 1, 1) := by decide +kernel
theorem dX9_orderSum_43 : decode cX9_orderSum 43 = .ok (.iconst 1, 1) := by decide +kernel
theorem dX9_orderSum_44 : decode cX9_orderSum 44 = .ok (.iadd, 1) := by decide +kernel
theorem dX9_orderSum_45 : decode cX9_orderSum 45 = .ok (.iaload, 1) := by decide +kernel
theorem dX9_orderSum_46 : decode cX9_orderSum 46 = .ok (.invokevirtual 414, 3) := by decide +kernel
theorem dX9_orderSum_49 : decode cX9_orderSum 49 = .ok (.aload_n 0, 1) := by decide +kernel
theorem dX9_orderSum_50 : decode cX9_orderSum 50 = .ok (.iconst 0, 1) := by decide +kernel
theorem dX9_orderSum_51 : decode cX9_orderSum 51 = .ok (.putfield 323, 3) := by decide +kernel
theorem dX9_orderSum_54 : decode cX9_orderSum 54 = .ok (.aload_n 0, 1) := by decide +kernel
theorem dX9_orderSum_55 : decode cX9_orderSum 55 = .ok (.aload_n 0, 1) := by decide +kernel
theorem dX9_orderSum_56 : decode cX9_orderSum 56 = .ok (.getfield 397, 3) := by decide +kernel
theorem dX9_orderSum_59 : decode cX9_orderSum 59 = .ok (.putfield 520, 3) := by decide +kernel
theorem dX9_orderSum_62 : decode cX9_orderSum 62 = .ok (.aload_n 0, 1) := by decide +kernel
theorem dX9_orderSum_63 : decode cX9_orderSum 63 = .ok (.getfield 411, 3) := by decide +kernel
theorem dX9_orderSum_66 : decode cX9_orderSum 66 = .ok (.l2i, 1) := by decide +kernel
theorem dX9_orderSum_67 : decode cX9_orderSum 67 = .ok (.ireturn, 1) := by decide +kernel
theorem dX9_orders_0 : decode cX9_orders 0 = .ok (.aload_n 0, 1) := by decide +kernel
theorem dX9_orders_1 : decode cX9_orders 1 = .ok (.iconst 0, 1) := by decide +kernel
theorem dX9_orders_2 : decode cX9_orders 2 = .ok (.putfield 165, 3) := by decide +kernel
theorem dX9_orders_5 : decode cX9_orders 5 = .ok (.aload_n 0, 1) := by decide +kernel
theorem dX9_orders_6 : decode cX9_orders 6 = .ok (.iconst (-1), 1) := by decide +kernel
theorem dX9_orders_7 : decode cX9_orders 7 = .ok (.putfield 156, 3) := by decide +kernel
theorem dX9_orders_10 : decode cX9_orders 10 = .ok (.aload_n 0, 1) := by decide +kernel
theorem dX9_orders_11 : decode cX9_orders 11 = .ok (.iconst 1, 1) := by decide +kernel
theorem dX9_orders_12 : decode cX9_orders 12 = .ok (.invokevirtual 385, 3) := by decide +kernel
theorem dX9_orders_15 : decode cX9_orders 15 = .ok (.aload_n 0, 1) := by decide +kernel
theorem dX9_orders_16 : decode cX9_orders 16 = .ok (.invokevirtual 538, 3) := by decide +kernel
theorem dX9_orders_19 : decode cX9_orders 19 = .ok (.aload_n 0, 1) := by decide +kernel
theorem dX9_orders_20 : decode cX9_orders 20 = .ok (.getfield 246, 3) := by decide +kernel
theorem dX9_orders_23 : decode cX9_orders 23 = .ok (.ifCond .ne 23, 3) := by decide +kernel
theorem dX9_orders_26 : decode cX9_orders 26 = .ok (.aload_n 0, 1) := by decide +kernel
theorem dX9_orders_27 : decode cX9_orders 27 = .ok (.bipush 59, 2) := by decide +kernel
theorem dX9_orders_29 : decode cX9_orders 29 = .ok (.invokevirtual 317, 3) := by decide +kernel
theorem dX9_orders_32 : decode cX9_orders 32 = .ok (.ifCond .eq 14, 3) := by decide +kernel
theorem dX9_orders_35 : decode cX9_orders 35 = .ok (.aload_n 0, 1) := by decide +kernel
theorem dX9_orders_36 : decode cX9_orders 36 = .ok (.invokevirtual 250, 3) := by decide +kernel
theorem dX9_orders_39 : decode cX9_orders 39 = .ok (.aload_n 0, 1) := by decide +kernel
theorem dX9_orders_40 : decode cX9_orders 40 = .ok (.invokevirtual 538, 3) := by decide +kernel
theorem dX9_orders_43 : decode cX9_orders 43 = .ok (.goto (-24), 3) := by decide +kernel
theorem dX9_orders_46 : decode cX9_orders 46 = .ok (.aload_n 0, 1) := by decide +kernel
theorem dX9_orders_47 : decode cX9_orders 47 = .ok (.invokevirtual 391, 3) := by decide +kernel
theorem dX9_orders_50 : decode cX9_orders 50 = .ok (.aload_n 0, 1) := by decide +kernel
theorem dX9_orders_51 : decode cX9_orders 51 = .ok (.getfield 246, 3) := by decide +kernel
theorem dX9_orders_54 : decode cX9_orders 54 = .ok (.ifCond .eq 10, 3) := by decide +kernel
theorem dX9_orders_57 : decode cX9_orders 57 = .ok (.aload_n 0, 1) := by decide +kernel
theorem dX9_orders_58 : decode cX9_orders 58 = .ok (.bipush (-6), 2) := by decide +kernel
theorem dX9_orders_60 : decode cX9_orders 60 = .ok (.invokevirtual 174, 3) := by decide +kernel
theorem dX9_orders_63 : decode cX9_orders 63 = .ok (.ireturn, 1) := by decide +kernel
theorem dX9_orders_64 : decode cX9_orders 64 = .ok (.aload_n 0, 1) := by decide +kernel
theorem dX9_orders_65 : decode cX9_orders 65 = .ok (.bipush 17, 2) := by decide +kernel
theorem dX9_orders_67 : decode cX9_orders 67 = .ok (.invokevirtual 178, 3) := by decide +kernel
theorem dX9_orders_70 : decode cX9_orders 70 = .ok (.aload_n 0, 1) := by decide +kernel
theorem dX9_orders_71 : decode cX9_orders 71 = .ok (.getfield 171, 3) := by decide +kernel
theorem dX9_orders_74 : decode cX9_orders 74 = .ok (.istore_n 1, 1) := by decide +kernel
theorem dX9_orders_75 : decode cX9_orders 75 = .ok (.iconst 0, 1) := by decide +kernel
theorem dX9_orders_76 : decode cX9_orders 76 = .ok (.istore_n 2, 1) := by decide +kernel
theorem dX9_orders_77 : decode cX9_orders 77 = .ok (.iload_n 2, 1) := by decide +kernel
theorem dX9_orders_78 : decode cX9_orders 78 = .ok (.sipush 400, 3) := by decide +kernel
theorem dX9_orders_81 : decode cX9_orders 81 = .ok (.if_icmp .ge 21, 3) := by decide +kernel
theorem dX9_orders_84 : decode cX9_orders 84 = .ok (.aload_n 0, 1) := by decide +kernel
theorem dX9_orders_85 : decode cX9_orders 85 = .ok (.getfield 29, 3) := by decide +kernel
theorem dX9_orders_88 : decode cX9_orders 88 = .ok (.iload_n 2, 1) := by decide +kernel
theorem dX9_orders_89 : decode cX9_orders 89 = .ok (.aload_n 0, 1) := by decide +kernel
theorem dX9_orders_90 : decode cX9_orders 90 = .ok (.getfield 23, 3) := by decide +kernel
theorem dX9_orders_93 : decode cX9_orders 93 = .ok (.iload_n 2, 1) := by decide +kernel
theorem dX9_orders_94 : decode cX9_orders 94 = .ok (.iaload, 1) := by decide +kernel
theorem dX9_orders_95 : decode cX9_orders 95 = .ok (.iastore, 1) := by decide +kernel
theorem dX9_orders_96 : decode cX9_orders 96 = .ok (.iinc 2 1, 3) := by decide +kernel
theorem dX9_orders_99 : decode cX9_orders 99 = .ok (.goto (-22), 3) := by decide +kernel
theorem dX9_orders_102 : decode cX9_orders 102 = .ok (.iconst 0, 1) := by decide +kernel
theorem dX9_orders_103 : decode cX9_orders 103 = .ok (.istore_n 2, 1) := by decide +kernel
theorem dX9_orders_104 : decode cX9_orders 104 = .ok (.iload_n 2, 1) := by decide +kernel
theorem dX9_orders_105 : decode cX9_orders 105 = .ok (.bipush 16, 2) := by decide +kernel
theorem dX9_orders_107 : decode cX9_orders 107 = .ok (.if_icmp .ge 21, 3) := by decide +kernel
theorem dX9_orders_110 : decode cX9_orders 110 = .ok (.aload_n 0, 1) := by decide +kernel
theorem dX9_orders_111 : decode cX9_orders 111 = .ok (.getfield 32, 3) := by decide +kernel
theorem dX9_orders_114 : decode cX9_orders 114 = .ok (.iload_n 2, 1) := by decide +kernel
theorem dX9_orders_115 : decode cX9_orders 115 = .ok (.aload_n 0, 1) := by decide +kernel
theorem dX9_orders_116 : decode cX9_orders 116 = .ok (.getfield 26, 3) := by decide +kernel
theorem dX9_orders_119 : decode cX9_orders 119 = .ok (.iload_n 2, 1) := by decide +kernel
theorem dX9_orders_120 : decode cX9_orders 120 = .ok (.iaload, 1) := by decide +kernel
theorem dX9_orders_121 : decode cX9_orders 121 = .ok (.iastore, 1) := by decide +kernel
theorem dX9_orders_122 : decode cX9_orders 122 = .ok (.iinc 2 1, 3) := by decide +kernel
theorem dX9_orders_125 : decode cX9_orders 125 = .ok (.goto (-21), 3) := by decide +kernel
theorem dX9_orders_128 : decode cX9_orders 128 = .ok (.aload_n 0, 1) := by decide +kernel
theorem dX9_orders_129 : decode cX9_orders 129 = .ok (.iconst 0, 1) := by decide +kernel
theorem dX9_orders_130 : decode cX9_orders 130 = .ok (.putfield 523, 3) := by decide +kernel
theorem dX9_orders_133 : decode cX9_orders 133 = .ok (.aload_n 0, 1) := by decide +kernel
theorem dX9_orders_134 : decode cX9_orders 134 = .ok (.iconst (-1), 1) := by decide +kernel
theorem dX9_orders_135 : decode cX9_orders 135 = .ok (.putfield 526, 3) := by decide +kernel
theorem dX9_orders_138 : decode cX9_orders 138 = .ok (.iconst 0, 1) := by decide +kernel
theorem dX9_orders_139 : decode cX9_orders 139 = .ok (.istore_n 2, 1) := by decide +kernel
theorem dX9_orders_140 : decode cX9_orders 140 = .ok (.iload_n 2, 1) := by decide +kernel
theorem dX9_orders_141 : decode cX9_orders 141 = .ok (.aload_n 0, 1) := by decide +kernel
theorem dX9_orders_142 : decode cX9_orders 142 = .ok (.getfield 377, 3) := by decide +kernel
theorem dX9_orders_145 : decode cX9_orders 145 = .ok (.if_icmp .ge 61, 3) := by decide +kernel
theorem dX9_orders_148 : decode cX9_orders 148 = .ok (.iconst 0, 1) := by decide +kernel
theorem dX9_orders_149 : decode cX9_orders 149 = .ok (.istore_n 3, 1) := by decide +kernel
theorem dX9_orders_150 : decode cX9_orders 150 = .ok (.iload_n 3, 1) := by decide +kernel
theorem dX9_orders_151 : decode cX9_orders 151 = .ok (.aload_n 0, 1) := by decide +kernel
theorem dX9_orders_152 : decode cX9_orders 152 = .ok (.getfield 153, 3) := by decide +kernel
theorem dX9_orders_155 : decode cX9_orders 155 = .ok (.bipush 8, 2) := by decide +kernel
theorem dX9_orders_157 : decode cX9_orders 157 = .ok (.iload_n 2, 1) := by decide +kernel
theorem dX9_orders_158 : decode cX9_orders 158 = .ok (.imul, 1) := by decide +kernel
theorem dX9_orders_159 : decode cX9_orders 159 = .ok (.bipush 7, 2) := by decide +kernel
theorem dX9_orders_161 : decode cX9_orders 161 = .ok (.iadd, 1) := by decide +kernel
theorem dX9_orders_162 : decode cX9_orders 162 = .ok (.iaload, 1) := by decide +kernel
theorem dX9_orders_163 : decode cX9_orders 163 = .ok (.if_icmp .ge 37, 3) := by decide +kernel
theorem dX9_orders_166 : decode cX9_orders 166 = .ok (.aload_n 0, 1) := by decide +kernel
theorem dX9_orders_167 : decode cX9_orders 167 = .ok (.bipush 8, 2) := by decide +kernel
theorem dX9_orders_169 : decode cX9_orders 169 = .ok (.iload_n 2, 1) := by decide +kernel
theorem dX9_orders_170 : decode cX9_orders 170 = .ok (.imul, 1) := by decide +kernel
theorem dX9_orders_171 : decode cX9_orders 171 = .ok (.invokevirtual 541, 3) := by decide +kernel
theorem dX9_orders_174 : decode cX9_orders 174 = .ok (.ifCond .ge 20, 3) := by decide +kernel
theorem dX9_orders_177 : decode cX9_orders 177 = .ok (.aload_n 0, 1) := by decide +kernel
theorem dX9_orders_178 : decode cX9_orders 178 = .ok (.iload_n 1, 1) := by decide +kernel
theorem dX9_orders_179 : decode cX9_orders 179 = .ok (.invokevirtual 544, 3) := by decide +kernel
theorem dX9_orders_182 : decode cX9_orders 182 = .ok (.aload_n 0, 1) := by decide +kernel
theorem dX9_orders_183 : decode cX9_orders 183 = .ok (.iload_n 2, 1) := by decide +kernel
theorem dX9_orders_184 : decode cX9_orders 184 = .ok (.putfield 156, 3) := by decide +kernel
theorem dX9_orders_187 : decode cX9_orders 187 = .ok (.aload_n 0, 1) := by decide +kernel
theorem dX9_orders_188 : decode cX9_orders 188 = .ok (.bipush (-3), 2) := by decide +kernel
theorem dX9_orders_190 : decode cX9_orders 190 = .ok (.invokevirtual 174, 3) := by decide +kernel
theorem dX9_orders_193 : decode cX9_orders 193 = .ok (.ireturn, 1) := by decide +kernel
theorem dX9_orders_194 : decode cX9_orders 194 = .ok (.iinc 3 1, 3) := by decide +kernel
theorem dX9_orders_197 : decode cX9_orders 197 = .ok (.goto (-47), 3) := by decide +kernel
theorem dX9_orders_200 : decode cX9_orders 200 = .ok (.iinc 2 1, 3) := by decide +kernel
theorem dX9_orders_203 : decode cX9_orders 203 = .ok (.goto (-63), 3) := by decide +kernel
theorem dX9_orders_206 : decode cX9_orders 206 = .ok (.aload_n 0, 1) := by decide +kernel
theorem dX9_orders_207 : decode cX9_orders 207 = .ok (.aload_n 0, 1) := by decide +kernel
theorem dX9_orders_208 : decode cX9_orders 208 = .ok (.getfield 523, 3) := by decide +kernel
theorem dX9_orders_211 : decode cX9_orders 211 = .ok (.invokevirtual 174, 3) := by decide +kernel
theorem dX9_orders_214 : decode cX9_orders 214 = .ok (.ireturn, 1) := by decide +kernel
theorem dX9_partAt_0 : decode cX9_partAt 0 = .ok (.iconst (-1), 1) := by decide +kernel
theorem dX9_partAt_1 : decode cX9_partAt 1 = .ok (.istore_n 1, 1) := by decide +kernel
theorem dX9_partAt_2 : decode cX9_partAt 2 = .ok (.iconst 0, 1) := by decide +kernel
theorem dX9_partAt_3 : decode cX9_partAt 3 = .ok (.istore_n 2, 1) := by decide +kernel
theorem dX9_partAt_4 : decode cX9_partAt 4 = .ok (.iload_n 2, 1) := by decide +kernel
theorem dX9_partAt_5 : decode cX9_partAt 5 = .ok (.bipush 9, 2) := by decide +kernel
theorem dX9_partAt_7 : decode cX9_partAt 7 = .ok (.if_icmp .ge 30, 3) := by decide +kernel
theorem dX9_partAt_10 : decode cX9_partAt 10 = .ok (.aload_n 0, 1) := by decide +kernel
theorem dX9_partAt_11 : decode cX9_partAt 11 = .ok (.aload_n 0, 1) := by decide +kernel
theorem dX9_partAt_12 : decode cX9_partAt 12 = .ok (.getfield 75, 3) := by decide +kernel
theorem dX9_partAt_15 : decode cX9_partAt 15 = .ok (.iload_n 2, 1) := by decide +kernel
theorem dX9_partAt_16 : decode cX9_partAt 16 = .ok (.laload, 1) := by decide +kernel
theorem dX9_partAt_17 : decode cX9_partAt 17 = .ok (.invokevirtual 304, 3) := by decide +kernel
theorem dX9_partAt_20 : decode cX9_partAt 20 = .ok (.ifCond .eq 9, 3) := by decide +kernel
theorem dX9_partAt_23 : decode cX9_partAt 23 = .ok (.iload_n 2, 1) := by decide +kernel
theorem dX9_partAt_24 : decode cX9_partAt 24 = .ok (.iconst 1, 1) := by decide +kernel
theorem dX9_partAt_25 : decode cX9_partAt 25 = .ok (.iadd, 1) := by decide +kernel
theorem dX9_partAt_26 : decode cX9_partAt 26 = .ok (.goto 4, 3) := by decide +kernel
theorem dX9_partAt_29 : decode cX9_partAt 29 = .ok (.iload_n 1, 1) := by decide +kernel
theorem dX9_partAt_30 : decode cX9_partAt 30 = .ok (.istore_n 1, 1) := by decide +kernel
theorem dX9_partAt_31 : decode cX9_partAt 31 = .ok (.iinc 2 1, 3) := by decide +kernel
theorem dX9_partAt_34 : decode cX9_partAt 34 = .ok (.goto (-30), 3) := by decide +kernel
theorem dX9_partAt_37 : decode cX9_partAt 37 = .ok (.iload_n 1, 1) := by decide +kernel
theorem dX9_partAt_38 : decode cX9_partAt 38 = .ok (.ireturn, 1) := by decide +kernel
theorem dX9_pass_0 : decode cX9_pass 0 = .ok (.aload_n 0, 1) := by decide +kernel
theorem dX9_pass_1 : decode cX9_pass 1 = .ok (.iconst 0, 1) := by decide +kernel
theorem dX9_pass_2 : decode cX9_pass 2 = .ok (.putfield 165, 3) := by decide +kernel
theorem dX9_pass_5 : decode cX9_pass 5 = .ok (.aload_n 0, 1) := by decide +kernel
theorem dX9_pass_6 : decode cX9_pass 6 = .ok (.aload_n 0, 1) := by decide +kernel
theorem dX9_pass_7 : decode cX9_pass 7 = .ok (.invokevirtual 464, 3) := by decide +kernel
theorem dX9_pass_10 : decode cX9_pass 10 = .ok (.invokevirtual 174, 3) := by decide +kernel
theorem dX9_pass_13 : decode cX9_pass 13 = .ok (.ireturn, 1) := by decide +kernel
theorem dX9_passIt_0 : decode cX9_passIt 0 = .ok (.iconst 0, 1) := by decide +kernel
theorem dX9_passIt_1 : decode cX9_passIt 1 = .ok (.istore_n 1, 1) := by decide +kernel
theorem dX9_passIt_2 : decode cX9_passIt 2 = .ok (.iconst 0, 1) := by decide +kernel
theorem dX9_passIt_3 : decode cX9_passIt 3 = .ok (.istore_n 2, 1) := by decide +kernel
theorem dX9_passIt_4 : decode cX9_passIt 4 = .ok (.iload_n 2, 1) := by decide +kernel
theorem dX9_passIt_5 : decode cX9_passIt 5 = .ok (.aload_n 0, 1) := by decide +kernel
theorem dX9_passIt_6 : decode cX9_passIt 6 = .ok (.getfield 13, 3) := by decide +kernel
theorem dX9_passIt_9 : decode cX9_passIt 9 = .ok (.iconst 0, 1) := by decide +kernel
theorem dX9_passIt_10 : decode cX9_passIt 10 = .ok (.iaload, 1) := by decide +kernel
theorem dX9_passIt_11 : decode cX9_passIt 11 = .ok (.if_icmp .ge 35, 3) := by decide +kernel
theorem dX9_passIt_14 : decode cX9_passIt 14 = .ok (.aload_n 0, 1) := by decide +kernel
theorem dX9_passIt_15 : decode cX9_passIt 15 = .ok (.iload_n 2, 1) := by decide +kernel
theorem dX9_passIt_16 : decode cX9_passIt 16 = .ok (.invokevirtual 458, 3) := by decide +kernel
theorem dX9_passIt_19 : decode cX9_passIt 19 = .ok (.ifCond .eq 21, 3) := by decide +kernel
theorem dX9_passIt_22 : decode cX9_passIt 22 = .ok (.aload_n 0, 1) := by decide +kernel
theorem dX9_passIt_23 : decode cX9_passIt 23 = .ok (.getfield 13, 3) := by decide +kernel
theorem dX9_passIt_26 : decode cX9_passIt 26 = .ok (.bipush 8, 2) := by decide +kernel
theorem dX9_passIt_28 : decode cX9_passIt 28 = .ok (.iload_n 2, 1) := by decide +kernel
theorem dX9_passIt_29 : decode cX9_passIt 29 = .ok (.iadd, 1) := by decide +kernel
theorem dX9_passIt_30 : decode cX9_passIt 30 = .ok (.aload_n 0, 1) := by decide +kernel
theorem dX9_passIt_31 : decode cX9_passIt 31 = .ok (.iload_n 2, 1) := by decide +kernel
theorem dX9_passIt_32 : decode cX9_passIt 32 = .ok (.iconst 0, 1) := by decide +kernel
theorem dX9_passIt_33 : decode cX9_passIt 33 = .ok (.invokevirtual 437, 3) := by decide +kernel
theorem dX9_passIt_36 : decode cX9_passIt 36 = .ok (.iastore, 1) := by decide +kernel
theorem dX9_passIt_37 : decode cX9_passIt 37 = .ok (.iinc 1 1, 3) := by decide +kernel
theorem dX9_passIt_40 : decode cX9_passIt 40 = .ok (.iinc 2 1, 3) := by decide +kernel
theorem dX9_passIt_43 : decode cX9_passIt 43 = .ok (.goto (-39), 3) := by decide +kernel
theorem dX9_passIt_46 : decode cX9_passIt 46 = .ok (.aload_n 0, 1) := by decide +kernel
theorem dX9_passIt_47 : decode cX9_passIt 47 = .ok (.getfield 13, 3) := by decide +kernel
theorem dX9_passIt_50 : decode cX9_passIt 50 = .ok (.iconst 4, 1) := by decide +kernel
theorem dX9_passIt_51 : decode cX9_passIt 51 = .ok (.dup2, 1) := by decide +kernel
theorem dX9_passIt_52 : decode cX9_passIt 52 = .ok (.iaload, 1) := by decide +kernel
theorem dX9_passIt_53 : decode cX9_passIt 53 = .ok (.iconst 1, 1) := by decide +kernel
theorem dX9_passIt_54 : decode cX9_passIt 54 = .ok (.iadd, 1) := by decide +kernel
theorem dX9_passIt_55 : decode cX9_passIt 55 = .ok (.iastore, 1) := by decide +kernel
theorem dX9_passIt_56 : decode cX9_passIt 56 = .ok (.iload_n 1, 1) := by decide +kernel
theorem dX9_passIt_57 : decode cX9_passIt 57 = .ok (.ireturn, 1) := by decide +kernel
theorem dX9_passNow_0 : decode cX9_passNow 0 = .ok (.aload_n 0, 1) := by decide +kernel
theorem dX9_passNow_1 : decode cX9_passNow 1 = .ok (.getfield 13, 3) := by decide +kernel
theorem dX9_passNow_4 : decode cX9_passNow 4 = .ok (.iconst 4, 1) := by decide +kernel
theorem dX9_passNow_5 : decode cX9_passNow 5 = .ok (.iaload, 1) := by decide +kernel
theorem dX9_passNow_6 : decode cX9_passNow 6 = .ok (.sipush 999, 3) := by decide +kernel
theorem dX9_passNow_9 : decode cX9_passNow 9 = .ok (.if_icmp .ne 6, 3) := by decide +kernel
theorem dX9_passNow_12 : decode cX9_passNow 12 = .ok (.bipush (-3), 2) := by decide +kernel
theorem dX9_passNow_14 : decode cX9_passNow 14 = .ok (.ireturn, 1) := by decide +kernel
theorem dX9_passNow_15 : decode cX9_passNow 15 = .ok (.aload_n 0, 1) := by decide +kernel
theorem dX9_passNow_16 : decode cX9_passNow 16 = .ok (.iconst 3, 1) := by decide +kernel
theorem dX9_passNow_17 : decode cX9_passNow 17 = .ok (.invokevirtual 440, 3) := by decide +kernel
theorem dX9_passNow_20 : decode cX9_passNow 20 = .ok (.aload_n 0, 1) := by decide +kernel
theorem dX9_passNow_21 : decode cX9_passNow 21 = .ok (.invokevirtual 461, 3) := by decide +kernel
theorem dX9_passNow_24 : decode cX9_passNow 24 = .ok (.ireturn, 1) := by decide +kernel
theorem dX9_person_0 : decode cX9_person 0 = .ok (.aload_n 0, 1) := by decide +kernel
theorem dX9_person_1 : decode cX9_person 1 = .ok (.iconst 0, 1) := by decide +kernel
theorem dX9_person_2 : decode cX9_person 2 = .ok (.putfield 165, 3) := by decide +kernel
theorem dX9_person_5 : decode cX9_person 5 = .ok (.iload_n 1, 1) := by decide +kernel
theorem dX9_person_6 : decode cX9_person 6 = .ok (.i2l, 1) := by decide +kernel
theorem dX9_person_7 : decode cX9_person 7 = .ok (.lconst 0, 1) := by decide +kernel
theorem dX9_person_8 : decode cX9_person 8 = .ok (.ldc2_w 198, 3) := by decide +kernel
theorem dX9_person_11 : decode cX9_person 11 = .ok (.invokestatic 185, 3) := by decide +kernel
theorem dX9_person_14 : decode cX9_person 14 = .ok (.ifCond .eq 16, 3) := by decide +kernel
theorem dX9_person_17 : decode cX9_person 17 = .ok (.iload_n 2, 1) := by decide +kernel
theorem dX9_person_18 : decode cX9_person 18 = .ok (.iconst (-1), 1) := by decide +kernel
theorem dX9_person_19 : decode cX9_person 19 = .ok (.if_icmp .eq 17, 3) := by decide +kernel
theorem dX9_person_22 : decode cX9_person 22 = .ok (.aload_n 0, 1) := by decide +kernel
theorem dX9_person_23 : decode cX9_person 23 = .ok (.iload_n 2, 1) := by decide +kernel
theorem dX9_person_24 : decode cX9_person 24 = .ok (.invokevirtual 200, 3) := by decide +kernel
theorem dX9_person_27 : decode cX9_person 27 = .ok (.ifCond .ne 9, 3) := by decide +kernel
theorem dX9_person_30 : decode cX9_person 30 = .ok (.aload_n 0, 1) := by decide +kernel
theorem dX9_person_31 : decode cX9_person 31 = .ok (.iconst (-1), 1) := by decide +kernel
theorem dX9_person_32 : decode cX9_person 32 = .ok (.invokevirtual 174, 3) := by decide +kernel
theorem dX9_person_35 : decode cX9_person 35 = .ok (.ireturn, 1) := by decide +kernel
theorem dX9_person_36 : decode cX9_person 36 = .ok (.aload_n 0, 1) := by decide +kernel
theorem dX9_person_37 : decode cX9_person 37 = .ok (.getfield 13, 3) := by decide +kernel
theorem dX9_person_40 : decode cX9_person 40 = .ok (.iconst 0, 1) := by decide +kernel
theorem dX9_person_41 : decode cX9_person 41 = .ok (.iaload, 1) := by decide +kernel
theorem dX9_person_42 : decode cX9_person 42 = .ok (.istore_n 3, 1) := by decide +kernel
theorem dX9_person_43 : decode cX9_person 43 = .ok (.iload_n 3, 1) := by decide +kernel
theorem dX9_person_44 : decode cX9_person 44 = .ok (.bipush 7, 2) := by decide +kernel
theorem dX9_person_46 : decode cX9_person 46 = .ok (.if_icmp .ne 10, 3) := by decide +kernel
theorem dX9_person_49 : decode cX9_person 49 = .ok (.aload_n 0, 1) := by decide +kernel
theorem dX9_person_50 : decode cX9_person 50 = .ok (.bipush (-5), 2) := by decide +kernel
theorem dX9_person_52 : decode cX9_person 52 = .ok (.invokevirtual 174, 3) := by decide +kernel
theorem dX9_person_55 : decode cX9_person 55 = .ok (.ireturn, 1) := by decide +kernel
theorem dX9_person_56 : decode cX9_person 56 = .ok (.aload_n 0, 1) := by decide +kernel
theorem dX9_person_57 : decode cX9_person 57 = .ok (.getfield 13, 3) := by decide +kernel
theorem dX9_person_60 : decode cX9_person 60 = .ok (.bipush 8, 2) := by decide +kernel
theorem dX9_person_62 : decode cX9_person 62 = .ok (.iload_n 3, 1) := by decide +kernel
theorem dX9_person_63 : decode cX9_person 63 = .ok (.iadd, 1) := by decide +kernel
theorem dX9_person_64 : decode cX9_person 64 = .ok (.iload_n 1, 1) := by decide +kernel
theorem dX9_person_65 : decode cX9_person 65 = .ok (.iastore, 1) := by decide +kernel
theorem dX9_person_66 : decode cX9_person 66 = .ok (.aload_n 0, 1) := by decide +kernel
theorem dX9_person_67 : decode cX9_person 67 = .ok (.getfield 13, 3) := by decide +kernel
theorem dX9_person_70 : decode cX9_person 70 = .ok (.bipush 15, 2) := by decide +kernel
theorem dX9_person_72 : decode cX9_person 72 = .ok (.iload_n 3, 1) := by decide +kernel
theorem dX9_person_73 : decode cX9_person 73 = .ok (.iadd, 1) := by decide +kernel
theorem dX9_person_74 : decode cX9_person 74 = .ok (.iconst 0, 1) := by decide +kernel
theorem dX9_person_75 : decode cX9_person 75 = .ok (.iastore, 1) := by decide +kernel
theorem dX9_person_76 : decode cX9_person 76 = .ok (.aload_n 0, 1) := by decide +kernel
theorem dX9_person_77 : decode cX9_person 77 = .ok (.getfield 13, 3) := by decide +kernel
theorem dX9_person_80 : decode cX9_person 80 = .ok (.bipush 22, 2) := by decide +kernel
theorem dX9_person_82 : decode cX9_person 82 = .ok (.iload_n 3, 1) := by decide +kernel
theorem dX9_person_83 : decode cX9_person 83 = .ok (.iadd, 1) := by decide +kernel
theorem dX9_person_84 : decode cX9_person 84 = .ok (.iconst 0, 1) := by decide +kernel
theorem dX9_person_85 : decode cX9_person 85 = .ok (.iastore, 1) := by decide +kernel
theorem dX9_person_86 : decode cX9_person 86 = .ok (.aload_n 0, 1) := by decide +kernel
theorem dX9_person_87 : decode cX9_person 87 = .ok (.getfield 13, 3) := by decide +kernel
theorem dX9_person_90 : decode cX9_person 90 = .ok (.bipush 29, 2) := by decide +kernel
theorem dX9_person_92 : decode cX9_person 92 = .ok (.iload_n 3, 1) := by decide +kernel
theorem dX9_person_93 : decode cX9_person 93 = .ok (.iadd, 1) := by decide +kernel
theorem dX9_person_94 : decode cX9_person 94 = .ok (.iload_n 2, 1) := by decide +kernel
theorem dX9_person_95 : decode cX9_person 95 = .ok (.iastore, 1) := by decide +kernel
theorem dX9_person_96 : decode cX9_person 96 = .ok (.aload_n 0, 1) := by decide +kernel
theorem dX9_person_97 : decode cX9_person 97 = .ok (.getfield 13, 3) := by decide +kernel
theorem dX9_person_100 : decode cX9_person 100 = .ok (.bipush 64, 2) := by decide +kernel
theorem dX9_person_102 : decode cX9_person 102 = .ok (.iload_n 3, 1) := by decide +kernel
theorem dX9_person_103 : decode cX9_person 103 = .ok (.iadd, 1) := by decide +kernel
theorem dX9_person_104 : decode cX9_person 104 = .ok (.iconst 0, 1) := by decide +kernel
theorem dX9_person_105 : decode cX9_person 105 = .ok (.iastore, 1) := by decide +kernel
theorem dX9_person_106 : decode cX9_person 106 = .ok (.iconst 0, 1) := by decide +kernel
theorem dX9_person_107 : decode cX9_person 107 = .ok (.istore 4, 2) := by decide +kernel
theorem dX9_person_109 : decode cX9_person 109 = .ok (.iload 4, 2) := by decide +kernel
theorem dX9_person_111 : decode cX9_person 111 = .ok (.iconst 4, 1) := by decide +kernel
theorem dX9_person_112 : decode cX9_person 112 = .ok (.if_icmp .ge 24, 3) := by decide +kernel
theorem dX9_person_115 : decode cX9_person 115 = .ok (.aload_n 0, 1) := by decide +kernel
theorem dX9_person_116 : decode cX9_person 116 = .ok (.getfield 13, 3) := by decide +kernel
theorem dX9_person_119 : decode cX9_person 119 = .ok (.bipush 36, 2) := by decide +kernel
theorem dX9_person_121 : decode cX9_person 121 = .ok (.iconst 4, 1) := by decide +kernel
theorem dX9_person_122 : decode cX9_person 122 = .ok (.iload_n 3, 1) := by decide +kernel
theorem dX9_person_123 : decode cX9_person 123 = .ok (.imul, 1) := by decide +kernel
theorem dX9_person_124 : decode cX9_person 124 = .ok (.iadd, 1) := by decide +kernel
theorem dX9_person_125 : decode cX9_person 125 = .ok (.iload 4, 2) := by decide +kernel
theorem dX9_person_127 : decode cX9_person 127 = .ok (.iadd, 1) := by decide +kernel
theorem dX9_person_128 : decode cX9_person 128 = .ok (.iconst 0, 1) := by decide +kernel
theorem dX9_person_129 : decode cX9_person 129 = .ok (.iastore, 1) := by decide +kernel
theorem dX9_person_130 : decode cX9_person 130 = .ok (.iinc 4 1, 3) := by decide +kernel
theorem dX9_person_133 : decode cX9_person 133 = .ok (.goto (-24), 3) := by decide +kernel
theorem dX9_person_136 : decode cX9_person 136 = .ok (.aload_n 0, 1) := by decide +kernel
theorem dX9_person_137 : decode cX9_person 137 = .ok (.getfield 13, 3) := by decide +kernel
theorem dX9_person_140 : decode cX9_person 140 = .ok (.iconst 0, 1) := by decide +kernel
theorem dX9_person_141 : decode cX9_person 141 = .ok (.dup2, 1) := by decide +kernel
theorem dX9_person_142 : decode cX9_person 142 = .ok (.iaload, 1) := by decide +kernel
theorem dX9_person_143 : decode cX9_person 143 = .ok (.iconst 1, 1) := by decide +kernel
theorem dX9_person_144 : decode cX9_person 144 = .ok (.iadd, 1) := by decide +kernel
theorem dX9_person_145 : decode cX9_person 145 = .ok (.iastore, 1) := by decide +kernel
theorem dX9_person_146 : decode cX9_person 146 = .ok (.aload_n 0, 1) := by decide +kernel
theorem dX9_person_147 : decode cX9_person 147 = .ok (.iload_n 3, 1) := by decide +kernel
theorem dX9_person_148 : decode cX9_person 148 = .ok (.invokevirtual 189, 3) := by decide +kernel
theorem dX9_person_151 : decode cX9_person 151 = .ok (.ireturn, 1) := by decide +kernel
theorem dX9_placeOf_0 : decode cX9_placeOf 0 = .ok (.iconst 1, 1) := by decide +kernel
theorem dX9_placeOf_1 : decode cX9_placeOf 1 = .ok (.istore_n 3, 1) := by decide +kernel
theorem dX9_placeOf_2 : decode cX9_placeOf 2 = .ok (.iconst 0, 1) := by decide +kernel
theorem dX9_placeOf_3 : decode cX9_placeOf 3 = .ok (.istore 4, 2) := by decide +kernel
theorem dX9_placeOf_5 : decode cX9_placeOf 5 = .ok (.iload 4, 2) := by decide +kernel
theorem dX9_placeOf_7 : decode cX9_placeOf 7 = .ok (.aload_n 0, 1) := by decide +kernel
theorem dX9_placeOf_8 : decode cX9_placeOf 8 = .ok (.getfield 13, 3) := by decide +kernel
theorem dX9_placeOf_11 : decode cX9_placeOf 11 = .ok (.iconst 0, 1) := by decide +kernel
theorem dX9_placeOf_12 : decode cX9_placeOf 12 = .ok (.iaload, 1) := by decide +kernel
theorem dX9_placeOf_13 : decode cX9_placeOf 13 = .ok (.if_icmp .ge 80, 3) := by decide +kernel
theorem dX9_placeOf_16 : decode cX9_placeOf 16 = .ok (.iload_n 3, 1) := by decide +kernel
theorem dX9_placeOf_17 : decode cX9_placeOf 17 = .ok (.iload 4, 2) := by decide +kernel
theorem dX9_placeOf_19 : decode cX9_placeOf 19 = .ok (.iload_n 1, 1) := by decide +kernel
theorem dX9_placeOf_20 : decode cX9_placeOf 20 = .ok (.if_icmp .eq 64, 3) := by decide +kernel
theorem dX9_placeOf_23 : decode cX9_placeOf 23 = .ok (.iload_n 2, 1) := by decide +kernel
theorem dX9_placeOf_24 : decode cX9_placeOf 24 = .ok (.iload 4, 2) := by decide +kernel
theorem dX9_placeOf_26 : decode cX9_placeOf 26 = .ok (.invokestatic 467, 3) := by decide +kernel
theorem dX9_placeOf_29 : decode cX9_placeOf 29 = .ok (.ifCond .eq 55, 3) := by decide +kernel
theorem dX9_placeOf_32 : decode cX9_placeOf 32 = .ok (.aload_n 0, 1) := by decide +kernel
theorem dX9_placeOf_33 : decode cX9_placeOf 33 = .ok (.getfield 114, 3) := by decide +kernel
theorem dX9_placeOf_36 : decode cX9_placeOf 36 = .ok (.iload 4, 2) := by decide +kernel
theorem dX9_placeOf_38 : decode cX9_placeOf 38 = .ok (.baload, 1) := by decide +kernel
theorem dX9_placeOf_39 : decode cX9_placeOf 39 = .ok (.ifCond .ne 45, 3) := by decide +kernel
theorem dX9_placeOf_42 : decode cX9_placeOf 42 = .ok (.aload_n 0, 1) := by decide +kernel
theorem dX9_placeOf_43 : decode cX9_placeOf 43 = .ok (.getfield 108, 3) := by decide +kernel
theorem dX9_placeOf_46 : decode cX9_placeOf 46 = .ok (.iload 4, 2) := by decide +kernel
theorem dX9_placeOf_48 : decode cX9_placeOf 48 = .ok (.iaload, 1) := by decide +kernel
theorem dX9_placeOf_49 : decode cX9_placeOf 49 = .ok (.aload_n 0, 1) := by decide +kernel
theorem dX9_placeOf_50 : decode cX9_placeOf 50 = .ok (.getfield 108, 3) := by decide +kernel
theorem dX9_placeOf_53 : decode cX9_placeOf 53 = .ok (.iload_n 1, 1) := by decide +kernel
theorem dX9_placeOf_54 : decode cX9_placeOf 54 = .ok (.iaload, 1) := by decide +kernel
theorem dX9_placeOf_55 : decode cX9_placeOf 55 = .ok (.if_icmp .gt 25, 3) := by decide +kernel
theorem dX9_placeOf_58 : decode cX9_placeOf 58 = .ok (.aload_n 0, 1) := by decide +kernel
theorem dX9_placeOf_59 : decode cX9_placeOf 59 = .ok (.getfield 108, 3) := by decide +kernel
theorem dX9_placeOf_62 : decode cX9_placeOf 62 = .ok (.iload 4, 2) := by decide +kernel
theorem dX9_placeOf_64 : decode cX9_placeOf 64 = .ok (.iaload, 1) := by decide +kernel
theorem dX9_placeOf_65 : decode cX9_placeOf 65 = .ok (.aload_n 0, 1) := by decide +kernel
theorem dX9_placeOf_66 : decode cX9_placeOf 66 = .ok (.getfield 108, 3) := by decide +kernel
theorem dX9_placeOf_69 : decode cX9_placeOf 69 = .ok (.iload_n 1, 1) := by decide +kernel
theorem dX9_placeOf_70 : decode cX9_placeOf 70 = .ok (.iaload, 1) := by decide +kernel
theorem dX9_placeOf_71 : decode cX9_placeOf 71 = .ok (.if_icmp .ne 13, 3) := by decide +kernel
theorem dX9_placeOf_74 : decode cX9_placeOf 74 = .ok (.iload 4, 2) := by decide +kernel
theorem dX9_placeOf_76 : decode cX9_placeOf 76 = .ok (.iload_n 1, 1) := by decide +kernel
theorem dX9_placeOf_77 : decode cX9_placeOf 77 = .ok (.if_icmp .ge 7, 3) := by decide +kernel
theorem dX9_placeOf_80 : decode cX9_placeOf 80 = .ok (.iconst 1, 1) := by decide +kernel
theorem dX9_placeOf_81 : decode cX9_placeOf 81 = .ok (.goto 4, 3) := by decide +kernel
theorem dX9_placeOf_84 : decode cX9_placeOf 84 = .ok (.iconst 0, 1) := by decide +kernel
theorem dX9_placeOf_85 : decode cX9_placeOf 85 = .ok (.iadd, 1) := by decide +kernel
theorem dX9_placeOf_86 : decode cX9_placeOf 86 = .ok (.istore_n 3, 1) := by decide +kernel
theorem dX9_placeOf_87 : decode cX9_placeOf 87 = .ok (.iinc 4 1, 3) := by decide +kernel
theorem dX9_placeOf_90 : decode cX9_placeOf 90 = .ok (.goto (-85), 3) := by decide +kernel
theorem dX9_placeOf_93 : decode cX9_placeOf 93 = .ok (.iload_n 3, 1) := by decide +kernel
theorem dX9_placeOf_94 : decode cX9_placeOf 94 = .ok (.ireturn, 1) := by decide +kernel
theorem dX9_placed_0 : decode cX9_placed 0 = .ok (.aload_n 0, 1) := by decide +kernel
theorem dX9_placed_1 : decode cX9_placed 1 = .ok (.iconst 0, 1) := by decide +kernel
theorem dX9_placed_2 : decode cX9_placed 2 = .ok (.putfield 165, 3) := by decide +kernel
theorem dX9_placed_5 : decode cX9_placed 5 = .ok (.iload_n 1, 1) := by decide +kernel
theorem dX9_placed_6 : decode cX9_placed 6 = .ok (.invokestatic 213, 3) := by decide +kernel
theorem dX9_placed_9 : decode cX9_placed 9 = .ok (.ifCond .eq 15, 3) := by decide +kernel
theorem dX9_placed_12 : decode cX9_placed 12 = .ok (.iload_n 2, 1) := by decide +kernel
theorem dX9_placed_13 : decode cX9_placed 13 = .ok (.i2l, 1) := by decide +kernel
theorem dX9_placed_14 : decode cX9_placed 14 = .ok (.lconst 0, 1) := by decide +kernel
theorem dX9_placed_15 : decode cX9_placed 15 = .ok (.ldc2_w 219, 3) := by decide +kernel
theorem dX9_placed_18 : decode cX9_placed 18 = .ok (.invokestatic 185, 3) := by decide +kernel
theorem dX9_placed_21 : decode cX9_placed 21 = .ok (.ifCond .ne 5, 3) := by decide +kernel
theorem dX9_placed_24 : decode cX9_placed 24 = .ok (.iconst (-1), 1) := by decide +kernel
theorem dX9_placed_25 : decode cX9_placed 25 = .ok (.ireturn, 1) := by decide +kernel
theorem dX9_placed_26 : decode cX9_placed 26 = .ok (.aload_n 0, 1) := by decide +kernel
theorem dX9_placed_27 : decode cX9_placed 27 = .ok (.iload_n 1, 1) := by decide +kernel
theorem dX9_placed_28 : decode cX9_placed 28 = .ok (.invokevirtual 221, 3) := by decide +kernel
theorem dX9_placed_31 : decode cX9_placed 31 = .ok (.iload_n 2, 1) := by decide +kernel
theorem dX9_placed_32 : decode cX9_placed 32 = .ok (.ifCond .ne 10, 3) := by decide +kernel
theorem dX9_placed_35 : decode cX9_placed 35 = .ok (.aload_n 0, 1) := by decide +kernel
theorem dX9_placed_36 : decode cX9_placed 36 = .ok (.getfield 224, 3) := by decide +kernel
theorem dX9_placed_39 : decode cX9_placed 39 = .ok (.goto 23, 3) := by decide +kernel
theorem dX9_placed_42 : decode cX9_placed 42 = .ok (.iload_n 2, 1) := by decide +kernel
theorem dX9_placed_43 : decode cX9_placed 43 = .ok (.aload_n 0, 1) := by decide +kernel
theorem dX9_placed_44 : decode cX9_placed 44 = .ok (.getfield 224, 3) := by decide +kernel
theorem dX9_placed_47 : decode cX9_placed 47 = .ok (.if_icmp .gt 14, 3) := by decide +kernel
theorem dX9_placed_50 : decode cX9_placed 50 = .ok (.aload_n 0, 1) := by decide +kernel
theorem dX9_placed_51 : decode cX9_placed 51 = .ok (.getfield 111, 3) := by decide +kernel
theorem dX9_placed_54 : decode cX9_placed 54 = .ok (.iload_n 2, 1) := by decide +kernel
theorem dX9_placed_55 : decode cX9_placed 55 = .ok (.iconst 1, 1) := by decide +kernel
theorem dX9_placed_56 : decode cX9_placed 56 = .ok (.isub, 1) := by decide +kernel
theorem dX9_placed_57 : decode cX9_placed 57 = .ok (.iaload, 1) := by decide +kernel
theorem dX9_placed_58 : decode cX9_placed 58 = .ok (.goto 4, 3) := by decide +kernel
theorem dX9_placed_61 : decode cX9_placed 61 = .ok (.iconst (-1), 1) := by decide +kernel
theorem dX9_placed_62 : decode cX9_placed 62 = .ok (.ireturn, 1) := by decide +kernel
theorem dX9_push_0 : decode cX9_push 0 = .ok (.aload_n 0, 1) := by decide +kernel
theorem dX9_push_1 : decode cX9_push 1 = .ok (.getfield 51, 3) := by decide +kernel
theorem dX9_push_4 : decode cX9_push 4 = .ok (.aload_n 0, 1) := by decide +kernel
theorem dX9_push_5 : decode cX9_push 5 = .ok (.getfield 286, 3) := by decide +kernel
theorem dX9_push_8 : decode cX9_push 8 = .ok (.iload_n 1, 1) := by decide +kernel
theorem dX9_push_9 : decode cX9_push 9 = .ok (.iastore, 1) := by decide +kernel
theorem dX9_push_10 : decode cX9_push 10 = .ok (.aload_n 0, 1) := by decide +kernel
theorem dX9_push_11 : decode cX9_push 11 = .ok (.getfield 54, 3) := by decide +kernel
theorem dX9_push_14 : decode cX9_push 14 = .ok (.aload_n 0, 1) := by decide +kernel
theorem dX9_push_15 : decode cX9_push 15 = .ok (.getfield 286, 3) := by decide +kernel
theorem dX9_push_18 : decode cX9_push 18 = .ok (.iload_n 2, 1) := by decide +kernel
theorem dX9_push_19 : decode cX9_push 19 = .ok (.iastore, 1) := by decide +kernel
theorem dX9_push_20 : decode cX9_push 20 = .ok (.aload_n 0, 1) := by decide +kernel
theorem dX9_push_21 : decode cX9_push 21 = .ok (.dup, 1) := by decide +kernel
theorem dX9_push_22 : decode cX9_push 22 = .ok (.getfield 286, 3) := by decide +kernel
theorem dX9_push_25 : decode cX9_push 25 = .ok (.iconst 1, 1) := by decide +kernel
theorem dX9_push_26 : decode cX9_push 26 = .ok (.iadd, 1) := by decide +kernel
theorem dX9_push_27 : decode cX9_push 27 = .ok (.putfield 286, 3) := by decide +kernel
theorem dX9_push_30 : decode cX9_push 30 = .ok (.return_, 1) := by decide +kernel
theorem dX9_putBack_0 : decode cX9_putBack 0 = .ok (.iconst 0, 1) := by decide +kernel
theorem dX9_putBack_1 : decode cX9_putBack 1 = .ok (.istore_n 2, 1) := by decide +kernel
theorem dX9_putBack_2 : decode cX9_putBack 2 = .ok (.iload_n 2, 1) := by decide +kernel
theorem dX9_putBack_3 : decode cX9_putBack 3 = .ok (.bipush 25, 2) := by decide +kernel
theorem dX9_putBack_5 : decode cX9_putBack 5 = .ok (.if_icmp .ge 28, 3) := by decide +kernel
theorem dX9_putBack_8 : decode cX9_putBack 8 = .ok (.aload_n 0, 1) := by decide +kernel
theorem dX9_putBack_9 : decode cX9_putBack 9 = .ok (.getfield 13, 3) := by decide +kernel
theorem dX9_putBack_12 : decode cX9_putBack 12 = .ok (.iconst 4, 1) := by decide +kernel
theorem dX9_putBack_13 : decode cX9_putBack 13 = .ok (.iload_n 2, 1) := by decide +kernel
theorem dX9_putBack_14 : decode cX9_putBack 14 = .ok (.iadd, 1) := by decide +kernel
theorem dX9_putBack_15 : decode cX9_putBack 15 = .ok (.aload_n 0, 1) := by decide +kernel
theorem dX9_putBack_16 : decode cX9_putBack 16 = .ok (.getfield 23, 3) := by decide +kernel
theorem dX9_putBack_19 : decode cX9_putBack 19 = .ok (.bipush 25, 2) := by decide +kernel
theorem dX9_putBack_21 : decode cX9_putBack 21 = .ok (.iload_n 1, 1) := by decide +kernel
theorem dX9_putBack_22 : decode cX9_putBack 22 = .ok (.imul, 1) := by decide +kernel
theorem dX9_putBack_23 : decode cX9_putBack 23 = .ok (.iload_n 2, 1) := by decide +kernel
theorem dX9_putBack_24 : decode cX9_putBack 24 = .ok (.iadd, 1) := by decide +kernel
theorem dX9_putBack_25 : decode cX9_putBack 25 = .ok (.iaload, 1) := by decide +kernel
theorem dX9_putBack_26 : decode cX9_putBack 26 = .ok (.iastore, 1) := by decide +kernel
theorem dX9_putBack_27 : decode cX9_putBack 27 = .ok (.iinc 2 1, 3) := by decide +kernel
theorem dX9_putBack_30 : decode cX9_putBack 30 = .ok (.goto (-28), 3) := by decide +kernel
theorem dX9_putBack_33 : decode cX9_putBack 33 = .ok (.return_, 1) := by decide +kernel
theorem dX9_race_0 : decode cX9_race 0 = .ok (.aload_n 0, 1) := by decide +kernel
theorem dX9_race_1 : decode cX9_race 1 = .ok (.iconst 0, 1) := by decide +kernel
theorem dX9_race_2 : decode cX9_race 2 = .ok (.putfield 165, 3) := by decide +kernel
theorem dX9_race_5 : decode cX9_race 5 = .ok (.aload_n 0, 1) := by decide +kernel
theorem dX9_race_6 : decode cX9_race 6 = .ok (.aload_n 0, 1) := by decide +kernel
theorem dX9_race_7 : decode cX9_race 7 = .ok (.iload_n 1, 1) := by decide +kernel
theorem dX9_race_8 : decode cX9_race 8 = .ok (.invokevirtual 446, 3) := by decide +kernel
theorem dX9_race_11 : decode cX9_race 11 = .ok (.invokevirtual 174, 3) := by decide +kernel
theorem dX9_race_14 : decode cX9_race 14 = .ok (.ireturn, 1) := by decide +kernel
theorem dX9_raceIt_0 : decode cX9_raceIt 0 = .ok (.aload_n 0, 1) := by decide +kernel
theorem dX9_raceIt_1 : decode cX9_raceIt 1 = .ok (.getfield 111, 3) := by decide +kernel
theorem dX9_raceIt_4 : decode cX9_raceIt 4 = .ok (.iconst 0, 1) := by decide +kernel
theorem dX9_raceIt_5 : decode cX9_raceIt 5 = .ok (.iaload, 1) := by decide +kernel
theorem dX9_raceIt_6 : decode cX9_raceIt 6 = .ok (.istore_n 2, 1) := by decide +kernel
theorem dX9_raceIt_7 : decode cX9_raceIt 7 = .ok (.aload_n 0, 1) := by decide +kernel
theorem dX9_raceIt_8 : decode cX9_raceIt 8 = .ok (.iload_n 2, 1) := by decide +kernel
theorem dX9_raceIt_9 : decode cX9_raceIt 9 = .ok (.iload_n 1, 1) := by decide +kernel
theorem dX9_raceIt_10 : decode cX9_raceIt 10 = .ok (.iconst 1, 1) := by decide +kernel
theorem dX9_raceIt_11 : decode cX9_raceIt 11 = .ok (.invokevirtual 433, 3) := by decide +kernel
theorem dX9_raceIt_14 : decode cX9_raceIt 14 = .ok (.istore_n 3, 1) := by decide +kernel
theorem dX9_raceIt_15 : decode cX9_raceIt 15 = .ok (.aload_n 0, 1) := by decide +kernel
theorem dX9_raceIt_16 : decode cX9_raceIt 16 = .ok (.getfield 224, 3) := by decide +kernel
theorem dX9_raceIt_19 : decode cX9_raceIt 19 = .ok (.iconst 1, 1) := by decide +kernel
theorem dX9_raceIt_20 : decode cX9_raceIt 20 = .ok (.if_icmp .le 18, 3) := by decide +kernel
theorem dX9_raceIt_23 : decode cX9_raceIt 23 = .ok (.aload_n 0, 1) := by decide +kernel
theorem dX9_raceIt_24 : decode cX9_raceIt 24 = .ok (.aload_n 0, 1) := by decide +kernel
theorem dX9_raceIt_25 : decode cX9_raceIt 25 = .ok (.getfield 111, 3) := by decide +kernel
theorem dX9_raceIt_28 : decode cX9_raceIt 28 = .ok (.iconst 1, 1) := by decide +kernel
theorem dX9_raceIt_29 : decode cX9_raceIt 29 = .ok (.iaload, 1) := by decide +kernel
theorem dX9_raceIt_30 : decode cX9_raceIt 30 = .ok (.iload_n 1, 1) := by decide +kernel
theorem dX9_raceIt_31 : decode cX9_raceIt 31 = .ok (.iconst 2, 1) := by decide +kernel
theorem dX9_raceIt_32 : decode cX9_raceIt 32 = .ok (.invokevirtual 433, 3) := by decide +kernel
theorem dX9_raceIt_35 : decode cX9_raceIt 35 = .ok (.goto 4, 3) := by decide +kernel
theorem dX9_raceIt_38 : decode cX9_raceIt 38 = .ok (.iconst 0, 1) := by decide +kernel
theorem dX9_raceIt_39 : decode cX9_raceIt 39 = .ok (.istore 4, 2) := by decide +kernel
theorem dX9_raceIt_41 : decode cX9_raceIt 41 = .ok (.aload_n 0, 1) := by decide +kernel
theorem dX9_raceIt_42 : decode cX9_raceIt 42 = .ok (.getfield 224, 3) := by decide +kernel
theorem dX9_raceIt_45 : decode cX9_raceIt 45 = .ok (.iconst 1, 1) := by decide +kernel
theorem dX9_raceIt_46 : decode cX9_raceIt 46 = .ok (.if_icmp .le 17, 3) := by decide +kernel
theorem dX9_raceIt_49 : decode cX9_raceIt 49 = .ok (.aload_n 0, 1) := by decide +kernel
theorem dX9_raceIt_50 : decode cX9_raceIt 50 = .ok (.aload_n 0, 1) := by decide +kernel
theorem dX9_raceIt_51 : decode cX9_raceIt 51 = .ok (.getfield 111, 3) := by decide +kernel
theorem dX9_raceIt_54 : decode cX9_raceIt 54 = .ok (.iconst 1, 1) := by decide +kernel
theorem dX9_raceIt_55 : decode cX9_raceIt 55 = .ok (.iaload, 1) := by decide +kernel
theorem dX9_raceIt_56 : decode cX9_raceIt 56 = .ok (.iload_n 1, 1) := by decide +kernel
theorem dX9_raceIt_57 : decode cX9_raceIt 57 = .ok (.invokevirtual 437, 3) := by decide +kernel
theorem dX9_raceIt_60 : decode cX9_raceIt 60 = .ok (.goto 4, 3) := by decide +kernel
theorem dX9_raceIt_63 : decode cX9_raceIt 63 = .ok (.iconst 0, 1) := by decide +kernel
theorem dX9_raceIt_64 : decode cX9_raceIt 64 = .ok (.istore 5, 2) := by decide +kernel
theorem dX9_raceIt_66 : decode cX9_raceIt 66 = .ok (.aload_n 0, 1) := by decide +kernel
theorem dX9_raceIt_67 : decode cX9_raceIt 67 = .ok (.getfield 224, 3) := by decide +kernel
theorem dX9_raceIt_70 : decode cX9_raceIt 70 = .ok (.iconst 2, 1) := by decide +kernel
theorem dX9_raceIt_71 : decode cX9_raceIt 71 = .ok (.if_icmp .le 18, 3) := by decide +kernel
theorem dX9_raceIt_74 : decode cX9_raceIt 74 = .ok (.aload_n 0, 1) := by decide +kernel
theorem dX9_raceIt_75 : decode cX9_raceIt 75 = .ok (.aload_n 0, 1) := by decide +kernel
theorem dX9_raceIt_76 : decode cX9_raceIt 76 = .ok (.getfield 111, 3) := by decide +kernel
theorem dX9_raceIt_79 : decode cX9_raceIt 79 = .ok (.iconst 2, 1) := by decide +kernel
theorem dX9_raceIt_80 : decode cX9_raceIt 80 = .ok (.iaload, 1) := by decide +kernel
theorem dX9_raceIt_81 : decode cX9_raceIt 81 = .ok (.iload_n 1, 1) := by decide +kernel
theorem dX9_raceIt_82 : decode cX9_raceIt 82 = .ok (.iconst 3, 1) := by decide +kernel
theorem dX9_raceIt_83 : decode cX9_raceIt 83 = .ok (.invokevirtual 433, 3) := by decide +kernel
theorem dX9_raceIt_86 : decode cX9_raceIt 86 = .ok (.goto 4, 3) := by decide +kernel
theorem dX9_raceIt_89 : decode cX9_raceIt 89 = .ok (.iconst 0, 1) := by decide +kernel
theorem dX9_raceIt_90 : decode cX9_raceIt 90 = .ok (.istore 6, 2) := by decide +kernel
theorem dX9_raceIt_92 : decode cX9_raceIt 92 = .ok (.aload_n 0, 1) := by decide +kernel
theorem dX9_raceIt_93 : decode cX9_raceIt 93 = .ok (.getfield 13, 3) := by decide +kernel
theorem dX9_raceIt_96 : decode cX9_raceIt 96 = .ok (.bipush 15, 2) := by decide +kernel
theorem dX9_raceIt_98 : decode cX9_raceIt 98 = .ok (.iload_n 2, 1) := by decide +kernel
theorem dX9_raceIt_99 : decode cX9_raceIt 99 = .ok (.iadd, 1) := by decide +kernel
theorem dX9_raceIt_100 : decode cX9_raceIt 100 = .ok (.aload_n 0, 1) := by decide +kernel
theorem dX9_raceIt_101 : decode cX9_raceIt 101 = .ok (.getfield 13, 3) := by decide +kernel
theorem dX9_raceIt_104 : decode cX9_raceIt 104 = .ok (.bipush 15, 2) := by decide +kernel
theorem dX9_raceIt_106 : decode cX9_raceIt 106 = .ok (.iload_n 2, 1) := by decide +kernel
theorem dX9_raceIt_107 : decode cX9_raceIt 107 = .ok (.iadd, 1) := by decide +kernel
theorem dX9_raceIt_108 : decode cX9_raceIt 108 = .ok (.iaload, 1) := by decide +kernel
theorem dX9_raceIt_109 : decode cX9_raceIt 109 = .ok (.iload_n 3, 1) := by decide +kernel
theorem dX9_raceIt_110 : decode cX9_raceIt 110 = .ok (.iadd, 1) := by decide +kernel
theorem dX9_raceIt_111 : decode cX9_raceIt 111 = .ok (.i2l, 1) := by decide +kernel
theorem dX9_raceIt_112 : decode cX9_raceIt 112 = .ok (.iconst 0, 1) := by decide +kernel
theorem dX9_raceIt_113 : decode cX9_raceIt 113 = .ok (.sipush 999, 3) := by decide +kernel
theorem dX9_raceIt_116 : decode cX9_raceIt 116 = .ok (.invokestatic 427, 3) := by decide +kernel
theorem dX9_raceIt_119 : decode cX9_raceIt 119 = .ok (.iastore, 1) := by decide +kernel
theorem dX9_raceIt_120 : decode cX9_raceIt 120 = .ok (.aload_n 0, 1) := by decide +kernel
theorem dX9_raceIt_121 : decode cX9_raceIt 121 = .ok (.getfield 13, 3) := by decide +kernel
theorem dX9_raceIt_124 : decode cX9_raceIt 124 = .ok (.bipush 7, 2) := by decide +kernel
theorem dX9_raceIt_126 : decode cX9_raceIt 126 = .ok (.aload_n 0, 1) := by decide +kernel
theorem dX9_raceIt_127 : decode cX9_raceIt 127 = .ok (.getfield 13, 3) := by decide +kernel
theorem dX9_raceIt_130 : decode cX9_raceIt 130 = .ok (.bipush 7, 2) := by decide +kernel
theorem dX9_raceIt_132 : decode cX9_raceIt 132 = .ok (.iaload, 1) := by decide +kernel
theorem dX9_raceIt_133 : decode cX9_raceIt 133 = .ok (.iload 4, 2) := by decide +kernel
theorem dX9_raceIt_135 : decode cX9_raceIt 135 = .ok (.iadd, 1) := by decide +kernel
theorem dX9_raceIt_136 : decode cX9_raceIt 136 = .ok (.i2l, 1) := by decide +kernel
theorem dX9_raceIt_137 : decode cX9_raceIt 137 = .ok (.iconst 0, 1) := by decide +kernel
theorem dX9_raceIt_138 : decode cX9_raceIt 138 = .ok (.sipush 999, 3) := by decide +kernel
theorem dX9_raceIt_141 : decode cX9_raceIt 141 = .ok (.invokestatic 427, 3) := by decide +kernel
theorem dX9_raceIt_144 : decode cX9_raceIt 144 = .ok (.iastore, 1) := by decide +kernel
theorem dX9_raceIt_145 : decode cX9_raceIt 145 = .ok (.aload_n 0, 1) := by decide +kernel
theorem dX9_raceIt_146 : decode cX9_raceIt 146 = .ok (.getfield 224, 3) := by decide +kernel
theorem dX9_raceIt_149 : decode cX9_raceIt 149 = .ok (.iconst 1, 1) := by decide +kernel
theorem dX9_raceIt_150 : decode cX9_raceIt 150 = .ok (.if_icmp .le 19, 3) := by decide +kernel
theorem dX9_raceIt_153 : decode cX9_raceIt 153 = .ok (.aload_n 0, 1) := by decide +kernel
theorem dX9_raceIt_154 : decode cX9_raceIt 154 = .ok (.getfield 13, 3) := by decide +kernel
theorem dX9_raceIt_157 : decode cX9_raceIt 157 = .ok (.bipush 8, 2) := by decide +kernel
theorem dX9_raceIt_159 : decode cX9_raceIt 159 = .ok (.aload_n 0, 1) := by decide +kernel
theorem dX9_raceIt_160 : decode cX9_raceIt 160 = .ok (.getfield 111, 3) := by decide +kernel
theorem dX9_raceIt_163 : decode cX9_raceIt 163 = .ok (.iconst 1, 1) := by decide +kernel
theorem dX9_raceIt_164 : decode cX9_raceIt 164 = .ok (.iaload, 1) := by decide +kernel
theorem dX9_raceIt_165 : decode cX9_raceIt 165 = .ok (.iadd, 1) := by decide +kernel
theorem dX9_raceIt_166 : decode cX9_raceIt 166 = .ok (.iload 5, 2) := by decide +kernel
theorem dX9_raceIt_168 : decode cX9_raceIt 168 = .ok (.iastore, 1) := by decide +kernel
theorem dX9_raceIt_169 : decode cX9_raceIt 169 = .ok (.aload_n 0, 1) := by decide +kernel
theorem dX9_raceIt_170 : decode cX9_raceIt 170 = .ok (.getfield 224, 3) := by decide +kernel
theorem dX9_raceIt_173 : decode cX9_raceIt 173 = .ok (.iconst 2, 1) := by decide +kernel
theorem dX9_raceIt_174 : decode cX9_raceIt 174 = .ok (.if_icmp .le 42, 3) := by decide +kernel
theorem dX9_raceIt_177 : decode cX9_raceIt 177 = .ok (.aload_n 0, 1) := by decide +kernel
theorem dX9_raceIt_178 : decode cX9_raceIt 178 = .ok (.getfield 13, 3) := by decide +kernel
theorem dX9_raceIt_181 : decode cX9_raceIt 181 = .ok (.bipush 15, 2) := by decide +kernel
theorem dX9_raceIt_183 : decode cX9_raceIt 183 = .ok (.aload_n 0, 1) := by decide +kernel
theorem dX9_raceIt_184 : decode cX9_raceIt 184 = .ok (.getfield 111, 3) := by decide +kernel
theorem dX9_raceIt_187 : decode cX9_raceIt 187 = .ok (.iconst 2, 1) := by decide +kernel
theorem dX9_raceIt_188 : decode cX9_raceIt 188 = .ok (.iaload, 1) := by decide +kernel
theorem dX9_raceIt_189 : decode cX9_raceIt 189 = .ok (.iadd, 1) := by decide +kernel
theorem dX9_raceIt_190 : decode cX9_raceIt 190 = .ok (.aload_n 0, 1) := by decide +kernel
theorem dX9_raceIt_191 : decode cX9_raceIt 191 = .ok (.getfield 13, 3) := by decide +kernel
theorem dX9_raceIt_194 : decode cX9_raceIt 194 = .ok (.bipush 15, 2) := by decide +kernel
theorem dX9_raceIt_196 : decode cX9_raceIt 196 = .ok (.aload_n 0, 1) := by decide +kernel
theorem dX9_raceIt_197 : decode cX9_raceIt 197 = .ok (.getfield 111, 3) := by decide +kernel
theorem dX9_raceIt_200 : decode cX9_raceIt 200 = .ok (.iconst 2, 1) := by decide +kernel
theorem dX9_raceIt_201 : decode cX9_raceIt 201 = .ok (.iaload, 1) := by decide +kernel
theorem dX9_raceIt_202 : decode cX9_raceIt 202 = .ok (.iadd, 1) := by decide +kernel
theorem dX9_raceIt_203 : decode cX9_raceIt 203 = .ok (.iaload, 1) := by decide +kernel
theorem dX9_raceIt_204 : decode cX9_raceIt 204 = .ok (.iload 6, 2) := by decide +kernel
theorem dX9_raceIt_206 : decode cX9_raceIt 206 = .ok (.iadd, 1) := by decide +kernel
theorem dX9_raceIt_207 : decode cX9_raceIt 207 = .ok (.i2l, 1) := by decide +kernel
theorem dX9_raceIt_208 : decode cX9_raceIt 208 = .ok (.iconst 0, 1) := by decide +kernel
theorem dX9_raceIt_209 : decode cX9_raceIt 209 = .ok (.sipush 999, 3) := by decide +kernel
theorem dX9_raceIt_212 : decode cX9_raceIt 212 = .ok (.invokestatic 427, 3) := by decide +kernel
theorem dX9_raceIt_215 : decode cX9_raceIt 215 = .ok (.iastore, 1) := by decide +kernel
theorem dX9_raceIt_216 : decode cX9_raceIt 216 = .ok (.iconst 0, 1) := by decide +kernel
theorem dX9_raceIt_217 : decode cX9_raceIt 217 = .ok (.istore 7, 2) := by decide +kernel
theorem dX9_raceIt_219 : decode cX9_raceIt 219 = .ok (.iload 7, 2) := by decide +kernel
theorem dX9_raceIt_221 : decode cX9_raceIt 221 = .ok (.aload_n 0, 1) := by decide +kernel
theorem dX9_raceIt_222 : decode cX9_raceIt 222 = .ok (.getfield 224, 3) := by decide +kernel
theorem dX9_raceIt_225 : decode cX9_raceIt 225 = .ok (.if_icmp .ge 25, 3) := by decide +kernel
theorem dX9_raceIt_228 : decode cX9_raceIt 228 = .ok (.aload_n 0, 1) := by decide +kernel
theorem dX9_raceIt_229 : decode cX9_raceIt 229 = .ok (.getfield 13, 3) := by decide +kernel
theorem dX9_raceIt_232 : decode cX9_raceIt 232 = .ok (.bipush 22, 2) := by decide +kernel
theorem dX9_raceIt_234 : decode cX9_raceIt 234 = .ok (.aload_n 0, 1) := by decide +kernel
theorem dX9_raceIt_235 : decode cX9_raceIt 235 = .ok (.getfield 111, 3) := by decide +kernel
theorem dX9_raceIt_238 : decode cX9_raceIt 238 = .ok (.iload 7, 2) := by decide +kernel
theorem dX9_raceIt_240 : decode cX9_raceIt 240 = .ok (.iaload, 1) := by decide +kernel
theorem dX9_raceIt_241 : decode cX9_raceIt 241 = .ok (.iadd, 1) := by decide +kernel
theorem dX9_raceIt_242 : decode cX9_raceIt 242 = .ok (.iconst 0, 1) := by decide +kernel
theorem dX9_raceIt_243 : decode cX9_raceIt 243 = .ok (.iastore, 1) := by decide +kernel
theorem dX9_raceIt_244 : decode cX9_raceIt 244 = .ok (.iinc 7 1, 3) := by decide +kernel
theorem dX9_raceIt_247 : decode cX9_raceIt 247 = .ok (.goto (-28), 3) := by decide +kernel
theorem dX9_raceIt_250 : decode cX9_raceIt 250 = .ok (.iload_n 2, 1) := by decide +kernel
theorem dX9_raceIt_251 : decode cX9_raceIt 251 = .ok (.ireturn, 1) := by decide +kernel
theorem dX9_raceNow_0 : decode cX9_raceNow 0 = .ok (.iload_n 1, 1) := by decide +kernel
theorem dX9_raceNow_1 : decode cX9_raceNow 1 = .ok (.invokestatic 213, 3) := by decide +kernel
theorem dX9_raceNow_4 : decode cX9_raceNow 4 = .ok (.ifCond .ne 5, 3) := by decide +kernel
theorem dX9_raceNow_7 : decode cX9_raceNow 7 = .ok (.iconst (-1), 1) := by decide +kernel
theorem dX9_raceNow_8 : decode cX9_raceNow 8 = .ok (.ireturn, 1) := by decide +kernel
theorem dX9_raceNow_9 : decode cX9_raceNow 9 = .ok (.aload_n 0, 1) := by decide +kernel
theorem dX9_raceNow_10 : decode cX9_raceNow 10 = .ok (.iload_n 1, 1) := by decide +kernel
theorem dX9_raceNow_11 : decode cX9_raceNow 11 = .ok (.invokevirtual 221, 3) := by decide +kernel
theorem dX9_raceNow_14 : decode cX9_raceNow 14 = .ok (.aload_n 0, 1) := by decide +kernel
theorem dX9_raceNow_15 : decode cX9_raceNow 15 = .ok (.getfield 224, 3) := by decide +kernel
theorem dX9_raceNow_18 : decode cX9_raceNow 18 = .ok (.ifCond .ne 6, 3) := by decide +kernel
theorem dX9_raceNow_21 : decode cX9_raceNow 21 = .ok (.bipush (-3), 2) := by decide +kernel
theorem dX9_raceNow_23 : decode cX9_raceNow 23 = .ok (.ireturn, 1) := by decide +kernel
theorem dX9_raceNow_24 : decode cX9_raceNow 24 = .ok (.aload_n 0, 1) := by decide +kernel
theorem dX9_raceNow_25 : decode cX9_raceNow 25 = .ok (.iconst 0, 1) := by decide +kernel
theorem dX9_raceNow_26 : decode cX9_raceNow 26 = .ok (.invokevirtual 440, 3) := by decide +kernel
theorem dX9_raceNow_29 : decode cX9_raceNow 29 = .ok (.aload_n 0, 1) := by decide +kernel
theorem dX9_raceNow_30 : decode cX9_raceNow 30 = .ok (.iload_n 1, 1) := by decide +kernel
theorem dX9_raceNow_31 : decode cX9_raceNow 31 = .ok (.invokevirtual 443, 3) := by decide +kernel
theorem dX9_raceNow_34 : decode cX9_raceNow 34 = .ok (.ireturn, 1) := by decide +kernel
theorem dX9_ranking_0 : decode cX9_ranking 0 = .ok (.aload_n 0, 1) := by decide +kernel
theorem dX9_ranking_1 : decode cX9_ranking 1 = .ok (.iconst 0, 1) := by decide +kernel
theorem dX9_ranking_2 : decode cX9_ranking 2 = .ok (.putfield 165, 3) := by decide +kernel
theorem dX9_ranking_5 : decode cX9_ranking 5 = .ok (.iload_n 1, 1) := by decide +kernel
theorem dX9_ranking_6 : decode cX9_ranking 6 = .ok (.i2l, 1) := by decide +kernel
theorem dX9_ranking_7 : decode cX9_ranking 7 = .ok (.lconst 0, 1) := by decide +kernel
theorem dX9_ranking_8 : decode cX9_ranking 8 = .ok (.aload_n 0, 1) := by decide +kernel
theorem dX9_ranking_9 : decode cX9_ranking 9 = .ok (.getfield 13, 3) := by decide +kernel
theorem dX9_ranking_12 : decode cX9_ranking 12 = .ok (.iconst 0, 1) := by decide +kernel
theorem dX9_ranking_13 : decode cX9_ranking 13 = .ok (.iaload, 1) := by decide +kernel
theorem dX9_ranking_14 : decode cX9_ranking 14 = .ok (.i2l, 1) := by decide +kernel
theorem dX9_ranking_15 : decode cX9_ranking 15 = .ok (.invokestatic 185, 3) := by decide +kernel
theorem dX9_ranking_18 : decode cX9_ranking 18 = .ok (.ifCond .ne 5, 3) := by decide +kernel
theorem dX9_ranking_21 : decode cX9_ranking 21 = .ok (.iconst (-1), 1) := by decide +kernel
theorem dX9_ranking_22 : decode cX9_ranking 22 = .ok (.ireturn, 1) := by decide +kernel
theorem dX9_ranking_23 : decode cX9_ranking 23 = .ok (.aload_n 0, 1) := by decide +kernel
theorem dX9_ranking_24 : decode cX9_ranking 24 = .ok (.invokevirtual 489, 3) := by decide +kernel
theorem dX9_ranking_27 : decode cX9_ranking 27 = .ok (.iconst 0, 1) := by decide +kernel
theorem dX9_ranking_28 : decode cX9_ranking 28 = .ok (.istore_n 2, 1) := by decide +kernel
theorem dX9_ranking_29 : decode cX9_ranking 29 = .ok (.aload_n 0, 1) := by decide +kernel
theorem dX9_ranking_30 : decode cX9_ranking 30 = .ok (.getfield 120, 3) := by decide +kernel
theorem dX9_ranking_33 : decode cX9_ranking 33 = .ok (.iconst 0, 1) := by decide +kernel
theorem dX9_ranking_34 : decode cX9_ranking 34 = .ok (.iaload, 1) := by decide +kernel
theorem dX9_ranking_35 : decode cX9_ranking 35 = .ok (.istore_n 3, 1) := by decide +kernel
theorem dX9_ranking_36 : decode cX9_ranking 36 = .ok (.iconst 0, 1) := by decide +kernel
theorem dX9_ranking_37 : decode cX9_ranking 37 = .ok (.istore 4, 2) := by decide +kernel
theorem dX9_ranking_39 : decode cX9_ranking 39 = .ok (.iload 4, 2) := by decide +kernel
theorem dX9_ranking_41 : decode cX9_ranking 41 = .ok (.iload_n 1, 1) := by decide +kernel
theorem dX9_ranking_42 : decode cX9_ranking 42 = .ok (.if_icmp .ge 38, 3) := by decide +kernel
theorem dX9_ranking_45 : decode cX9_ranking 45 = .ok (.iconst 0, 1) := by decide +kernel
theorem dX9_ranking_46 : decode cX9_ranking 46 = .ok (.istore_n 3, 1) := by decide +kernel
theorem dX9_ranking_47 : decode cX9_ranking 47 = .ok (.aload_n 0, 1) := by decide +kernel
theorem dX9_ranking_48 : decode cX9_ranking 48 = .ok (.iload_n 2, 1) := by decide +kernel
theorem dX9_ranking_49 : decode cX9_ranking 49 = .ok (.iload_n 3, 1) := by decide +kernel
theorem dX9_ranking_50 : decode cX9_ranking 50 = .ok (.invokevirtual 486, 3) := by decide +kernel
theorem dX9_ranking_53 : decode cX9_ranking 53 = .ok (.aload_n 0, 1) := by decide +kernel
theorem dX9_ranking_54 : decode cX9_ranking 54 = .ok (.getfield 120, 3) := by decide +kernel
theorem dX9_ranking_57 : decode cX9_ranking 57 = .ok (.iload_n 2, 1) := by decide +kernel
theorem dX9_ranking_58 : decode cX9_ranking 58 = .ok (.iaload, 1) := by decide +kernel
theorem dX9_ranking_59 : decode cX9_ranking 59 = .ok (.if_icmp .eq 9, 3) := by decide +kernel
theorem dX9_ranking_62 : decode cX9_ranking 62 = .ok (.iinc 3 1, 3) := by decide +kernel
theorem dX9_ranking_65 : decode cX9_ranking 65 = .ok (.goto (-18), 3) := by decide +kernel
theorem dX9_ranking_68 : decode cX9_ranking 68 = .ok (.iload_n 2, 1) := by decide +kernel
theorem dX9_ranking_69 : decode cX9_ranking 69 = .ok (.iconst 1, 1) := by decide +kernel
theorem dX9_ranking_70 : decode cX9_ranking 70 = .ok (.iload_n 3, 1) := by decide +kernel
theorem dX9_ranking_71 : decode cX9_ranking 71 = .ok (.ishl, 1) := by decide +kernel
theorem dX9_ranking_72 : decode cX9_ranking 72 = .ok (.ior, 1) := by decide +kernel
theorem dX9_ranking_73 : decode cX9_ranking 73 = .ok (.istore_n 2, 1) := by decide +kernel
theorem dX9_ranking_74 : decode cX9_ranking 74 = .ok (.iinc 4 1, 3) := by decide +kernel
theorem dX9_ranking_77 : decode cX9_ranking 77 = .ok (.goto (-38), 3) := by decide +kernel
theorem dX9_ranking_80 : decode cX9_ranking 80 = .ok (.iload_n 3, 1) := by decide +kernel
theorem dX9_ranking_81 : decode cX9_ranking 81 = .ok (.ireturn, 1) := by decide +kernel
theorem dX9_readExpression_0 : decode cX9_readExpression 0 = .ok (.aload_n 0, 1) := by decide +kernel
theorem dX9_readExpression_1 : decode cX9_readExpression 1 = .ok (.iconst 0, 1) := by decide +kernel
theorem dX9_readExpression_2 : decode cX9_readExpression 2 = .ok (.putfield 286, 3) := by decide +kernel
theorem dX9_readExpression_5 : decode cX9_readExpression 5 = .ok (.aload_n 0, 1) := by decide +kernel
theorem dX9_readExpression_6 : decode cX9_readExpression 6 = .ok (.iconst 0, 1) := by decide +kernel
theorem dX9_readExpression_7 : decode cX9_readExpression 7 = .ok (.putfield 308, 3) := by decide +kernel
theorem dX9_readExpression_10 : decode cX9_readExpression 10 = .ok (.iload_n 1, 1) := by decide +kernel
theorem dX9_readExpression_11 : decode cX9_readExpression 11 = .ok (.ifCond .eq 7, 3) := by decide +kernel
theorem dX9_readExpression_14 : decode cX9_readExpression 14 = .ok (.iconst 0, 1) := by decide +kernel
theorem dX9_readExpression_15 : decode cX9_readExpression 15 = .ok (.goto 4, 3) := by decide +kernel
theorem dX9_readExpression_18 : decode cX9_readExpression 18 = .ok (.iconst 1, 1) := by decide +kernel
theorem dX9_readExpression_19 : decode cX9_readExpression 19 = .ok (.istore_n 2, 1) := by decide +kernel
theorem dX9_readExpression_20 : decode cX9_readExpression 20 = .ok (.aload_n 0, 1) := by decide +kernel
theorem dX9_readExpression_21 : decode cX9_readExpression 21 = .ok (.getfield 246, 3) := by decide +kernel
theorem dX9_readExpression_24 : decode cX9_readExpression 24 = .ok (.ifCond .ne 52, 3) := by decide +kernel
theorem dX9_readExpression_27 : decode cX9_readExpression 27 = .ok (.iload_n 2, 1) := by decide +kernel
theorem dX9_readExpression_28 : decode cX9_readExpression 28 = .ok (.iconst 4, 1) := by decide +kernel
theorem dX9_readExpression_29 : decode cX9_readExpression 29 = .ok (.if_icmp .eq 47, 3) := by decide +kernel
theorem dX9_readExpression_32 : decode cX9_readExpression 32 = .ok (.iload_n 2, 1) := by decide +kernel
theorem dX9_readExpression_33 : decode cX9_readExpression 33 = .ok (.ifCond .ne 10, 3) := by decide +kernel
theorem dX9_readExpression_36 : decode cX9_readExpression 36 = .ok (.aload_n 0, 1) := by decide +kernel
theorem dX9_readExpression_37 : decode cX9_readExpression 37 = .ok (.invokevirtual 364, 3) := by decide +kernel
theorem dX9_readExpression_40 : decode cX9_readExpression 40 = .ok (.goto 32, 3) := by decide +kernel
theorem dX9_readExpression_43 : decode cX9_readExpression 43 = .ok (.iload_n 2, 1) := by decide +kernel
theorem dX9_readExpression_44 : decode cX9_readExpression 44 = .ok (.iconst 1, 1) := by decide +kernel
theorem dX9_readExpression_45 : decode cX9_readExpression 45 = .ok (.if_icmp .ne 10, 3) := by decide +kernel
theorem dX9_readExpression_48 : decode cX9_readExpression 48 = .ok (.aload_n 0, 1) := by decide +kernel
theorem dX9_readExpression_49 : decode cX9_readExpression 49 = .ok (.invokevirtual 347, 3) := by decide +kernel
theorem dX9_readExpression_52 : decode cX9_readExpression 52 = .ok (.goto 20, 3) := by decide +kernel
theorem dX9_readExpression_55 : decode cX9_readExpression 55 = .ok (.iload_n 2, 1) := by decide +kernel
theorem dX9_readExpression_56 : decode cX9_readExpression 56 = .ok (.iconst 3, 1) := by decide +kernel
theorem dX9_readExpression_57 : decode cX9_readExpression 57 = .ok (.if_icmp .ne 11, 3) := by decide +kernel
theorem dX9_readExpression_60 : decode cX9_readExpression 60 = .ok (.aload_n 0, 1) := by decide +kernel
theorem dX9_readExpression_61 : decode cX9_readExpression 61 = .ok (.iload_n 1, 1) := by decide +kernel
theorem dX9_readExpression_62 : decode cX9_readExpression 62 = .ok (.invokevirtual 367, 3) := by decide +kernel
theorem dX9_readExpression_65 : decode cX9_readExpression 65 = .ok (.goto 7, 3) := by decide +kernel
theorem dX9_readExpression_68 : decode cX9_readExpression 68 = .ok (.aload_n 0, 1) := by decide +kernel
theorem dX9_readExpression_69 : decode cX9_readExpression 69 = .ok (.invokevirtual 371, 3) := by decide +kernel
theorem dX9_readExpression_72 : decode cX9_readExpression 72 = .ok (.istore_n 2, 1) := by decide +kernel
theorem dX9_readExpression_73 : decode cX9_readExpression 73 = .ok (.goto (-53), 3) := by decide +kernel
theorem dX9_readExpression_76 : decode cX9_readExpression 76 = .ok (.aload_n 0, 1) := by decide +kernel
theorem dX9_readExpression_77 : decode cX9_readExpression 77 = .ok (.iconst 1, 1) := by decide +kernel
theorem dX9_readExpression_78 : decode cX9_readExpression 78 = .ok (.invokevirtual 350, 3) := by decide +kernel
theorem dX9_readExpression_81 : decode cX9_readExpression 81 = .ok (.return_, 1) := by decide +kernel
theorem dX9_readLaw_0 : decode cX9_readLaw 0 = .ok (.iconst (-1), 1) := by decide +kernel
theorem dX9_readLaw_1 : decode cX9_readLaw 1 = .ok (.istore_n 1, 1) := by decide +kernel
theorem dX9_readLaw_2 : decode cX9_readLaw 2 = .ok (.iconst 0, 1) := by decide +kernel
theorem dX9_readLaw_3 : decode cX9_readLaw 3 = .ok (.istore_n 2, 1) := by decide +kernel
theorem dX9_readLaw_4 : decode cX9_readLaw 4 = .ok (.iload_n 2, 1) := by decide +kernel
theorem dX9_readLaw_5 : decode cX9_readLaw 5 = .ok (.iconst 4, 1) := by decide +kernel
theorem dX9_readLaw_6 : decode cX9_readLaw 6 = .ok (.if_icmp .ge 28, 3) := by decide +kernel
theorem dX9_readLaw_9 : decode cX9_readLaw 9 = .ok (.aload_n 0, 1) := by decide +kernel
theorem dX9_readLaw_10 : decode cX9_readLaw 10 = .ok (.aload_n 0, 1) := by decide +kernel
theorem dX9_readLaw_11 : decode cX9_readLaw 11 = .ok (.getfield 96, 3) := by decide +kernel
theorem dX9_readLaw_14 : decode cX9_readLaw 14 = .ok (.iload_n 2, 1) := by decide +kernel
theorem dX9_readLaw_15 : decode cX9_readLaw 15 = .ok (.laload, 1) := by decide +kernel
theorem dX9_readLaw_16 : decode cX9_readLaw 16 = .ok (.invokevirtual 304, 3) := by decide +kernel
theorem dX9_readLaw_19 : decode cX9_readLaw 19 = .ok (.ifCond .eq 7, 3) := by decide +kernel
theorem dX9_readLaw_22 : decode cX9_readLaw 22 = .ok (.iload_n 2, 1) := by decide +kernel
theorem dX9_readLaw_23 : decode cX9_readLaw 23 = .ok (.goto 4, 3) := by decide +kernel
theorem dX9_readLaw_26 : decode cX9_readLaw 26 = .ok (.iload_n 1, 1) := by decide +kernel
theorem dX9_readLaw_27 : decode cX9_readLaw 27 = .ok (.istore_n 1, 1) := by decide +kernel
theorem dX9_readLaw_28 : decode cX9_readLaw 28 = .ok (.iinc 2 1, 3) := by decide +kernel
theorem dX9_readLaw_31 : decode cX9_readLaw 31 = .ok (.goto (-27), 3) := by decide +kernel
theorem dX9_readLaw_34 : decode cX9_readLaw 34 = .ok (.aload_n 0, 1) := by decide +kernel
theorem dX9_readLaw_35 : decode cX9_readLaw 35 = .ok (.iload_n 1, 1) := by decide +kernel
theorem dX9_readLaw_36 : decode cX9_readLaw 36 = .ok (.iconst (-1), 1) := by decide +kernel
theorem dX9_readLaw_37 : decode cX9_readLaw 37 = .ok (.if_icmp .eq 16, 3) := by decide +kernel
theorem dX9_readLaw_40 : decode cX9_readLaw 40 = .ok (.aload_n 0, 1) := by decide +kernel
theorem dX9_readLaw_41 : decode cX9_readLaw 41 = .ok (.getfield 377, 3) := by decide +kernel
theorem dX9_readLaw_44 : decode cX9_readLaw 44 = .ok (.bipush 12, 2) := by decide +kernel
theorem dX9_readLaw_46 : decode cX9_readLaw 46 = .ok (.if_icmp .ge 7, 3) := by decide +kernel
theorem dX9_readLaw_49 : decode cX9_readLaw 49 = .ok (.iconst 1, 1) := by decide +kernel
theorem dX9_readLaw_50 : decode cX9_readLaw 50 = .ok (.goto 4, 3) := by decide +kernel
theorem dX9_readLaw_53 : decode cX9_readLaw 53 = .ok (.iconst 0, 1) := by decide +kernel
theorem dX9_readLaw_54 : decode cX9_readLaw 54 = .ok (.invokevirtual 279, 3) := by decide +kernel
theorem dX9_readLaw_57 : decode cX9_readLaw 57 = .ok (.aload_n 0, 1) := by decide +kernel
theorem dX9_readLaw_58 : decode cX9_readLaw 58 = .ok (.getfield 246, 3) := by decide +kernel
theorem dX9_readLaw_61 : decode cX9_readLaw 61 = .ok (.ifCond .eq 4, 3) := by decide +kernel
theorem dX9_readLaw_64 : decode cX9_readLaw 64 = .ok (.return_, 1) := by decide +kernel
theorem dX9_readLaw_65 : decode cX9_readLaw 65 = .ok (.bipush 8, 2) := by decide +kernel
theorem dX9_readLaw_67 : decode cX9_readLaw 67 = .ok (.aload_n 0, 1) := by decide +kernel
theorem dX9_readLaw_68 : decode cX9_readLaw 68 = .ok (.getfield 377, 3) := by decide +kernel
theorem dX9_readLaw_71 : decode cX9_readLaw 71 = .ok (.imul, 1) := by decide +kernel
theorem dX9_readLaw_72 : decode cX9_readLaw 72 = .ok (.istore_n 2, 1) := by decide +kernel
theorem dX9_readLaw_73 : decode cX9_readLaw 73 = .ok (.iconst 0, 1) := by decide +kernel
theorem dX9_readLaw_74 : decode cX9_readLaw 74 = .ok (.istore_n 3, 1) := by decide +kernel
theorem dX9_readLaw_75 : decode cX9_readLaw 75 = .ok (.iload_n 3, 1) := by decide +kernel
theorem dX9_readLaw_76 : decode cX9_readLaw 76 = .ok (.bipush 8, 2) := by decide +kernel
theorem dX9_readLaw_78 : decode cX9_readLaw 78 = .ok (.if_icmp .ge 18, 3) := by decide +kernel
theorem dX9_readLaw_81 : decode cX9_readLaw 81 = .ok (.aload_n 0, 1) := by decide +kernel
theorem dX9_readLaw_82 : decode cX9_readLaw 82 = .ok (.getfield 42, 3) := by decide +kernel
theorem dX9_readLaw_85 : decode cX9_readLaw 85 = .ok (.iload_n 2, 1) := by decide +kernel
theorem dX9_readLaw_86 : decode cX9_readLaw 86 = .ok (.iload_n 3, 1) := by decide +kernel
theorem dX9_readLaw_87 : decode cX9_readLaw 87 = .ok (.iadd, 1) := by decide +kernel
theorem dX9_readLaw_88 : decode cX9_readLaw 88 = .ok (.iconst 0, 1) := by decide +kernel
theorem dX9_readLaw_89 : decode cX9_readLaw 89 = .ok (.iastore, 1) := by decide +kernel
theorem dX9_readLaw_90 : decode cX9_readLaw 90 = .ok (.iinc 3 1, 3) := by decide +kernel
theorem dX9_readLaw_93 : decode cX9_readLaw 93 = .ok (.goto (-18), 3) := by decide +kernel
theorem dX9_readLaw_96 : decode cX9_readLaw 96 = .ok (.aload_n 0, 1) := by decide +kernel
theorem dX9_readLaw_97 : decode cX9_readLaw 97 = .ok (.getfield 42, 3) := by decide +kernel
theorem dX9_readLaw_100 : decode cX9_readLaw 100 = .ok (.iload_n 2, 1) := by decide +kernel
theorem dX9_readLaw_101 : decode cX9_readLaw 101 = .ok (.iload_n 1, 1) := by decide +kernel
theorem dX9_readLaw_102 : decode cX9_readLaw 102 = .ok (.iastore, 1) := by decide +kernel
theorem dX9_readLaw_103 : decode cX9_readLaw 103 = .ok (.aload_n 0, 1) := by decide +kernel
theorem dX9_readLaw_104 : decode cX9_readLaw 104 = .ok (.dup, 1) := by decide +kernel
theorem dX9_readLaw_105 : decode cX9_readLaw 105 = .ok (.getfield 377, 3) := by decide +kernel
theorem dX9_readLaw_108 : decode cX9_readLaw 108 = .ok (.iconst 1, 1) := by decide +kernel
theorem dX9_readLaw_109 : decode cX9_readLaw 109 = .ok (.iadd, 1) := by decide +kernel
theorem dX9_readLaw_110 : decode cX9_readLaw 110 = .ok (.putfield 377, 3) := by decide +kernel
theorem dX9_readLaw_113 : decode cX9_readLaw 113 = .ok (.aload_n 0, 1) := by decide +kernel
theorem dX9_readLaw_114 : decode cX9_readLaw 114 = .ok (.getfield 42, 3) := by decide +kernel
theorem dX9_readLaw_117 : decode cX9_readLaw 117 = .ok (.iload_n 2, 1) := by decide +kernel
theorem dX9_readLaw_118 : decode cX9_readLaw 118 = .ok (.iconst 3, 1) := by decide +kernel
theorem dX9_readLaw_119 : decode cX9_readLaw 119 = .ok (.iadd, 1) := by decide +kernel
theorem dX9_readLaw_120 : decode cX9_readLaw 120 = .ok (.aload_n 0, 1) := by decide +kernel
theorem dX9_readLaw_121 : decode cX9_readLaw 121 = .ok (.getfield 283, 3) := by decide +kernel
theorem dX9_readLaw_124 : decode cX9_readLaw 124 = .ok (.iastore, 1) := by decide +kernel
theorem dX9_readLaw_125 : decode cX9_readLaw 125 = .ok (.iload_n 1, 1) := by decide +kernel
theorem dX9_readLaw_126 : decode cX9_readLaw 126 = .ok (.iconst 3, 1) := by decide +kernel
theorem dX9_readLaw_127 : decode cX9_readLaw 127 = .ok (.if_icmp .eq 8, 3) := by decide +kernel
theorem dX9_readLaw_130 : decode cX9_readLaw 130 = .ok (.aload_n 0, 1) := by decide +kernel
theorem dX9_readLaw_131 : decode cX9_readLaw 131 = .ok (.iconst 0, 1) := by decide +kernel
theorem dX9_readLaw_132 : decode cX9_readLaw 132 = .ok (.invokevirtual 380, 3) := by decide +kernel
theorem dX9_readLaw_135 : decode cX9_readLaw 135 = .ok (.aload_n 0, 1) := by decide +kernel
theorem dX9_readLaw_136 : decode cX9_readLaw 136 = .ok (.getfield 42, 3) := by decide +kernel
theorem dX9_readLaw_139 : decode cX9_readLaw 139 = .ok (.iload_n 2, 1) := by decide +kernel
theorem dX9_readLaw_140 : decode cX9_readLaw 140 = .ok (.iconst 4, 1) := by decide +kernel
theorem dX9_readLaw_141 : decode cX9_readLaw 141 = .ok (.iadd, 1) := by decide +kernel
theorem dX9_readLaw_142 : decode cX9_readLaw 142 = .ok (.aload_n 0, 1) := by decide +kernel
theorem dX9_readLaw_143 : decode cX9_readLaw 143 = .ok (.getfield 283, 3) := by decide +kernel
theorem dX9_readLaw_146 : decode cX9_readLaw 146 = .ok (.iastore, 1) := by decide +kernel
theorem dX9_readLaw_147 : decode cX9_readLaw 147 = .ok (.aload_n 0, 1) := by decide +kernel
theorem dX9_readLaw_148 : decode cX9_readLaw 148 = .ok (.getfield 42, 3) := by decide +kernel
theorem dX9_readLaw_151 : decode cX9_readLaw 151 = .ok (.iload_n 2, 1) := by decide +kernel
theorem dX9_readLaw_152 : decode cX9_readLaw 152 = .ok (.iconst 5, 1) := by decide +kernel
theorem dX9_readLaw_153 : decode cX9_readLaw 153 = .ok (.iadd, 1) := by decide +kernel
theorem dX9_readLaw_154 : decode cX9_readLaw 154 = .ok (.aload_n 0, 1) := by decide +kernel
theorem dX9_readLaw_155 : decode cX9_readLaw 155 = .ok (.getfield 283, 3) := by decide +kernel
theorem dX9_readLaw_158 : decode cX9_readLaw 158 = .ok (.iastore, 1) := by decide +kernel
theorem dX9_readLaw_159 : decode cX9_readLaw 159 = .ok (.aload_n 0, 1) := by decide +kernel
theorem dX9_readLaw_160 : decode cX9_readLaw 160 = .ok (.getfield 246, 3) := by decide +kernel
theorem dX9_readLaw_163 : decode cX9_readLaw 163 = .ok (.ifCond .ne 22, 3) := by decide +kernel
theorem dX9_readLaw_166 : decode cX9_readLaw 166 = .ok (.aload_n 0, 1) := by decide +kernel
theorem dX9_readLaw_167 : decode cX9_readLaw 167 = .ok (.ldc2_w 383, 3) := by decide +kernel
theorem dX9_readLaw_170 : decode cX9_readLaw 170 = .ok (.invokevirtual 304, 3) := by decide +kernel
theorem dX9_readLaw_173 : decode cX9_readLaw 173 = .ok (.ifCond .eq 12, 3) := by decide +kernel
theorem dX9_readLaw_176 : decode cX9_readLaw 176 = .ok (.aload_n 0, 1) := by decide +kernel
theorem dX9_readLaw_177 : decode cX9_readLaw 177 = .ok (.invokevirtual 250, 3) := by decide +kernel
theorem dX9_readLaw_180 : decode cX9_readLaw 180 = .ok (.aload_n 0, 1) := by decide +kernel
theorem dX9_readLaw_181 : decode cX9_readLaw 181 = .ok (.iconst 1, 1) := by decide +kernel
theorem dX9_readLaw_182 : decode cX9_readLaw 182 = .ok (.invokevirtual 380, 3) := by decide +kernel
theorem dX9_readLaw_185 : decode cX9_readLaw 185 = .ok (.aload_n 0, 1) := by decide +kernel
theorem dX9_readLaw_186 : decode cX9_readLaw 186 = .ok (.getfield 42, 3) := by decide +kernel
theorem dX9_readLaw_189 : decode cX9_readLaw 189 = .ok (.iload_n 2, 1) := by decide +kernel
theorem dX9_readLaw_190 : decode cX9_readLaw 190 = .ok (.bipush 6, 2) := by decide +kernel
theorem dX9_readLaw_192 : decode cX9_readLaw 192 = .ok (.iadd, 1) := by decide +kernel
theorem dX9_readLaw_193 : decode cX9_readLaw 193 = .ok (.aload_n 0, 1) := by decide +kernel
theorem dX9_readLaw_194 : decode cX9_readLaw 194 = .ok (.getfield 283, 3) := by decide +kernel
theorem dX9_readLaw_197 : decode cX9_readLaw 197 = .ok (.iastore, 1) := by decide +kernel
theorem dX9_readLaw_198 : decode cX9_readLaw 198 = .ok (.return_, 1) := by decide +kernel
theorem dX9_readOrder_0 : decode cX9_readOrder 0 = .ok (.iconst (-1), 1) := by decide +kernel
theorem dX9_readOrder_1 : decode cX9_readOrder 1 = .ok (.istore_n 1, 1) := by decide +kernel
theorem dX9_readOrder_2 : decode cX9_readOrder 2 = .ok (.iconst 0, 1) := by decide +kernel
theorem dX9_readOrder_3 : decode cX9_readOrder 3 = .ok (.istore_n 2, 1) := by decide +kernel
theorem dX9_readOrder_4 : decode cX9_readOrder 4 = .ok (.iload_n 2, 1) := by decide +kernel
theorem dX9_readOrder_5 : decode cX9_readOrder 5 = .ok (.iconst 4, 1) := by decide +kernel
theorem dX9_readOrder_6 : decode cX9_readOrder 6 = .ok (.if_icmp .ge 28, 3) := by decide +kernel
theorem dX9_readOrder_9 : decode cX9_readOrder 9 = .ok (.aload_n 0, 1) := by decide +kernel
theorem dX9_readOrder_10 : decode cX9_readOrder 10 = .ok (.aload_n 0, 1) := by decide +kernel
theorem dX9_readOrder_11 : decode cX9_readOrder 11 = .ok (.getfield 150, 3) := by decide +kernel
theorem dX9_readOrder_14 : decode cX9_readOrder 14 = .ok (.iload_n 2, 1) := by decide +kernel
theorem dX9_readOrder_15 : decode cX9_readOrder 15 = .ok (.laload, 1) := by decide +kernel
theorem dX9_readOrder_16 : decode cX9_readOrder 16 = .ok (.invokevirtual 304, 3) := by decide +kernel
theorem dX9_readOrder_19 : decode cX9_readOrder 19 = .ok (.ifCond .eq 7, 3) := by decide +kernel
theorem dX9_readOrder_22 : decode cX9_readOrder 22 = .ok (.iload_n 2, 1) := by decide +kernel
theorem dX9_readOrder_23 : decode cX9_readOrder 23 = .ok (.goto 4, 3) := by decide +kernel
theorem dX9_readOrder_26 : decode cX9_readOrder 26 = .ok (.iload_n 1, 1) := by decide +kernel
theorem dX9_readOrder_27 : decode cX9_readOrder 27 = .ok (.istore_n 1, 1) := by decide +kernel
theorem dX9_readOrder_28 : decode cX9_readOrder 28 = .ok (.iinc 2 1, 3) := by decide +kernel
theorem dX9_readOrder_31 : decode cX9_readOrder 31 = .ok (.goto (-27), 3) := by decide +kernel
theorem dX9_readOrder_34 : decode cX9_readOrder 34 = .ok (.aload_n 0, 1) := by decide +kernel
theorem dX9_readOrder_35 : decode cX9_readOrder 35 = .ok (.iload_n 1, 1) := by decide +kernel
theorem dX9_readOrder_36 : decode cX9_readOrder 36 = .ok (.iconst (-1), 1) := by decide +kernel
theorem dX9_readOrder_37 : decode cX9_readOrder 37 = .ok (.if_icmp .eq 16, 3) := by decide +kernel
theorem dX9_readOrder_40 : decode cX9_readOrder 40 = .ok (.aload_n 0, 1) := by decide +kernel
theorem dX9_readOrder_41 : decode cX9_readOrder 41 = .ok (.getfield 377, 3) := by decide +kernel
theorem dX9_readOrder_44 : decode cX9_readOrder 44 = .ok (.bipush 12, 2) := by decide +kernel
theorem dX9_readOrder_46 : decode cX9_readOrder 46 = .ok (.if_icmp .ge 7, 3) := by decide +kernel
theorem dX9_readOrder_49 : decode cX9_readOrder 49 = .ok (.iconst 1, 1) := by decide +kernel
theorem dX9_readOrder_50 : decode cX9_readOrder 50 = .ok (.goto 4, 3) := by decide +kernel
theorem dX9_readOrder_53 : decode cX9_readOrder 53 = .ok (.iconst 0, 1) := by decide +kernel
theorem dX9_readOrder_54 : decode cX9_readOrder 54 = .ok (.invokevirtual 279, 3) := by decide +kernel
theorem dX9_readOrder_57 : decode cX9_readOrder 57 = .ok (.aload_n 0, 1) := by decide +kernel
theorem dX9_readOrder_58 : decode cX9_readOrder 58 = .ok (.getfield 246, 3) := by decide +kernel
theorem dX9_readOrder_61 : decode cX9_readOrder 61 = .ok (.ifCond .eq 4, 3) := by decide +kernel
theorem dX9_readOrder_64 : decode cX9_readOrder 64 = .ok (.return_, 1) := by decide +kernel
theorem dX9_readOrder_65 : decode cX9_readOrder 65 = .ok (.bipush 8, 2) := by decide +kernel
theorem dX9_readOrder_67 : decode cX9_readOrder 67 = .ok (.aload_n 0, 1) := by decide +kernel
theorem dX9_readOrder_68 : decode cX9_readOrder 68 = .ok (.getfield 377, 3) := by decide +kernel
theorem dX9_readOrder_71 : decode cX9_readOrder 71 = .ok (.imul, 1) := by decide +kernel
theorem dX9_readOrder_72 : decode cX9_readOrder 72 = .ok (.istore_n 2, 1) := by decide +kernel
theorem dX9_readOrder_73 : decode cX9_readOrder 73 = .ok (.aload_n 0, 1) := by decide +kernel
theorem dX9_readOrder_74 : decode cX9_readOrder 74 = .ok (.dup, 1) := by decide +kernel
theorem dX9_readOrder_75 : decode cX9_readOrder 75 = .ok (.getfield 377, 3) := by decide +kernel
theorem dX9_readOrder_78 : decode cX9_readOrder 78 = .ok (.iconst 1, 1) := by decide +kernel
theorem dX9_readOrder_79 : decode cX9_readOrder 79 = .ok (.iadd, 1) := by decide +kernel
theorem dX9_readOrder_80 : decode cX9_readOrder 80 = .ok (.putfield 377, 3) := by decide +kernel
theorem dX9_readOrder_83 : decode cX9_readOrder 83 = .ok (.iconst 0, 1) := by decide +kernel
theorem dX9_readOrder_84 : decode cX9_readOrder 84 = .ok (.istore_n 3, 1) := by decide +kernel
theorem dX9_readOrder_85 : decode cX9_readOrder 85 = .ok (.iload_n 3, 1) := by decide +kernel
theorem dX9_readOrder_86 : decode cX9_readOrder 86 = .ok (.bipush 8, 2) := by decide +kernel
theorem dX9_readOrder_88 : decode cX9_readOrder 88 = .ok (.if_icmp .ge 18, 3) := by decide +kernel
theorem dX9_readOrder_91 : decode cX9_readOrder 91 = .ok (.aload_n 0, 1) := by decide +kernel
theorem dX9_readOrder_92 : decode cX9_readOrder 92 = .ok (.getfield 153, 3) := by decide +kernel
theorem dX9_readOrder_95 : decode cX9_readOrder 95 = .ok (.iload_n 2, 1) := by decide +kernel
theorem dX9_readOrder_96 : decode cX9_readOrder 96 = .ok (.iload_n 3, 1) := by decide +kernel
theorem dX9_readOrder_97 : decode cX9_readOrder 97 = .ok (.iadd, 1) := by decide +kernel
theorem dX9_readOrder_98 : decode cX9_readOrder 98 = .ok (.iconst 0, 1) := by decide +kernel
theorem dX9_readOrder_99 : decode cX9_readOrder 99 = .ok (.iastore, 1) := by decide +kernel
theorem dX9_readOrder_100 : decode cX9_readOrder 100 = .ok (.iinc 3 1, 3) := by decide +kernel
theorem dX9_readOrder_103 : decode cX9_readOrder 103 = .ok (.goto (-18), 3) := by decide +kernel
theorem dX9_readOrder_106 : decode cX9_readOrder 106 = .ok (.aload_n 0, 1) := by decide +kernel
theorem dX9_readOrder_107 : decode cX9_readOrder 107 = .ok (.getfield 153, 3) := by decide +kernel
theorem dX9_readOrder_110 : decode cX9_readOrder 110 = .ok (.iload_n 2, 1) := by decide +kernel
theorem dX9_readOrder_111 : decode cX9_readOrder 111 = .ok (.iload_n 1, 1) := by decide +kernel
theorem dX9_readOrder_112 : decode cX9_readOrder 112 = .ok (.iastore, 1) := by decide +kernel
theorem dX9_readOrder_113 : decode cX9_readOrder 113 = .ok (.iload_n 1, 1) := by decide +kernel
theorem dX9_readOrder_114 : decode cX9_readOrder 114 = .ok (.iconst 3, 1) := by decide +kernel
theorem dX9_readOrder_115 : decode cX9_readOrder 115 = .ok (.if_icmp .eq 10, 3) := by decide +kernel
theorem dX9_readOrder_118 : decode cX9_readOrder 118 = .ok (.aload_n 0, 1) := by decide +kernel
theorem dX9_readOrder_119 : decode cX9_readOrder 119 = .ok (.iload_n 2, 1) := by decide +kernel
theorem dX9_readOrder_120 : decode cX9_readOrder 120 = .ok (.iconst 1, 1) := by decide +kernel
theorem dX9_readOrder_121 : decode cX9_readOrder 121 = .ok (.iadd, 1) := by decide +kernel
theorem dX9_readOrder_122 : decode cX9_readOrder 122 = .ok (.invokevirtual 515, 3) := by decide +kernel
theorem dX9_readOrder_125 : decode cX9_readOrder 125 = .ok (.aload_n 0, 1) := by decide +kernel
theorem dX9_readOrder_126 : decode cX9_readOrder 126 = .ok (.getfield 153, 3) := by decide +kernel
theorem dX9_readOrder_129 : decode cX9_readOrder 129 = .ok (.iload_n 2, 1) := by decide +kernel
theorem dX9_readOrder_130 : decode cX9_readOrder 130 = .ok (.bipush 7, 2) := by decide +kernel
theorem dX9_readOrder_132 : decode cX9_readOrder 132 = .ok (.iadd, 1) := by decide +kernel
theorem dX9_readOrder_133 : decode cX9_readOrder 133 = .ok (.iconst 1, 1) := by decide +kernel
theorem dX9_readOrder_134 : decode cX9_readOrder 134 = .ok (.iastore, 1) := by decide +kernel
theorem dX9_readOrder_135 : decode cX9_readOrder 135 = .ok (.aload_n 0, 1) := by decide +kernel
theorem dX9_readOrder_136 : decode cX9_readOrder 136 = .ok (.getfield 246, 3) := by decide +kernel
theorem dX9_readOrder_139 : decode cX9_readOrder 139 = .ok (.ifCond .ne 34, 3) := by decide +kernel
theorem dX9_readOrder_142 : decode cX9_readOrder 142 = .ok (.aload_n 0, 1) := by decide +kernel
theorem dX9_readOrder_143 : decode cX9_readOrder 143 = .ok (.ldc2_w 518, 3) := by decide +kernel
theorem dX9_readOrder_146 : decode cX9_readOrder 146 = .ok (.invokevirtual 304, 3) := by decide +kernel
theorem dX9_readOrder_149 : decode cX9_readOrder 149 = .ok (.ifCond .eq 24, 3) := by decide +kernel
theorem dX9_readOrder_152 : decode cX9_readOrder 152 = .ok (.aload_n 0, 1) := by decide +kernel
theorem dX9_readOrder_153 : decode cX9_readOrder 153 = .ok (.invokevirtual 250, 3) := by decide +kernel
theorem dX9_readOrder_156 : decode cX9_readOrder 156 = .ok (.aload_n 0, 1) := by decide +kernel
theorem dX9_readOrder_157 : decode cX9_readOrder 157 = .ok (.getfield 153, 3) := by decide +kernel
theorem dX9_readOrder_160 : decode cX9_readOrder 160 = .ok (.iload_n 2, 1) := by decide +kernel
theorem dX9_readOrder_161 : decode cX9_readOrder 161 = .ok (.bipush 7, 2) := by decide +kernel
theorem dX9_readOrder_163 : decode cX9_readOrder 163 = .ok (.iadd, 1) := by decide +kernel
theorem dX9_readOrder_164 : decode cX9_readOrder 164 = .ok (.aload_n 0, 1) := by decide +kernel
theorem dX9_readOrder_165 : decode cX9_readOrder 165 = .ok (.lconst 1, 1) := by decide +kernel
theorem dX9_readOrder_166 : decode cX9_readOrder 166 = .ok (.ldc2_w 296, 3) := by decide +kernel
theorem dX9_readOrder_169 : decode cX9_readOrder 169 = .ok (.invokevirtual 341, 3) := by decide +kernel
theorem dX9_readOrder_172 : decode cX9_readOrder 172 = .ok (.iastore, 1) := by decide +kernel
theorem dX9_readOrder_173 : decode cX9_readOrder 173 = .ok (.aload_n 0, 1) := by decide +kernel
theorem dX9_readOrder_174 : decode cX9_readOrder 174 = .ok (.getfield 153, 3) := by decide +kernel
theorem dX9_readOrder_177 : decode cX9_readOrder 177 = .ok (.iload_n 2, 1) := by decide +kernel
theorem dX9_readOrder_178 : decode cX9_readOrder 178 = .ok (.iconst 5, 1) := by decide +kernel
theorem dX9_readOrder_179 : decode cX9_readOrder 179 = .ok (.iadd, 1) := by decide +kernel
theorem dX9_readOrder_180 : decode cX9_readOrder 180 = .ok (.aload_n 0, 1) := by decide +kernel
theorem dX9_readOrder_181 : decode cX9_readOrder 181 = .ok (.getfield 283, 3) := by decide +kernel
theorem dX9_readOrder_184 : decode cX9_readOrder 184 = .ok (.iastore, 1) := by decide +kernel
theorem dX9_readOrder_185 : decode cX9_readOrder 185 = .ok (.aload_n 0, 1) := by decide +kernel
theorem dX9_readOrder_186 : decode cX9_readOrder 186 = .ok (.getfield 246, 3) := by decide +kernel
theorem dX9_readOrder_189 : decode cX9_readOrder 189 = .ok (.ifCond .ne 22, 3) := by decide +kernel
theorem dX9_readOrder_192 : decode cX9_readOrder 192 = .ok (.aload_n 0, 1) := by decide +kernel
theorem dX9_readOrder_193 : decode cX9_readOrder 193 = .ok (.ldc2_w 383, 3) := by decide +kernel
theorem dX9_readOrder_196 : decode cX9_readOrder 196 = .ok (.invokevirtual 304, 3) := by decide +kernel
theorem dX9_readOrder_199 : decode cX9_readOrder 199 = .ok (.ifCond .eq 12, 3) := by decide +kernel
theorem dX9_readOrder_202 : decode cX9_readOrder 202 = .ok (.aload_n 0, 1) := by decide +kernel
theorem dX9_readOrder_203 : decode cX9_readOrder 203 = .ok (.invokevirtual 250, 3) := by decide +kernel
theorem dX9_readOrder_206 : decode cX9_readOrder 206 = .ok (.aload_n 0, 1) := by decide +kernel
theorem dX9_readOrder_207 : decode cX9_readOrder 207 = .ok (.iconst 1, 1) := by decide +kernel
theorem dX9_readOrder_208 : decode cX9_readOrder 208 = .ok (.invokevirtual 380, 3) := by decide +kernel
theorem dX9_readOrder_211 : decode cX9_readOrder 211 = .ok (.aload_n 0, 1) := by decide +kernel
theorem dX9_readOrder_212 : decode cX9_readOrder 212 = .ok (.getfield 153, 3) := by decide +kernel
theorem dX9_readOrder_215 : decode cX9_readOrder 215 = .ok (.iload_n 2, 1) := by decide +kernel
theorem dX9_readOrder_216 : decode cX9_readOrder 216 = .ok (.bipush 6, 2) := by decide +kernel
theorem dX9_readOrder_218 : decode cX9_readOrder 218 = .ok (.iadd, 1) := by decide +kernel
theorem dX9_readOrder_219 : decode cX9_readOrder 219 = .ok (.aload_n 0, 1) := by decide +kernel
theorem dX9_readOrder_220 : decode cX9_readOrder 220 = .ok (.getfield 283, 3) := by decide +kernel
theorem dX9_readOrder_223 : decode cX9_readOrder 223 = .ok (.iastore, 1) := by decide +kernel
theorem dX9_readOrder_224 : decode cX9_readOrder 224 = .ok (.return_, 1) := by decide +kernel
theorem dX9_readPart_0 : decode cX9_readPart 0 = .ok (.aload_n 0, 1) := by decide +kernel
theorem dX9_readPart_1 : decode cX9_readPart 1 = .ok (.bipush 91, 2) := by decide +kernel
theorem dX9_readPart_3 : decode cX9_readPart 3 = .ok (.invokevirtual 317, 3) := by decide +kernel
theorem dX9_readPart_6 : decode cX9_readPart 6 = .ok (.ifCond .eq 11, 3) := by decide +kernel
theorem dX9_readPart_9 : decode cX9_readPart 9 = .ok (.aload_n 0, 1) := by decide +kernel
theorem dX9_readPart_10 : decode cX9_readPart 10 = .ok (.bipush 32, 2) := by decide +kernel
theorem dX9_readPart_12 : decode cX9_readPart 12 = .ok (.invokevirtual 320, 3) := by decide +kernel
theorem dX9_readPart_15 : decode cX9_readPart 15 = .ok (.iconst 1, 1) := by decide +kernel
theorem dX9_readPart_16 : decode cX9_readPart 16 = .ok (.ireturn, 1) := by decide +kernel
theorem dX9_readPart_17 : decode cX9_readPart 17 = .ok (.aload_n 0, 1) := by decide +kernel
theorem dX9_readPart_18 : decode cX9_readPart 18 = .ok (.getfield 323, 3) := by decide +kernel
theorem dX9_readPart_21 : decode cX9_readPart 21 = .ok (.ifCond .eq 10, 3) := by decide +kernel
theorem dX9_readPart_24 : decode cX9_readPart 24 = .ok (.aload_n 0, 1) := by decide +kernel
theorem dX9_readPart_25 : decode cX9_readPart 25 = .ok (.invokevirtual 326, 3) := by decide +kernel
theorem dX9_readPart_28 : decode cX9_readPart 28 = .ok (.goto 7, 3) := by decide +kernel
theorem dX9_readPart_31 : decode cX9_readPart 31 = .ok (.aload_n 0, 1) := by decide +kernel
theorem dX9_readPart_32 : decode cX9_readPart 32 = .ok (.invokevirtual 330, 3) := by decide +kernel
theorem dX9_readPart_35 : decode cX9_readPart 35 = .ok (.istore_n 1, 1) := by decide +kernel
theorem dX9_readPart_36 : decode cX9_readPart 36 = .ok (.aload_n 0, 1) := by decide +kernel
theorem dX9_readPart_37 : decode cX9_readPart 37 = .ok (.getfield 266, 3) := by decide +kernel
theorem dX9_readPart_40 : decode cX9_readPart 40 = .ok (.iconst 2, 1) := by decide +kernel
theorem dX9_readPart_41 : decode cX9_readPart 41 = .ok (.if_icmp .ne 18, 3) := by decide +kernel
theorem dX9_readPart_44 : decode cX9_readPart 44 = .ok (.aload_n 0, 1) := by decide +kernel
theorem dX9_readPart_45 : decode cX9_readPart 45 = .ok (.getfield 256, 3) := by decide +kernel
theorem dX9_readPart_48 : decode cX9_readPart 48 = .ok (.ldc2_w 333, 3) := by decide +kernel
theorem dX9_readPart_51 : decode cX9_readPart 51 = .ok (.lcmp, 1) := by decide +kernel
theorem dX9_readPart_52 : decode cX9_readPart 52 = .ok (.ifCond .gt 7, 3) := by decide +kernel
theorem dX9_readPart_55 : decode cX9_readPart 55 = .ok (.iconst 1, 1) := by decide +kernel
theorem dX9_readPart_56 : decode cX9_readPart 56 = .ok (.goto 4, 3) := by decide +kernel
theorem dX9_readPart_59 : decode cX9_readPart 59 = .ok (.iconst 0, 1) := by decide +kernel
theorem dX9_readPart_60 : decode cX9_readPart 60 = .ok (.istore_n 2, 1) := by decide +kernel
theorem dX9_readPart_61 : decode cX9_readPart 61 = .ok (.aload_n 0, 1) := by decide +kernel
theorem dX9_readPart_62 : decode cX9_readPart 62 = .ok (.iload_n 1, 1) := by decide +kernel
theorem dX9_readPart_63 : decode cX9_readPart 63 = .ok (.iconst (-1), 1) := by decide +kernel
theorem dX9_readPart_64 : decode cX9_readPart 64 = .ok (.if_icmp .ne 7, 3) := by decide +kernel
theorem dX9_readPart_67 : decode cX9_readPart 67 = .ok (.iload_n 2, 1) := by decide +kernel
theorem dX9_readPart_68 : decode cX9_readPart 68 = .ok (.ifCond .eq 7, 3) := by decide +kernel
theorem dX9_readPart_71 : decode cX9_readPart 71 = .ok (.iconst 1, 1) := by decide +kernel
theorem dX9_readPart_72 : decode cX9_readPart 72 = .ok (.goto 4, 3) := by decide +kernel
theorem dX9_readPart_75 : decode cX9_readPart 75 = .ok (.iconst 0, 1) := by decide +kernel
theorem dX9_readPart_76 : decode cX9_readPart 76 = .ok (.iload_n 1, 1) := by decide +kernel
theorem dX9_readPart_77 : decode cX9_readPart 77 = .ok (.iconst (-1), 1) := by decide +kernel
theorem dX9_readPart_78 : decode cX9_readPart 78 = .ok (.if_icmp .ne 7, 3) := by decide +kernel
theorem dX9_readPart_81 : decode cX9_readPart 81 = .ok (.iconst 0, 1) := by decide +kernel
theorem dX9_readPart_82 : decode cX9_readPart 82 = .ok (.goto 4, 3) := by decide +kernel
theorem dX9_readPart_85 : decode cX9_readPart 85 = .ok (.iload_n 1, 1) := by decide +kernel
theorem dX9_readPart_86 : decode cX9_readPart 86 = .ok (.iload_n 2, 1) := by decide +kernel
theorem dX9_readPart_87 : decode cX9_readPart 87 = .ok (.ifCond .eq 11, 3) := by decide +kernel
theorem dX9_readPart_90 : decode cX9_readPart 90 = .ok (.aload_n 0, 1) := by decide +kernel
theorem dX9_readPart_91 : decode cX9_readPart 91 = .ok (.getfield 256, 3) := by decide +kernel
theorem dX9_readPart_94 : decode cX9_readPart 94 = .ok (.l2i, 1) := by decide +kernel
theorem dX9_readPart_95 : decode cX9_readPart 95 = .ok (.goto 4, 3) := by decide +kernel
theorem dX9_readPart_98 : decode cX9_readPart 98 = .ok (.iconst 0, 1) := by decide +kernel
theorem dX9_readPart_99 : decode cX9_readPart 99 = .ok (.invokevirtual 335, 3) := by decide +kernel
theorem dX9_readPart_102 : decode cX9_readPart 102 = .ok (.aload_n 0, 1) := by decide +kernel
theorem dX9_readPart_103 : decode cX9_readPart 103 = .ok (.getfield 323, 3) := by decide +kernel
theorem dX9_readPart_106 : decode cX9_readPart 106 = .ok (.ifCond .eq 37, 3) := by decide +kernel
theorem dX9_readPart_109 : decode cX9_readPart 109 = .ok (.iload_n 1, 1) := by decide +kernel
theorem dX9_readPart_110 : decode cX9_readPart 110 = .ok (.bipush 6, 2) := by decide +kernel
theorem dX9_readPart_112 : decode cX9_readPart 112 = .ok (.if_icmp .lt 31, 3) := by decide +kernel
theorem dX9_readPart_115 : decode cX9_readPart 115 = .ok (.aload_n 0, 1) := by decide +kernel
theorem dX9_readPart_116 : decode cX9_readPart 116 = .ok (.getfield 246, 3) := by decide +kernel
theorem dX9_readPart_119 : decode cX9_readPart 119 = .ok (.ifCond .ne 24, 3) := by decide +kernel
theorem dX9_readPart_122 : decode cX9_readPart 122 = .ok (.aload_n 0, 1) := by decide +kernel
theorem dX9_readPart_123 : decode cX9_readPart 123 = .ok (.getfield 283, 3) := by decide +kernel
theorem dX9_readPart_126 : decode cX9_readPart 126 = .ok (.iconst 1, 1) := by decide +kernel
theorem dX9_readPart_127 : decode cX9_readPart 127 = .ok (.isub, 1) := by decide +kernel
theorem dX9_readPart_128 : decode cX9_readPart 128 = .ok (.istore_n 3, 1) := by decide +kernel
theorem dX9_readPart_129 : decode cX9_readPart 129 = .ok (.aload_n 0, 1) := by decide +kernel
theorem dX9_readPart_130 : decode cX9_readPart 130 = .ok (.getfield 48, 3) := by decide +kernel
theorem dX9_readPart_133 : decode cX9_readPart 133 = .ok (.iload_n 3, 1) := by decide +kernel
theorem dX9_readPart_134 : decode cX9_readPart 134 = .ok (.aload_n 0, 1) := by decide +kernel
theorem dX9_readPart_135 : decode cX9_readPart 135 = .ok (.lconst 0, 1) := by decide +kernel
theorem dX9_readPart_136 : decode cX9_readPart 136 = .ok (.ldc2_w 339, 3) := by decide +kernel
theorem dX9_readPart_139 : decode cX9_readPart 139 = .ok (.invokevirtual 341, 3) := by decide +kernel
theorem dX9_readPart_142 : decode cX9_readPart 142 = .ok (.iastore, 1) := by decide +kernel
theorem dX9_readPart_143 : decode cX9_readPart 143 = .ok (.iconst 3, 1) := by decide +kernel
theorem dX9_readPart_144 : decode cX9_readPart 144 = .ok (.ireturn, 1) := by decide +kernel
theorem dX9_readPlain_0 : decode cX9_readPlain 0 = .ok (.aload_n 0, 1) := by decide +kernel
theorem dX9_readPlain_1 : decode cX9_readPlain 1 = .ok (.ldc2_w 345, 3) := by decide +kernel
theorem dX9_readPlain_4 : decode cX9_readPlain 4 = .ok (.invokevirtual 304, 3) := by decide +kernel
theorem dX9_readPlain_7 : decode cX9_readPlain 7 = .ok (.ifCond .eq 16, 3) := by decide +kernel
theorem dX9_readPlain_10 : decode cX9_readPlain 10 = .ok (.aload_n 0, 1) := by decide +kernel
theorem dX9_readPlain_11 : decode cX9_readPlain 11 = .ok (.bipush 28, 2) := by decide +kernel
theorem dX9_readPlain_13 : decode cX9_readPlain 13 = .ok (.iconst 0, 1) := by decide +kernel
theorem dX9_readPlain_14 : decode cX9_readPlain 14 = .ok (.invokevirtual 311, 3) := by decide +kernel
theorem dX9_readPlain_17 : decode cX9_readPlain 17 = .ok (.aload_n 0, 1) := by decide +kernel
theorem dX9_readPlain_18 : decode cX9_readPlain 18 = .ok (.invokevirtual 250, 3) := by decide +kernel
theorem dX9_readPlain_21 : decode cX9_readPlain 21 = .ok (.iconst 0, 1) := by decide +kernel
theorem dX9_readPlain_22 : decode cX9_readPlain 22 = .ok (.ireturn, 1) := by decide +kernel
theorem dX9_readPlain_23 : decode cX9_readPlain 23 = .ok (.aload_n 0, 1) := by decide +kernel
theorem dX9_readPlain_24 : decode cX9_readPlain 24 = .ok (.bipush 40, 2) := by decide +kernel
theorem dX9_readPlain_26 : decode cX9_readPlain 26 = .ok (.invokevirtual 317, 3) := by decide +kernel
theorem dX9_readPlain_29 : decode cX9_readPlain 29 = .ok (.ifCond .eq 11, 3) := by decide +kernel
theorem dX9_readPlain_32 : decode cX9_readPlain 32 = .ok (.aload_n 0, 1) := by decide +kernel
theorem dX9_readPlain_33 : decode cX9_readPlain 33 = .ok (.bipush 31, 2) := by decide +kernel
theorem dX9_readPlain_35 : decode cX9_readPlain 35 = .ok (.invokevirtual 320, 3) := by decide +kernel
theorem dX9_readPlain_38 : decode cX9_readPlain 38 = .ok (.iconst 0, 1) := by decide +kernel
theorem dX9_readPlain_39 : decode cX9_readPlain 39 = .ok (.ireturn, 1) := by decide +kernel
theorem dX9_readPlain_40 : decode cX9_readPlain 40 = .ok (.aload_n 0, 1) := by decide +kernel
theorem dX9_readPlain_41 : decode cX9_readPlain 41 = .ok (.invokevirtual 347, 3) := by decide +kernel
theorem dX9_readPlain_44 : decode cX9_readPlain 44 = .ok (.ireturn, 1) := by decide +kernel
theorem dX9_readSum_0 : decode cX9_readSum 0 = .ok (.aload_n 0, 1) := by decide +kernel
theorem dX9_readSum_1 : decode cX9_readSum 1 = .ok (.getfield 153, 3) := by decide +kernel
theorem dX9_readSum_4 : decode cX9_readSum 4 = .ok (.iload_n 1, 1) := by decide +kernel
theorem dX9_readSum_5 : decode cX9_readSum 5 = .ok (.aload_n 0, 1) := by decide +kernel
theorem dX9_readSum_6 : decode cX9_readSum 6 = .ok (.getfield 283, 3) := by decide +kernel
theorem dX9_readSum_9 : decode cX9_readSum 9 = .ok (.iastore, 1) := by decide +kernel
theorem dX9_readSum_10 : decode cX9_readSum 10 = .ok (.aload_n 0, 1) := by decide +kernel
theorem dX9_readSum_11 : decode cX9_readSum 11 = .ok (.getfield 246, 3) := by decide +kernel
theorem dX9_readSum_14 : decode cX9_readSum 14 = .ok (.ifCond .ne 8, 3) := by decide +kernel
theorem dX9_readSum_17 : decode cX9_readSum 17 = .ok (.aload_n 0, 1) := by decide +kernel
theorem dX9_readSum_18 : decode cX9_readSum 18 = .ok (.iconst 0, 1) := by decide +kernel
theorem dX9_readSum_19 : decode cX9_readSum 19 = .ok (.invokevirtual 380, 3) := by decide +kernel
theorem dX9_readSum_22 : decode cX9_readSum 22 = .ok (.aload_n 0, 1) := by decide +kernel
theorem dX9_readSum_23 : decode cX9_readSum 23 = .ok (.getfield 153, 3) := by decide +kernel
theorem dX9_readSum_26 : decode cX9_readSum 26 = .ok (.iload_n 1, 1) := by decide +kernel
theorem dX9_readSum_27 : decode cX9_readSum 27 = .ok (.iconst 1, 1) := by decide +kernel
theorem dX9_readSum_28 : decode cX9_readSum 28 = .ok (.iadd, 1) := by decide +kernel
theorem dX9_readSum_29 : decode cX9_readSum 29 = .ok (.aload_n 0, 1) := by decide +kernel
theorem dX9_readSum_30 : decode cX9_readSum 30 = .ok (.getfield 283, 3) := by decide +kernel
theorem dX9_readSum_33 : decode cX9_readSum 33 = .ok (.iastore, 1) := by decide +kernel
theorem dX9_readSum_34 : decode cX9_readSum 34 = .ok (.return_, 1) := by decide +kernel
theorem dX9_reckon_0 : decode cX9_reckon 0 = .ok (.iload_n 1, 1) := by decide +kernel
theorem dX9_reckon_1 : decode cX9_reckon 1 = .ok (.tableswitch 148 20 26 #[43, 48, 53, 58, 90, 122, 135], 43) := by decide +kernel
theorem dX9_reckon_44 : decode cX9_reckon 44 = .ok (.lload_n 2, 1) := by decide +kernel
theorem dX9_reckon_45 : decode cX9_reckon 45 = .ok (.lload 4, 2) := by decide +kernel
theorem dX9_reckon_47 : decode cX9_reckon 47 = .ok (.ladd, 1) := by decide +kernel
theorem dX9_reckon_48 : decode cX9_reckon 48 = .ok (.lreturn, 1) := by decide +kernel
theorem dX9_reckon_49 : decode cX9_reckon 49 = .ok (.lload_n 2, 1) := by decide +kernel
theorem dX9_reckon_50 : decode cX9_reckon 50 = .ok (.lload 4, 2) := by decide +kernel
theorem dX9_reckon_52 : decode cX9_reckon 52 = .ok (.lsub, 1) := by decide +kernel
theorem dX9_reckon_53 : decode cX9_reckon 53 = .ok (.lreturn, 1) := by decide +kernel
theorem dX9_reckon_54 : decode cX9_reckon 54 = .ok (.lload_n 2, 1) := by decide +kernel
theorem dX9_reckon_55 : decode cX9_reckon 55 = .ok (.lload 4, 2) := by decide +kernel
theorem dX9_reckon_57 : decode cX9_reckon 57 = .ok (.lmul, 1) := by decide +kernel
theorem dX9_reckon_58 : decode cX9_reckon 58 = .ok (.lreturn, 1) := by decide +kernel
theorem dX9_reckon_59 : decode cX9_reckon 59 = .ok (.aload_n 0, 1) := by decide +kernel
theorem dX9_reckon_60 : decode cX9_reckon 60 = .ok (.lload 4, 2) := by decide +kernel
theorem dX9_reckon_62 : decode cX9_reckon 62 = .ok (.lconst 0, 1) := by decide +kernel
theorem dX9_reckon_63 : decode cX9_reckon 63 = .ok (.lcmp, 1) := by decide +kernel
theorem dX9_reckon_64 : decode cX9_reckon 64 = .ok (.ifCond .ne 7, 3) := by decide +kernel
theorem dX9_reckon_67 : decode cX9_reckon 67 = .ok (.iconst 1, 1) := by decide +kernel
theorem dX9_reckon_68 : decode cX9_reckon 68 = .ok (.goto 4, 3) := by decide +kernel
theorem dX9_reckon_71 : decode cX9_reckon 71 = .ok (.iconst 0, 1) := by decide +kernel
theorem dX9_reckon_72 : decode cX9_reckon 72 = .ok (.putfield 397, 3) := by decide +kernel
theorem dX9_reckon_75 : decode cX9_reckon 75 = .ok (.aload_n 0, 1) := by decide +kernel
theorem dX9_reckon_76 : decode cX9_reckon 76 = .ok (.getfield 397, 3) := by decide +kernel
theorem dX9_reckon_79 : decode cX9_reckon 79 = .ok (.ifCond .eq 7, 3) := by decide +kernel
theorem dX9_reckon_82 : decode cX9_reckon 82 = .ok (.lconst 0, 1) := by decide +kernel
theorem dX9_reckon_83 : decode cX9_reckon 83 = .ok (.goto 7, 3) := by decide +kernel
theorem dX9_reckon_86 : decode cX9_reckon 86 = .ok (.lload_n 2, 1) := by decide +kernel
theorem dX9_reckon_87 : decode cX9_reckon 87 = .ok (.lload 4, 2) := by decide +kernel
theorem dX9_reckon_89 : decode cX9_reckon 89 = .ok (.ldiv, 1) := by decide +kernel
theorem dX9_reckon_90 : decode cX9_reckon 90 = .ok (.lreturn, 1) := by decide +kernel
theorem dX9_reckon_91 : decode cX9_reckon 91 = .ok (.aload_n 0, 1) := by decide +kernel
theorem dX9_reckon_92 : decode cX9_reckon 92 = .ok (.lload 4, 2) := by decide +kernel
theorem dX9_reckon_94 : decode cX9_reckon 94 = .ok (.lconst 0, 1) := by decide +kernel
theorem dX9_reckon_95 : decode cX9_reckon 95 = .ok (.lcmp, 1) := by decide +kernel
theorem dX9_reckon_96 : decode cX9_reckon 96 = .ok (.ifCond .ne 7, 3) := by decide +kernel
theorem dX9_reckon_99 : decode cX9_reckon 99 = .ok (.iconst 1, 1) := by decide +kernel
theorem dX9_reckon_100 : decode cX9_reckon 100 = .ok (.goto 4, 3) := by decide +kernel
theorem dX9_reckon_103 : decode cX9_reckon 103 = .ok (.iconst 0, 1) := by decide +kernel
theorem dX9_reckon_104 : decode cX9_reckon 104 = .ok (.putfield 397, 3) := by decide +kernel
theorem dX9_reckon_107 : decode cX9_reckon 107 = .ok (.aload_n 0, 1) := by decide +kernel
theorem dX9_reckon_108 : decode cX9_reckon 108 = .ok (.getfield 397, 3) := by decide +kernel
theorem dX9_reckon_111 : decode cX9_reckon 111 = .ok (.ifCond .eq 7, 3) := by decide +kernel
theorem dX9_reckon_114 : decode cX9_reckon 114 = .ok (.lconst 0, 1) := by decide +kernel
theorem dX9_reckon_115 : decode cX9_reckon 115 = .ok (.goto 7, 3) := by decide +kernel
theorem dX9_reckon_118 : decode cX9_reckon 118 = .ok (.lload_n 2, 1) := by decide +kernel
theorem dX9_reckon_119 : decode cX9_reckon 119 = .ok (.lload 4, 2) := by decide +kernel
theorem dX9_reckon_121 : decode cX9_reckon 121 = .ok (.lrem, 1) := by decide +kernel
theorem dX9_reckon_122 : decode cX9_reckon 122 = .ok (.lreturn, 1) := by decide +kernel
theorem dX9_reckon_123 : decode cX9_reckon 123 = .ok (.lload_n 2, 1) := by decide +kernel
theorem dX9_reckon_124 : decode cX9_reckon 124 = .ok (.lload 4, 2) := by decide +kernel
theorem dX9_reckon_126 : decode cX9_reckon 126 = .ok (.lcmp, 1) := by decide +kernel
theorem dX9_reckon_127 : decode cX9_reckon 127 = .ok (.ifCond .ge 7, 3) := by decide +kernel
theorem dX9_reckon_130 : decode cX9_reckon 130 = .ok (.lconst 1, 1) := by decide +kernel
theorem dX9_reckon_131 : decode cX9_reckon 131 = .ok (.goto 4, 3) := by decide +kernel
theorem dX9_reckon_134 : decode cX9_reckon 134 = .ok (.lconst 0, 1) := by decide +kernel
theorem dX9_reckon_135 : decode cX9_reckon 135 = .ok (.lreturn, 1) := by decide +kernel
theorem dX9_reckon_136 : decode cX9_reckon 136 = .ok (.lload_n 2, 1) := by decide +kernel
theorem dX9_reckon_137 : decode cX9_reckon 137 = .ok (.lload 4, 2) := by decide +kernel
theorem dX9_reckon_139 : decode cX9_reckon 139 = .ok (.lcmp, 1) := by decide +kernel
theorem dX9_reckon_140 : decode cX9_reckon 140 = .ok (.ifCond .le 7, 3) := by decide +kernel
theorem dX9_reckon_143 : decode cX9_reckon 143 = .ok (.lconst 1, 1) := by decide +kernel
theorem dX9_reckon_144 : decode cX9_reckon 144 = .ok (.goto 4, 3) := by decide +kernel
theorem dX9_reckon_147 : decode cX9_reckon 147 = .ok (.lconst 0, 1) := by decide +kernel
theorem dX9_reckon_148 : decode cX9_reckon 148 = .ok (.lreturn, 1) := by decide +kernel
theorem dX9_reckon_149 : decode cX9_reckon 149 = .ok (.lload_n 2, 1) := by decide +kernel
theorem dX9_reckon_150 : decode cX9_reckon 150 = .ok (.lload 4, 2) := by decide +kernel
theorem dX9_reckon_152 : decode cX9_reckon 152 = .ok (.lcmp, 1) := by decide +kernel
theorem dX9_reckon_153 : decode cX9_reckon 153 = .ok (.ifCond .ne 7, 3) := by decide +kernel
theorem dX9_reckon_156 : decode cX9_reckon 156 = .ok (.lconst 1, 1) := by decide +kernel
theorem dX9_reckon_157 : decode cX9_reckon 157 = .ok (.goto 4, 3) := by decide +kernel
theorem dX9_reckon_160 : decode cX9_reckon 160 = .ok (.lconst 0, 1) := by decide +kernel
theorem dX9_reckon_161 : decode cX9_reckon 161 = .ok (.lreturn, 1) := by decide +kernel
theorem dX9_reckonAll_0 : decode cX9_reckonAll 0 = .ok (.aload_n 0, 1) := by decide +kernel
theorem dX9_reckonAll_1 : decode cX9_reckonAll 1 = .ok (.iconst 0, 1) := by decide +kernel
theorem dX9_reckonAll_2 : decode cX9_reckonAll 2 = .ok (.putfield 397, 3) := by decide +kernel
theorem dX9_reckonAll_5 : decode cX9_reckonAll 5 = .ok (.iconst 0, 1) := by decide +kernel
theorem dX9_reckonAll_6 : decode cX9_reckonAll 6 = .ok (.istore_n 3, 1) := by decide +kernel
theorem dX9_reckonAll_7 : decode cX9_reckonAll 7 = .ok (.iload_n 1, 1) := by decide +kernel
theorem dX9_reckonAll_8 : decode cX9_reckonAll 8 = .ok (.istore 4, 2) := by decide +kernel
theorem dX9_reckonAll_10 : decode cX9_reckonAll 10 = .ok (.iload 4, 2) := by decide +kernel
theorem dX9_reckonAll_12 : decode cX9_reckonAll 12 = .ok (.iload_n 2, 1) := by decide +kernel
theorem dX9_reckonAll_13 : decode cX9_reckonAll 13 = .ok (.if_icmp .ge 340, 3) := by decide +kernel
theorem dX9_reckonAll_16 : decode cX9_reckonAll 16 = .ok (.aload_n 0, 1) := by decide +kernel
theorem dX9_reckonAll_17 : decode cX9_reckonAll 17 = .ok (.getfield 397, 3) := by decide +kernel
theorem dX9_reckonAll_20 : decode cX9_reckonAll 20 = .ok (.ifCond .ne 333, 3) := by decide +kernel
theorem dX9_reckonAll_23 : decode cX9_reckonAll 23 = .ok (.aload_n 0, 1) := by decide +kernel
theorem dX9_reckonAll_24 : decode cX9_reckonAll 24 = .ok (.getfield 323, 3) := by decide +kernel
theorem dX9_reckonAll_27 : decode cX9_reckonAll 27 = .ok (.ifCond .eq 13, 3) := by decide +kernel
theorem dX9_reckonAll_30 : decode cX9_reckonAll 30 = .ok (.aload_n 0, 1) := by decide +kernel
theorem dX9_reckonAll_31 : decode cX9_reckonAll 31 = .ok (.getfield 45, 3) := by decide +kernel
theorem dX9_reckonAll_34 : decode cX9_reckonAll 34 = .ok (.iload 4, 2) := by decide +kernel
theorem dX9_reckonAll_36 : decode cX9_reckonAll 36 = .ok (.iaload, 1) := by decide +kernel
theorem dX9_reckonAll_37 : decode cX9_reckonAll 37 = .ok (.goto 20, 3) := by decide +kernel
theorem dX9_reckonAll_40 : decode cX9_reckonAll 40 = .ok (.aload_n 0, 1) := by decide +kernel
theorem dX9_reckonAll_41 : decode cX9_reckonAll 41 = .ok (.getfield 13, 3) := by decide +kernel
theorem dX9_reckonAll_44 : decode cX9_reckonAll 44 = .ok (.aload_n 0, 1) := by decide +kernel
theorem dX9_reckonAll_45 : decode cX9_reckonAll 45 = .ok (.getfield 400, 3) := by decide +kernel
theorem dX9_reckonAll_48 : decode cX9_reckonAll 48 = .ok (.bipush 98, 2) := by decide +kernel
theorem dX9_reckonAll_50 : decode cX9_reckonAll 50 = .ok (.iadd, 1) := by decide +kernel
theorem dX9_reckonAll_51 : decode cX9_reckonAll 51 = .ok (.iconst 2, 1) := by decide +kernel
theorem dX9_reckonAll_52 : decode cX9_reckonAll 52 = .ok (.iload 4, 2) := by decide +kernel
theorem dX9_reckonAll_54 : decode cX9_reckonAll 54 = .ok (.imul, 1) := by decide +kernel
theorem dX9_reckonAll_55 : decode cX9_reckonAll 55 = .ok (.iadd, 1) := by decide +kernel
theorem dX9_reckonAll_56 : decode cX9_reckonAll 56 = .ok (.iaload, 1) := by decide +kernel
theorem dX9_reckonAll_57 : decode cX9_reckonAll 57 = .ok (.istore 5, 2) := by decide +kernel
theorem dX9_reckonAll_59 : decode cX9_reckonAll 59 = .ok (.aload_n 0, 1) := by decide +kernel
theorem dX9_reckonAll_60 : decode cX9_reckonAll 60 = .ok (.getfield 323, 3) := by decide +kernel
theorem dX9_reckonAll_63 : decode cX9_reckonAll 63 = .ok (.ifCond .eq 13, 3) := by decide +kernel
theorem dX9_reckonAll_66 : decode cX9_reckonAll 66 = .ok (.aload_n 0, 1) := by decide +kernel
theorem dX9_reckonAll_67 : decode cX9_reckonAll 67 = .ok (.getfield 48, 3) := by decide +kernel
theorem dX9_reckonAll_70 : decode cX9_reckonAll 70 = .ok (.iload 4, 2) := by decide +kernel
theorem dX9_reckonAll_72 : decode cX9_reckonAll 72 = .ok (.iaload, 1) := by decide +kernel
theorem dX9_reckonAll_73 : decode cX9_reckonAll 73 = .ok (.goto 22, 3) := by decide +kernel
theorem dX9_reckonAll_76 : decode cX9_reckonAll 76 = .ok (.aload_n 0, 1) := by decide +kernel
theorem dX9_reckonAll_77 : decode cX9_reckonAll 77 = .ok (.getfield 13, 3) := by decide +kernel
theorem dX9_reckonAll_80 : decode cX9_reckonAll 80 = .ok (.aload_n 0, 1) := by decide +kernel
theorem dX9_reckonAll_81 : decode cX9_reckonAll 81 = .ok (.getfield 400, 3) := by decide +kernel
theorem dX9_reckonAll_84 : decode cX9_reckonAll 84 = .ok (.bipush 98, 2) := by decide +kernel
theorem dX9_reckonAll_86 : decode cX9_reckonAll 86 = .ok (.iadd, 1) := by decide +kernel
theorem dX9_reckonAll_87 : decode cX9_reckonAll 87 = .ok (.iconst 2, 1) := by decide +kernel
theorem dX9_reckonAll_88 : decode cX9_reckonAll 88 = .ok (.iload 4, 2) := by decide +kernel
theorem dX9_reckonAll_90 : decode cX9_reckonAll 90 = .ok (.imul, 1) := by decide +kernel
theorem dX9_reckonAll_91 : decode cX9_reckonAll 91 = .ok (.iadd, 1) := by decide +kernel
theorem dX9_reckonAll_92 : decode cX9_reckonAll 92 = .ok (.iconst 1, 1) := by decide +kernel
theorem dX9_reckonAll_93 : decode cX9_reckonAll 93 = .ok (.iadd, 1) := by decide +kernel
theorem dX9_reckonAll_94 : decode cX9_reckonAll 94 = .ok (.iaload, 1) := by decide +kernel
theorem dX9_reckonAll_95 : decode cX9_reckonAll 95 = .ok (.istore 6, 2) := by decide +kernel
theorem dX9_reckonAll_97 : decode cX9_reckonAll 97 = .ok (.iinc 4 1, 3) := by decide +kernel
theorem dX9_reckonAll_100 : decode cX9_reckonAll 100 = .ok (.iload 5, 2) := by decide +kernel
theorem dX9_reckonAll_102 : decode cX9_reckonAll 102 = .ok (.bipush 20, 2) := by decide +kernel
theorem dX9_reckonAll_104 : decode cX9_reckonAll 104 = .ok (.if_icmp .ge 107, 3) := by decide +kernel
theorem dX9_reckonAll_107 : decode cX9_reckonAll 107 = .ok (.aload_n 0, 1) := by decide +kernel
theorem dX9_reckonAll_108 : decode cX9_reckonAll 108 = .ok (.getfield 105, 3) := by decide +kernel
theorem dX9_reckonAll_111 : decode cX9_reckonAll 111 = .ok (.iload_n 3, 1) := by decide +kernel
theorem dX9_reckonAll_112 : decode cX9_reckonAll 112 = .ok (.iload 5, 2) := by decide +kernel
theorem dX9_reckonAll_114 : decode cX9_reckonAll 114 = .ok (.ifCond .ne 9, 3) := by decide +kernel
theorem dX9_reckonAll_117 : decode cX9_reckonAll 117 = .ok (.iload 6, 2) := by decide +kernel
theorem dX9_reckonAll_119 : decode cX9_reckonAll 119 = .ok (.i2l, 1) := by decide +kernel
theorem dX9_reckonAll_120 : decode cX9_reckonAll 120 = .ok (.goto 84, 3) := by decide +kernel
theorem dX9_reckonAll_123 : decode cX9_reckonAll 123 = .ok (.aload_n 0, 1) := by decide +kernel
theorem dX9_reckonAll_124 : decode cX9_reckonAll 124 = .ok (.getfield 323, 3) := by decide +kernel
theorem dX9_reckonAll_127 : decode cX9_reckonAll 127 = .ok (.ifCond .ne 13, 3) := by decide +kernel
theorem dX9_reckonAll_130 : decode cX9_reckonAll 130 = .ok (.aload_n 0, 1) := by decide +kernel
theorem dX9_reckonAll_131 : decode cX9_reckonAll 131 = .ok (.getfield 99, 3) := by decide +kernel
theorem dX9_reckonAll_134 : decode cX9_reckonAll 134 = .ok (.iload 5, 2) := by decide +kernel
theorem dX9_reckonAll_136 : decode cX9_reckonAll 136 = .ok (.laload, 1) := by decide +kernel
theorem dX9_reckonAll_137 : decode cX9_reckonAll 137 = .ok (.goto 67, 3) := by decide +kernel
theorem dX9_reckonAll_140 : decode cX9_reckonAll 140 = .ok (.iload 5, 2) := by decide +kernel
theorem dX9_reckonAll_142 : decode cX9_reckonAll 142 = .ok (.bipush 6, 2) := by decide +kernel
theorem dX9_reckonAll_144 : decode cX9_reckonAll 144 = .ok (.if_icmp .ge 13, 3) := by decide +kernel
theorem dX9_reckonAll_147 : decode cX9_reckonAll 147 = .ok (.aload_n 0, 1) := by decide +kernel
theorem dX9_reckonAll_148 : decode cX9_reckonAll 148 = .ok (.getfield 102, 3) := by decide +kernel
theorem dX9_reckonAll_151 : decode cX9_reckonAll 151 = .ok (.iload 5, 2) := by decide +kernel
theorem dX9_reckonAll_153 : decode cX9_reckonAll 153 = .ok (.laload, 1) := by decide +kernel
theorem dX9_reckonAll_154 : decode cX9_reckonAll 154 = .ok (.goto 50, 3) := by decide +kernel
theorem dX9_reckonAll_157 : decode cX9_reckonAll 157 = .ok (.aload_n 0, 1) := by decide +kernel
theorem dX9_reckonAll_158 : decode cX9_reckonAll 158 = .ok (.iload 6, 2) := by decide +kernel
theorem dX9_reckonAll_160 : decode cX9_reckonAll 160 = .ok (.invokevirtual 200, 3) := by decide +kernel
theorem dX9_reckonAll_163 : decode cX9_reckonAll 163 = .ok (.ifCond .ne 9, 3) := by decide +kernel
theorem dX9_reckonAll_166 : decode cX9_reckonAll 166 = .ok (.ldc2_w 273, 3) := by decide +kernel
theorem dX9_reckonAll_169 : decode cX9_reckonAll 169 = .ok (.goto 35, 3) := by decide +kernel
theorem dX9_reckonAll_172 : decode cX9_reckonAll 172 = .ok (.iload 5, 2) := by decide +kernel
theorem dX9_reckonAll_174 : decode cX9_reckonAll 174 = .ok (.bipush 6, 2) := by decide +kernel
theorem dX9_reckonAll_176 : decode cX9_reckonAll 176 = .ok (.if_icmp .ne 17, 3) := by decide +kernel
theorem dX9_reckonAll_179 : decode cX9_reckonAll 179 = .ok (.aload_n 0, 1) := by decide +kernel
theorem dX9_reckonAll_180 : decode cX9_reckonAll 180 = .ok (.getfield 13, 3) := by decide +kernel
theorem dX9_reckonAll_183 : decode cX9_reckonAll 183 = .ok (.bipush 15, 2) := by decide +kernel
theorem dX9_reckonAll_185 : decode cX9_reckonAll 185 = .ok (.iload 6, 2) := by decide +kernel
theorem dX9_reckonAll_187 : decode cX9_reckonAll 187 = .ok (.iadd, 1) := by decide +kernel
theorem dX9_reckonAll_188 : decode cX9_reckonAll 188 = .ok (.iaload, 1) := by decide +kernel
theorem dX9_reckonAll_189 : decode cX9_reckonAll 189 = .ok (.i2l, 1) := by decide +kernel
theorem dX9_reckonAll_190 : decode cX9_reckonAll 190 = .ok (.goto 14, 3) := by decide +kernel
theorem dX9_reckonAll_193 : decode cX9_reckonAll 193 = .ok (.aload_n 0, 1) := by decide +kernel
theorem dX9_reckonAll_194 : decode cX9_reckonAll 194 = .ok (.getfield 13, 3) := by decide +kernel
theorem dX9_reckonAll_197 : decode cX9_reckonAll 197 = .ok (.bipush 8, 2) := by decide +kernel
theorem dX9_reckonAll_199 : decode cX9_reckonAll 199 = .ok (.iload 6, 2) := by decide +kernel
theorem dX9_reckonAll_201 : decode cX9_reckonAll 201 = .ok (.iadd, 1) := by decide +kernel
theorem dX9_reckonAll_202 : decode cX9_reckonAll 202 = .ok (.iaload, 1) := by decide +kernel
theorem dX9_reckonAll_203 : decode cX9_reckonAll 203 = .ok (.i2l, 1) := by decide +kernel
theorem dX9_reckonAll_204 : decode cX9_reckonAll 204 = .ok (.lastore, 1) := by decide +kernel
theorem dX9_reckonAll_205 : decode cX9_reckonAll 205 = .ok (.iinc 3 1, 3) := by decide +kernel
theorem dX9_reckonAll_208 : decode cX9_reckonAll 208 = .ok (.goto 142, 3) := by decide +kernel
theorem dX9_reckonAll_211 : decode cX9_reckonAll 211 = .ok (.iload 5, 2) := by decide +kernel
theorem dX9_reckonAll_213 : decode cX9_reckonAll 213 = .ok (.bipush 28, 2) := by decide +kernel
theorem dX9_reckonAll_215 : decode cX9_reckonAll 215 = .ok (.if_icmp .ge 73, 3) := by decide +kernel
theorem dX9_reckonAll_218 : decode cX9_reckonAll 218 = .ok (.iinc 3 (-1), 3) := by decide +kernel
theorem dX9_reckonAll_221 : decode cX9_reckonAll 221 = .ok (.aload_n 0, 1) := by decide +kernel
theorem dX9_reckonAll_222 : decode cX9_reckonAll 222 = .ok (.getfield 105, 3) := by decide +kernel
theorem dX9_reckonAll_225 : decode cX9_reckonAll 225 = .ok (.iload_n 3, 1) := by decide +kernel
theorem dX9_reckonAll_226 : decode cX9_reckonAll 226 = .ok (.iconst 1, 1) := by decide +kernel
theorem dX9_reckonAll_227 : decode cX9_reckonAll 227 = .ok (.isub, 1) := by decide +kernel
theorem dX9_reckonAll_228 : decode cX9_reckonAll 228 = .ok (.aload_n 0, 1) := by decide +kernel
theorem dX9_reckonAll_229 : decode cX9_reckonAll 229 = .ok (.iload 5, 2) := by decide +kernel
theorem dX9_reckonAll_231 : decode cX9_reckonAll 231 = .ok (.aload_n 0, 1) := by decide +kernel
theorem dX9_reckonAll_232 : decode cX9_reckonAll 232 = .ok (.getfield 105, 3) := by decide +kernel
theorem dX9_reckonAll_235 : decode cX9_reckonAll 235 = .ok (.iload_n 3, 1) := by decide +kernel
theorem dX9_reckonAll_236 : decode cX9_reckonAll 236 = .ok (.iconst 1, 1) := by decide +kernel
theorem dX9_reckonAll_237 : decode cX9_reckonAll 237 = .ok (.isub, 1) := by decide +kernel
theorem dX9_reckonAll_238 : decode cX9_reckonAll 238 = .ok (.laload, 1) := by decide +kernel
theorem dX9_reckonAll_239 : decode cX9_reckonAll 239 = .ok (.aload_n 0, 1) := by decide +kernel
theorem dX9_reckonAll_240 : decode cX9_reckonAll 240 = .ok (.getfield 105, 3) := by decide +kernel
theorem dX9_reckonAll_243 : decode cX9_reckonAll 243 = .ok (.iload_n 3, 1) := by decide +kernel
theorem dX9_reckonAll_244 : decode cX9_reckonAll 244 = .ok (.laload, 1) := by decide +kernel
theorem dX9_reckonAll_245 : decode cX9_reckonAll 245 = .ok (.invokevirtual 403, 3) := by decide +kernel
theorem dX9_reckonAll_248 : decode cX9_reckonAll 248 = .ok (.lastore, 1) := by decide +kernel
theorem dX9_reckonAll_249 : decode cX9_reckonAll 249 = .ok (.aload_n 0, 1) := by decide +kernel
theorem dX9_reckonAll_250 : decode cX9_reckonAll 250 = .ok (.aload_n 0, 1) := by decide +kernel
theorem dX9_reckonAll_251 : decode cX9_reckonAll 251 = .ok (.getfield 397, 3) := by decide +kernel
theorem dX9_reckonAll_254 : decode cX9_reckonAll 254 = .ok (.ifCond .ne 23, 3) := by decide +kernel
theorem dX9_reckonAll_257 : decode cX9_reckonAll 257 = .ok (.aload_n 0, 1) := by decide +kernel
theorem dX9_reckonAll_258 : decode cX9_reckonAll 258 = .ok (.getfield 105, 3) := by decide +kernel
theorem dX9_reckonAll_261 : decode cX9_reckonAll 261 = .ok (.iload_n 3, 1) := by decide +kernel
theorem dX9_reckonAll_262 : decode cX9_reckonAll 262 = .ok (.iconst 1, 1) := by decide +kernel
theorem dX9_reckonAll_263 : decode cX9_reckonAll 263 = .ok (.isub, 1) := by decide +kernel
theorem dX9_reckonAll_264 : decode cX9_reckonAll 264 = .ok (.laload, 1) := by decide +kernel
theorem dX9_reckonAll_265 : decode cX9_reckonAll 265 = .ok (.ldc2_w 407, 3) := by decide +kernel
theorem dX9_reckonAll_268 : decode cX9_reckonAll 268 = .ok (.ldc2_w 409, 3) := by decide +kernel
theorem dX9_reckonAll_271 : decode cX9_reckonAll 271 = .ok (.invokestatic 185, 3) := by decide +kernel
theorem dX9_reckonAll_274 : decode cX9_reckonAll 274 = .ok (.ifCond .ne 7, 3) := by decide +kernel
theorem dX9_reckonAll_277 : decode cX9_reckonAll 277 = .ok (.iconst 1, 1) := by decide +kernel
theorem dX9_reckonAll_278 : decode cX9_reckonAll 278 = .ok (.goto 4, 3) := by decide +kernel
theorem dX9_reckonAll_281 : decode cX9_reckonAll 281 = .ok (.iconst 0, 1) := by decide +kernel
theorem dX9_reckonAll_282 : decode cX9_reckonAll 282 = .ok (.putfield 397, 3) := by decide +kernel
theorem dX9_reckonAll_285 : decode cX9_reckonAll 285 = .ok (.goto 65, 3) := by decide +kernel
theorem dX9_reckonAll_288 : decode cX9_reckonAll 288 = .ok (.iload 5, 2) := by decide +kernel
theorem dX9_reckonAll_290 : decode cX9_reckonAll 290 = .ok (.bipush 28, 2) := by decide +kernel
theorem dX9_reckonAll_292 : decode cX9_reckonAll 292 = .ok (.if_icmp .ne 24, 3) := by decide +kernel
theorem dX9_reckonAll_295 : decode cX9_reckonAll 295 = .ok (.aload_n 0, 1) := by decide +kernel
theorem dX9_reckonAll_296 : decode cX9_reckonAll 296 = .ok (.getfield 105, 3) := by decide +kernel
theorem dX9_reckonAll_299 : decode cX9_reckonAll 299 = .ok (.iload_n 3, 1) := by decide +kernel
theorem dX9_reckonAll_300 : decode cX9_reckonAll 300 = .ok (.iconst 1, 1) := by decide +kernel
theorem dX9_reckonAll_301 : decode cX9_reckonAll 301 = .ok (.isub, 1) := by decide +kernel
theorem dX9_reckonAll_302 : decode cX9_reckonAll 302 = .ok (.lconst 1, 1) := by decide +kernel
theorem dX9_reckonAll_303 : decode cX9_reckonAll 303 = .ok (.aload_n 0, 1) := by decide +kernel
theorem dX9_reckonAll_304 : decode cX9_reckonAll 304 = .ok (.getfield 105, 3) := by decide +kernel
theorem dX9_reckonAll_307 : decode cX9_reckonAll 307 = .ok (.iload_n 3, 1) := by decide +kernel
theorem dX9_reckonAll_308 : decode cX9_reckonAll 308 = .ok (.iconst 1, 1) := by decide +kernel
theorem dX9_reckonAll_309 : decode cX9_reckonAll 309 = .ok (.isub, 1) := by decide +kernel
theorem dX9_reckonAll_310 : decode cX9_reckonAll 310 = .ok (.laload, 1) := by decide +kernel
theorem dX9_reckonAll_311 : decode cX9_reckonAll 311 = .ok (.lsub, 1) := by decide +kernel
theorem dX9_reckonAll_312 : decode cX9_reckonAll 312 = .ok (.lastore, 1) := by decide +kernel
theorem dX9_reckonAll_313 : decode cX9_reckonAll 313 = .ok (.goto 37, 3) := by decide +kernel
theorem dX9_reckonAll_316 : decode cX9_reckonAll 316 = .ok (.aload_n 0, 1) := by decide +kernel
theorem dX9_reckonAll_317 : decode cX9_reckonAll 317 = .ok (.getfield 105, 3) := by decide +kernel
theorem dX9_reckonAll_320 : decode cX9_reckonAll 320 = .ok (.iload_n 3, 1) := by decide +kernel
theorem dX9_reckonAll_321 : decode cX9_reckonAll 321 = .ok (.iconst 1, 1) := by decide +kernel
theorem dX9_reckonAll_322 : decode cX9_reckonAll 322 = .ok (.isub, 1) := by decide +kernel
theorem dX9_reckonAll_323 : decode cX9_reckonAll 323 = .ok (.laload, 1) := by decide +kernel
theorem dX9_reckonAll_324 : decode cX9_reckonAll 324 = .ok (.iload 5, 2) := by decide +kernel
theorem dX9_reckonAll_326 : decode cX9_reckonAll 326 = .ok (.bipush 29, 2) := by decide +kernel
theorem dX9_reckonAll_328 : decode cX9_reckonAll 328 = .ok (.if_icmp .ne 7, 3) := by decide +kernel
theorem dX9_reckonAll_331 : decode cX9_reckonAll 331 = .ok (.lconst 0, 1) := by decide +kernel
theorem dX9_reckonAll_332 : decode cX9_reckonAll 332 = .ok (.goto 4, 3) := by decide +kernel
theorem dX9_reckonAll_335 : decode cX9_reckonAll 335 = .ok (.lconst 1, 1) := by decide +kernel
theorem dX9_reckonAll_336 : decode cX9_reckonAll 336 = .ok (.lcmp, 1) := by decide +kernel
theorem dX9_reckonAll_337 : decode cX9_reckonAll 337 = .ok (.ifCond .ne 10, 3) := by decide +kernel
theorem dX9_reckonAll_340 : decode cX9_reckonAll 340 = .ok (.iload 6, 2) := by decide +kernel
theorem dX9_reckonAll_342 : decode cX9_reckonAll 342 = .ok (.istore 4, 2) := by decide +kernel
theorem dX9_reckonAll_344 : decode cX9_reckonAll 344 = .ok (.goto 6, 3) := by decide +kernel
theorem dX9_reckonAll_347 : decode cX9_reckonAll 347 = .ok (.iinc 3 (-1), 3) := by decide +kernel
theorem dX9_reckonAll_350 : decode cX9_reckonAll 350 = .ok (.goto (-340), 3) := by decide +kernel
theorem dX9_reckonAll_353 : decode cX9_reckonAll 353 = .ok (.aload_n 0, 1) := by decide +kernel
theorem dX9_reckonAll_354 : decode cX9_reckonAll 354 = .ok (.iload_n 3, 1) := by decide +kernel
theorem dX9_reckonAll_355 : decode cX9_reckonAll 355 = .ok (.ifCond .le 12, 3) := by decide +kernel
theorem dX9_reckonAll_358 : decode cX9_reckonAll 358 = .ok (.aload_n 0, 1) := by decide +kernel
theorem dX9_reckonAll_359 : decode cX9_reckonAll 359 = .ok (.getfield 105, 3) := by decide +kernel
theorem dX9_reckonAll_362 : decode cX9_reckonAll 362 = .ok (.iconst 0, 1) := by decide +kernel
theorem dX9_reckonAll_363 : decode cX9_reckonAll 363 = .ok (.laload, 1) := by decide +kernel
theorem dX9_reckonAll_364 : decode cX9_reckonAll 364 = .ok (.goto 4, 3) := by decide +kernel
theorem dX9_reckonAll_367 : decode cX9_reckonAll 367 = .ok (.lconst 0, 1) := by decide +kernel
theorem dX9_reckonAll_368 : decode cX9_reckonAll 368 = .ok (.putfield 411, 3) := by decide +kernel
theorem dX9_reckonAll_371 : decode cX9_reckonAll 371 = .ok (.return_, 1) := by decide +kernel
theorem dX9_remember_0 : decode cX9_remember 0 = .ok (.aload_n 0, 1) := by decide +kernel
theorem dX9_remember_1 : decode cX9_remember 1 = .ok (.getfield 171, 3) := by decide +kernel
theorem dX9_remember_4 : decode cX9_remember 4 = .ok (.bipush 16, 2) := by decide +kernel
theorem dX9_remember_6 : decode cX9_remember 6 = .ok (.if_icmp .ne 71, 3) := by decide +kernel
theorem dX9_remember_9 : decode cX9_remember 9 = .ok (.iconst 0, 1) := by decide +kernel
theorem dX9_remember_10 : decode cX9_remember 10 = .ok (.istore_n 2, 1) := by decide +kernel
theorem dX9_remember_11 : decode cX9_remember 11 = .ok (.iload_n 2, 1) := by decide +kernel
theorem dX9_remember_12 : decode cX9_remember 12 = .ok (.sipush 375, 3) := by decide +kernel
theorem dX9_remember_15 : decode cX9_remember 15 = .ok (.if_icmp .ge 24, 3) := by decide +kernel
theorem dX9_remember_18 : decode cX9_remember 18 = .ok (.aload_n 0, 1) := by decide +kernel
theorem dX9_remember_19 : decode cX9_remember 19 = .ok (.getfield 23, 3) := by decide +kernel
theorem dX9_remember_22 : decode cX9_remember 22 = .ok (.iload_n 2, 1) := by decide +kernel
theorem dX9_remember_23 : decode cX9_remember 23 = .ok (.aload_n 0, 1) := by decide +kernel
theorem dX9_remember_24 : decode cX9_remember 24 = .ok (.getfield 23, 3) := by decide +kernel
theorem dX9_remember_27 : decode cX9_remember 27 = .ok (.iload_n 2, 1) := by decide +kernel
theorem dX9_remember_28 : decode cX9_remember 28 = .ok (.bipush 25, 2) := by decide +kernel
theorem dX9_remember_30 : decode cX9_remember 30 = .ok (.iadd, 1) := by decide +kernel
theorem dX9_remember_31 : decode cX9_remember 31 = .ok (.iaload, 1) := by decide +kernel
theorem dX9_remember_32 : decode cX9_remember 32 = .ok (.iastore, 1) := by decide +kernel
theorem dX9_remember_33 : decode cX9_remember 33 = .ok (.iinc 2 1, 3) := by decide +kernel
theorem dX9_remember_36 : decode cX9_remember 36 = .ok (.goto (-25), 3) := by decide +kernel
theorem dX9_remember_39 : decode cX9_remember 39 = .ok (.iconst 0, 1) := by decide +kernel
theorem dX9_remember_40 : decode cX9_remember 40 = .ok (.istore_n 2, 1) := by decide +kernel
theorem dX9_remember_41 : decode cX9_remember 41 = .ok (.iload_n 2, 1) := by decide +kernel
theorem dX9_remember_42 : decode cX9_remember 42 = .ok (.bipush 15, 2) := by decide +kernel
theorem dX9_remember_44 : decode cX9_remember 44 = .ok (.if_icmp .ge 23, 3) := by decide +kernel
theorem dX9_remember_47 : decode cX9_remember 47 = .ok (.aload_n 0, 1) := by decide +kernel
theorem dX9_remember_48 : decode cX9_remember 48 = .ok (.getfield 26, 3) := by decide +kernel
theorem dX9_remember_51 : decode cX9_remember 51 = .ok (.iload_n 2, 1) := by decide +kernel
theorem dX9_remember_52 : decode cX9_remember 52 = .ok (.aload_n 0, 1) := by decide +kernel
theorem dX9_remember_53 : decode cX9_remember 53 = .ok (.getfield 26, 3) := by decide +kernel
theorem dX9_remember_56 : decode cX9_remember 56 = .ok (.iload_n 2, 1) := by decide +kernel
theorem dX9_remember_57 : decode cX9_remember 57 = .ok (.iconst 1, 1) := by decide +kernel
theorem dX9_remember_58 : decode cX9_remember 58 = .ok (.iadd, 1) := by decide +kernel
theorem dX9_remember_59 : decode cX9_remember 59 = .ok (.iaload, 1) := by decide +kernel
theorem dX9_remember_60 : decode cX9_remember 60 = .ok (.iastore, 1) := by decide +kernel
theorem dX9_remember_61 : decode cX9_remember 61 = .ok (.iinc 2 1, 3) := by decide +kernel
theorem dX9_remember_64 : decode cX9_remember 64 = .ok (.goto (-23), 3) := by decide +kernel
theorem dX9_remember_67 : decode cX9_remember 67 = .ok (.aload_n 0, 1) := by decide +kernel
theorem dX9_remember_68 : decode cX9_remember 68 = .ok (.dup, 1) := by decide +kernel
theorem dX9_remember_69 : decode cX9_remember 69 = .ok (.getfield 171, 3) := by decide +kernel
theorem dX9_remember_72 : decode cX9_remember 72 = .ok (.iconst 1, 1) := by decide +kernel
theorem dX9_remember_73 : decode cX9_remember 73 = .ok (.isub, 1) := by decide +kernel
theorem dX9_remember_74 : decode cX9_remember 74 = .ok (.putfield 171, 3) := by decide +kernel
theorem dX9_remember_77 : decode cX9_remember 77 = .ok (.aload_n 0, 1) := by decide +kernel
theorem dX9_remember_78 : decode cX9_remember 78 = .ok (.aload_n 0, 1) := by decide +kernel
theorem dX9_remember_79 : decode cX9_remember 79 = .ok (.getfield 171, 3) := by decide +kernel
theorem dX9_remember_82 : decode cX9_remember 82 = .ok (.invokevirtual 178, 3) := by decide +kernel
theorem dX9_remember_85 : decode cX9_remember 85 = .ok (.aload_n 0, 1) := by decide +kernel
theorem dX9_remember_86 : decode cX9_remember 86 = .ok (.getfield 26, 3) := by decide +kernel
theorem dX9_remember_89 : decode cX9_remember 89 = .ok (.aload_n 0, 1) := by decide +kernel
theorem dX9_remember_90 : decode cX9_remember 90 = .ok (.getfield 171, 3) := by decide +kernel
theorem dX9_remember_93 : decode cX9_remember 93 = .ok (.iload_n 1, 1) := by decide +kernel
theorem dX9_remember_94 : decode cX9_remember 94 = .ok (.iastore, 1) := by decide +kernel
theorem dX9_remember_95 : decode cX9_remember 95 = .ok (.aload_n 0, 1) := by decide +kernel
theorem dX9_remember_96 : decode cX9_remember 96 = .ok (.dup, 1) := by decide +kernel
theorem dX9_remember_97 : decode cX9_remember 97 = .ok (.getfield 171, 3) := by decide +kernel
theorem dX9_remember_100 : decode cX9_remember 100 = .ok (.iconst 1, 1) := by decide +kernel
theorem dX9_remember_101 : decode cX9_remember 101 = .ok (.iadd, 1) := by decide +kernel
theorem dX9_remember_102 : decode cX9_remember 102 = .ok (.putfield 171, 3) := by decide +kernel
theorem dX9_remember_105 : decode cX9_remember 105 = .ok (.return_, 1) := by decide +kernel
theorem dX9_row_0 : decode cX9_row 0 = .ok (.aload_n 0, 1) := by decide +kernel
theorem dX9_row_1 : decode cX9_row 1 = .ok (.iconst 0, 1) := by decide +kernel
theorem dX9_row_2 : decode cX9_row 2 = .ok (.putfield 165, 3) := by decide +kernel
theorem dX9_row_5 : decode cX9_row 5 = .ok (.aload_n 0, 1) := by decide +kernel
theorem dX9_row_6 : decode cX9_row 6 = .ok (.getfield 231, 3) := by decide +kernel
theorem dX9_row_9 : decode cX9_row 9 = .ok (.istore_n 1, 1) := by decide +kernel
theorem dX9_row_10 : decode cX9_row 10 = .ok (.aload_n 0, 1) := by decide +kernel
theorem dX9_row_11 : decode cX9_row 11 = .ok (.iconst 0, 1) := by decide +kernel
theorem dX9_row_12 : decode cX9_row 12 = .ok (.putfield 231, 3) := by decide +kernel
theorem dX9_row_15 : decode cX9_row 15 = .ok (.iload_n 1, 1) := by decide +kernel
theorem dX9_row_16 : decode cX9_row 16 = .ok (.ifCond .ne 10, 3) := by decide +kernel
theorem dX9_row_19 : decode cX9_row 19 = .ok (.aload_n 0, 1) := by decide +kernel
theorem dX9_row_20 : decode cX9_row 20 = .ok (.bipush (-6), 2) := by decide +kernel
theorem dX9_row_22 : decode cX9_row 22 = .ok (.invokevirtual 174, 3) := by decide +kernel
theorem dX9_row_25 : decode cX9_row 25 = .ok (.ireturn, 1) := by decide +kernel
theorem dX9_row_26 : decode cX9_row 26 = .ok (.aload_n 0, 1) := by decide +kernel
theorem dX9_row_27 : decode cX9_row 27 = .ok (.iconst 0, 1) := by decide +kernel
theorem dX9_row_28 : decode cX9_row 28 = .ok (.putfield 234, 3) := by decide +kernel
theorem dX9_row_31 : decode cX9_row 31 = .ok (.iconst 0, 1) := by decide +kernel
theorem dX9_row_32 : decode cX9_row 32 = .ok (.istore_n 2, 1) := by decide +kernel
theorem dX9_row_33 : decode cX9_row 33 = .ok (.iconst 0, 1) := by decide +kernel
theorem dX9_row_34 : decode cX9_row 34 = .ok (.istore_n 3, 1) := by decide +kernel
theorem dX9_row_35 : decode cX9_row 35 = .ok (.iload_n 3, 1) := by decide +kernel
theorem dX9_row_36 : decode cX9_row 36 = .ok (.iload_n 1, 1) := by decide +kernel
theorem dX9_row_37 : decode cX9_row 37 = .ok (.if_icmp .ge 85, 3) := by decide +kernel
theorem dX9_row_40 : decode cX9_row 40 = .ok (.iload_n 3, 1) := by decide +kernel
theorem dX9_row_41 : decode cX9_row 41 = .ok (.iconst 4, 1) := by decide +kernel
theorem dX9_row_42 : decode cX9_row 42 = .ok (.iadd, 1) := by decide +kernel
theorem dX9_row_43 : decode cX9_row 43 = .ok (.iload_n 1, 1) := by decide +kernel
theorem dX9_row_44 : decode cX9_row 44 = .ok (.if_icmp .ge 62, 3) := by decide +kernel
theorem dX9_row_47 : decode cX9_row 47 = .ok (.aload_n 0, 1) := by decide +kernel
theorem dX9_row_48 : decode cX9_row 48 = .ok (.iload_n 3, 1) := by decide +kernel
theorem dX9_row_49 : decode cX9_row 49 = .ok (.invokevirtual 237, 3) := by decide +kernel
theorem dX9_row_52 : decode cX9_row 52 = .ok (.ifCond .eq 54, 3) := by decide +kernel
theorem dX9_row_55 : decode cX9_row 55 = .ok (.iconst 0, 1) := by decide +kernel
theorem dX9_row_56 : decode cX9_row 56 = .ok (.istore 4, 2) := by decide +kernel
theorem dX9_row_58 : decode cX9_row 58 = .ok (.iload 4, 2) := by decide +kernel
theorem dX9_row_60 : decode cX9_row 60 = .ok (.iconst 4, 1) := by decide +kernel
theorem dX9_row_61 : decode cX9_row 61 = .ok (.if_icmp .ge 39, 3) := by decide +kernel
theorem dX9_row_64 : decode cX9_row 64 = .ok (.aload_n 0, 1) := by decide +kernel
theorem dX9_row_65 : decode cX9_row 65 = .ok (.getfield 13, 3) := by decide +kernel
theorem dX9_row_68 : decode cX9_row 68 = .ok (.bipush 36, 2) := by decide +kernel
theorem dX9_row_70 : decode cX9_row 70 = .ok (.iconst 4, 1) := by decide +kernel
theorem dX9_row_71 : decode cX9_row 71 = .ok (.aload_n 0, 1) := by decide +kernel
theorem dX9_row_72 : decode cX9_row 72 = .ok (.getfield 35, 3) := by decide +kernel
theorem dX9_row_75 : decode cX9_row 75 = .ok (.iload_n 3, 1) := by decide +kernel
theorem dX9_row_76 : decode cX9_row 76 = .ok (.iaload, 1) := by decide +kernel
theorem dX9_row_77 : decode cX9_row 77 = .ok (.imul, 1) := by decide +kernel
theorem dX9_row_78 : decode cX9_row 78 = .ok (.iadd, 1) := by decide +kernel
theorem dX9_row_79 : decode cX9_row 79 = .ok (.iload 4, 2) := by decide +kernel
theorem dX9_row_81 : decode cX9_row 81 = .ok (.iadd, 1) := by decide +kernel
theorem dX9_row_82 : decode cX9_row 82 = .ok (.aload_n 0, 1) := by decide +kernel
theorem dX9_row_83 : decode cX9_row 83 = .ok (.getfield 35, 3) := by decide +kernel
theorem dX9_row_86 : decode cX9_row 86 = .ok (.iload_n 3, 1) := by decide +kernel
theorem dX9_row_87 : decode cX9_row 87 = .ok (.iconst 1, 1) := by decide +kernel
theorem dX9_row_88 : decode cX9_row 88 = .ok (.iadd, 1) := by decide +kernel
theorem dX9_row_89 : decode cX9_row 89 = .ok (.iload 4, 2) := by decide +kernel
theorem dX9_row_91 : decode cX9_row 91 = .ok (.iadd, 1) := by decide +kernel
theorem dX9_row_92 : decode cX9_row 92 = .ok (.iaload, 1) := by decide +kernel
theorem dX9_row_93 : decode cX9_row 93 = .ok (.iastore, 1) := by decide +kernel
theorem dX9_row_94 : decode cX9_row 94 = .ok (.iinc 4 1, 3) := by decide +kernel
theorem dX9_row_97 : decode cX9_row 97 = .ok (.goto (-39), 3) := by decide +kernel
theorem dX9_row_100 : decode cX9_row 100 = .ok (.iinc 2 1, 3) := by decide +kernel
theorem dX9_row_103 : decode cX9_row 103 = .ok (.goto 13, 3) := by decide +kernel
theorem dX9_row_106 : decode cX9_row 106 = .ok (.aload_n 0, 1) := by decide +kernel
theorem dX9_row_107 : decode cX9_row 107 = .ok (.dup, 1) := by decide +kernel
theorem dX9_row_108 : decode cX9_row 108 = .ok (.getfield 234, 3) := by decide +kernel
theorem dX9_row_111 : decode cX9_row 111 = .ok (.iconst 1, 1) := by decide +kernel
theorem dX9_row_112 : decode cX9_row 112 = .ok (.iadd, 1) := by decide +kernel
theorem dX9_row_113 : decode cX9_row 113 = .ok (.putfield 234, 3) := by decide +kernel
theorem dX9_row_116 : decode cX9_row 116 = .ok (.iinc 3 5, 3) := by decide +kernel
theorem dX9_row_119 : decode cX9_row 119 = .ok (.goto (-84), 3) := by decide +kernel
theorem dX9_row_122 : decode cX9_row 122 = .ok (.aload_n 0, 1) := by decide +kernel
theorem dX9_row_123 : decode cX9_row 123 = .ok (.iload_n 2, 1) := by decide +kernel
theorem dX9_row_124 : decode cX9_row 124 = .ok (.invokevirtual 174, 3) := by decide +kernel
theorem dX9_row_127 : decode cX9_row 127 = .ok (.ireturn, 1) := by decide +kernel
theorem dX9_run_0 : decode cX9_run 0 = .ok (.aload_n 0, 1) := by decide +kernel
theorem dX9_run_1 : decode cX9_run 1 = .ok (.getfield 102, 3) := by decide +kernel
theorem dX9_run_4 : decode cX9_run 4 = .ok (.iconst 1, 1) := by decide +kernel
theorem dX9_run_5 : decode cX9_run 5 = .ok (.aload_n 0, 1) := by decide +kernel
theorem dX9_run_6 : decode cX9_run 6 = .ok (.getfield 13, 3) := by decide +kernel
theorem dX9_run_9 : decode cX9_run 9 = .ok (.iconst 4, 1) := by decide +kernel
theorem dX9_run_10 : decode cX9_run 10 = .ok (.iaload, 1) := by decide +kernel
theorem dX9_run_11 : decode cX9_run 11 = .ok (.i2l, 1) := by decide +kernel
theorem dX9_run_12 : decode cX9_run 12 = .ok (.lastore, 1) := by decide +kernel
theorem dX9_run_13 : decode cX9_run 13 = .ok (.aload_n 0, 1) := by decide +kernel
theorem dX9_run_14 : decode cX9_run 14 = .ok (.getfield 102, 3) := by decide +kernel
theorem dX9_run_17 : decode cX9_run 17 = .ok (.iconst 2, 1) := by decide +kernel
theorem dX9_run_18 : decode cX9_run 18 = .ok (.aload_n 0, 1) := by decide +kernel
theorem dX9_run_19 : decode cX9_run 19 = .ok (.getfield 523, 3) := by decide +kernel
theorem dX9_run_22 : decode cX9_run 22 = .ok (.i2l, 1) := by decide +kernel
theorem dX9_run_23 : decode cX9_run 23 = .ok (.lastore, 1) := by decide +kernel
theorem dX9_run_24 : decode cX9_run 24 = .ok (.aload_n 0, 1) := by decide +kernel
theorem dX9_run_25 : decode cX9_run 25 = .ok (.getfield 102, 3) := by decide +kernel
theorem dX9_run_28 : decode cX9_run 28 = .ok (.iconst 3, 1) := by decide +kernel
theorem dX9_run_29 : decode cX9_run 29 = .ok (.aload_n 0, 1) := by decide +kernel
theorem dX9_run_30 : decode cX9_run 30 = .ok (.getfield 526, 3) := by decide +kernel
theorem dX9_run_33 : decode cX9_run 33 = .ok (.i2l, 1) := by decide +kernel
theorem dX9_run_34 : decode cX9_run 34 = .ok (.lastore, 1) := by decide +kernel
theorem dX9_run_35 : decode cX9_run 35 = .ok (.aload_n 0, 1) := by decide +kernel
theorem dX9_run_36 : decode cX9_run 36 = .ok (.getfield 102, 3) := by decide +kernel
theorem dX9_run_39 : decode cX9_run 39 = .ok (.iconst 4, 1) := by decide +kernel
theorem dX9_run_40 : decode cX9_run 40 = .ok (.aload_n 0, 1) := by decide +kernel
theorem dX9_run_41 : decode cX9_run 41 = .ok (.getfield 13, 3) := by decide +kernel
theorem dX9_run_44 : decode cX9_run 44 = .ok (.bipush 7, 2) := by decide +kernel
theorem dX9_run_46 : decode cX9_run 46 = .ok (.iaload, 1) := by decide +kernel
theorem dX9_run_47 : decode cX9_run 47 = .ok (.i2l, 1) := by decide +kernel
theorem dX9_run_48 : decode cX9_run 48 = .ok (.lastore, 1) := by decide +kernel
theorem dX9_run_49 : decode cX9_run 49 = .ok (.aload_n 0, 1) := by decide +kernel
theorem dX9_run_50 : decode cX9_run 50 = .ok (.getfield 102, 3) := by decide +kernel
theorem dX9_run_53 : decode cX9_run 53 = .ok (.iconst 5, 1) := by decide +kernel
theorem dX9_run_54 : decode cX9_run 54 = .ok (.aload_n 0, 1) := by decide +kernel
theorem dX9_run_55 : decode cX9_run 55 = .ok (.invokevirtual 529, 3) := by decide +kernel
theorem dX9_run_58 : decode cX9_run 58 = .ok (.i2l, 1) := by decide +kernel
theorem dX9_run_59 : decode cX9_run 59 = .ok (.lastore, 1) := by decide +kernel
theorem dX9_run_60 : decode cX9_run 60 = .ok (.aload_n 0, 1) := by decide +kernel
theorem dX9_run_61 : decode cX9_run 61 = .ok (.iconst 0, 1) := by decide +kernel
theorem dX9_run_62 : decode cX9_run 62 = .ok (.putfield 520, 3) := by decide +kernel
theorem dX9_run_65 : decode cX9_run 65 = .ok (.aload_n 0, 1) := by decide +kernel
theorem dX9_run_66 : decode cX9_run 66 = .ok (.getfield 153, 3) := by decide +kernel
theorem dX9_run_69 : decode cX9_run 69 = .ok (.iload_n 1, 1) := by decide +kernel
theorem dX9_run_70 : decode cX9_run 70 = .ok (.iconst 5, 1) := by decide +kernel
theorem dX9_run_71 : decode cX9_run 71 = .ok (.iadd, 1) := by decide +kernel
theorem dX9_run_72 : decode cX9_run 72 = .ok (.iaload, 1) := by decide +kernel
theorem dX9_run_73 : decode cX9_run 73 = .ok (.aload_n 0, 1) := by decide +kernel
theorem dX9_run_74 : decode cX9_run 74 = .ok (.getfield 153, 3) := by decide +kernel
theorem dX9_run_77 : decode cX9_run 77 = .ok (.iload_n 1, 1) := by decide +kernel
theorem dX9_run_78 : decode cX9_run 78 = .ok (.bipush 6, 2) := by decide +kernel
theorem dX9_run_80 : decode cX9_run 80 = .ok (.iadd, 1) := by decide +kernel
theorem dX9_run_81 : decode cX9_run 81 = .ok (.iaload, 1) := by decide +kernel
theorem dX9_run_82 : decode cX9_run 82 = .ok (.if_icmp .ge 24, 3) := by decide +kernel
theorem dX9_run_85 : decode cX9_run 85 = .ok (.aload_n 0, 1) := by decide +kernel
theorem dX9_run_86 : decode cX9_run 86 = .ok (.iload_n 1, 1) := by decide +kernel
theorem dX9_run_87 : decode cX9_run 87 = .ok (.iconst 5, 1) := by decide +kernel
theorem dX9_run_88 : decode cX9_run 88 = .ok (.iadd, 1) := by decide +kernel
theorem dX9_run_89 : decode cX9_run 89 = .ok (.invokevirtual 532, 3) := by decide +kernel
theorem dX9_run_92 : decode cX9_run 92 = .ok (.istore_n 2, 1) := by decide +kernel
theorem dX9_run_93 : decode cX9_run 93 = .ok (.aload_n 0, 1) := by decide +kernel
theorem dX9_run_94 : decode cX9_run 94 = .ok (.getfield 520, 3) := by decide +kernel
theorem dX9_run_97 : decode cX9_run 97 = .ok (.ifCond .ne 7, 3) := by decide +kernel
theorem dX9_run_100 : decode cX9_run 100 = .ok (.iload_n 2, 1) := by decide +kernel
theorem dX9_run_101 : decode cX9_run 101 = .ok (.ifCond .ne 5, 3) := by decide +kernel
theorem dX9_run_104 : decode cX9_run 104 = .ok (.iconst 0, 1) := by decide +kernel
theorem dX9_run_105 : decode cX9_run 105 = .ok (.ireturn, 1) := by decide +kernel
theorem dX9_run_106 : decode cX9_run 106 = .ok (.aload_n 0, 1) := by decide +kernel
theorem dX9_run_107 : decode cX9_run 107 = .ok (.iload_n 1, 1) := by decide +kernel
theorem dX9_run_108 : decode cX9_run 108 = .ok (.iconst 1, 1) := by decide +kernel
theorem dX9_run_109 : decode cX9_run 109 = .ok (.iadd, 1) := by decide +kernel
theorem dX9_run_110 : decode cX9_run 110 = .ok (.invokevirtual 532, 3) := by decide +kernel
theorem dX9_run_113 : decode cX9_run 113 = .ok (.istore_n 2, 1) := by decide +kernel
theorem dX9_run_114 : decode cX9_run 114 = .ok (.aload_n 0, 1) := by decide +kernel
theorem dX9_run_115 : decode cX9_run 115 = .ok (.getfield 520, 3) := by decide +kernel
theorem dX9_run_118 : decode cX9_run 118 = .ok (.ifCond .eq 6, 3) := by decide +kernel
theorem dX9_run_121 : decode cX9_run 121 = .ok (.bipush (-3), 2) := by decide +kernel
theorem dX9_run_123 : decode cX9_run 123 = .ok (.ireturn, 1) := by decide +kernel
theorem dX9_run_124 : decode cX9_run 124 = .ok (.aload_n 0, 1) := by decide +kernel
theorem dX9_run_125 : decode cX9_run 125 = .ok (.aload_n 0, 1) := by decide +kernel
theorem dX9_run_126 : decode cX9_run 126 = .ok (.getfield 153, 3) := by decide +kernel
theorem dX9_run_129 : decode cX9_run 129 = .ok (.iload_n 1, 1) := by decide +kernel
theorem dX9_run_130 : decode cX9_run 130 = .ok (.iaload, 1) := by decide +kernel
theorem dX9_run_131 : decode cX9_run 131 = .ok (.iload_n 2, 1) := by decide +kernel
theorem dX9_run_132 : decode cX9_run 132 = .ok (.invokevirtual 535, 3) := by decide +kernel
theorem dX9_run_135 : decode cX9_run 135 = .ok (.istore_n 3, 1) := by decide +kernel
theorem dX9_run_136 : decode cX9_run 136 = .ok (.iload_n 3, 1) := by decide +kernel
theorem dX9_run_137 : decode cX9_run 137 = .ok (.ifCond .ge 6, 3) := by decide +kernel
theorem dX9_run_140 : decode cX9_run 140 = .ok (.bipush (-3), 2) := by decide +kernel
theorem dX9_run_142 : decode cX9_run 142 = .ok (.ireturn, 1) := by decide +kernel
theorem dX9_run_143 : decode cX9_run 143 = .ok (.aload_n 0, 1) := by decide +kernel
theorem dX9_run_144 : decode cX9_run 144 = .ok (.aload_n 0, 1) := by decide +kernel
theorem dX9_run_145 : decode cX9_run 145 = .ok (.getfield 153, 3) := by decide +kernel
theorem dX9_run_148 : decode cX9_run 148 = .ok (.iload_n 1, 1) := by decide +kernel
theorem dX9_run_149 : decode cX9_run 149 = .ok (.iaload, 1) := by decide +kernel
theorem dX9_run_150 : decode cX9_run 150 = .ok (.ifCond .ne 7, 3) := by decide +kernel
theorem dX9_run_153 : decode cX9_run 153 = .ok (.iload_n 3, 1) := by decide +kernel
theorem dX9_run_154 : decode cX9_run 154 = .ok (.goto 7, 3) := by decide +kernel
theorem dX9_run_157 : decode cX9_run 157 = .ok (.aload_n 0, 1) := by decide +kernel
theorem dX9_run_158 : decode cX9_run 158 = .ok (.getfield 526, 3) := by decide +kernel
theorem dX9_run_161 : decode cX9_run 161 = .ok (.putfield 526, 3) := by decide +kernel
theorem dX9_run_164 : decode cX9_run 164 = .ok (.aload_n 0, 1) := by decide +kernel
theorem dX9_run_165 : decode cX9_run 165 = .ok (.dup, 1) := by decide +kernel
theorem dX9_run_166 : decode cX9_run 166 = .ok (.getfield 523, 3) := by decide +kernel
theorem dX9_run_169 : decode cX9_run 169 = .ok (.iconst 1, 1) := by decide +kernel
theorem dX9_run_170 : decode cX9_run 170 = .ok (.iadd, 1) := by decide +kernel
theorem dX9_run_171 : decode cX9_run 171 = .ok (.putfield 523, 3) := by decide +kernel
theorem dX9_run_174 : decode cX9_run 174 = .ok (.iconst 0, 1) := by decide +kernel
theorem dX9_run_175 : decode cX9_run 175 = .ok (.ireturn, 1) := by decide +kernel
theorem dX9_runsOf_0 : decode cX9_runsOf 0 = .ok (.aload_n 0, 1) := by decide +kernel
theorem dX9_runsOf_1 : decode cX9_runsOf 1 = .ok (.iconst 0, 1) := by decide +kernel
theorem dX9_runsOf_2 : decode cX9_runsOf 2 = .ok (.iload_n 1, 1) := by decide +kernel
theorem dX9_runsOf_3 : decode cX9_runsOf 3 = .ok (.iload_n 2, 1) := by decide +kernel
theorem dX9_runsOf_4 : decode cX9_runsOf 4 = .ok (.iconst (-1), 1) := by decide +kernel
theorem dX9_runsOf_5 : decode cX9_runsOf 5 = .ok (.aload_n 0, 1) := by decide +kernel
theorem dX9_runsOf_6 : decode cX9_runsOf 6 = .ok (.getfield 13, 3) := by decide +kernel
theorem dX9_runsOf_9 : decode cX9_runsOf 9 = .ok (.bipush 36, 2) := by decide +kernel
theorem dX9_runsOf_11 : decode cX9_runsOf 11 = .ok (.iconst 4, 1) := by decide +kernel
theorem dX9_runsOf_12 : decode cX9_runsOf 12 = .ok (.iload_n 1, 1) := by decide +kernel
theorem dX9_runsOf_13 : decode cX9_runsOf 13 = .ok (.imul, 1) := by decide +kernel
theorem dX9_runsOf_14 : decode cX9_runsOf 14 = .ok (.iadd, 1) := by decide +kernel
theorem dX9_runsOf_15 : decode cX9_runsOf 15 = .ok (.iload_n 2, 1) := by decide +kernel
theorem dX9_runsOf_16 : decode cX9_runsOf 16 = .ok (.iadd, 1) := by decide +kernel
theorem dX9_runsOf_17 : decode cX9_runsOf 17 = .ok (.iaload, 1) := by decide +kernel
theorem dX9_runsOf_18 : decode cX9_runsOf 18 = .ok (.i2l, 1) := by decide +kernel
theorem dX9_runsOf_19 : decode cX9_runsOf 19 = .ok (.invokevirtual 423, 3) := by decide +kernel
theorem dX9_runsOf_22 : decode cX9_runsOf 22 = .ok (.iconst 0, 1) := by decide +kernel
theorem dX9_runsOf_23 : decode cX9_runsOf 23 = .ok (.bipush 99, 2) := by decide +kernel
theorem dX9_runsOf_25 : decode cX9_runsOf 25 = .ok (.invokestatic 427, 3) := by decide +kernel
theorem dX9_runsOf_28 : decode cX9_runsOf 28 = .ok (.ireturn, 1) := by decide +kernel
theorem dX9_scoreNow_0 : decode cX9_scoreNow 0 = .ok (.iconst 0, 1) := by decide +kernel
theorem dX9_scoreNow_1 : decode cX9_scoreNow 1 = .ok (.istore_n 1, 1) := by decide +kernel
theorem dX9_scoreNow_2 : decode cX9_scoreNow 2 = .ok (.iconst 0, 1) := by decide +kernel
theorem dX9_scoreNow_3 : decode cX9_scoreNow 3 = .ok (.istore_n 2, 1) := by decide +kernel
theorem dX9_scoreNow_4 : decode cX9_scoreNow 4 = .ok (.iload_n 2, 1) := by decide +kernel
theorem dX9_scoreNow_5 : decode cX9_scoreNow 5 = .ok (.iconst 4, 1) := by decide +kernel
theorem dX9_scoreNow_6 : decode cX9_scoreNow 6 = .ok (.if_icmp .ge 42, 3) := by decide +kernel
theorem dX9_scoreNow_9 : decode cX9_scoreNow 9 = .ok (.iload_n 1, 1) := by decide +kernel
theorem dX9_scoreNow_10 : decode cX9_scoreNow 10 = .ok (.aload_n 0, 1) := by decide +kernel
theorem dX9_scoreNow_11 : decode cX9_scoreNow 11 = .ok (.getfield 126, 3) := by decide +kernel
theorem dX9_scoreNow_14 : decode cX9_scoreNow 14 = .ok (.iload_n 2, 1) := by decide +kernel
theorem dX9_scoreNow_15 : decode cX9_scoreNow 15 = .ok (.iaload, 1) := by decide +kernel
theorem dX9_scoreNow_16 : decode cX9_scoreNow 16 = .ok (.bipush 7, 2) := by decide +kernel
theorem dX9_scoreNow_18 : decode cX9_scoreNow 18 = .ok (.if_icmp .ne 7, 3) := by decide +kernel
theorem dX9_scoreNow_21 : decode cX9_scoreNow 21 = .ok (.iconst 0, 1) := by decide +kernel
theorem dX9_scoreNow_22 : decode cX9_scoreNow 22 = .ok (.goto 18, 3) := by decide +kernel
theorem dX9_scoreNow_25 : decode cX9_scoreNow 25 = .ok (.aload_n 0, 1) := by decide +kernel
theorem dX9_scoreNow_26 : decode cX9_scoreNow 26 = .ok (.getfield 123, 3) := by decide +kernel
theorem dX9_scoreNow_29 : decode cX9_scoreNow 29 = .ok (.iconst 4, 1) := by decide +kernel
theorem dX9_scoreNow_30 : decode cX9_scoreNow 30 = .ok (.aload_n 0, 1) := by decide +kernel
theorem dX9_scoreNow_31 : decode cX9_scoreNow 31 = .ok (.getfield 126, 3) := by decide +kernel
theorem dX9_scoreNow_34 : decode cX9_scoreNow 34 = .ok (.iload_n 2, 1) := by decide +kernel
theorem dX9_scoreNow_35 : decode cX9_scoreNow 35 = .ok (.iaload, 1) := by decide +kernel
theorem dX9_scoreNow_36 : decode cX9_scoreNow 36 = .ok (.imul, 1) := by decide +kernel
theorem dX9_scoreNow_37 : decode cX9_scoreNow 37 = .ok (.iload_n 2, 1) := by decide +kernel
theorem dX9_scoreNow_38 : decode cX9_scoreNow 38 = .ok (.iadd, 1) := by decide +kernel
theorem dX9_scoreNow_39 : decode cX9_scoreNow 39 = .ok (.iaload, 1) := by decide +kernel
theorem dX9_scoreNow_40 : decode cX9_scoreNow 40 = .ok (.iadd, 1) := by decide +kernel
theorem dX9_scoreNow_41 : decode cX9_scoreNow 41 = .ok (.istore_n 1, 1) := by decide +kernel
theorem dX9_scoreNow_42 : decode cX9_scoreNow 42 = .ok (.iinc 2 1, 3) := by decide +kernel
theorem dX9_scoreNow_45 : decode cX9_scoreNow 45 = .ok (.goto (-41), 3) := by decide +kernel
theorem dX9_scoreNow_48 : decode cX9_scoreNow 48 = .ok (.iload_n 1, 1) := by decide +kernel
theorem dX9_scoreNow_49 : decode cX9_scoreNow 49 = .ok (.ireturn, 1) := by decide +kernel
theorem dX9_seen_0 : decode cX9_seen 0 = .ok (.aload_n 0, 1) := by decide +kernel
theorem dX9_seen_1 : decode cX9_seen 1 = .ok (.iconst 0, 1) := by decide +kernel
theorem dX9_seen_2 : decode cX9_seen 2 = .ok (.putfield 165, 3) := by decide +kernel
theorem dX9_seen_5 : decode cX9_seen 5 = .ok (.iload_n 1, 1) := by decide +kernel
theorem dX9_seen_6 : decode cX9_seen 6 = .ok (.invokestatic 213, 3) := by decide +kernel
theorem dX9_seen_9 : decode cX9_seen 9 = .ok (.ifCond .eq 15, 3) := by decide +kernel
theorem dX9_seen_12 : decode cX9_seen 12 = .ok (.iload_n 2, 1) := by decide +kernel
theorem dX9_seen_13 : decode cX9_seen 13 = .ok (.i2l, 1) := by decide +kernel
theorem dX9_seen_14 : decode cX9_seen 14 = .ok (.lconst 0, 1) := by decide +kernel
theorem dX9_seen_15 : decode cX9_seen 15 = .ok (.ldc2_w 198, 3) := by decide +kernel
theorem dX9_seen_18 : decode cX9_seen 18 = .ok (.invokestatic 185, 3) := by decide +kernel
theorem dX9_seen_21 : decode cX9_seen 21 = .ok (.ifCond .ne 9, 3) := by decide +kernel
theorem dX9_seen_24 : decode cX9_seen 24 = .ok (.aload_n 0, 1) := by decide +kernel
theorem dX9_seen_25 : decode cX9_seen 25 = .ok (.iconst (-1), 1) := by decide +kernel
theorem dX9_seen_26 : decode cX9_seen 26 = .ok (.invokevirtual 174, 3) := by decide +kernel
theorem dX9_seen_29 : decode cX9_seen 29 = .ok (.ireturn, 1) := by decide +kernel
theorem dX9_seen_30 : decode cX9_seen 30 = .ok (.aload_n 0, 1) := by decide +kernel
theorem dX9_seen_31 : decode cX9_seen 31 = .ok (.getfield 13, 3) := by decide +kernel
theorem dX9_seen_34 : decode cX9_seen 34 = .ok (.iconst 1, 1) := by decide +kernel
theorem dX9_seen_35 : decode cX9_seen 35 = .ok (.iaload, 1) := by decide +kernel
theorem dX9_seen_36 : decode cX9_seen 36 = .ok (.istore_n 3, 1) := by decide +kernel
theorem dX9_seen_37 : decode cX9_seen 37 = .ok (.iload_n 3, 1) := by decide +kernel
theorem dX9_seen_38 : decode cX9_seen 38 = .ok (.bipush 6, 2) := by decide +kernel
theorem dX9_seen_40 : decode cX9_seen 40 = .ok (.if_icmp .ne 10, 3) := by decide +kernel
theorem dX9_seen_43 : decode cX9_seen 43 = .ok (.aload_n 0, 1) := by decide +kernel
theorem dX9_seen_44 : decode cX9_seen 44 = .ok (.bipush (-5), 2) := by decide +kernel
theorem dX9_seen_46 : decode cX9_seen 46 = .ok (.invokevirtual 174, 3) := by decide +kernel
theorem dX9_seen_49 : decode cX9_seen 49 = .ok (.ireturn, 1) := by decide +kernel
theorem dX9_seen_50 : decode cX9_seen 50 = .ok (.aload_n 0, 1) := by decide +kernel
theorem dX9_seen_51 : decode cX9_seen 51 = .ok (.getfield 13, 3) := by decide +kernel
theorem dX9_seen_54 : decode cX9_seen 54 = .ok (.bipush 71, 2) := by decide +kernel
theorem dX9_seen_56 : decode cX9_seen 56 = .ok (.iconst 2, 1) := by decide +kernel
theorem dX9_seen_57 : decode cX9_seen 57 = .ok (.iload_n 3, 1) := by decide +kernel
theorem dX9_seen_58 : decode cX9_seen 58 = .ok (.imul, 1) := by decide +kernel
theorem dX9_seen_59 : decode cX9_seen 59 = .ok (.iadd, 1) := by decide +kernel
theorem dX9_seen_60 : decode cX9_seen 60 = .ok (.iload_n 1, 1) := by decide +kernel
theorem dX9_seen_61 : decode cX9_seen 61 = .ok (.iastore, 1) := by decide +kernel
theorem dX9_seen_62 : decode cX9_seen 62 = .ok (.aload_n 0, 1) := by decide +kernel
theorem dX9_seen_63 : decode cX9_seen 63 = .ok (.getfield 13, 3) := by decide +kernel
theorem dX9_seen_66 : decode cX9_seen 66 = .ok (.bipush 71, 2) := by decide +kernel
theorem dX9_seen_68 : decode cX9_seen 68 = .ok (.iconst 2, 1) := by decide +kernel
theorem dX9_seen_69 : decode cX9_seen 69 = .ok (.iload_n 3, 1) := by decide +kernel
theorem dX9_seen_70 : decode cX9_seen 70 = .ok (.imul, 1) := by decide +kernel
theorem dX9_seen_71 : decode cX9_seen 71 = .ok (.iadd, 1) := by decide +kernel
theorem dX9_seen_72 : decode cX9_seen 72 = .ok (.iconst 1, 1) := by decide +kernel
theorem dX9_seen_73 : decode cX9_seen 73 = .ok (.iadd, 1) := by decide +kernel
theorem dX9_seen_74 : decode cX9_seen 74 = .ok (.iload_n 2, 1) := by decide +kernel
theorem dX9_seen_75 : decode cX9_seen 75 = .ok (.iastore, 1) := by decide +kernel
theorem dX9_seen_76 : decode cX9_seen 76 = .ok (.aload_n 0, 1) := by decide +kernel
theorem dX9_seen_77 : decode cX9_seen 77 = .ok (.getfield 13, 3) := by decide +kernel
theorem dX9_seen_80 : decode cX9_seen 80 = .ok (.iconst 1, 1) := by decide +kernel
theorem dX9_seen_81 : decode cX9_seen 81 = .ok (.dup2, 1) := by decide +kernel
theorem dX9_seen_82 : decode cX9_seen 82 = .ok (.iaload, 1) := by decide +kernel
theorem dX9_seen_83 : decode cX9_seen 83 = .ok (.iconst 1, 1) := by decide +kernel
theorem dX9_seen_84 : decode cX9_seen 84 = .ok (.iadd, 1) := by decide +kernel
theorem dX9_seen_85 : decode cX9_seen 85 = .ok (.iastore, 1) := by decide +kernel
theorem dX9_seen_86 : decode cX9_seen 86 = .ok (.aload_n 0, 1) := by decide +kernel
theorem dX9_seen_87 : decode cX9_seen 87 = .ok (.iload_n 3, 1) := by decide +kernel
theorem dX9_seen_88 : decode cX9_seen 88 = .ok (.iconst 1, 1) := by decide +kernel
theorem dX9_seen_89 : decode cX9_seen 89 = .ok (.iadd, 1) := by decide +kernel
theorem dX9_seen_90 : decode cX9_seen 90 = .ok (.invokevirtual 174, 3) := by decide +kernel
theorem dX9_seen_93 : decode cX9_seen 93 = .ok (.ireturn, 1) := by decide +kernel
theorem dX9_settle_0 : decode cX9_settle 0 = .ok (.aload_n 0, 1) := by decide +kernel
theorem dX9_settle_1 : decode cX9_settle 1 = .ok (.getfield 286, 3) := by decide +kernel
theorem dX9_settle_4 : decode cX9_settle 4 = .ok (.ifCond .le 97, 3) := by decide +kernel
theorem dX9_settle_7 : decode cX9_settle 7 = .ok (.aload_n 0, 1) := by decide +kernel
theorem dX9_settle_8 : decode cX9_settle 8 = .ok (.getfield 51, 3) := by decide +kernel
theorem dX9_settle_11 : decode cX9_settle 11 = .ok (.aload_n 0, 1) := by decide +kernel
theorem dX9_settle_12 : decode cX9_settle 12 = .ok (.getfield 286, 3) := by decide +kernel
theorem dX9_settle_15 : decode cX9_settle 15 = .ok (.iconst 1, 1) := by decide +kernel
theorem dX9_settle_16 : decode cX9_settle 16 = .ok (.isub, 1) := by decide +kernel
theorem dX9_settle_17 : decode cX9_settle 17 = .ok (.iaload, 1) := by decide +kernel
theorem dX9_settle_18 : decode cX9_settle 18 = .ok (.invokestatic 289, 3) := by decide +kernel
theorem dX9_settle_21 : decode cX9_settle 21 = .ok (.iload_n 1, 1) := by decide +kernel
theorem dX9_settle_22 : decode cX9_settle 22 = .ok (.if_icmp .lt 79, 3) := by decide +kernel
theorem dX9_settle_25 : decode cX9_settle 25 = .ok (.aload_n 0, 1) := by decide +kernel
theorem dX9_settle_26 : decode cX9_settle 26 = .ok (.dup, 1) := by decide +kernel
theorem dX9_settle_27 : decode cX9_settle 27 = .ok (.getfield 286, 3) := by decide +kernel
theorem dX9_settle_30 : decode cX9_settle 30 = .ok (.iconst 1, 1) := by decide +kernel
theorem dX9_settle_31 : decode cX9_settle 31 = .ok (.isub, 1) := by decide +kernel
theorem dX9_settle_32 : decode cX9_settle 32 = .ok (.putfield 286, 3) := by decide +kernel
theorem dX9_settle_35 : decode cX9_settle 35 = .ok (.aload_n 0, 1) := by decide +kernel
theorem dX9_settle_36 : decode cX9_settle 36 = .ok (.getfield 51, 3) := by decide +kernel
theorem dX9_settle_39 : decode cX9_settle 39 = .ok (.aload_n 0, 1) := by decide +kernel
theorem dX9_settle_40 : decode cX9_settle 40 = .ok (.getfield 286, 3) := by decide +kernel
theorem dX9_settle_43 : decode cX9_settle 43 = .ok (.iaload, 1) := by decide +kernel
theorem dX9_settle_44 : decode cX9_settle 44 = .ok (.bipush 29, 2) := by decide +kernel
theorem dX9_settle_46 : decode cX9_settle 46 = .ok (.if_icmp .eq 17, 3) := by decide +kernel
theorem dX9_settle_49 : decode cX9_settle 49 = .ok (.aload_n 0, 1) := by decide +kernel
theorem dX9_settle_50 : decode cX9_settle 50 = .ok (.getfield 51, 3) := by decide +kernel
theorem dX9_settle_53 : decode cX9_settle 53 = .ok (.aload_n 0, 1) := by decide +kernel
theorem dX9_settle_54 : decode cX9_settle 54 = .ok (.getfield 286, 3) := by decide +kernel
theorem dX9_settle_57 : decode cX9_settle 57 = .ok (.iaload, 1) := by decide +kernel
theorem dX9_settle_58 : decode cX9_settle 58 = .ok (.bipush 30, 2) := by decide +kernel
theorem dX9_settle_60 : decode cX9_settle 60 = .ok (.if_icmp .ne 24, 3) := by decide +kernel
theorem dX9_settle_63 : decode cX9_settle 63 = .ok (.aload_n 0, 1) := by decide +kernel
theorem dX9_settle_64 : decode cX9_settle 64 = .ok (.getfield 48, 3) := by decide +kernel
theorem dX9_settle_67 : decode cX9_settle 67 = .ok (.aload_n 0, 1) := by decide +kernel
theorem dX9_settle_68 : decode cX9_settle 68 = .ok (.getfield 54, 3) := by decide +kernel
theorem dX9_settle_71 : decode cX9_settle 71 = .ok (.aload_n 0, 1) := by decide +kernel
theorem dX9_settle_72 : decode cX9_settle 72 = .ok (.getfield 286, 3) := by decide +kernel
theorem dX9_settle_75 : decode cX9_settle 75 = .ok (.iaload, 1) := by decide +kernel
theorem dX9_settle_76 : decode cX9_settle 76 = .ok (.aload_n 0, 1) := by decide +kernel
theorem dX9_settle_77 : decode cX9_settle 77 = .ok (.getfield 283, 3) := by decide +kernel
theorem dX9_settle_80 : decode cX9_settle 80 = .ok (.iastore, 1) := by decide +kernel
theorem dX9_settle_81 : decode cX9_settle 81 = .ok (.goto (-81), 3) := by decide +kernel
theorem dX9_settle_84 : decode cX9_settle 84 = .ok (.aload_n 0, 1) := by decide +kernel
theorem dX9_settle_85 : decode cX9_settle 85 = .ok (.aload_n 0, 1) := by decide +kernel
theorem dX9_settle_86 : decode cX9_settle 86 = .ok (.getfield 51, 3) := by decide +kernel
theorem dX9_settle_89 : decode cX9_settle 89 = .ok (.aload_n 0, 1) := by decide +kernel
theorem dX9_settle_90 : decode cX9_settle 90 = .ok (.getfield 286, 3) := by decide +kernel
theorem dX9_settle_93 : decode cX9_settle 93 = .ok (.iaload, 1) := by decide +kernel
theorem dX9_settle_94 : decode cX9_settle 94 = .ok (.iconst 0, 1) := by decide +kernel
theorem dX9_settle_95 : decode cX9_settle 95 = .ok (.invokevirtual 292, 3) := by decide +kernel
theorem dX9_settle_98 : decode cX9_settle 98 = .ok (.goto (-98), 3) := by decide +kernel
theorem dX9_settle_101 : decode cX9_settle 101 = .ok (.return_, 1) := by decide +kernel
theorem dX9_settled_0 : decode cX9_settled 0 = .ok (.aload_n 0, 1) := by decide +kernel
theorem dX9_settled_1 : decode cX9_settled 1 = .ok (.iload_n 1, 1) := by decide +kernel
theorem dX9_settled_2 : decode cX9_settled 2 = .ok (.ifCond .ge 10, 3) := by decide +kernel
theorem dX9_settled_5 : decode cX9_settled 5 = .ok (.aload_n 0, 1) := by decide +kernel
theorem dX9_settled_6 : decode cX9_settled 6 = .ok (.getfield 171, 3) := by decide +kernel
theorem dX9_settled_9 : decode cX9_settled 9 = .ok (.goto 4, 3) := by decide +kernel
theorem dX9_settled_12 : decode cX9_settled 12 = .ok (.iconst 0, 1) := by decide +kernel
theorem dX9_settled_13 : decode cX9_settled 13 = .ok (.putfield 171, 3) := by decide +kernel
theorem dX9_settled_16 : decode cX9_settled 16 = .ok (.aload_n 0, 1) := by decide +kernel
theorem dX9_settled_17 : decode cX9_settled 17 = .ok (.iload_n 1, 1) := by decide +kernel
theorem dX9_settled_18 : decode cX9_settled 18 = .ok (.invokevirtual 174, 3) := by decide +kernel
theorem dX9_settled_21 : decode cX9_settled 21 = .ok (.ireturn, 1) := by decide +kernel
theorem dX9_status_0 : decode cX9_status 0 = .ok (.aload_n 0, 1) := by decide +kernel
theorem dX9_status_1 : decode cX9_status 1 = .ok (.iconst 0, 1) := by decide +kernel
theorem dX9_status_2 : decode cX9_status 2 = .ok (.putfield 165, 3) := by decide +kernel
theorem dX9_status_5 : decode cX9_status 5 = .ok (.aload_n 0, 1) := by decide +kernel
theorem dX9_status_6 : decode cX9_status 6 = .ok (.getfield 168, 3) := by decide +kernel
theorem dX9_status_9 : decode cX9_status 9 = .ok (.ireturn, 1) := by decide +kernel
theorem dX9_stopped_0 : decode cX9_stopped 0 = .ok (.aload_n 0, 1) := by decide +kernel
theorem dX9_stopped_1 : decode cX9_stopped 1 = .ok (.iconst 0, 1) := by decide +kernel
theorem dX9_stopped_2 : decode cX9_stopped 2 = .ok (.putfield 165, 3) := by decide +kernel
theorem dX9_stopped_5 : decode cX9_stopped 5 = .ok (.aload_n 0, 1) := by decide +kernel
theorem dX9_stopped_6 : decode cX9_stopped 6 = .ok (.getfield 156, 3) := by decide +kernel
theorem dX9_stopped_9 : decode cX9_stopped 9 = .ok (.ireturn, 1) := by decide +kernel
theorem dX9_strength_0 : decode cX9_strength 0 = .ok (.aload_n 0, 1) := by decide +kernel
theorem dX9_strength_1 : decode cX9_strength 1 = .ok (.iconst 0, 1) := by decide +kernel
theorem dX9_strength_2 : decode cX9_strength 2 = .ok (.putfield 165, 3) := by decide +kernel
theorem dX9_strength_5 : decode cX9_strength 5 = .ok (.iload_n 2, 1) := by decide +kernel
theorem dX9_strength_6 : decode cX9_strength 6 = .ok (.invokestatic 213, 3) := by decide +kernel
theorem dX9_strength_9 : decode cX9_strength 9 = .ok (.ifCond .eq 15, 3) := by decide +kernel
theorem dX9_strength_12 : decode cX9_strength 12 = .ok (.iload_n 3, 1) := by decide +kernel
theorem dX9_strength_13 : decode cX9_strength 13 = .ok (.i2l, 1) := by decide +kernel
theorem dX9_strength_14 : decode cX9_strength 14 = .ok (.lconst 0, 1) := by decide +kernel
theorem dX9_strength_15 : decode cX9_strength 15 = .ok (.ldc2_w 198, 3) := by decide +kernel
theorem dX9_strength_18 : decode cX9_strength 18 = .ok (.invokestatic 185, 3) := by decide +kernel
theorem dX9_strength_21 : decode cX9_strength 21 = .ok (.ifCond .ne 9, 3) := by decide +kernel
theorem dX9_strength_24 : decode cX9_strength 24 = .ok (.aload_n 0, 1) := by decide +kernel
theorem dX9_strength_25 : decode cX9_strength 25 = .ok (.iconst (-1), 1) := by decide +kernel
theorem dX9_strength_26 : decode cX9_strength 26 = .ok (.invokevirtual 174, 3) := by decide +kernel
theorem dX9_strength_29 : decode cX9_strength 29 = .ok (.ireturn, 1) := by decide +kernel
theorem dX9_strength_30 : decode cX9_strength 30 = .ok (.aload_n 0, 1) := by decide +kernel
theorem dX9_strength_31 : decode cX9_strength 31 = .ok (.iload_n 1, 1) := by decide +kernel
theorem dX9_strength_32 : decode cX9_strength 32 = .ok (.invokevirtual 200, 3) := by decide +kernel
theorem dX9_strength_35 : decode cX9_strength 35 = .ok (.ifCond .eq 19, 3) := by decide +kernel
theorem dX9_strength_38 : decode cX9_strength 38 = .ok (.aload_n 0, 1) := by decide +kernel
theorem dX9_strength_39 : decode cX9_strength 39 = .ok (.bipush 36, 2) := by decide +kernel
theorem dX9_strength_41 : decode cX9_strength 41 = .ok (.iconst 4, 1) := by decide +kernel
theorem dX9_strength_42 : decode cX9_strength 42 = .ok (.iload_n 1, 1) := by decide +kernel
theorem dX9_strength_43 : decode cX9_strength 43 = .ok (.imul, 1) := by decide +kernel
theorem dX9_strength_44 : decode cX9_strength 44 = .ok (.iadd, 1) := by decide +kernel
theorem dX9_strength_45 : decode cX9_strength 45 = .ok (.iload_n 2, 1) := by decide +kernel
theorem dX9_strength_46 : decode cX9_strength 46 = .ok (.iadd, 1) := by decide +kernel
theorem dX9_strength_47 : decode cX9_strength 47 = .ok (.iload_n 3, 1) := by decide +kernel
theorem dX9_strength_48 : decode cX9_strength 48 = .ok (.invokevirtual 216, 3) := by decide +kernel
theorem dX9_strength_51 : decode cX9_strength 51 = .ok (.goto 9, 3) := by decide +kernel
theorem dX9_strength_54 : decode cX9_strength 54 = .ok (.aload_n 0, 1) := by decide +kernel
theorem dX9_strength_55 : decode cX9_strength 55 = .ok (.bipush (-2), 2) := by decide +kernel
theorem dX9_strength_57 : decode cX9_strength 57 = .ok (.invokevirtual 174, 3) := by decide +kernel
theorem dX9_strength_60 : decode cX9_strength 60 = .ok (.ireturn, 1) := by decide +kernel
theorem dX9_sumOf_0 : decode cX9_sumOf 0 = .ok (.iconst 0, 1) := by decide +kernel
theorem dX9_sumOf_1 : decode cX9_sumOf 1 = .ok (.istore_n 3, 1) := by decide +kernel
theorem dX9_sumOf_2 : decode cX9_sumOf 2 = .ok (.iconst 0, 1) := by decide +kernel
theorem dX9_sumOf_3 : decode cX9_sumOf 3 = .ok (.istore 4, 2) := by decide +kernel
theorem dX9_sumOf_5 : decode cX9_sumOf 5 = .ok (.iload 4, 2) := by decide +kernel
theorem dX9_sumOf_7 : decode cX9_sumOf 7 = .ok (.iload_n 2, 1) := by decide +kernel
theorem dX9_sumOf_8 : decode cX9_sumOf 8 = .ok (.if_icmp .ge 21, 3) := by decide +kernel
theorem dX9_sumOf_11 : decode cX9_sumOf 11 = .ok (.iload_n 3, 1) := by decide +kernel
theorem dX9_sumOf_12 : decode cX9_sumOf 12 = .ok (.aload_n 0, 1) := by decide +kernel
theorem dX9_sumOf_13 : decode cX9_sumOf 13 = .ok (.getfield 13, 3) := by decide +kernel
theorem dX9_sumOf_16 : decode cX9_sumOf 16 = .ok (.iload_n 1, 1) := by decide +kernel
theorem dX9_sumOf_17 : decode cX9_sumOf 17 = .ok (.iload 4, 2) := by decide +kernel
theorem dX9_sumOf_19 : decode cX9_sumOf 19 = .ok (.iadd, 1) := by decide +kernel
theorem dX9_sumOf_20 : decode cX9_sumOf 20 = .ok (.iaload, 1) := by decide +kernel
theorem dX9_sumOf_21 : decode cX9_sumOf 21 = .ok (.iadd, 1) := by decide +kernel
theorem dX9_sumOf_22 : decode cX9_sumOf 22 = .ok (.istore_n 3, 1) := by decide +kernel
theorem dX9_sumOf_23 : decode cX9_sumOf 23 = .ok (.iinc 4 1, 3) := by decide +kernel
theorem dX9_sumOf_26 : decode cX9_sumOf 26 = .ok (.goto (-21), 3) := by decide +kernel
theorem dX9_sumOf_29 : decode cX9_sumOf 29 = .ok (.iload_n 3, 1) := by decide +kernel
theorem dX9_sumOf_30 : decode cX9_sumOf 30 = .ok (.ireturn, 1) := by decide +kernel
theorem dX9_take_0 : decode cX9_take 0 = .ok (.aload_n 0, 1) := by decide +kernel
theorem dX9_take_1 : decode cX9_take 1 = .ok (.iconst 0, 1) := by decide +kernel
theorem dX9_take_2 : decode cX9_take 2 = .ok (.putfield 165, 3) := by decide +kernel
theorem dX9_take_5 : decode cX9_take 5 = .ok (.aload_n 0, 1) := by decide +kernel
theorem dX9_take_6 : decode cX9_take 6 = .ok (.aload_n 0, 1) := by decide +kernel
theorem dX9_take_7 : decode cX9_take 7 = .ok (.iload_n 1, 1) := by decide +kernel
theorem dX9_take_8 : decode cX9_take 8 = .ok (.invokevirtual 455, 3) := by decide +kernel
theorem dX9_take_11 : decode cX9_take 11 = .ok (.invokevirtual 174, 3) := by decide +kernel
theorem dX9_take_14 : decode cX9_take 14 = .ok (.ireturn, 1) := by decide +kernel
theorem dX9_takeIt_0 : decode cX9_takeIt 0 = .ok (.aload_n 0, 1) := by decide +kernel
theorem dX9_takeIt_1 : decode cX9_takeIt 1 = .ok (.getfield 13, 3) := by decide +kernel
theorem dX9_takeIt_4 : decode cX9_takeIt 4 = .ok (.bipush 15, 2) := by decide +kernel
theorem dX9_takeIt_6 : decode cX9_takeIt 6 = .ok (.iload_n 1, 1) := by decide +kernel
theorem dX9_takeIt_7 : decode cX9_takeIt 7 = .ok (.iadd, 1) := by decide +kernel
theorem dX9_takeIt_8 : decode cX9_takeIt 8 = .ok (.aload_n 0, 1) := by decide +kernel
theorem dX9_takeIt_9 : decode cX9_takeIt 9 = .ok (.getfield 13, 3) := by decide +kernel
theorem dX9_takeIt_12 : decode cX9_takeIt 12 = .ok (.bipush 15, 2) := by decide +kernel
theorem dX9_takeIt_14 : decode cX9_takeIt 14 = .ok (.iload_n 1, 1) := by decide +kernel
theorem dX9_takeIt_15 : decode cX9_takeIt 15 = .ok (.iadd, 1) := by decide +kernel
theorem dX9_takeIt_16 : decode cX9_takeIt 16 = .ok (.iaload, 1) := by decide +kernel
theorem dX9_takeIt_17 : decode cX9_takeIt 17 = .ok (.aload_n 0, 1) := by decide +kernel
theorem dX9_takeIt_18 : decode cX9_takeIt 18 = .ok (.getfield 13, 3) := by decide +kernel
theorem dX9_takeIt_21 : decode cX9_takeIt 21 = .ok (.bipush 7, 2) := by decide +kernel
theorem dX9_takeIt_23 : decode cX9_takeIt 23 = .ok (.iaload, 1) := by decide +kernel
theorem dX9_takeIt_24 : decode cX9_takeIt 24 = .ok (.iadd, 1) := by decide +kernel
theorem dX9_takeIt_25 : decode cX9_takeIt 25 = .ok (.i2l, 1) := by decide +kernel
theorem dX9_takeIt_26 : decode cX9_takeIt 26 = .ok (.iconst 0, 1) := by decide +kernel
theorem dX9_takeIt_27 : decode cX9_takeIt 27 = .ok (.sipush 999, 3) := by decide +kernel
theorem dX9_takeIt_30 : decode cX9_takeIt 30 = .ok (.invokestatic 427, 3) := by decide +kernel
theorem dX9_takeIt_33 : decode cX9_takeIt 33 = .ok (.iastore, 1) := by decide +kernel
theorem dX9_takeIt_34 : decode cX9_takeIt 34 = .ok (.aload_n 0, 1) := by decide +kernel
theorem dX9_takeIt_35 : decode cX9_takeIt 35 = .ok (.getfield 13, 3) := by decide +kernel
theorem dX9_takeIt_38 : decode cX9_takeIt 38 = .ok (.bipush 7, 2) := by decide +kernel
theorem dX9_takeIt_40 : decode cX9_takeIt 40 = .ok (.iconst 0, 1) := by decide +kernel
theorem dX9_takeIt_41 : decode cX9_takeIt 41 = .ok (.iastore, 1) := by decide +kernel
theorem dX9_takeIt_42 : decode cX9_takeIt 42 = .ok (.return_, 1) := by decide +kernel
theorem dX9_takeNow_0 : decode cX9_takeNow 0 = .ok (.aload_n 0, 1) := by decide +kernel
theorem dX9_takeNow_1 : decode cX9_takeNow 1 = .ok (.iload_n 1, 1) := by decide +kernel
theorem dX9_takeNow_2 : decode cX9_takeNow 2 = .ok (.invokevirtual 200, 3) := by decide +kernel
theorem dX9_takeNow_5 : decode cX9_takeNow 5 = .ok (.ifCond .ne 6, 3) := by decide +kernel
theorem dX9_takeNow_8 : decode cX9_takeNow 8 = .ok (.bipush (-2), 2) := by decide +kernel
theorem dX9_takeNow_10 : decode cX9_takeNow 10 = .ok (.ireturn, 1) := by decide +kernel
theorem dX9_takeNow_11 : decode cX9_takeNow 11 = .ok (.aload_n 0, 1) := by decide +kernel
theorem dX9_takeNow_12 : decode cX9_takeNow 12 = .ok (.getfield 13, 3) := by decide +kernel
theorem dX9_takeNow_15 : decode cX9_takeNow 15 = .ok (.bipush 7, 2) := by decide +kernel
theorem dX9_takeNow_17 : decode cX9_takeNow 17 = .ok (.iaload, 1) := by decide +kernel
theorem dX9_takeNow_18 : decode cX9_takeNow 18 = .ok (.istore_n 2, 1) := by decide +kernel
theorem dX9_takeNow_19 : decode cX9_takeNow 19 = .ok (.iload_n 2, 1) := by decide +kernel
theorem dX9_takeNow_20 : decode cX9_takeNow 20 = .ok (.ifCond .ne 6, 3) := by decide +kernel
theorem dX9_takeNow_23 : decode cX9_takeNow 23 = .ok (.bipush (-3), 2) := by decide +kernel
theorem dX9_takeNow_25 : decode cX9_takeNow 25 = .ok (.ireturn, 1) := by decide +kernel
theorem dX9_takeNow_26 : decode cX9_takeNow 26 = .ok (.aload_n 0, 1) := by decide +kernel
theorem dX9_takeNow_27 : decode cX9_takeNow 27 = .ok (.iconst 2, 1) := by decide +kernel
theorem dX9_takeNow_28 : decode cX9_takeNow 28 = .ok (.invokevirtual 440, 3) := by decide +kernel
theorem dX9_takeNow_31 : decode cX9_takeNow 31 = .ok (.aload_n 0, 1) := by decide +kernel
theorem dX9_takeNow_32 : decode cX9_takeNow 32 = .ok (.iload_n 1, 1) := by decide +kernel
theorem dX9_takeNow_33 : decode cX9_takeNow 33 = .ok (.invokevirtual 452, 3) := by decide +kernel
theorem dX9_takeNow_36 : decode cX9_takeNow 36 = .ok (.iload_n 2, 1) := by decide +kernel
theorem dX9_takeNow_37 : decode cX9_takeNow 37 = .ok (.ireturn, 1) := by decide +kernel
theorem dX9_tell_0 : decode cX9_tell 0 = .ok (.aload_n 0, 1) := by decide +kernel
theorem dX9_tell_1 : decode cX9_tell 1 = .ok (.iload_n 1, 1) := by decide +kernel
theorem dX9_tell_2 : decode cX9_tell 2 = .ok (.ifCond .ge 7, 3) := by decide +kernel
theorem dX9_tell_5 : decode cX9_tell 5 = .ok (.iload_n 1, 1) := by decide +kernel
theorem dX9_tell_6 : decode cX9_tell 6 = .ok (.goto 4, 3) := by decide +kernel
theorem dX9_tell_9 : decode cX9_tell 9 = .ok (.iconst 0, 1) := by decide +kernel
theorem dX9_tell_10 : decode cX9_tell 10 = .ok (.putfield 168, 3) := by decide +kernel
theorem dX9_tell_13 : decode cX9_tell 13 = .ok (.iload_n 1, 1) := by decide +kernel
theorem dX9_tell_14 : decode cX9_tell 14 = .ok (.ifCond .ge 14, 3) := by decide +kernel
theorem dX9_tell_17 : decode cX9_tell 17 = .ok (.aload_n 0, 1) := by decide +kernel
theorem dX9_tell_18 : decode cX9_tell 18 = .ok (.getfield 7, 3) := by decide +kernel
theorem dX9_tell_21 : decode cX9_tell 21 = .ok (.iload_n 1, 1) := by decide +kernel
theorem dX9_tell_22 : decode cX9_tell 22 = .ok (.ineg, 1) := by decide +kernel
theorem dX9_tell_23 : decode cX9_tell 23 = .ok (.dup2, 1) := by decide +kernel
theorem dX9_tell_24 : decode cX9_tell 24 = .ok (.iaload, 1) := by decide +kernel
theorem dX9_tell_25 : decode cX9_tell 25 = .ok (.iconst 1, 1) := by decide +kernel
theorem dX9_tell_26 : decode cX9_tell 26 = .ok (.iadd, 1) := by decide +kernel
theorem dX9_tell_27 : decode cX9_tell 27 = .ok (.iastore, 1) := by decide +kernel
theorem dX9_tell_28 : decode cX9_tell 28 = .ok (.iload_n 1, 1) := by decide +kernel
theorem dX9_tell_29 : decode cX9_tell 29 = .ok (.ireturn, 1) := by decide +kernel
theorem dX9_tells_0 : decode cX9_tells 0 = .ok (.aload_n 0, 1) := by decide +kernel
theorem dX9_tells_1 : decode cX9_tells 1 = .ok (.getfield 13, 3) := by decide +kernel
theorem dX9_tells_4 : decode cX9_tells 4 = .ok (.iconst 3, 1) := by decide +kernel
theorem dX9_tells_5 : decode cX9_tells 5 = .ok (.iaload, 1) := by decide +kernel
theorem dX9_tells_6 : decode cX9_tells 6 = .ok (.iconst (-1), 1) := by decide +kernel
theorem dX9_tells_7 : decode cX9_tells 7 = .ok (.if_icmp .ne 6, 3) := by decide +kernel
theorem dX9_tells_10 : decode cX9_tells 10 = .ok (.lload 5, 2) := by decide +kernel
theorem dX9_tells_12 : decode cX9_tells 12 = .ok (.lreturn, 1) := by decide +kernel
theorem dX9_tells_13 : decode cX9_tells 13 = .ok (.aload_n 0, 1) := by decide +kernel
theorem dX9_tells_14 : decode cX9_tells 14 = .ok (.bipush 84, 2) := by decide +kernel
theorem dX9_tells_16 : decode cX9_tells 16 = .ok (.sipush 900, 3) := by decide +kernel
theorem dX9_tells_19 : decode cX9_tells 19 = .ok (.aload_n 0, 1) := by decide +kernel
theorem dX9_tells_20 : decode cX9_tells 20 = .ok (.getfield 13, 3) := by decide +kernel
theorem dX9_tells_23 : decode cX9_tells 23 = .ok (.iconst 3, 1) := by decide +kernel
theorem dX9_tells_24 : decode cX9_tells 24 = .ok (.iaload, 1) := by decide +kernel
theorem dX9_tells_25 : decode cX9_tells 25 = .ok (.imul, 1) := by decide +kernel
theorem dX9_tells_26 : decode cX9_tells 26 = .ok (.iadd, 1) := by decide +kernel
theorem dX9_tells_27 : decode cX9_tells 27 = .ok (.putfield 400, 3) := by decide +kernel
theorem dX9_tells_30 : decode cX9_tells 30 = .ok (.aload_n 0, 1) := by decide +kernel
theorem dX9_tells_31 : decode cX9_tells 31 = .ok (.getfield 99, 3) := by decide +kernel
theorem dX9_tells_34 : decode cX9_tells 34 = .ok (.iconst 1, 1) := by decide +kernel
theorem dX9_tells_35 : decode cX9_tells 35 = .ok (.iload_n 2, 1) := by decide +kernel
theorem dX9_tells_36 : decode cX9_tells 36 = .ok (.i2l, 1) := by decide +kernel
theorem dX9_tells_37 : decode cX9_tells 37 = .ok (.lastore, 1) := by decide +kernel
theorem dX9_tells_38 : decode cX9_tells 38 = .ok (.aload_n 0, 1) := by decide +kernel
theorem dX9_tells_39 : decode cX9_tells 39 = .ok (.getfield 99, 3) := by decide +kernel
theorem dX9_tells_42 : decode cX9_tells 42 = .ok (.iconst 2, 1) := by decide +kernel
theorem dX9_tells_43 : decode cX9_tells 43 = .ok (.iload_n 3, 1) := by decide +kernel
theorem dX9_tells_44 : decode cX9_tells 44 = .ok (.i2l, 1) := by decide +kernel
theorem dX9_tells_45 : decode cX9_tells 45 = .ok (.lastore, 1) := by decide +kernel
theorem dX9_tells_46 : decode cX9_tells 46 = .ok (.aload_n 0, 1) := by decide +kernel
theorem dX9_tells_47 : decode cX9_tells 47 = .ok (.getfield 99, 3) := by decide +kernel
theorem dX9_tells_50 : decode cX9_tells 50 = .ok (.iconst 3, 1) := by decide +kernel
theorem dX9_tells_51 : decode cX9_tells 51 = .ok (.aload_n 0, 1) := by decide +kernel
theorem dX9_tells_52 : decode cX9_tells 52 = .ok (.getfield 13, 3) := by decide +kernel
theorem dX9_tells_55 : decode cX9_tells 55 = .ok (.bipush 36, 2) := by decide +kernel
theorem dX9_tells_57 : decode cX9_tells 57 = .ok (.iconst 4, 1) := by decide +kernel
theorem dX9_tells_58 : decode cX9_tells 58 = .ok (.iload_n 2, 1) := by decide +kernel
theorem dX9_tells_59 : decode cX9_tells 59 = .ok (.imul, 1) := by decide +kernel
theorem dX9_tells_60 : decode cX9_tells 60 = .ok (.iadd, 1) := by decide +kernel
theorem dX9_tells_61 : decode cX9_tells 61 = .ok (.iload_n 3, 1) := by decide +kernel
theorem dX9_tells_62 : decode cX9_tells 62 = .ok (.iadd, 1) := by decide +kernel
theorem dX9_tells_63 : decode cX9_tells 63 = .ok (.iaload, 1) := by decide +kernel
theorem dX9_tells_64 : decode cX9_tells 64 = .ok (.i2l, 1) := by decide +kernel
theorem dX9_tells_65 : decode cX9_tells 65 = .ok (.lastore, 1) := by decide +kernel
theorem dX9_tells_66 : decode cX9_tells 66 = .ok (.aload_n 0, 1) := by decide +kernel
theorem dX9_tells_67 : decode cX9_tells 67 = .ok (.getfield 99, 3) := by decide +kernel
theorem dX9_tells_70 : decode cX9_tells 70 = .ok (.iconst 4, 1) := by decide +kernel
theorem dX9_tells_71 : decode cX9_tells 71 = .ok (.aload_n 0, 1) := by decide +kernel
theorem dX9_tells_72 : decode cX9_tells 72 = .ok (.getfield 13, 3) := by decide +kernel
theorem dX9_tells_75 : decode cX9_tells 75 = .ok (.bipush 8, 2) := by decide +kernel
theorem dX9_tells_77 : decode cX9_tells 77 = .ok (.iload_n 2, 1) := by decide +kernel
theorem dX9_tells_78 : decode cX9_tells 78 = .ok (.iadd, 1) := by decide +kernel
theorem dX9_tells_79 : decode cX9_tells 79 = .ok (.iaload, 1) := by decide +kernel
theorem dX9_tells_80 : decode cX9_tells 80 = .ok (.i2l, 1) := by decide +kernel
theorem dX9_tells_81 : decode cX9_tells 81 = .ok (.lastore, 1) := by decide +kernel
theorem dX9_tells_82 : decode cX9_tells 82 = .ok (.aload_n 0, 1) := by decide +kernel
theorem dX9_tells_83 : decode cX9_tells 83 = .ok (.getfield 99, 3) := by decide +kernel
theorem dX9_tells_86 : decode cX9_tells 86 = .ok (.iconst 5, 1) := by decide +kernel
theorem dX9_tells_87 : decode cX9_tells 87 = .ok (.aload_n 0, 1) := by decide +kernel
theorem dX9_tells_88 : decode cX9_tells 88 = .ok (.getfield 13, 3) := by decide +kernel
theorem dX9_tells_91 : decode cX9_tells 91 = .ok (.bipush 15, 2) := by decide +kernel
theorem dX9_tells_93 : decode cX9_tells 93 = .ok (.iload_n 2, 1) := by decide +kernel
theorem dX9_tells_94 : decode cX9_tells 94 = .ok (.iadd, 1) := by decide +kernel
theorem dX9_tells_95 : decode cX9_tells 95 = .ok (.iaload, 1) := by decide +kernel
theorem dX9_tells_96 : decode cX9_tells 96 = .ok (.i2l, 1) := by decide +kernel
theorem dX9_tells_97 : decode cX9_tells 97 = .ok (.lastore, 1) := by decide +kernel
theorem dX9_tells_98 : decode cX9_tells 98 = .ok (.aload_n 0, 1) := by decide +kernel
theorem dX9_tells_99 : decode cX9_tells 99 = .ok (.getfield 99, 3) := by decide +kernel
theorem dX9_tells_102 : decode cX9_tells 102 = .ok (.bipush 6, 2) := by decide +kernel
theorem dX9_tells_104 : decode cX9_tells 104 = .ok (.iload 4, 2) := by decide +kernel
theorem dX9_tells_106 : decode cX9_tells 106 = .ok (.i2l, 1) := by decide +kernel
theorem dX9_tells_107 : decode cX9_tells 107 = .ok (.lastore, 1) := by decide +kernel
theorem dX9_tells_108 : decode cX9_tells 108 = .ok (.aload_n 0, 1) := by decide +kernel
theorem dX9_tells_109 : decode cX9_tells 109 = .ok (.getfield 99, 3) := by decide +kernel
theorem dX9_tells_112 : decode cX9_tells 112 = .ok (.bipush 7, 2) := by decide +kernel
theorem dX9_tells_114 : decode cX9_tells 114 = .ok (.aload_n 0, 1) := by decide +kernel
theorem dX9_tells_115 : decode cX9_tells 115 = .ok (.getfield 13, 3) := by decide +kernel
theorem dX9_tells_118 : decode cX9_tells 118 = .ok (.bipush 7, 2) := by decide +kernel
theorem dX9_tells_120 : decode cX9_tells 120 = .ok (.iaload, 1) := by decide +kernel
theorem dX9_tells_121 : decode cX9_tells 121 = .ok (.i2l, 1) := by decide +kernel
theorem dX9_tells_122 : decode cX9_tells 122 = .ok (.lastore, 1) := by decide +kernel
theorem dX9_tells_123 : decode cX9_tells 123 = .ok (.aload_n 0, 1) := by decide +kernel
theorem dX9_tells_124 : decode cX9_tells 124 = .ok (.getfield 99, 3) := by decide +kernel
theorem dX9_tells_127 : decode cX9_tells 127 = .ok (.bipush 8, 2) := by decide +kernel
theorem dX9_tells_129 : decode cX9_tells 129 = .ok (.aload_n 0, 1) := by decide +kernel
theorem dX9_tells_130 : decode cX9_tells 130 = .ok (.getfield 13, 3) := by decide +kernel
theorem dX9_tells_133 : decode cX9_tells 133 = .ok (.iconst 4, 1) := by decide +kernel
theorem dX9_tells_134 : decode cX9_tells 134 = .ok (.iaload, 1) := by decide +kernel
theorem dX9_tells_135 : decode cX9_tells 135 = .ok (.i2l, 1) := by decide +kernel
theorem dX9_tells_136 : decode cX9_tells 136 = .ok (.lastore, 1) := by decide +kernel
theorem dX9_tells_137 : decode cX9_tells 137 = .ok (.aload_n 0, 1) := by decide +kernel
theorem dX9_tells_138 : decode cX9_tells 138 = .ok (.getfield 99, 3) := by decide +kernel
theorem dX9_tells_141 : decode cX9_tells 141 = .ok (.bipush 9, 2) := by decide +kernel
theorem dX9_tells_143 : decode cX9_tells 143 = .ok (.aload_n 0, 1) := by decide +kernel
theorem dX9_tells_144 : decode cX9_tells 144 = .ok (.getfield 13, 3) := by decide +kernel
theorem dX9_tells_147 : decode cX9_tells 147 = .ok (.bipush 6, 2) := by decide +kernel
theorem dX9_tells_149 : decode cX9_tells 149 = .ok (.iaload, 1) := by decide +kernel
theorem dX9_tells_150 : decode cX9_tells 150 = .ok (.i2l, 1) := by decide +kernel
theorem dX9_tells_151 : decode cX9_tells 151 = .ok (.lastore, 1) := by decide +kernel
theorem dX9_tells_152 : decode cX9_tells 152 = .ok (.lload 5, 2) := by decide +kernel
theorem dX9_tells_154 : decode cX9_tells 154 = .ok (.lstore 7, 2) := by decide +kernel
theorem dX9_tells_156 : decode cX9_tells 156 = .ok (.iconst 0, 1) := by decide +kernel
theorem dX9_tells_157 : decode cX9_tells 157 = .ok (.istore 9, 2) := by decide +kernel
theorem dX9_tells_159 : decode cX9_tells 159 = .ok (.iload 9, 2) := by decide +kernel
theorem dX9_tells_161 : decode cX9_tells 161 = .ok (.aload_n 0, 1) := by decide +kernel
theorem dX9_tells_162 : decode cX9_tells 162 = .ok (.getfield 13, 3) := by decide +kernel
theorem dX9_tells_165 : decode cX9_tells 165 = .ok (.aload_n 0, 1) := by decide +kernel
theorem dX9_tells_166 : decode cX9_tells 166 = .ok (.getfield 400, 3) := by decide +kernel
theorem dX9_tells_169 : decode cX9_tells 169 = .ok (.iconst 1, 1) := by decide +kernel
theorem dX9_tells_170 : decode cX9_tells 170 = .ok (.iadd, 1) := by decide +kernel
theorem dX9_tells_171 : decode cX9_tells 171 = .ok (.iaload, 1) := by decide +kernel
theorem dX9_tells_172 : decode cX9_tells 172 = .ok (.if_icmp .ge 58, 3) := by decide +kernel
theorem dX9_tells_175 : decode cX9_tells 175 = .ok (.aload_n 0, 1) := by decide +kernel
theorem dX9_tells_176 : decode cX9_tells 176 = .ok (.getfield 400, 3) := by decide +kernel
theorem dX9_tells_179 : decode cX9_tells 179 = .ok (.iconst 2, 1) := by decide +kernel
theorem dX9_tells_180 : decode cX9_tells 180 = .ok (.iadd, 1) := by decide +kernel
theorem dX9_tells_181 : decode cX9_tells 181 = .ok (.bipush 8, 2) := by decide +kernel
theorem dX9_tells_183 : decode cX9_tells 183 = .ok (.iload 9, 2) := by decide +kernel
theorem dX9_tells_185 : decode cX9_tells 185 = .ok (.imul, 1) := by decide +kernel
theorem dX9_tells_186 : decode cX9_tells 186 = .ok (.iadd, 1) := by decide +kernel
theorem dX9_tells_187 : decode cX9_tells 187 = .ok (.istore 10, 2) := by decide +kernel
theorem dX9_tells_189 : decode cX9_tells 189 = .ok (.aload_n 0, 1) := by decide +kernel
theorem dX9_tells_190 : decode cX9_tells 190 = .ok (.getfield 13, 3) := by decide +kernel
theorem dX9_tells_193 : decode cX9_tells 193 = .ok (.iload 10, 2) := by decide +kernel
theorem dX9_tells_195 : decode cX9_tells 195 = .ok (.iaload, 1) := by decide +kernel
theorem dX9_tells_196 : decode cX9_tells 196 = .ok (.iload_n 1, 1) := by decide +kernel
theorem dX9_tells_197 : decode cX9_tells 197 = .ok (.if_icmp .ne 27, 3) := by decide +kernel
theorem dX9_tells_200 : decode cX9_tells 200 = .ok (.aload_n 0, 1) := by decide +kernel
theorem dX9_tells_201 : decode cX9_tells 201 = .ok (.iload 10, 2) := by decide +kernel
theorem dX9_tells_203 : decode cX9_tells 203 = .ok (.invokevirtual 420, 3) := by decide +kernel
theorem dX9_tells_206 : decode cX9_tells 206 = .ok (.ifCond .eq 18, 3) := by decide +kernel
theorem dX9_tells_209 : decode cX9_tells 209 = .ok (.iload_n 1, 1) := by decide +kernel
theorem dX9_tells_210 : decode cX9_tells 210 = .ok (.iconst 3, 1) := by decide +kernel
theorem dX9_tells_211 : decode cX9_tells 211 = .ok (.if_icmp .ne 7, 3) := by decide +kernel
theorem dX9_tells_214 : decode cX9_tells 214 = .ok (.lconst 1, 1) := by decide +kernel
theorem dX9_tells_215 : decode cX9_tells 215 = .ok (.goto 7, 3) := by decide +kernel
theorem dX9_tells_218 : decode cX9_tells 218 = .ok (.aload_n 0, 1) := by decide +kernel
theorem dX9_tells_219 : decode cX9_tells 219 = .ok (.getfield 417, 3) := by decide +kernel
theorem dX9_tells_222 : decode cX9_tells 222 = .ok (.lstore 7, 2) := by decide +kernel
theorem dX9_tells_224 : decode cX9_tells 224 = .ok (.iinc 9 1, 3) := by decide +kernel
theorem dX9_tells_227 : decode cX9_tells 227 = .ok (.goto (-68), 3) := by decide +kernel
theorem dX9_tells_230 : decode cX9_tells 230 = .ok (.lload 7, 2) := by decide +kernel
theorem dX9_tells_232 : decode cX9_tells 232 = .ok (.lreturn, 1) := by decide +kernel
theorem dX9_terms_0 : decode cX9_terms 0 = .ok (.aload_n 0, 1) := by decide +kernel
theorem dX9_terms_1 : decode cX9_terms 1 = .ok (.iconst 0, 1) := by decide +kernel
theorem dX9_terms_2 : decode cX9_terms 2 = .ok (.putfield 165, 3) := by decide +kernel
theorem dX9_terms_5 : decode cX9_terms 5 = .ok (.iload_n 1, 1) := by decide +kernel
theorem dX9_terms_6 : decode cX9_terms 6 = .ok (.ifCond .ne 15, 3) := by decide +kernel
theorem dX9_terms_9 : decode cX9_terms 9 = .ok (.iload_n 2, 1) := by decide +kernel
theorem dX9_terms_10 : decode cX9_terms 10 = .ok (.i2l, 1) := by decide +kernel
theorem dX9_terms_11 : decode cX9_terms 11 = .ok (.lconst 0, 1) := by decide +kernel
theorem dX9_terms_12 : decode cX9_terms 12 = .ok (.ldc2_w 227, 3) := by decide +kernel
theorem dX9_terms_15 : decode cX9_terms 15 = .ok (.invokestatic 185, 3) := by decide +kernel
theorem dX9_terms_18 : decode cX9_terms 18 = .ok (.goto 42, 3) := by decide +kernel
theorem dX9_terms_21 : decode cX9_terms 21 = .ok (.iload_n 1, 1) := by decide +kernel
theorem dX9_terms_22 : decode cX9_terms 22 = .ok (.iconst 1, 1) := by decide +kernel
theorem dX9_terms_23 : decode cX9_terms 23 = .ok (.if_icmp .ne 15, 3) := by decide +kernel
theorem dX9_terms_26 : decode cX9_terms 26 = .ok (.iload_n 2, 1) := by decide +kernel
theorem dX9_terms_27 : decode cX9_terms 27 = .ok (.i2l, 1) := by decide +kernel
theorem dX9_terms_28 : decode cX9_terms 28 = .ok (.lconst 0, 1) := by decide +kernel
theorem dX9_terms_29 : decode cX9_terms 29 = .ok (.ldc2_w 229, 3) := by decide +kernel
theorem dX9_terms_32 : decode cX9_terms 32 = .ok (.invokestatic 185, 3) := by decide +kernel
theorem dX9_terms_35 : decode cX9_terms 35 = .ok (.goto 25, 3) := by decide +kernel
theorem dX9_terms_38 : decode cX9_terms 38 = .ok (.iload_n 1, 1) := by decide +kernel
theorem dX9_terms_39 : decode cX9_terms 39 = .ok (.iconst 2, 1) := by decide +kernel
theorem dX9_terms_40 : decode cX9_terms 40 = .ok (.if_icmp .ne 19, 3) := by decide +kernel
theorem dX9_terms_43 : decode cX9_terms 43 = .ok (.iload_n 2, 1) := by decide +kernel
theorem dX9_terms_44 : decode cX9_terms 44 = .ok (.i2l, 1) := by decide +kernel
theorem dX9_terms_45 : decode cX9_terms 45 = .ok (.lconst 0, 1) := by decide +kernel
theorem dX9_terms_46 : decode cX9_terms 46 = .ok (.ldc2_w 198, 3) := by decide +kernel
theorem dX9_terms_49 : decode cX9_terms 49 = .ok (.invokestatic 185, 3) := by decide +kernel
theorem dX9_terms_52 : decode cX9_terms 52 = .ok (.ifCond .eq 7, 3) := by decide +kernel
theorem dX9_terms_55 : decode cX9_terms 55 = .ok (.iconst 1, 1) := by decide +kernel
theorem dX9_terms_56 : decode cX9_terms 56 = .ok (.goto 4, 3) := by decide +kernel
theorem dX9_terms_59 : decode cX9_terms 59 = .ok (.iconst 0, 1) := by decide +kernel
theorem dX9_terms_60 : decode cX9_terms 60 = .ok (.istore_n 3, 1) := by decide +kernel
theorem dX9_terms_61 : decode cX9_terms 61 = .ok (.iload_n 3, 1) := by decide +kernel
theorem dX9_terms_62 : decode cX9_terms 62 = .ok (.ifCond .ne 9, 3) := by decide +kernel
theorem dX9_terms_65 : decode cX9_terms 65 = .ok (.aload_n 0, 1) := by decide +kernel
theorem dX9_terms_66 : decode cX9_terms 66 = .ok (.iconst (-1), 1) := by decide +kernel
theorem dX9_terms_67 : decode cX9_terms 67 = .ok (.invokevirtual 174, 3) := by decide +kernel
theorem dX9_terms_70 : decode cX9_terms 70 = .ok (.ireturn, 1) := by decide +kernel
theorem dX9_terms_71 : decode cX9_terms 71 = .ok (.aload_n 0, 1) := by decide +kernel
theorem dX9_terms_72 : decode cX9_terms 72 = .ok (.iconst 0, 1) := by decide +kernel
theorem dX9_terms_73 : decode cX9_terms 73 = .ok (.putfield 171, 3) := by decide +kernel
theorem dX9_terms_76 : decode cX9_terms 76 = .ok (.aload_n 0, 1) := by decide +kernel
theorem dX9_terms_77 : decode cX9_terms 77 = .ok (.iconst 4, 1) := by decide +kernel
theorem dX9_terms_78 : decode cX9_terms 78 = .ok (.iload_n 1, 1) := by decide +kernel
theorem dX9_terms_79 : decode cX9_terms 79 = .ok (.iadd, 1) := by decide +kernel
theorem dX9_terms_80 : decode cX9_terms 80 = .ok (.iload_n 2, 1) := by decide +kernel
theorem dX9_terms_81 : decode cX9_terms 81 = .ok (.invokevirtual 216, 3) := by decide +kernel
theorem dX9_terms_84 : decode cX9_terms 84 = .ok (.ireturn, 1) := by decide +kernel
theorem dX9_thatCanBe_0 : decode cX9_thatCanBe 0 = .ok (.iconst 0, 1) := by decide +kernel
theorem dX9_thatCanBe_1 : decode cX9_thatCanBe 1 = .ok (.istore_n 1, 1) := by decide +kernel
theorem dX9_thatCanBe_2 : decode cX9_thatCanBe 2 = .ok (.iconst 0, 1) := by decide +kernel
theorem dX9_thatCanBe_3 : decode cX9_thatCanBe 3 = .ok (.istore_n 2, 1) := by decide +kernel
theorem dX9_thatCanBe_4 : decode cX9_thatCanBe 4 = .ok (.iload_n 2, 1) := by decide +kernel
theorem dX9_thatCanBe_5 : decode cX9_thatCanBe 5 = .ok (.aload_n 0, 1) := by decide +kernel
theorem dX9_thatCanBe_6 : decode cX9_thatCanBe 6 = .ok (.getfield 13, 3) := by decide +kernel
theorem dX9_thatCanBe_9 : decode cX9_thatCanBe 9 = .ok (.iconst 0, 1) := by decide +kernel
theorem dX9_thatCanBe_10 : decode cX9_thatCanBe 10 = .ok (.iaload, 1) := by decide +kernel
theorem dX9_thatCanBe_11 : decode cX9_thatCanBe 11 = .ok (.if_icmp .ge 89, 3) := by decide +kernel
theorem dX9_thatCanBe_14 : decode cX9_thatCanBe 14 = .ok (.iconst 1, 1) := by decide +kernel
theorem dX9_thatCanBe_15 : decode cX9_thatCanBe 15 = .ok (.istore_n 3, 1) := by decide +kernel
theorem dX9_thatCanBe_16 : decode cX9_thatCanBe 16 = .ok (.iconst 0, 1) := by decide +kernel
theorem dX9_thatCanBe_17 : decode cX9_thatCanBe 17 = .ok (.istore 4, 2) := by decide +kernel
theorem dX9_thatCanBe_19 : decode cX9_thatCanBe 19 = .ok (.iload 4, 2) := by decide +kernel
theorem dX9_thatCanBe_21 : decode cX9_thatCanBe 21 = .ok (.aload_n 0, 1) := by decide +kernel
theorem dX9_thatCanBe_22 : decode cX9_thatCanBe 22 = .ok (.getfield 13, 3) := by decide +kernel
theorem dX9_thatCanBe_25 : decode cX9_thatCanBe 25 = .ok (.iconst 1, 1) := by decide +kernel
theorem dX9_thatCanBe_26 : decode cX9_thatCanBe 26 = .ok (.iaload, 1) := by decide +kernel
theorem dX9_thatCanBe_27 : decode cX9_thatCanBe 27 = .ok (.if_icmp .ge 53, 3) := by decide +kernel
theorem dX9_thatCanBe_30 : decode cX9_thatCanBe 30 = .ok (.iload_n 3, 1) := by decide +kernel
theorem dX9_thatCanBe_31 : decode cX9_thatCanBe 31 = .ok (.ifCond .eq 49, 3) := by decide +kernel
theorem dX9_thatCanBe_34 : decode cX9_thatCanBe 34 = .ok (.aload_n 0, 1) := by decide +kernel
theorem dX9_thatCanBe_35 : decode cX9_thatCanBe 35 = .ok (.iload_n 2, 1) := by decide +kernel
theorem dX9_thatCanBe_36 : decode cX9_thatCanBe 36 = .ok (.aload_n 0, 1) := by decide +kernel
theorem dX9_thatCanBe_37 : decode cX9_thatCanBe 37 = .ok (.getfield 13, 3) := by decide +kernel
theorem dX9_thatCanBe_40 : decode cX9_thatCanBe 40 = .ok (.bipush 71, 2) := by decide +kernel
theorem dX9_thatCanBe_42 : decode cX9_thatCanBe 42 = .ok (.iconst 2, 1) := by decide +kernel
theorem dX9_thatCanBe_43 : decode cX9_thatCanBe 43 = .ok (.iload 4, 2) := by decide +kernel
theorem dX9_thatCanBe_45 : decode cX9_thatCanBe 45 = .ok (.imul, 1) := by decide +kernel
theorem dX9_thatCanBe_46 : decode cX9_thatCanBe 46 = .ok (.iadd, 1) := by decide +kernel
theorem dX9_thatCanBe_47 : decode cX9_thatCanBe 47 = .ok (.iaload, 1) := by decide +kernel
theorem dX9_thatCanBe_48 : decode cX9_thatCanBe 48 = .ok (.invokevirtual 437, 3) := by decide +kernel
theorem dX9_thatCanBe_51 : decode cX9_thatCanBe 51 = .ok (.aload_n 0, 1) := by decide +kernel
theorem dX9_thatCanBe_52 : decode cX9_thatCanBe 52 = .ok (.getfield 13, 3) := by decide +kernel
theorem dX9_thatCanBe_55 : decode cX9_thatCanBe 55 = .ok (.bipush 71, 2) := by decide +kernel
theorem dX9_thatCanBe_57 : decode cX9_thatCanBe 57 = .ok (.iconst 2, 1) := by decide +kernel
theorem dX9_thatCanBe_58 : decode cX9_thatCanBe 58 = .ok (.iload 4, 2) := by decide +kernel
theorem dX9_thatCanBe_60 : decode cX9_thatCanBe 60 = .ok (.imul, 1) := by decide +kernel
theorem dX9_thatCanBe_61 : decode cX9_thatCanBe 61 = .ok (.iadd, 1) := by decide +kernel
theorem dX9_thatCanBe_62 : decode cX9_thatCanBe 62 = .ok (.iconst 1, 1) := by decide +kernel
theorem dX9_thatCanBe_63 : decode cX9_thatCanBe 63 = .ok (.iadd, 1) := by decide +kernel
theorem dX9_thatCanBe_64 : decode cX9_thatCanBe 64 = .ok (.iaload, 1) := by decide +kernel
theorem dX9_thatCanBe_65 : decode cX9_thatCanBe 65 = .ok (.if_icmp .ne 7, 3) := by decide +kernel
theorem dX9_thatCanBe_68 : decode cX9_thatCanBe 68 = .ok (.iconst 1, 1) := by decide +kernel
theorem dX9_thatCanBe_69 : decode cX9_thatCanBe 69 = .ok (.goto 4, 3) := by decide +kernel
theorem dX9_thatCanBe_72 : decode cX9_thatCanBe 72 = .ok (.iconst 0, 1) := by decide +kernel
theorem dX9_thatCanBe_73 : decode cX9_thatCanBe 73 = .ok (.istore_n 3, 1) := by decide +kernel
theorem dX9_thatCanBe_74 : decode cX9_thatCanBe 74 = .ok (.iinc 4 1, 3) := by decide +kernel
theorem dX9_thatCanBe_77 : decode cX9_thatCanBe 77 = .ok (.goto (-58), 3) := by decide +kernel
theorem dX9_thatCanBe_80 : decode cX9_thatCanBe 80 = .ok (.iload_n 1, 1) := by decide +kernel
theorem dX9_thatCanBe_81 : decode cX9_thatCanBe 81 = .ok (.iload_n 3, 1) := by decide +kernel
theorem dX9_thatCanBe_82 : decode cX9_thatCanBe 82 = .ok (.ifCond .eq 9, 3) := by decide +kernel
theorem dX9_thatCanBe_85 : decode cX9_thatCanBe 85 = .ok (.iconst 1, 1) := by decide +kernel
theorem dX9_thatCanBe_86 : decode cX9_thatCanBe 86 = .ok (.iload_n 2, 1) := by decide +kernel
theorem dX9_thatCanBe_87 : decode cX9_thatCanBe 87 = .ok (.ishl, 1) := by decide +kernel
theorem dX9_thatCanBe_88 : decode cX9_thatCanBe 88 = .ok (.goto 4, 3) := by decide +kernel
theorem dX9_thatCanBe_91 : decode cX9_thatCanBe 91 = .ok (.iconst 0, 1) := by decide +kernel
theorem dX9_thatCanBe_92 : decode cX9_thatCanBe 92 = .ok (.ior, 1) := by decide +kernel
theorem dX9_thatCanBe_93 : decode cX9_thatCanBe 93 = .ok (.istore_n 1, 1) := by decide +kernel
theorem dX9_thatCanBe_94 : decode cX9_thatCanBe 94 = .ok (.iinc 2 1, 3) := by decide +kernel
theorem dX9_thatCanBe_97 : decode cX9_thatCanBe 97 = .ok (.goto (-93), 3) := by decide +kernel
theorem dX9_thatCanBe_100 : decode cX9_thatCanBe 100 = .ok (.iload_n 1, 1) := by decide +kernel
theorem dX9_thatCanBe_101 : decode cX9_thatCanBe 101 = .ok (.ireturn, 1) := by decide +kernel
theorem dX9_turnsOf_0 : decode cX9_turnsOf 0 = .ok (.aload_n 0, 1) := by decide +kernel
theorem dX9_turnsOf_1 : decode cX9_turnsOf 1 = .ok (.iconst 1, 1) := by decide +kernel
theorem dX9_turnsOf_2 : decode cX9_turnsOf 2 = .ok (.iload_n 1, 1) := by decide +kernel
theorem dX9_turnsOf_3 : decode cX9_turnsOf 3 = .ok (.iload_n 2, 1) := by decide +kernel
theorem dX9_turnsOf_4 : decode cX9_turnsOf 4 = .ok (.iconst 2, 1) := by decide +kernel
theorem dX9_turnsOf_5 : decode cX9_turnsOf 5 = .ok (.aload_n 0, 1) := by decide +kernel
theorem dX9_turnsOf_6 : decode cX9_turnsOf 6 = .ok (.getfield 13, 3) := by decide +kernel
theorem dX9_turnsOf_9 : decode cX9_turnsOf 9 = .ok (.bipush 8, 2) := by decide +kernel
theorem dX9_turnsOf_11 : decode cX9_turnsOf 11 = .ok (.iload_n 1, 1) := by decide +kernel
theorem dX9_turnsOf_12 : decode cX9_turnsOf 12 = .ok (.iadd, 1) := by decide +kernel
theorem dX9_turnsOf_13 : decode cX9_turnsOf 13 = .ok (.iaload, 1) := by decide +kernel
theorem dX9_turnsOf_14 : decode cX9_turnsOf 14 = .ok (.iconst 1, 1) := by decide +kernel
theorem dX9_turnsOf_15 : decode cX9_turnsOf 15 = .ok (.iadd, 1) := by decide +kernel
theorem dX9_turnsOf_16 : decode cX9_turnsOf 16 = .ok (.bipush 10, 2) := by decide +kernel
theorem dX9_turnsOf_18 : decode cX9_turnsOf 18 = .ok (.irem, 1) := by decide +kernel
theorem dX9_turnsOf_19 : decode cX9_turnsOf 19 = .ok (.i2l, 1) := by decide +kernel
theorem dX9_turnsOf_20 : decode cX9_turnsOf 20 = .ok (.invokevirtual 423, 3) := by decide +kernel
theorem dX9_turnsOf_23 : decode cX9_turnsOf 23 = .ok (.iconst 0, 1) := by decide +kernel
theorem dX9_turnsOf_24 : decode cX9_turnsOf 24 = .ok (.bipush 9, 2) := by decide +kernel
theorem dX9_turnsOf_26 : decode cX9_turnsOf 26 = .ok (.invokestatic 427, 3) := by decide +kernel
theorem dX9_turnsOf_29 : decode cX9_turnsOf 29 = .ok (.ireturn, 1) := by decide +kernel
theorem dX9_undo_0 : decode cX9_undo 0 = .ok (.aload_n 0, 1) := by decide +kernel
theorem dX9_undo_1 : decode cX9_undo 1 = .ok (.iconst 0, 1) := by decide +kernel
theorem dX9_undo_2 : decode cX9_undo 2 = .ok (.putfield 165, 3) := by decide +kernel
theorem dX9_undo_5 : decode cX9_undo 5 = .ok (.aload_n 0, 1) := by decide +kernel
theorem dX9_undo_6 : decode cX9_undo 6 = .ok (.getfield 171, 3) := by decide +kernel
theorem dX9_undo_9 : decode cX9_undo 9 = .ok (.ifCond .ne 10, 3) := by decide +kernel
theorem dX9_undo_12 : decode cX9_undo 12 = .ok (.aload_n 0, 1) := by decide +kernel
theorem dX9_undo_13 : decode cX9_undo 13 = .ok (.bipush (-3), 2) := by decide +kernel
theorem dX9_undo_15 : decode cX9_undo 15 = .ok (.invokevirtual 174, 3) := by decide +kernel
theorem dX9_undo_18 : decode cX9_undo 18 = .ok (.ireturn, 1) := by decide +kernel
theorem dX9_undo_19 : decode cX9_undo 19 = .ok (.aload_n 0, 1) := by decide +kernel
theorem dX9_undo_20 : decode cX9_undo 20 = .ok (.dup, 1) := by decide +kernel
theorem dX9_undo_21 : decode cX9_undo 21 = .ok (.getfield 171, 3) := by decide +kernel
theorem dX9_undo_24 : decode cX9_undo 24 = .ok (.iconst 1, 1) := by decide +kernel
theorem dX9_undo_25 : decode cX9_undo 25 = .ok (.isub, 1) := by decide +kernel
theorem dX9_undo_26 : decode cX9_undo 26 = .ok (.putfield 171, 3) := by decide +kernel
theorem dX9_undo_29 : decode cX9_undo 29 = .ok (.aload_n 0, 1) := by decide +kernel
theorem dX9_undo_30 : decode cX9_undo 30 = .ok (.aload_n 0, 1) := by decide +kernel
theorem dX9_undo_31 : decode cX9_undo 31 = .ok (.getfield 171, 3) := by decide +kernel
theorem dX9_undo_34 : decode cX9_undo 34 = .ok (.invokevirtual 182, 3) := by decide +kernel
theorem dX9_undo_37 : decode cX9_undo 37 = .ok (.aload_n 0, 1) := by decide +kernel
theorem dX9_undo_38 : decode cX9_undo 38 = .ok (.aload_n 0, 1) := by decide +kernel
theorem dX9_undo_39 : decode cX9_undo 39 = .ok (.getfield 26, 3) := by decide +kernel
theorem dX9_undo_42 : decode cX9_undo 42 = .ok (.aload_n 0, 1) := by decide +kernel
theorem dX9_undo_43 : decode cX9_undo 43 = .ok (.getfield 171, 3) := by decide +kernel
theorem dX9_undo_46 : decode cX9_undo 46 = .ok (.iaload, 1) := by decide +kernel
theorem dX9_undo_47 : decode cX9_undo 47 = .ok (.invokevirtual 174, 3) := by decide +kernel
theorem dX9_undo_50 : decode cX9_undo 50 = .ok (.ireturn, 1) := by decide +kernel
theorem dX9_winsOf_0 : decode cX9_winsOf 0 = .ok (.aload_n 0, 1) := by decide +kernel
theorem dX9_winsOf_1 : decode cX9_winsOf 1 = .ok (.iconst 2, 1) := by decide +kernel
theorem dX9_winsOf_2 : decode cX9_winsOf 2 = .ok (.iload_n 1, 1) := by decide +kernel
theorem dX9_winsOf_3 : decode cX9_winsOf 3 = .ok (.iload_n 2, 1) := by decide +kernel
theorem dX9_winsOf_4 : decode cX9_winsOf 4 = .ok (.iload_n 3, 1) := by decide +kernel
theorem dX9_winsOf_5 : decode cX9_winsOf 5 = .ok (.ldc2_w 431, 3) := by decide +kernel
theorem dX9_winsOf_8 : decode cX9_winsOf 8 = .ok (.iload_n 3, 1) := by decide +kernel
theorem dX9_winsOf_9 : decode cX9_winsOf 9 = .ok (.i2l, 1) := by decide +kernel
theorem dX9_winsOf_10 : decode cX9_winsOf 10 = .ok (.lsub, 1) := by decide +kernel
theorem dX9_winsOf_11 : decode cX9_winsOf 11 = .ok (.invokevirtual 423, 3) := by decide +kernel
theorem dX9_winsOf_14 : decode cX9_winsOf 14 = .ok (.iconst 0, 1) := by decide +kernel
theorem dX9_winsOf_15 : decode cX9_winsOf 15 = .ok (.bipush 9, 2) := by decide +kernel
theorem dX9_winsOf_17 : decode cX9_winsOf 17 = .ok (.invokestatic 427, 3) := by decide +kernel
theorem dX9_winsOf_20 : decode cX9_winsOf 20 = .ok (.ireturn, 1) := by decide +kernel
theorem dX9_within_0 : decode cX9_within 0 = .ok (.lload_n 0, 1) := by decide +kernel
theorem dX9_within_1 : decode cX9_within 1 = .ok (.iload_n 2, 1) := by decide +kernel
theorem dX9_within_2 : decode cX9_within 2 = .ok (.i2l, 1) := by decide +kernel
theorem dX9_within_3 : decode cX9_within 3 = .ok (.lcmp, 1) := by decide +kernel
theorem dX9_within_4 : decode cX9_within 4 = .ok (.ifCond .ge 7, 3) := by decide +kernel
theorem dX9_within_7 : decode cX9_within 7 = .ok (.iload_n 2, 1) := by decide +kernel
theorem dX9_within_8 : decode cX9_within 8 = .ok (.goto 16, 3) := by decide +kernel
theorem dX9_within_11 : decode cX9_within 11 = .ok (.lload_n 0, 1) := by decide +kernel
theorem dX9_within_12 : decode cX9_within 12 = .ok (.iload_n 3, 1) := by decide +kernel
theorem dX9_within_13 : decode cX9_within 13 = .ok (.i2l, 1) := by decide +kernel
theorem dX9_within_14 : decode cX9_within 14 = .ok (.lcmp, 1) := by decide +kernel
theorem dX9_within_15 : decode cX9_within 15 = .ok (.ifCond .le 7, 3) := by decide +kernel
theorem dX9_within_18 : decode cX9_within 18 = .ok (.iload_n 3, 1) := by decide +kernel
theorem dX9_within_19 : decode cX9_within 19 = .ok (.goto 5, 3) := by decide +kernel
theorem dX9_within_22 : decode cX9_within 22 = .ok (.lload_n 0, 1) := by decide +kernel
theorem dX9_within_23 : decode cX9_within 23 = .ok (.l2i, 1) := by decide +kernel
theorem dX9_within_24 : decode cX9_within 24 = .ok (.ireturn, 1) := by decide +kernel
