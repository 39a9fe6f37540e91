def y_within : MethodName := ⟨"FragileRules", "isWithin", "(II)Z"⟩
theorem dF_isWithin_0 : decode prog_1_method_16_code 0 = .ok (.iload_n 0, 1) := by decide +kernel
theorem dF_isWithin_1 : decode prog_1_method_16_code 1 = .ok (.ifCond .lt 12, 3) := by decide +kernel
theorem dF_isWithin_4 : decode prog_1_method_16_code 4 = .ok (.iload_n 0, 1) := by decide +kernel
theorem dF_isWithin_5 : decode prog_1_method_16_code 5 = .ok (.iload_n 1, 1) := by decide +kernel
theorem dF_isWithin_6 : decode prog_1_method_16_code 6 = .ok (.if_icmp .gt 7, 3) := by decide +kernel
theorem dF_isWithin_9 : decode prog_1_method_16_code 9 = .ok (.iconst 1, 1) := by decide +kernel
theorem dF_isWithin_10 : decode prog_1_method_16_code 10 = .ok (.goto 4, 3) := by decide +kernel
theorem dF_isWithin_13 : decode prog_1_method_16_code 13 = .ok (.iconst 0, 1) := by decide +kernel
theorem dF_isWithin_14 : decode prog_1_method_16_code 14 = .ok (.ireturn, 1) := by decide +kernel
def y_has : MethodName := ⟨"FragileRules$Unit", "has", "(I)Z"⟩
theorem dU_has_0 : decode prog_4_method_2_code 0 = .ok (.aload_n 0, 1) := by decide +kernel
theorem dU_has_1 : decode prog_4_method_2_code 1 = .ok (.getfield 16, 3) := by decide +kernel
theorem dU_has_4 : decode prog_4_method_2_code 4 = .ok (.iload_n 1, 1) := by decide +kernel
theorem dU_has_5 : decode prog_4_method_2_code 5 = .ok (.iand, 1) := by decide +kernel
theorem dU_has_6 : decode prog_4_method_2_code 6 = .ok (.ifCond .eq 7, 3) := by decide +kernel
theorem dU_has_9 : decode prog_4_method_2_code 9 = .ok (.iconst 1, 1) := by decide +kernel
theorem dU_has_10 : decode prog_4_method_2_code 10 = .ok (.goto 4, 3) := by decide +kernel
theorem dU_has_13 : decode prog_4_method_2_code 13 = .ok (.iconst 0, 1) := by decide +kernel
theorem dU_has_14 : decode prog_4_method_2_code 14 = .ok (.ireturn, 1) := by decide +kernel
def y_signAt : MethodName := ⟨"FragileRules$Text", "signAt", "(I)I"⟩
theorem dT_signAt_0 : decode prog_3_method_8_code 0 = .ok (.iload_n 1, 1) := by decide +kernel
theorem dT_signAt_1 : decode prog_3_method_8_code 1 = .ok (.ifCond .lt 20, 3) := by decide +kernel
theorem dT_signAt_4 : decode prog_3_method_8_code 4 = .ok (.iload_n 1, 1) := by decide +kernel
theorem dT_signAt_5 : decode prog_3_method_8_code 5 = .ok (.aload_n 0, 1) := by decide +kernel
theorem dT_signAt_6 : decode prog_3_method_8_code 6 = .ok (.getfield 15, 3) := by decide +kernel
theorem dT_signAt_9 : decode prog_3_method_8_code 9 = .ok (.if_icmp .ge 12, 3) := by decide +kernel
theorem dT_signAt_12 : decode prog_3_method_8_code 12 = .ok (.aload_n 0, 1) := by decide +kernel
theorem dT_signAt_13 : decode prog_3_method_8_code 13 = .ok (.getfield 9, 3) := by decide +kernel
theorem dT_signAt_16 : decode prog_3_method_8_code 16 = .ok (.iload_n 1, 1) := by decide +kernel
theorem dT_signAt_17 : decode prog_3_method_8_code 17 = .ok (.iaload, 1) := by decide +kernel
theorem dT_signAt_18 : decode prog_3_method_8_code 18 = .ok (.goto 4, 3) := by decide +kernel
theorem dT_signAt_21 : decode prog_3_method_8_code 21 = .ok (.iconst (-1), 1) := by decide +kernel
theorem dT_signAt_22 : decode prog_3_method_8_code 22 = .ok (.ireturn, 1) := by decide +kernel
def y_digitAt : MethodName := ⟨"FragileRules$Text", "digitAt", "(I)I"⟩
theorem dT_digitAt_0 : decode prog_3_method_7_code 0 = .ok (.aload_n 0, 1) := by decide +kernel
theorem dT_digitAt_1 : decode prog_3_method_7_code 1 = .ok (.iload_n 1, 1) := by decide +kernel
theorem dT_digitAt_2 : decode prog_3_method_7_code 2 = .ok (.invokevirtual 26, 3) := by decide +kernel
theorem dT_digitAt_5 : decode prog_3_method_7_code 5 = .ok (.istore_n 2, 1) := by decide +kernel
theorem dT_digitAt_6 : decode prog_3_method_7_code 6 = .ok (.iload_n 2, 1) := by decide +kernel
theorem dT_digitAt_7 : decode prog_3_method_7_code 7 = .ok (.bipush 48, 2) := by decide +kernel
theorem dT_digitAt_9 : decode prog_3_method_7_code 9 = .ok (.if_icmp .lt 16, 3) := by decide +kernel
theorem dT_digitAt_12 : decode prog_3_method_7_code 12 = .ok (.iload_n 2, 1) := by decide +kernel
theorem dT_digitAt_13 : decode prog_3_method_7_code 13 = .ok (.bipush 57, 2) := by decide +kernel
theorem dT_digitAt_15 : decode prog_3_method_7_code 15 = .ok (.if_icmp .gt 10, 3) := by decide +kernel
theorem dT_digitAt_18 : decode prog_3_method_7_code 18 = .ok (.iload_n 2, 1) := by decide +kernel
theorem dT_digitAt_19 : decode prog_3_method_7_code 19 = .ok (.bipush 48, 2) := by decide +kernel
theorem dT_digitAt_21 : decode prog_3_method_7_code 21 = .ok (.isub, 1) := by decide +kernel
theorem dT_digitAt_22 : decode prog_3_method_7_code 22 = .ok (.goto 4, 3) := by decide +kernel
theorem dT_digitAt_25 : decode prog_3_method_7_code 25 = .ok (.iconst (-1), 1) := by decide +kernel
theorem dT_digitAt_26 : decode prog_3_method_7_code 26 = .ok (.ireturn, 1) := by decide +kernel
def y_rowAt : MethodName := ⟨"FragileRules$Text", "rowAt", "(I)I"⟩
theorem dT_rowAt_0 : decode prog_3_method_5_code 0 = .ok (.aload_n 0, 1) := by decide +kernel
theorem dT_rowAt_1 : decode prog_3_method_5_code 1 = .ok (.iload_n 1, 1) := by decide +kernel
theorem dT_rowAt_2 : decode prog_3_method_5_code 2 = .ok (.invokevirtual 26, 3) := by decide +kernel
theorem dT_rowAt_5 : decode prog_3_method_5_code 5 = .ok (.lookupswitch 51 #[(65, 45), (66, 47), (76, 49), (78, 43)], 43) := by decide +kernel
theorem dT_rowAt_48 : decode prog_3_method_5_code 48 = .ok (.iconst 0, 1) := by decide +kernel
theorem dT_rowAt_49 : decode prog_3_method_5_code 49 = .ok (.ireturn, 1) := by decide +kernel
theorem dT_rowAt_50 : decode prog_3_method_5_code 50 = .ok (.iconst 1, 1) := by decide +kernel
theorem dT_rowAt_51 : decode prog_3_method_5_code 51 = .ok (.ireturn, 1) := by decide +kernel
theorem dT_rowAt_52 : decode prog_3_method_5_code 52 = .ok (.iconst 2, 1) := by decide +kernel
theorem dT_rowAt_53 : decode prog_3_method_5_code 53 = .ok (.ireturn, 1) := by decide +kernel
theorem dT_rowAt_54 : decode prog_3_method_5_code 54 = .ok (.iconst 3, 1) := by decide +kernel
theorem dT_rowAt_55 : decode prog_3_method_5_code 55 = .ok (.ireturn, 1) := by decide +kernel
theorem dT_rowAt_56 : decode prog_3_method_5_code 56 = .ok (.iconst (-1), 1) := by decide +kernel
theorem dT_rowAt_57 : decode prog_3_method_5_code 57 = .ok (.ireturn, 1) := by decide +kernel
def y_numberAt : MethodName := ⟨"FragileRules$Text", "numberAt", "(I)I"⟩
theorem dT_numberAt_0 : decode prog_3_method_6_code 0 = .ok (.aload_n 0, 1) := by decide +kernel
theorem dT_numberAt_1 : decode prog_3_method_6_code 1 = .ok (.iload_n 1, 1) := by decide +kernel
theorem dT_numberAt_2 : decode prog_3_method_6_code 2 = .ok (.invokevirtual 29, 3) := by decide +kernel
theorem dT_numberAt_5 : decode prog_3_method_6_code 5 = .ok (.istore_n 2, 1) := by decide +kernel
theorem dT_numberAt_6 : decode prog_3_method_6_code 6 = .ok (.aload_n 0, 1) := by decide +kernel
theorem dT_numberAt_7 : decode prog_3_method_6_code 7 = .ok (.iload_n 1, 1) := by decide +kernel
theorem dT_numberAt_8 : decode prog_3_method_6_code 8 = .ok (.iconst 1, 1) := by decide +kernel
theorem dT_numberAt_9 : decode prog_3_method_6_code 9 = .ok (.iadd, 1) := by decide +kernel
theorem dT_numberAt_10 : decode prog_3_method_6_code 10 = .ok (.invokevirtual 29, 3) := by decide +kernel
theorem dT_numberAt_13 : decode prog_3_method_6_code 13 = .ok (.istore_n 3, 1) := by decide +kernel
theorem dT_numberAt_14 : decode prog_3_method_6_code 14 = .ok (.iload_n 3, 1) := by decide +kernel
theorem dT_numberAt_15 : decode prog_3_method_6_code 15 = .ok (.iconst (-1), 1) := by decide +kernel
theorem dT_numberAt_16 : decode prog_3_method_6_code 16 = .ok (.if_icmp .ne 7, 3) := by decide +kernel
theorem dT_numberAt_19 : decode prog_3_method_6_code 19 = .ok (.iload_n 2, 1) := by decide +kernel
theorem dT_numberAt_20 : decode prog_3_method_6_code 20 = .ok (.goto 9, 3) := by decide +kernel
theorem dT_numberAt_23 : decode prog_3_method_6_code 23 = .ok (.bipush 10, 2) := by decide +kernel
theorem dT_numberAt_25 : decode prog_3_method_6_code 25 = .ok (.iload_n 2, 1) := by decide +kernel
theorem dT_numberAt_26 : decode prog_3_method_6_code 26 = .ok (.imul, 1) := by decide +kernel
theorem dT_numberAt_27 : decode prog_3_method_6_code 27 = .ok (.iload_n 3, 1) := by decide +kernel
theorem dT_numberAt_28 : decode prog_3_method_6_code 28 = .ok (.iadd, 1) := by decide +kernel
theorem dT_numberAt_29 : decode prog_3_method_6_code 29 = .ok (.ireturn, 1) := by decide +kernel
def y_behind : MethodName := ⟨"FragileRules$Text", "behindLine", "(I)I"⟩
theorem dT_behindLine_0 : decode prog_3_method_4_code 0 = .ok (.aload_n 0, 1) := by decide +kernel
theorem dT_behindLine_1 : decode prog_3_method_4_code 1 = .ok (.iload_n 1, 1) := by decide +kernel
theorem dT_behindLine_2 : decode prog_3_method_4_code 2 = .ok (.invokevirtual 23, 3) := by decide +kernel
theorem dT_behindLine_5 : decode prog_3_method_4_code 5 = .ok (.istore_n 2, 1) := by decide +kernel
theorem dT_behindLine_6 : decode prog_3_method_4_code 6 = .ok (.iload_n 2, 1) := by decide +kernel
theorem dT_behindLine_7 : decode prog_3_method_4_code 7 = .ok (.iconst (-1), 1) := by decide +kernel
theorem dT_behindLine_8 : decode prog_3_method_4_code 8 = .ok (.if_icmp .ne 7, 3) := by decide +kernel
theorem dT_behindLine_11 : decode prog_3_method_4_code 11 = .ok (.iconst (-1), 1) := by decide +kernel
theorem dT_behindLine_12 : decode prog_3_method_4_code 12 = .ok (.iload_n 1, 1) := by decide +kernel
theorem dT_behindLine_13 : decode prog_3_method_4_code 13 = .ok (.isub, 1) := by decide +kernel
theorem dT_behindLine_14 : decode prog_3_method_4_code 14 = .ok (.ireturn, 1) := by decide +kernel
theorem dT_behindLine_15 : decode prog_3_method_4_code 15 = .ok (.aload_n 0, 1) := by decide +kernel
theorem dT_behindLine_16 : decode prog_3_method_4_code 16 = .ok (.iload_n 1, 1) := by decide +kernel
theorem dT_behindLine_17 : decode prog_3_method_4_code 17 = .ok (.iconst 1, 1) := by decide +kernel
theorem dT_behindLine_18 : decode prog_3_method_4_code 18 = .ok (.iadd, 1) := by decide +kernel
theorem dT_behindLine_19 : decode prog_3_method_4_code 19 = .ok (.invokevirtual 26, 3) := by decide +kernel
theorem dT_behindLine_22 : decode prog_3_method_4_code 22 = .ok (.bipush 32, 2) := by decide +kernel
theorem dT_behindLine_24 : decode prog_3_method_4_code 24 = .ok (.if_icmp .eq 8, 3) := by decide +kernel
theorem dT_behindLine_27 : decode prog_3_method_4_code 27 = .ok (.bipush (-2), 2) := by decide +kernel
theorem dT_behindLine_29 : decode prog_3_method_4_code 29 = .ok (.iload_n 1, 1) := by decide +kernel
theorem dT_behindLine_30 : decode prog_3_method_4_code 30 = .ok (.isub, 1) := by decide +kernel
theorem dT_behindLine_31 : decode prog_3_method_4_code 31 = .ok (.ireturn, 1) := by decide +kernel
theorem dT_behindLine_32 : decode prog_3_method_4_code 32 = .ok (.aload_n 0, 1) := by decide +kernel
theorem dT_behindLine_33 : decode prog_3_method_4_code 33 = .ok (.iload_n 1, 1) := by decide +kernel
theorem dT_behindLine_34 : decode prog_3_method_4_code 34 = .ok (.iconst 2, 1) := by decide +kernel
theorem dT_behindLine_35 : decode prog_3_method_4_code 35 = .ok (.iadd, 1) := by decide +kernel
theorem dT_behindLine_36 : decode prog_3_method_4_code 36 = .ok (.invokevirtual 29, 3) := by decide +kernel
theorem dT_behindLine_39 : decode prog_3_method_4_code 39 = .ok (.bipush 7, 2) := by decide +kernel
theorem dT_behindLine_41 : decode prog_3_method_4_code 41 = .ok (.invokestatic 32, 3) := by decide +kernel
theorem dT_behindLine_44 : decode prog_3_method_4_code 44 = .ok (.ifCond .ne 8, 3) := by decide +kernel
theorem dT_behindLine_47 : decode prog_3_method_4_code 47 = .ok (.bipush (-3), 2) := by decide +kernel
theorem dT_behindLine_49 : decode prog_3_method_4_code 49 = .ok (.iload_n 1, 1) := by decide +kernel
theorem dT_behindLine_50 : decode prog_3_method_4_code 50 = .ok (.isub, 1) := by decide +kernel
theorem dT_behindLine_51 : decode prog_3_method_4_code 51 = .ok (.ireturn, 1) := by decide +kernel
theorem dT_behindLine_52 : decode prog_3_method_4_code 52 = .ok (.aload_n 0, 1) := by decide +kernel
theorem dT_behindLine_53 : decode prog_3_method_4_code 53 = .ok (.iload_n 1, 1) := by decide +kernel
theorem dT_behindLine_54 : decode prog_3_method_4_code 54 = .ok (.iconst 3, 1) := by decide +kernel
theorem dT_behindLine_55 : decode prog_3_method_4_code 55 = .ok (.iadd, 1) := by decide +kernel
theorem dT_behindLine_56 : decode prog_3_method_4_code 56 = .ok (.invokevirtual 26, 3) := by decide +kernel
theorem dT_behindLine_59 : decode prog_3_method_4_code 59 = .ok (.bipush 32, 2) := by decide +kernel
theorem dT_behindLine_61 : decode prog_3_method_4_code 61 = .ok (.if_icmp .eq 8, 3) := by decide +kernel
theorem dT_behindLine_64 : decode prog_3_method_4_code 64 = .ok (.bipush (-4), 2) := by decide +kernel
theorem dT_behindLine_66 : decode prog_3_method_4_code 66 = .ok (.iload_n 1, 1) := by decide +kernel
theorem dT_behindLine_67 : decode prog_3_method_4_code 67 = .ok (.isub, 1) := by decide +kernel
theorem dT_behindLine_68 : decode prog_3_method_4_code 68 = .ok (.ireturn, 1) := by decide +kernel
theorem dT_behindLine_69 : decode prog_3_method_4_code 69 = .ok (.aload_n 0, 1) := by decide +kernel
theorem dT_behindLine_70 : decode prog_3_method_4_code 70 = .ok (.iload_n 1, 1) := by decide +kernel
theorem dT_behindLine_71 : decode prog_3_method_4_code 71 = .ok (.iconst 4, 1) := by decide +kernel
theorem dT_behindLine_72 : decode prog_3_method_4_code 72 = .ok (.iadd, 1) := by decide +kernel
theorem dT_behindLine_73 : decode prog_3_method_4_code 73 = .ok (.invokevirtual 29, 3) := by decide +kernel
theorem dT_behindLine_76 : decode prog_3_method_4_code 76 = .ok (.istore_n 3, 1) := by decide +kernel
theorem dT_behindLine_77 : decode prog_3_method_4_code 77 = .ok (.iload_n 3, 1) := by decide +kernel
theorem dT_behindLine_78 : decode prog_3_method_4_code 78 = .ok (.iload_n 2, 1) := by decide +kernel
theorem dT_behindLine_79 : decode prog_3_method_4_code 79 = .ok (.iconst 2, 1) := by decide +kernel
theorem dT_behindLine_80 : decode prog_3_method_4_code 80 = .ok (.if_icmp .eq 8, 3) := by decide +kernel
theorem dT_behindLine_83 : decode prog_3_method_4_code 83 = .ok (.iload_n 2, 1) := by decide +kernel
theorem dT_behindLine_84 : decode prog_3_method_4_code 84 = .ok (.iconst 3, 1) := by decide +kernel
theorem dT_behindLine_85 : decode prog_3_method_4_code 85 = .ok (.if_icmp .ne 8, 3) := by decide +kernel
theorem dT_behindLine_88 : decode prog_3_method_4_code 88 = .ok (.bipush 9, 2) := by decide +kernel
theorem dT_behindLine_90 : decode prog_3_method_4_code 90 = .ok (.goto 5, 3) := by decide +kernel
theorem dT_behindLine_93 : decode prog_3_method_4_code 93 = .ok (.bipush 7, 2) := by decide +kernel
theorem dT_behindLine_95 : decode prog_3_method_4_code 95 = .ok (.invokestatic 32, 3) := by decide +kernel
theorem dT_behindLine_98 : decode prog_3_method_4_code 98 = .ok (.ifCond .ne 8, 3) := by decide +kernel
theorem dT_behindLine_101 : decode prog_3_method_4_code 101 = .ok (.bipush (-5), 2) := by decide +kernel
theorem dT_behindLine_103 : decode prog_3_method_4_code 103 = .ok (.iload_n 1, 1) := by decide +kernel
theorem dT_behindLine_104 : decode prog_3_method_4_code 104 = .ok (.isub, 1) := by decide +kernel
theorem dT_behindLine_105 : decode prog_3_method_4_code 105 = .ok (.ireturn, 1) := by decide +kernel
theorem dT_behindLine_106 : decode prog_3_method_4_code 106 = .ok (.iload_n 2, 1) := by decide +kernel
theorem dT_behindLine_107 : decode prog_3_method_4_code 107 = .ok (.iconst 2, 1) := by decide +kernel
theorem dT_behindLine_108 : decode prog_3_method_4_code 108 = .ok (.if_icmp .ne 22, 3) := by decide +kernel
theorem dT_behindLine_111 : decode prog_3_method_4_code 111 = .ok (.iload_n 3, 1) := by decide +kernel
theorem dT_behindLine_112 : decode prog_3_method_4_code 112 = .ok (.ifCond .eq 18, 3) := by decide +kernel
theorem dT_behindLine_115 : decode prog_3_method_4_code 115 = .ok (.aload_n 0, 1) := by decide +kernel
theorem dT_behindLine_116 : decode prog_3_method_4_code 116 = .ok (.iload_n 1, 1) := by decide +kernel
theorem dT_behindLine_117 : decode prog_3_method_4_code 117 = .ok (.iconst 5, 1) := by decide +kernel
theorem dT_behindLine_118 : decode prog_3_method_4_code 118 = .ok (.iadd, 1) := by decide +kernel
theorem dT_behindLine_119 : decode prog_3_method_4_code 119 = .ok (.invokevirtual 29, 3) := by decide +kernel
theorem dT_behindLine_122 : decode prog_3_method_4_code 122 = .ok (.iconst (-1), 1) := by decide +kernel
theorem dT_behindLine_123 : decode prog_3_method_4_code 123 = .ok (.if_icmp .eq 7, 3) := by decide +kernel
theorem dT_behindLine_126 : decode prog_3_method_4_code 126 = .ok (.iconst 1, 1) := by decide +kernel
theorem dT_behindLine_127 : decode prog_3_method_4_code 127 = .ok (.goto 4, 3) := by decide +kernel
theorem dT_behindLine_130 : decode prog_3_method_4_code 130 = .ok (.iconst 0, 1) := by decide +kernel
theorem dT_behindLine_131 : decode prog_3_method_4_code 131 = .ok (.istore 4, 2) := by decide +kernel
theorem dT_behindLine_133 : decode prog_3_method_4_code 133 = .ok (.iload_n 1, 1) := by decide +kernel
theorem dT_behindLine_134 : decode prog_3_method_4_code 134 = .ok (.iload 4, 2) := by decide +kernel
theorem dT_behindLine_136 : decode prog_3_method_4_code 136 = .ok (.ifCond .eq 8, 3) := by decide +kernel
theorem dT_behindLine_139 : decode prog_3_method_4_code 139 = .ok (.bipush 6, 2) := by decide +kernel
theorem dT_behindLine_141 : decode prog_3_method_4_code 141 = .ok (.goto 4, 3) := by decide +kernel
theorem dT_behindLine_144 : decode prog_3_method_4_code 144 = .ok (.iconst 5, 1) := by decide +kernel
theorem dT_behindLine_145 : decode prog_3_method_4_code 145 = .ok (.iadd, 1) := by decide +kernel
theorem dT_behindLine_146 : decode prog_3_method_4_code 146 = .ok (.istore 5, 2) := by decide +kernel
theorem dT_behindLine_148 : decode prog_3_method_4_code 148 = .ok (.aload_n 0, 1) := by decide +kernel
theorem dT_behindLine_149 : decode prog_3_method_4_code 149 = .ok (.iload 5, 2) := by decide +kernel
theorem dT_behindLine_151 : decode prog_3_method_4_code 151 = .ok (.invokevirtual 26, 3) := by decide +kernel
theorem dT_behindLine_154 : decode prog_3_method_4_code 154 = .ok (.bipush 10, 2) := by decide +kernel
theorem dT_behindLine_156 : decode prog_3_method_4_code 156 = .ok (.if_icmp .ne 10, 3) := by decide +kernel
theorem dT_behindLine_159 : decode prog_3_method_4_code 159 = .ok (.iload 5, 2) := by decide +kernel
theorem dT_behindLine_161 : decode prog_3_method_4_code 161 = .ok (.iconst 1, 1) := by decide +kernel
theorem dT_behindLine_162 : decode prog_3_method_4_code 162 = .ok (.iadd, 1) := by decide +kernel
theorem dT_behindLine_163 : decode prog_3_method_4_code 163 = .ok (.goto 7, 3) := by decide +kernel
theorem dT_behindLine_166 : decode prog_3_method_4_code 166 = .ok (.iconst (-1), 1) := by decide +kernel
theorem dT_behindLine_167 : decode prog_3_method_4_code 167 = .ok (.iload 5, 2) := by decide +kernel
theorem dT_behindLine_169 : decode prog_3_method_4_code 169 = .ok (.isub, 1) := by decide +kernel
theorem dT_behindLine_170 : decode prog_3_method_4_code 170 = .ok (.ireturn, 1) := by decide +kernel
def y_wrongPlace : MethodName := ⟨"FragileRules$Text", "wrongPlace", "()I"⟩
theorem dT_wrongPlace_0 : decode prog_3_method_2_code 0 = .ok (.iconst 0, 1) := by decide +kernel
theorem dT_wrongPlace_1 : decode prog_3_method_2_code 1 = .ok (.istore_n 1, 1) := by decide +kernel
theorem dT_wrongPlace_2 : decode prog_3_method_2_code 2 = .ok (.iconst 0, 1) := by decide +kernel
theorem dT_wrongPlace_3 : decode prog_3_method_2_code 3 = .ok (.istore_n 2, 1) := by decide +kernel
theorem dT_wrongPlace_4 : decode prog_3_method_2_code 4 = .ok (.iload_n 2, 1) := by decide +kernel
theorem dT_wrongPlace_5 : decode prog_3_method_2_code 5 = .ok (.sipush 200, 3) := by decide +kernel
theorem dT_wrongPlace_8 : decode prog_3_method_2_code 8 = .ok (.if_icmp .ge 33, 3) := by decide +kernel
theorem dT_wrongPlace_11 : decode prog_3_method_2_code 11 = .ok (.iload_n 1, 1) := by decide +kernel
theorem dT_wrongPlace_12 : decode prog_3_method_2_code 12 = .ok (.aload_n 0, 1) := by decide +kernel
theorem dT_wrongPlace_13 : decode prog_3_method_2_code 13 = .ok (.getfield 15, 3) := by decide +kernel
theorem dT_wrongPlace_16 : decode prog_3_method_2_code 16 = .ok (.if_icmp .ge 25, 3) := by decide +kernel
theorem dT_wrongPlace_19 : decode prog_3_method_2_code 19 = .ok (.aload_n 0, 1) := by decide +kernel
theorem dT_wrongPlace_20 : decode prog_3_method_2_code 20 = .ok (.iload_n 1, 1) := by decide +kernel
theorem dT_wrongPlace_21 : decode prog_3_method_2_code 21 = .ok (.invokevirtual 19, 3) := by decide +kernel
theorem dT_wrongPlace_24 : decode prog_3_method_2_code 24 = .ok (.istore_n 3, 1) := by decide +kernel
theorem dT_wrongPlace_25 : decode prog_3_method_2_code 25 = .ok (.iload_n 3, 1) := by decide +kernel
theorem dT_wrongPlace_26 : decode prog_3_method_2_code 26 = .ok (.ifCond .ge 7, 3) := by decide +kernel
theorem dT_wrongPlace_29 : decode prog_3_method_2_code 29 = .ok (.iconst (-1), 1) := by decide +kernel
theorem dT_wrongPlace_30 : decode prog_3_method_2_code 30 = .ok (.iload_n 3, 1) := by decide +kernel
theorem dT_wrongPlace_31 : decode prog_3_method_2_code 31 = .ok (.isub, 1) := by decide +kernel
theorem dT_wrongPlace_32 : decode prog_3_method_2_code 32 = .ok (.ireturn, 1) := by decide +kernel
theorem dT_wrongPlace_33 : decode prog_3_method_2_code 33 = .ok (.iload_n 3, 1) := by decide +kernel
theorem dT_wrongPlace_34 : decode prog_3_method_2_code 34 = .ok (.istore_n 1, 1) := by decide +kernel
theorem dT_wrongPlace_35 : decode prog_3_method_2_code 35 = .ok (.iinc 2 1, 3) := by decide +kernel
theorem dT_wrongPlace_38 : decode prog_3_method_2_code 38 = .ok (.goto (-34), 3) := by decide +kernel
theorem dT_wrongPlace_41 : decode prog_3_method_2_code 41 = .ok (.iconst (-1), 1) := by decide +kernel
theorem dT_wrongPlace_42 : decode prog_3_method_2_code 42 = .ok (.ireturn, 1) := by decide +kernel
def y_lineCount : MethodName := ⟨"FragileRules$Text", "lineCount", "()I"⟩
theorem dT_lineCount_0 : decode prog_3_method_3_code 0 = .ok (.iconst 0, 1) := by decide +kernel
theorem dT_lineCount_1 : decode prog_3_method_3_code 1 = .ok (.istore_n 1, 1) := by decide +kernel
theorem dT_lineCount_2 : decode prog_3_method_3_code 2 = .ok (.iconst 0, 1) := by decide +kernel
theorem dT_lineCount_3 : decode prog_3_method_3_code 3 = .ok (.istore_n 2, 1) := by decide +kernel
theorem dT_lineCount_4 : decode prog_3_method_3_code 4 = .ok (.iload_n 2, 1) := by decide +kernel
theorem dT_lineCount_5 : decode prog_3_method_3_code 5 = .ok (.aload_n 0, 1) := by decide +kernel
theorem dT_lineCount_6 : decode prog_3_method_3_code 6 = .ok (.getfield 15, 3) := by decide +kernel
theorem dT_lineCount_9 : decode prog_3_method_3_code 9 = .ok (.if_icmp .ge 23, 3) := by decide +kernel
theorem dT_lineCount_12 : decode prog_3_method_3_code 12 = .ok (.aload_n 0, 1) := by decide +kernel
theorem dT_lineCount_13 : decode prog_3_method_3_code 13 = .ok (.getfield 9, 3) := by decide +kernel
theorem dT_lineCount_16 : decode prog_3_method_3_code 16 = .ok (.iload_n 2, 1) := by decide +kernel
theorem dT_lineCount_17 : decode prog_3_method_3_code 17 = .ok (.iaload, 1) := by decide +kernel
theorem dT_lineCount_18 : decode prog_3_method_3_code 18 = .ok (.bipush 10, 2) := by decide +kernel
theorem dT_lineCount_20 : decode prog_3_method_3_code 20 = .ok (.if_icmp .ne 6, 3) := by decide +kernel
theorem dT_lineCount_23 : decode prog_3_method_3_code 23 = .ok (.iinc 1 1, 3) := by decide +kernel
theorem dT_lineCount_26 : decode prog_3_method_3_code 26 = .ok (.iinc 2 1, 3) := by decide +kernel
theorem dT_lineCount_29 : decode prog_3_method_3_code 29 = .ok (.goto (-25), 3) := by decide +kernel
theorem dT_lineCount_32 : decode prog_3_method_3_code 32 = .ok (.iload_n 1, 1) := by decide +kernel
theorem dT_lineCount_33 : decode prog_3_method_3_code 33 = .ok (.ireturn, 1) := by decide +kernel
def y_isUnit : MethodName := ⟨"FragileRules", "isUnit", "(I)Z"⟩
theorem dF_isUnit_0 : decode prog_1_method_19_code 0 = .ok (.iload_n 1, 1) := by decide +kernel
theorem dF_isUnit_1 : decode prog_1_method_19_code 1 = .ok (.ifCond .lt 15, 3) := by decide +kernel
theorem dF_isUnit_4 : decode prog_1_method_19_code 4 = .ok (.iload_n 1, 1) := by decide +kernel
theorem dF_isUnit_5 : decode prog_1_method_19_code 5 = .ok (.aload_n 0, 1) := by decide +kernel
theorem dF_isUnit_6 : decode prog_1_method_19_code 6 = .ok (.getfield 15, 3) := by decide +kernel
theorem dF_isUnit_9 : decode prog_1_method_19_code 9 = .ok (.if_icmp .ge 7, 3) := by decide +kernel
theorem dF_isUnit_12 : decode prog_1_method_19_code 12 = .ok (.iconst 1, 1) := by decide +kernel
theorem dF_isUnit_13 : decode prog_1_method_19_code 13 = .ok (.goto 4, 3) := by decide +kernel
theorem dF_isUnit_16 : decode prog_1_method_19_code 16 = .ok (.iconst 0, 1) := by decide +kernel
theorem dF_isUnit_17 : decode prog_1_method_19_code 17 = .ok (.ireturn, 1) := by decide +kernel
def y_isRuleNumber : MethodName := ⟨"FragileRules", "isRuleNumber", "(I)Z"⟩
theorem dF_isRuleNumber_0 : decode prog_1_method_20_code 0 = .ok (.iload_n 1, 1) := by decide +kernel
theorem dF_isRuleNumber_1 : decode prog_1_method_20_code 1 = .ok (.iconst 1, 1) := by decide +kernel
theorem dF_isRuleNumber_2 : decode prog_1_method_20_code 2 = .ok (.if_icmp .lt 15, 3) := by decide +kernel
theorem dF_isRuleNumber_5 : decode prog_1_method_20_code 5 = .ok (.iload_n 1, 1) := by decide +kernel
theorem dF_isRuleNumber_6 : decode prog_1_method_20_code 6 = .ok (.aload_n 0, 1) := by decide +kernel
theorem dF_isRuleNumber_7 : decode prog_1_method_20_code 7 = .ok (.getfield 25, 3) := by decide +kernel
theorem dF_isRuleNumber_10 : decode prog_1_method_20_code 10 = .ok (.if_icmp .gt 7, 3) := by decide +kernel
theorem dF_isRuleNumber_13 : decode prog_1_method_20_code 13 = .ok (.iconst 1, 1) := by decide +kernel
theorem dF_isRuleNumber_14 : decode prog_1_method_20_code 14 = .ok (.goto 4, 3) := by decide +kernel
theorem dF_isRuleNumber_17 : decode prog_1_method_20_code 17 = .ok (.iconst 0, 1) := by decide +kernel
theorem dF_isRuleNumber_18 : decode prog_1_method_20_code 18 = .ok (.ireturn, 1) := by decide +kernel
def y_asking : MethodName := ⟨"FragileRules$Rule", "asking", "()I"⟩
theorem dR_asking_0 : decode prog_2_method_2_code 0 = .ok (.aload_n 0, 1) := by decide +kernel
theorem dR_asking_1 : decode prog_2_method_2_code 1 = .ok (.getfield 9, 3) := by decide +kernel
theorem dR_asking_4 : decode prog_2_method_2_code 4 = .ok (.tableswitch 54 1 5 #[36, 54, 54, 38, 40], 36) := by decide +kernel
theorem dR_asking_40 : decode prog_2_method_2_code 40 = .ok (.iconst 1, 1) := by decide +kernel
theorem dR_asking_41 : decode prog_2_method_2_code 41 = .ok (.ireturn, 1) := by decide +kernel
theorem dR_asking_42 : decode prog_2_method_2_code 42 = .ok (.iconst 2, 1) := by decide +kernel
theorem dR_asking_43 : decode prog_2_method_2_code 43 = .ok (.ireturn, 1) := by decide +kernel
theorem dR_asking_44 : decode prog_2_method_2_code 44 = .ok (.aload_n 0, 1) := by decide +kernel
theorem dR_asking_45 : decode prog_2_method_2_code 45 = .ok (.getfield 15, 3) := by decide +kernel
theorem dR_asking_48 : decode prog_2_method_2_code 48 = .ok (.iconst 2, 1) := by decide +kernel
theorem dR_asking_49 : decode prog_2_method_2_code 49 = .ok (.if_icmp .ne 7, 3) := by decide +kernel
theorem dR_asking_52 : decode prog_2_method_2_code 52 = .ok (.iconst 1, 1) := by decide +kernel
theorem dR_asking_53 : decode prog_2_method_2_code 53 = .ok (.goto 4, 3) := by decide +kernel
theorem dR_asking_56 : decode prog_2_method_2_code 56 = .ok (.iconst 0, 1) := by decide +kernel
theorem dR_asking_57 : decode prog_2_method_2_code 57 = .ok (.ireturn, 1) := by decide +kernel
theorem dR_asking_58 : decode prog_2_method_2_code 58 = .ok (.iconst 0, 1) := by decide +kernel
theorem dR_asking_59 : decode prog_2_method_2_code 59 = .ok (.ireturn, 1) := by decide +kernel
def y_doing : MethodName := ⟨"FragileRules$Rule", "refusesByItsDoing", "(LFragileRules$Unit;LFragileRules$Unit;I)Z"⟩
theorem dR_refusesByItsDoing_0 : decode prog_2_method_4_code 0 = .ok (.aload_n 0, 1) := by decide +kernel
theorem dR_refusesByItsDoing_1 : decode prog_2_method_4_code 1 = .ok (.getfield 15, 3) := by decide +kernel
theorem dR_refusesByItsDoing_4 : decode prog_2_method_4_code 4 = .ok (.tableswitch 87 0 2 #[28, 34, 52], 28) := by decide +kernel
theorem dR_refusesByItsDoing_32 : decode prog_2_method_4_code 32 = .ok (.aload_n 1, 1) := by decide +kernel
theorem dR_refusesByItsDoing_33 : decode prog_2_method_4_code 33 = .ok (.iconst 1, 1) := by decide +kernel
theorem dR_refusesByItsDoing_34 : decode prog_2_method_4_code 34 = .ok (.invokevirtual 32, 3) := by decide +kernel
theorem dR_refusesByItsDoing_37 : decode prog_2_method_4_code 37 = .ok (.ireturn, 1) := by decide +kernel
theorem dR_refusesByItsDoing_38 : decode prog_2_method_4_code 38 = .ok (.aload_n 2, 1) := by decide +kernel
theorem dR_refusesByItsDoing_39 : decode prog_2_method_4_code 39 = .ok (.iconst 2, 1) := by decide +kernel
theorem dR_refusesByItsDoing_40 : decode prog_2_method_4_code 40 = .ok (.invokevirtual 32, 3) := by decide +kernel
theorem dR_refusesByItsDoing_43 : decode prog_2_method_4_code 43 = .ok (.ifCond .eq 11, 3) := by decide +kernel
theorem dR_refusesByItsDoing_46 : decode prog_2_method_4_code 46 = .ok (.iload_n 3, 1) := by decide +kernel
theorem dR_refusesByItsDoing_47 : decode prog_2_method_4_code 47 = .ok (.ifCond .eq 7, 3) := by decide +kernel
theorem dR_refusesByItsDoing_50 : decode prog_2_method_4_code 50 = .ok (.iconst 1, 1) := by decide +kernel
theorem dR_refusesByItsDoing_51 : decode prog_2_method_4_code 51 = .ok (.goto 4, 3) := by decide +kernel
theorem dR_refusesByItsDoing_54 : decode prog_2_method_4_code 54 = .ok (.iconst 0, 1) := by decide +kernel
theorem dR_refusesByItsDoing_55 : decode prog_2_method_4_code 55 = .ok (.ireturn, 1) := by decide +kernel
theorem dR_refusesByItsDoing_56 : decode prog_2_method_4_code 56 = .ok (.aload_n 1, 1) := by decide +kernel
theorem dR_refusesByItsDoing_57 : decode prog_2_method_4_code 57 = .ok (.bipush 8, 2) := by decide +kernel
theorem dR_refusesByItsDoing_59 : decode prog_2_method_4_code 59 = .ok (.invokevirtual 32, 3) := by decide +kernel
theorem dR_refusesByItsDoing_62 : decode prog_2_method_4_code 62 = .ok (.ifCond .ne 12, 3) := by decide +kernel
theorem dR_refusesByItsDoing_65 : decode prog_2_method_4_code 65 = .ok (.aload_n 2, 1) := by decide +kernel
theorem dR_refusesByItsDoing_66 : decode prog_2_method_4_code 66 = .ok (.bipush 8, 2) := by decide +kernel
theorem dR_refusesByItsDoing_68 : decode prog_2_method_4_code 68 = .ok (.invokevirtual 32, 3) := by decide +kernel
theorem dR_refusesByItsDoing_71 : decode prog_2_method_4_code 71 = .ok (.ifCond .eq 18, 3) := by decide +kernel
theorem dR_refusesByItsDoing_74 : decode prog_2_method_4_code 74 = .ok (.aload_n 1, 1) := by decide +kernel
theorem dR_refusesByItsDoing_75 : decode prog_2_method_4_code 75 = .ok (.getfield 24, 3) := by decide +kernel
theorem dR_refusesByItsDoing_78 : decode prog_2_method_4_code 78 = .ok (.aload_n 2, 1) := by decide +kernel
theorem dR_refusesByItsDoing_79 : decode prog_2_method_4_code 79 = .ok (.getfield 24, 3) := by decide +kernel
theorem dR_refusesByItsDoing_82 : decode prog_2_method_4_code 82 = .ok (.if_icmp .eq 7, 3) := by decide +kernel
theorem dR_refusesByItsDoing_85 : decode prog_2_method_4_code 85 = .ok (.iconst 1, 1) := by decide +kernel
theorem dR_refusesByItsDoing_86 : decode prog_2_method_4_code 86 = .ok (.goto 4, 3) := by decide +kernel
theorem dR_refusesByItsDoing_89 : decode prog_2_method_4_code 89 = .ok (.iconst 0, 1) := by decide +kernel
theorem dR_refusesByItsDoing_90 : decode prog_2_method_4_code 90 = .ok (.ireturn, 1) := by decide +kernel
theorem dR_refusesByItsDoing_91 : decode prog_2_method_4_code 91 = .ok (.aload_n 1, 1) := by decide +kernel
theorem dR_refusesByItsDoing_92 : decode prog_2_method_4_code 92 = .ok (.iconst 4, 1) := by decide +kernel
theorem dR_refusesByItsDoing_93 : decode prog_2_method_4_code 93 = .ok (.invokevirtual 32, 3) := by decide +kernel
theorem dR_refusesByItsDoing_96 : decode prog_2_method_4_code 96 = .ok (.ifCond .eq 18, 3) := by decide +kernel
theorem dR_refusesByItsDoing_99 : decode prog_2_method_4_code 99 = .ok (.aload_n 1, 1) := by decide +kernel
theorem dR_refusesByItsDoing_100 : decode prog_2_method_4_code 100 = .ok (.getfield 24, 3) := by decide +kernel
theorem dR_refusesByItsDoing_103 : decode prog_2_method_4_code 103 = .ok (.aload_n 2, 1) := by decide +kernel
theorem dR_refusesByItsDoing_104 : decode prog_2_method_4_code 104 = .ok (.getfield 24, 3) := by decide +kernel
theorem dR_refusesByItsDoing_107 : decode prog_2_method_4_code 107 = .ok (.if_icmp .eq 7, 3) := by decide +kernel
theorem dR_refusesByItsDoing_110 : decode prog_2_method_4_code 110 = .ok (.iconst 1, 1) := by decide +kernel
theorem dR_refusesByItsDoing_111 : decode prog_2_method_4_code 111 = .ok (.goto 4, 3) := by decide +kernel
theorem dR_refusesByItsDoing_114 : decode prog_2_method_4_code 114 = .ok (.iconst 0, 1) := by decide +kernel
theorem dR_refusesByItsDoing_115 : decode prog_2_method_4_code 115 = .ok (.ireturn, 1) := by decide +kernel
def y_refuses : MethodName := ⟨"FragileRules$Rule", "refuses", "(LFragileRules$Unit;LFragileRules$Unit;I)Z"⟩
theorem dR_refuses_0 : decode prog_2_method_3_code 0 = .ok (.aload_n 0, 1) := by decide +kernel
theorem dR_refuses_1 : decode prog_2_method_3_code 1 = .ok (.getfield 9, 3) := by decide +kernel
theorem dR_refuses_4 : decode prog_2_method_3_code 4 = .ok (.tableswitch 195 0 4 #[36, 64, 114, 145, 170], 36) := by decide +kernel
theorem dR_refuses_40 : decode prog_2_method_3_code 40 = .ok (.aload_n 2, 1) := by decide +kernel
theorem dR_refuses_41 : decode prog_2_method_3_code 41 = .ok (.getfield 24, 3) := by decide +kernel
theorem dR_refuses_44 : decode prog_2_method_3_code 44 = .ok (.aload_n 0, 1) := by decide +kernel
theorem dR_refuses_45 : decode prog_2_method_3_code 45 = .ok (.getfield 15, 3) := by decide +kernel
theorem dR_refuses_48 : decode prog_2_method_3_code 48 = .ok (.if_icmp .ne 18, 3) := by decide +kernel
theorem dR_refuses_51 : decode prog_2_method_3_code 51 = .ok (.aload_n 1, 1) := by decide +kernel
theorem dR_refuses_52 : decode prog_2_method_3_code 52 = .ok (.getfield 24, 3) := by decide +kernel
theorem dR_refuses_55 : decode prog_2_method_3_code 55 = .ok (.aload_n 0, 1) := by decide +kernel
theorem dR_refuses_56 : decode prog_2_method_3_code 56 = .ok (.getfield 18, 3) := by decide +kernel
theorem dR_refuses_59 : decode prog_2_method_3_code 59 = .ok (.if_icmp .ne 7, 3) := by decide +kernel
theorem dR_refuses_62 : decode prog_2_method_3_code 62 = .ok (.iconst 1, 1) := by decide +kernel
theorem dR_refuses_63 : decode prog_2_method_3_code 63 = .ok (.goto 4, 3) := by decide +kernel
theorem dR_refuses_66 : decode prog_2_method_3_code 66 = .ok (.iconst 0, 1) := by decide +kernel
theorem dR_refuses_67 : decode prog_2_method_3_code 67 = .ok (.ireturn, 1) := by decide +kernel
theorem dR_refuses_68 : decode prog_2_method_3_code 68 = .ok (.aload_n 1, 1) := by decide +kernel
theorem dR_refuses_69 : decode prog_2_method_3_code 69 = .ok (.getfield 24, 3) := by decide +kernel
theorem dR_refuses_72 : decode prog_2_method_3_code 72 = .ok (.aload_n 0, 1) := by decide +kernel
theorem dR_refuses_73 : decode prog_2_method_3_code 73 = .ok (.getfield 15, 3) := by decide +kernel
theorem dR_refuses_76 : decode prog_2_method_3_code 76 = .ok (.if_icmp .ne 14, 3) := by decide +kernel
theorem dR_refuses_79 : decode prog_2_method_3_code 79 = .ok (.aload_n 2, 1) := by decide +kernel
theorem dR_refuses_80 : decode prog_2_method_3_code 80 = .ok (.getfield 24, 3) := by decide +kernel
theorem dR_refuses_83 : decode prog_2_method_3_code 83 = .ok (.aload_n 0, 1) := by decide +kernel
theorem dR_refuses_84 : decode prog_2_method_3_code 84 = .ok (.getfield 18, 3) := by decide +kernel
theorem dR_refuses_87 : decode prog_2_method_3_code 87 = .ok (.if_icmp .eq 25, 3) := by decide +kernel
theorem dR_refuses_90 : decode prog_2_method_3_code 90 = .ok (.aload_n 1, 1) := by decide +kernel
theorem dR_refuses_91 : decode prog_2_method_3_code 91 = .ok (.getfield 24, 3) := by decide +kernel
theorem dR_refuses_94 : decode prog_2_method_3_code 94 = .ok (.aload_n 0, 1) := by decide +kernel
theorem dR_refuses_95 : decode prog_2_method_3_code 95 = .ok (.getfield 18, 3) := by decide +kernel
theorem dR_refuses_98 : decode prog_2_method_3_code 98 = .ok (.if_icmp .ne 18, 3) := by decide +kernel
theorem dR_refuses_101 : decode prog_2_method_3_code 101 = .ok (.aload_n 2, 1) := by decide +kernel
theorem dR_refuses_102 : decode prog_2_method_3_code 102 = .ok (.getfield 24, 3) := by decide +kernel
theorem dR_refuses_105 : decode prog_2_method_3_code 105 = .ok (.aload_n 0, 1) := by decide +kernel
theorem dR_refuses_106 : decode prog_2_method_3_code 106 = .ok (.getfield 15, 3) := by decide +kernel
theorem dR_refuses_109 : decode prog_2_method_3_code 109 = .ok (.if_icmp .ne 7, 3) := by decide +kernel
theorem dR_refuses_112 : decode prog_2_method_3_code 112 = .ok (.iconst 1, 1) := by decide +kernel
theorem dR_refuses_113 : decode prog_2_method_3_code 113 = .ok (.goto 4, 3) := by decide +kernel
theorem dR_refuses_116 : decode prog_2_method_3_code 116 = .ok (.iconst 0, 1) := by decide +kernel
theorem dR_refuses_117 : decode prog_2_method_3_code 117 = .ok (.ireturn, 1) := by decide +kernel
theorem dR_refuses_118 : decode prog_2_method_3_code 118 = .ok (.aload_n 1, 1) := by decide +kernel
theorem dR_refuses_119 : decode prog_2_method_3_code 119 = .ok (.getfield 24, 3) := by decide +kernel
theorem dR_refuses_122 : decode prog_2_method_3_code 122 = .ok (.aload_n 0, 1) := by decide +kernel
theorem dR_refuses_123 : decode prog_2_method_3_code 123 = .ok (.getfield 15, 3) := by decide +kernel
theorem dR_refuses_126 : decode prog_2_method_3_code 126 = .ok (.if_icmp .ne 21, 3) := by decide +kernel
theorem dR_refuses_129 : decode prog_2_method_3_code 129 = .ok (.aload_n 2, 1) := by decide +kernel
theorem dR_refuses_130 : decode prog_2_method_3_code 130 = .ok (.getfield 29, 3) := by decide +kernel
theorem dR_refuses_133 : decode prog_2_method_3_code 133 = .ok (.bipush 10, 2) := by decide +kernel
theorem dR_refuses_135 : decode prog_2_method_3_code 135 = .ok (.aload_n 0, 1) := by decide +kernel
theorem dR_refuses_136 : decode prog_2_method_3_code 136 = .ok (.getfield 18, 3) := by decide +kernel
theorem dR_refuses_139 : decode prog_2_method_3_code 139 = .ok (.imul, 1) := by decide +kernel
theorem dR_refuses_140 : decode prog_2_method_3_code 140 = .ok (.if_icmp .le 7, 3) := by decide +kernel
theorem dR_refuses_143 : decode prog_2_method_3_code 143 = .ok (.iconst 1, 1) := by decide +kernel
theorem dR_refuses_144 : decode prog_2_method_3_code 144 = .ok (.goto 4, 3) := by decide +kernel
theorem dR_refuses_147 : decode prog_2_method_3_code 147 = .ok (.iconst 0, 1) := by decide +kernel
theorem dR_refuses_148 : decode prog_2_method_3_code 148 = .ok (.ireturn, 1) := by decide +kernel
theorem dR_refuses_149 : decode prog_2_method_3_code 149 = .ok (.aload_n 2, 1) := by decide +kernel
theorem dR_refuses_150 : decode prog_2_method_3_code 150 = .ok (.getfield 24, 3) := by decide +kernel
theorem dR_refuses_153 : decode prog_2_method_3_code 153 = .ok (.aload_n 0, 1) := by decide +kernel
theorem dR_refuses_154 : decode prog_2_method_3_code 154 = .ok (.getfield 15, 3) := by decide +kernel
theorem dR_refuses_157 : decode prog_2_method_3_code 157 = .ok (.if_icmp .ne 15, 3) := by decide +kernel
theorem dR_refuses_160 : decode prog_2_method_3_code 160 = .ok (.iload_n 3, 1) := by decide +kernel
theorem dR_refuses_161 : decode prog_2_method_3_code 161 = .ok (.aload_n 0, 1) := by decide +kernel
theorem dR_refuses_162 : decode prog_2_method_3_code 162 = .ok (.getfield 18, 3) := by decide +kernel
theorem dR_refuses_165 : decode prog_2_method_3_code 165 = .ok (.if_icmp .lt 7, 3) := by decide +kernel
theorem dR_refuses_168 : decode prog_2_method_3_code 168 = .ok (.iconst 1, 1) := by decide +kernel
theorem dR_refuses_169 : decode prog_2_method_3_code 169 = .ok (.goto 4, 3) := by decide +kernel
theorem dR_refuses_172 : decode prog_2_method_3_code 172 = .ok (.iconst 0, 1) := by decide +kernel
theorem dR_refuses_173 : decode prog_2_method_3_code 173 = .ok (.ireturn, 1) := by decide +kernel
theorem dR_refuses_174 : decode prog_2_method_3_code 174 = .ok (.iload_n 3, 1) := by decide +kernel
theorem dR_refuses_175 : decode prog_2_method_3_code 175 = .ok (.aload_n 0, 1) := by decide +kernel
theorem dR_refuses_176 : decode prog_2_method_3_code 176 = .ok (.getfield 15, 3) := by decide +kernel
theorem dR_refuses_179 : decode prog_2_method_3_code 179 = .ok (.if_icmp .ne 18, 3) := by decide +kernel
theorem dR_refuses_182 : decode prog_2_method_3_code 182 = .ok (.aload_n 1, 1) := by decide +kernel
theorem dR_refuses_183 : decode prog_2_method_3_code 183 = .ok (.aload_n 0, 1) := by decide +kernel
theorem dR_refuses_184 : decode prog_2_method_3_code 184 = .ok (.getfield 18, 3) := by decide +kernel
theorem dR_refuses_187 : decode prog_2_method_3_code 187 = .ok (.invokevirtual 32, 3) := by decide +kernel
theorem dR_refuses_190 : decode prog_2_method_3_code 190 = .ok (.ifCond .ne 7, 3) := by decide +kernel
theorem dR_refuses_193 : decode prog_2_method_3_code 193 = .ok (.iconst 1, 1) := by decide +kernel
theorem dR_refuses_194 : decode prog_2_method_3_code 194 = .ok (.goto 4, 3) := by decide +kernel
theorem dR_refuses_197 : decode prog_2_method_3_code 197 = .ok (.iconst 0, 1) := by decide +kernel
theorem dR_refuses_198 : decode prog_2_method_3_code 198 = .ok (.ireturn, 1) := by decide +kernel
theorem dR_refuses_199 : decode prog_2_method_3_code 199 = .ok (.aload_n 0, 1) := by decide +kernel
theorem dR_refuses_200 : decode prog_2_method_3_code 200 = .ok (.getfield 18, 3) := by decide +kernel
theorem dR_refuses_203 : decode prog_2_method_3_code 203 = .ok (.iconst 1, 1) := by decide +kernel
theorem dR_refuses_204 : decode prog_2_method_3_code 204 = .ok (.if_icmp .eq 13, 3) := by decide +kernel
theorem dR_refuses_207 : decode prog_2_method_3_code 207 = .ok (.aload_n 0, 1) := by decide +kernel
theorem dR_refuses_208 : decode prog_2_method_3_code 208 = .ok (.aload_n 1, 1) := by decide +kernel
theorem dR_refuses_209 : decode prog_2_method_3_code 209 = .ok (.aload_n 2, 1) := by decide +kernel
theorem dR_refuses_210 : decode prog_2_method_3_code 210 = .ok (.iload_n 3, 1) := by decide +kernel
theorem dR_refuses_211 : decode prog_2_method_3_code 211 = .ok (.invokevirtual 36, 3) := by decide +kernel
theorem dR_refuses_214 : decode prog_2_method_3_code 214 = .ok (.ifCond .eq 7, 3) := by decide +kernel
theorem dR_refuses_217 : decode prog_2_method_3_code 217 = .ok (.iconst 1, 1) := by decide +kernel
theorem dR_refuses_218 : decode prog_2_method_3_code 218 = .ok (.goto 4, 3) := by decide +kernel
theorem dR_refuses_221 : decode prog_2_method_3_code 221 = .ok (.iconst 0, 1) := by decide +kernel
theorem dR_refuses_222 : decode prog_2_method_3_code 222 = .ok (.ireturn, 1) := by decide +kernel
def y_count : MethodName := ⟨"FragileRules", "count", "(I)I"⟩
theorem dF_count_0 : decode prog_1_method_15_code 0 = .ok (.iload_n 1, 1) := by decide +kernel
theorem dF_count_1 : decode prog_1_method_15_code 1 = .ok (.tableswitch 63 0 4 #[35, 40, 45, 53, 58], 35) := by decide +kernel
theorem dF_count_36 : decode prog_1_method_15_code 36 = .ok (.aload_n 0, 1) := by decide +kernel
theorem dF_count_37 : decode prog_1_method_15_code 37 = .ok (.getfield 15, 3) := by decide +kernel
theorem dF_count_40 : decode prog_1_method_15_code 40 = .ok (.ireturn, 1) := by decide +kernel
theorem dF_count_41 : decode prog_1_method_15_code 41 = .ok (.aload_n 0, 1) := by decide +kernel
theorem dF_count_42 : decode prog_1_method_15_code 42 = .ok (.getfield 25, 3) := by decide +kernel
theorem dF_count_45 : decode prog_1_method_15_code 45 = .ok (.ireturn, 1) := by decide +kernel
theorem dF_count_46 : decode prog_1_method_15_code 46 = .ok (.aload_n 0, 1) := by decide +kernel
theorem dF_count_47 : decode prog_1_method_15_code 47 = .ok (.getfield 41, 3) := by decide +kernel
theorem dF_count_50 : decode prog_1_method_15_code 50 = .ok (.getfield 98, 3) := by decide +kernel
theorem dF_count_53 : decode prog_1_method_15_code 53 = .ok (.ireturn, 1) := by decide +kernel
theorem dF_count_54 : decode prog_1_method_15_code 54 = .ok (.aload_n 0, 1) := by decide +kernel
theorem dF_count_55 : decode prog_1_method_15_code 55 = .ok (.getfield 45, 3) := by decide +kernel
theorem dF_count_58 : decode prog_1_method_15_code 58 = .ok (.ireturn, 1) := by decide +kernel
theorem dF_count_59 : decode prog_1_method_15_code 59 = .ok (.aload_n 0, 1) := by decide +kernel
theorem dF_count_60 : decode prog_1_method_15_code 60 = .ok (.getfield 48, 3) := by decide +kernel
theorem dF_count_63 : decode prog_1_method_15_code 63 = .ok (.ireturn, 1) := by decide +kernel
theorem dF_count_64 : decode prog_1_method_15_code 64 = .ok (.iconst (-1), 1) := by decide +kernel
theorem dF_count_65 : decode prog_1_method_15_code 65 = .ok (.ireturn, 1) := by decide +kernel
def y_asked : MethodName := ⟨"FragileRules", "asked", "(I)I"⟩
theorem dF_asked_0 : decode prog_1_method_10_code 0 = .ok (.iload_n 1, 1) := by decide +kernel
theorem dF_asked_1 : decode prog_1_method_10_code 1 = .ok (.ifCond .lt 20, 3) := by decide +kernel
theorem dF_asked_4 : decode prog_1_method_10_code 4 = .ok (.iload_n 1, 1) := by decide +kernel
theorem dF_asked_5 : decode prog_1_method_10_code 5 = .ok (.aload_n 0, 1) := by decide +kernel
theorem dF_asked_6 : decode prog_1_method_10_code 6 = .ok (.getfield 35, 3) := by decide +kernel
theorem dF_asked_9 : decode prog_1_method_10_code 9 = .ok (.if_icmp .ge 12, 3) := by decide +kernel
theorem dF_asked_12 : decode prog_1_method_10_code 12 = .ok (.aload_n 0, 1) := by decide +kernel
theorem dF_asked_13 : decode prog_1_method_10_code 13 = .ok (.getfield 32, 3) := by decide +kernel
theorem dF_asked_16 : decode prog_1_method_10_code 16 = .ok (.iload_n 1, 1) := by decide +kernel
theorem dF_asked_17 : decode prog_1_method_10_code 17 = .ok (.iaload, 1) := by decide +kernel
theorem dF_asked_18 : decode prog_1_method_10_code 18 = .ok (.goto 4, 3) := by decide +kernel
theorem dF_asked_21 : decode prog_1_method_10_code 21 = .ok (.iconst (-1), 1) := by decide +kernel
theorem dF_asked_22 : decode prog_1_method_10_code 22 = .ok (.ireturn, 1) := by decide +kernel
def y_placeIn : MethodName := ⟨"FragileRules", "placeInOrder", "(I)I"⟩
theorem dF_placeInOrder_0 : decode prog_1_method_23_code 0 = .ok (.iconst 0, 1) := by decide +kernel
theorem dF_placeInOrder_1 : decode prog_1_method_23_code 1 = .ok (.istore_n 2, 1) := by decide +kernel
theorem dF_placeInOrder_2 : decode prog_1_method_23_code 2 = .ok (.iload_n 2, 1) := by decide +kernel
theorem dF_placeInOrder_3 : decode prog_1_method_23_code 3 = .ok (.aload_n 0, 1) := by decide +kernel
theorem dF_placeInOrder_4 : decode prog_1_method_23_code 4 = .ok (.getfield 25, 3) := by decide +kernel
theorem dF_placeInOrder_7 : decode prog_1_method_23_code 7 = .ok (.iconst 1, 1) := by decide +kernel
theorem dF_placeInOrder_8 : decode prog_1_method_23_code 8 = .ok (.isub, 1) := by decide +kernel
theorem dF_placeInOrder_9 : decode prog_1_method_23_code 9 = .ok (.if_icmp .ge 19, 3) := by decide +kernel
theorem dF_placeInOrder_12 : decode prog_1_method_23_code 12 = .ok (.aload_n 0, 1) := by decide +kernel
theorem dF_placeInOrder_13 : decode prog_1_method_23_code 13 = .ok (.getfield 28, 3) := by decide +kernel
theorem dF_placeInOrder_16 : decode prog_1_method_23_code 16 = .ok (.iload_n 2, 1) := by decide +kernel
theorem dF_placeInOrder_17 : decode prog_1_method_23_code 17 = .ok (.iaload, 1) := by decide +kernel
theorem dF_placeInOrder_18 : decode prog_1_method_23_code 18 = .ok (.iload_n 1, 1) := by decide +kernel
theorem dF_placeInOrder_19 : decode prog_1_method_23_code 19 = .ok (.if_icmp .eq 9, 3) := by decide +kernel
theorem dF_placeInOrder_22 : decode prog_1_method_23_code 22 = .ok (.iinc 2 1, 3) := by decide +kernel
theorem dF_placeInOrder_25 : decode prog_1_method_23_code 25 = .ok (.goto (-23), 3) := by decide +kernel
theorem dF_placeInOrder_28 : decode prog_1_method_23_code 28 = .ok (.iload_n 2, 1) := by decide +kernel
theorem dF_placeInOrder_29 : decode prog_1_method_23_code 29 = .ok (.ireturn, 1) := by decide +kernel
def y_addRule : MethodName := ⟨"FragileRules", "addRule", "(III)I"⟩
theorem dF_addRule_0 : decode prog_1_method_21_code 0 = .ok (.aload_n 0, 1) := by decide +kernel
theorem dF_addRule_1 : decode prog_1_method_21_code 1 = .ok (.getfield 21, 3) := by decide +kernel
theorem dF_addRule_4 : decode prog_1_method_21_code 4 = .ok (.aload_n 0, 1) := by decide +kernel
theorem dF_addRule_5 : decode prog_1_method_21_code 5 = .ok (.getfield 25, 3) := by decide +kernel
theorem dF_addRule_8 : decode prog_1_method_21_code 8 = .ok (.aaload, 1) := by decide +kernel
theorem dF_addRule_9 : decode prog_1_method_21_code 9 = .ok (.astore 4, 2) := by decide +kernel
theorem dF_addRule_11 : decode prog_1_method_21_code 11 = .ok (.aload 4, 2) := by decide +kernel
theorem dF_addRule_13 : decode prog_1_method_21_code 13 = .ok (.iload_n 1, 1) := by decide +kernel
theorem dF_addRule_14 : decode prog_1_method_21_code 14 = .ok (.putfield 171, 3) := by decide +kernel
theorem dF_addRule_17 : decode prog_1_method_21_code 17 = .ok (.aload 4, 2) := by decide +kernel
theorem dF_addRule_19 : decode prog_1_method_21_code 19 = .ok (.iload_n 2, 1) := by decide +kernel
theorem dF_addRule_20 : decode prog_1_method_21_code 20 = .ok (.putfield 174, 3) := by decide +kernel
theorem dF_addRule_23 : decode prog_1_method_21_code 23 = .ok (.aload 4, 2) := by decide +kernel
theorem dF_addRule_25 : decode prog_1_method_21_code 25 = .ok (.iload_n 3, 1) := by decide +kernel
theorem dF_addRule_26 : decode prog_1_method_21_code 26 = .ok (.putfield 177, 3) := by decide +kernel
theorem dF_addRule_29 : decode prog_1_method_21_code 29 = .ok (.aload_n 0, 1) := by decide +kernel
theorem dF_addRule_30 : decode prog_1_method_21_code 30 = .ok (.getfield 28, 3) := by decide +kernel
theorem dF_addRule_33 : decode prog_1_method_21_code 33 = .ok (.aload_n 0, 1) := by decide +kernel
theorem dF_addRule_34 : decode prog_1_method_21_code 34 = .ok (.getfield 25, 3) := by decide +kernel
theorem dF_addRule_37 : decode prog_1_method_21_code 37 = .ok (.aload_n 0, 1) := by decide +kernel
theorem dF_addRule_38 : decode prog_1_method_21_code 38 = .ok (.getfield 25, 3) := by decide +kernel
theorem dF_addRule_41 : decode prog_1_method_21_code 41 = .ok (.iconst 1, 1) := by decide +kernel
theorem dF_addRule_42 : decode prog_1_method_21_code 42 = .ok (.iadd, 1) := by decide +kernel
theorem dF_addRule_43 : decode prog_1_method_21_code 43 = .ok (.iastore, 1) := by decide +kernel
theorem dF_addRule_44 : decode prog_1_method_21_code 44 = .ok (.aload_n 0, 1) := by decide +kernel
theorem dF_addRule_45 : decode prog_1_method_21_code 45 = .ok (.dup, 1) := by decide +kernel
theorem dF_addRule_46 : decode prog_1_method_21_code 46 = .ok (.getfield 25, 3) := by decide +kernel
theorem dF_addRule_49 : decode prog_1_method_21_code 49 = .ok (.iconst 1, 1) := by decide +kernel
theorem dF_addRule_50 : decode prog_1_method_21_code 50 = .ok (.iadd, 1) := by decide +kernel
theorem dF_addRule_51 : decode prog_1_method_21_code 51 = .ok (.putfield 25, 3) := by decide +kernel
theorem dF_addRule_54 : decode prog_1_method_21_code 54 = .ok (.aload_n 0, 1) := by decide +kernel
theorem dF_addRule_55 : decode prog_1_method_21_code 55 = .ok (.getfield 25, 3) := by decide +kernel
theorem dF_addRule_58 : decode prog_1_method_21_code 58 = .ok (.ireturn, 1) := by decide +kernel
def y_firstRefusing : MethodName := ⟨"FragileRules", "firstRefusing", "(ILFragileRules$Unit;LFragileRules$Unit;I)I"⟩
theorem dF_firstRefusing_0 : decode prog_1_method_26_code 0 = .ok (.aload_n 0, 1) := by decide +kernel
theorem dF_firstRefusing_1 : decode prog_1_method_26_code 1 = .ok (.iconst 0, 1) := by decide +kernel
theorem dF_firstRefusing_2 : decode prog_1_method_26_code 2 = .ok (.putfield 35, 3) := by decide +kernel
theorem dF_firstRefusing_5 : decode prog_1_method_26_code 5 = .ok (.iconst 0, 1) := by decide +kernel
theorem dF_firstRefusing_6 : decode prog_1_method_26_code 6 = .ok (.istore 5, 2) := by decide +kernel
theorem dF_firstRefusing_8 : decode prog_1_method_26_code 8 = .ok (.iload 5, 2) := by decide +kernel
theorem dF_firstRefusing_10 : decode prog_1_method_26_code 10 = .ok (.aload_n 0, 1) := by decide +kernel
theorem dF_firstRefusing_11 : decode prog_1_method_26_code 11 = .ok (.getfield 25, 3) := by decide +kernel
theorem dF_firstRefusing_14 : decode prog_1_method_26_code 14 = .ok (.if_icmp .ge 85, 3) := by decide +kernel
theorem dF_firstRefusing_17 : decode prog_1_method_26_code 17 = .ok (.aload_n 0, 1) := by decide +kernel
theorem dF_firstRefusing_18 : decode prog_1_method_26_code 18 = .ok (.getfield 28, 3) := by decide +kernel
theorem dF_firstRefusing_21 : decode prog_1_method_26_code 21 = .ok (.iload 5, 2) := by decide +kernel
theorem dF_firstRefusing_23 : decode prog_1_method_26_code 23 = .ok (.iaload, 1) := by decide +kernel
theorem dF_firstRefusing_24 : decode prog_1_method_26_code 24 = .ok (.istore 6, 2) := by decide +kernel
theorem dF_firstRefusing_26 : decode prog_1_method_26_code 26 = .ok (.aload_n 0, 1) := by decide +kernel
theorem dF_firstRefusing_27 : decode prog_1_method_26_code 27 = .ok (.getfield 21, 3) := by decide +kernel
theorem dF_firstRefusing_30 : decode prog_1_method_26_code 30 = .ok (.iload 6, 2) := by decide +kernel
theorem dF_firstRefusing_32 : decode prog_1_method_26_code 32 = .ok (.iconst 1, 1) := by decide +kernel
theorem dF_firstRefusing_33 : decode prog_1_method_26_code 33 = .ok (.isub, 1) := by decide +kernel
theorem dF_firstRefusing_34 : decode prog_1_method_26_code 34 = .ok (.aaload, 1) := by decide +kernel
theorem dF_firstRefusing_35 : decode prog_1_method_26_code 35 = .ok (.astore 7, 2) := by decide +kernel
theorem dF_firstRefusing_37 : decode prog_1_method_26_code 37 = .ok (.aload 7, 2) := by decide +kernel
theorem dF_firstRefusing_39 : decode prog_1_method_26_code 39 = .ok (.invokevirtual 204, 3) := by decide +kernel
theorem dF_firstRefusing_42 : decode prog_1_method_26_code 42 = .ok (.iload_n 1, 1) := by decide +kernel
theorem dF_firstRefusing_43 : decode prog_1_method_26_code 43 = .ok (.if_icmp .ne 50, 3) := by decide +kernel
theorem dF_firstRefusing_46 : decode prog_1_method_26_code 46 = .ok (.aload_n 0, 1) := by decide +kernel
theorem dF_firstRefusing_47 : decode prog_1_method_26_code 47 = .ok (.getfield 32, 3) := by decide +kernel
theorem dF_firstRefusing_50 : decode prog_1_method_26_code 50 = .ok (.aload_n 0, 1) := by decide +kernel
theorem dF_firstRefusing_51 : decode prog_1_method_26_code 51 = .ok (.getfield 35, 3) := by decide +kernel
theorem dF_firstRefusing_54 : decode prog_1_method_26_code 54 = .ok (.iload 6, 2) := by decide +kernel
theorem dF_firstRefusing_56 : decode prog_1_method_26_code 56 = .ok (.iastore, 1) := by decide +kernel
theorem dF_firstRefusing_57 : decode prog_1_method_26_code 57 = .ok (.aload_n 0, 1) := by decide +kernel
theorem dF_firstRefusing_58 : decode prog_1_method_26_code 58 = .ok (.dup, 1) := by decide +kernel
theorem dF_firstRefusing_59 : decode prog_1_method_26_code 59 = .ok (.getfield 35, 3) := by decide +kernel
theorem dF_firstRefusing_62 : decode prog_1_method_26_code 62 = .ok (.iconst 1, 1) := by decide +kernel
theorem dF_firstRefusing_63 : decode prog_1_method_26_code 63 = .ok (.iadd, 1) := by decide +kernel
theorem dF_firstRefusing_64 : decode prog_1_method_26_code 64 = .ok (.putfield 35, 3) := by decide +kernel
theorem dF_firstRefusing_67 : decode prog_1_method_26_code 67 = .ok (.aload 7, 2) := by decide +kernel
theorem dF_firstRefusing_69 : decode prog_1_method_26_code 69 = .ok (.aload_n 2, 1) := by decide +kernel
theorem dF_firstRefusing_70 : decode prog_1_method_26_code 70 = .ok (.aload_n 3, 1) := by decide +kernel
theorem dF_firstRefusing_71 : decode prog_1_method_26_code 71 = .ok (.iload 4, 2) := by decide +kernel
theorem dF_firstRefusing_73 : decode prog_1_method_26_code 73 = .ok (.invokevirtual 207, 3) := by decide +kernel
theorem dF_firstRefusing_76 : decode prog_1_method_26_code 76 = .ok (.ifCond .eq 17, 3) := by decide +kernel
theorem dF_firstRefusing_79 : decode prog_1_method_26_code 79 = .ok (.aload 7, 2) := by decide +kernel
theorem dF_firstRefusing_81 : decode prog_1_method_26_code 81 = .ok (.dup, 1) := by decide +kernel
theorem dF_firstRefusing_82 : decode prog_1_method_26_code 82 = .ok (.getfield 151, 3) := by decide +kernel
theorem dF_firstRefusing_85 : decode prog_1_method_26_code 85 = .ok (.iconst 1, 1) := by decide +kernel
theorem dF_firstRefusing_86 : decode prog_1_method_26_code 86 = .ok (.iadd, 1) := by decide +kernel
theorem dF_firstRefusing_87 : decode prog_1_method_26_code 87 = .ok (.putfield 151, 3) := by decide +kernel
theorem dF_firstRefusing_90 : decode prog_1_method_26_code 90 = .ok (.iload 6, 2) := by decide +kernel
theorem dF_firstRefusing_92 : decode prog_1_method_26_code 92 = .ok (.ireturn, 1) := by decide +kernel
theorem dF_firstRefusing_93 : decode prog_1_method_26_code 93 = .ok (.iinc 5 1, 3) := by decide +kernel
theorem dF_firstRefusing_96 : decode prog_1_method_26_code 96 = .ok (.goto (-88), 3) := by decide +kernel
theorem dF_firstRefusing_99 : decode prog_1_method_26_code 99 = .ok (.iconst 0, 1) := by decide +kernel
theorem dF_firstRefusing_100 : decode prog_1_method_26_code 100 = .ok (.ireturn, 1) := by decide +kernel
def y_verdict : MethodName := ⟨"FragileRules", "verdict", "(ILFragileRules$Unit;LFragileRules$Unit;I)I"⟩
theorem dF_verdict_0 : decode prog_1_method_24_code 0 = .ok (.aload_n 0, 1) := by decide +kernel
theorem dF_verdict_1 : decode prog_1_method_24_code 1 = .ok (.iload_n 1, 1) := by decide +kernel
theorem dF_verdict_2 : decode prog_1_method_24_code 2 = .ok (.aload_n 2, 1) := by decide +kernel
theorem dF_verdict_3 : decode prog_1_method_24_code 3 = .ok (.aload_n 3, 1) := by decide +kernel
theorem dF_verdict_4 : decode prog_1_method_24_code 4 = .ok (.iload 4, 2) := by decide +kernel
theorem dF_verdict_6 : decode prog_1_method_24_code 6 = .ok (.invokevirtual 201, 3) := by decide +kernel
theorem dF_verdict_9 : decode prog_1_method_24_code 9 = .ok (.istore 5, 2) := by decide +kernel
theorem dF_verdict_11 : decode prog_1_method_24_code 11 = .ok (.aload_n 0, 1) := by decide +kernel
theorem dF_verdict_12 : decode prog_1_method_24_code 12 = .ok (.dup, 1) := by decide +kernel
theorem dF_verdict_13 : decode prog_1_method_24_code 13 = .ok (.getfield 45, 3) := by decide +kernel
theorem dF_verdict_16 : decode prog_1_method_24_code 16 = .ok (.iconst 1, 1) := by decide +kernel
theorem dF_verdict_17 : decode prog_1_method_24_code 17 = .ok (.iadd, 1) := by decide +kernel
theorem dF_verdict_18 : decode prog_1_method_24_code 18 = .ok (.putfield 45, 3) := by decide +kernel
theorem dF_verdict_21 : decode prog_1_method_24_code 21 = .ok (.iload 5, 2) := by decide +kernel
theorem dF_verdict_23 : decode prog_1_method_24_code 23 = .ok (.ifCond .eq 13, 3) := by decide +kernel
theorem dF_verdict_26 : decode prog_1_method_24_code 26 = .ok (.aload_n 0, 1) := by decide +kernel
theorem dF_verdict_27 : decode prog_1_method_24_code 27 = .ok (.dup, 1) := by decide +kernel
theorem dF_verdict_28 : decode prog_1_method_24_code 28 = .ok (.getfield 48, 3) := by decide +kernel
theorem dF_verdict_31 : decode prog_1_method_24_code 31 = .ok (.iconst 1, 1) := by decide +kernel
theorem dF_verdict_32 : decode prog_1_method_24_code 32 = .ok (.iadd, 1) := by decide +kernel
theorem dF_verdict_33 : decode prog_1_method_24_code 33 = .ok (.putfield 48, 3) := by decide +kernel
theorem dF_verdict_36 : decode prog_1_method_24_code 36 = .ok (.iload 5, 2) := by decide +kernel
theorem dF_verdict_38 : decode prog_1_method_24_code 38 = .ok (.ireturn, 1) := by decide +kernel
def y_bitCount : MethodName := ⟨"java/lang/Integer", "bitCount", "(I)I"⟩
theorem dI_bitCount_0 : decode prog_10_method_49_code 0 = .ok (.iload_n 0, 1) := by decide +kernel
theorem dI_bitCount_1 : decode prog_10_method_49_code 1 = .ok (.iload_n 0, 1) := by decide +kernel
theorem dI_bitCount_2 : decode prog_10_method_49_code 2 = .ok (.iconst 1, 1) := by decide +kernel
theorem dI_bitCount_3 : decode prog_10_method_49_code 3 = .ok (.iushr, 1) := by decide +kernel
theorem dI_bitCount_4 : decode prog_10_method_49_code 4 = .ok (.ldc_w 265, 3) := by decide +kernel
theorem dI_bitCount_7 : decode prog_10_method_49_code 7 = .ok (.iand, 1) := by decide +kernel
theorem dI_bitCount_8 : decode prog_10_method_49_code 8 = .ok (.isub, 1) := by decide +kernel
theorem dI_bitCount_9 : decode prog_10_method_49_code 9 = .ok (.istore_n 0, 1) := by decide +kernel
theorem dI_bitCount_10 : decode prog_10_method_49_code 10 = .ok (.iload_n 0, 1) := by decide +kernel
theorem dI_bitCount_11 : decode prog_10_method_49_code 11 = .ok (.ldc_w 266, 3) := by decide +kernel
theorem dI_bitCount_14 : decode prog_10_method_49_code 14 = .ok (.iand, 1) := by decide +kernel
theorem dI_bitCount_15 : decode prog_10_method_49_code 15 = .ok (.iload_n 0, 1) := by decide +kernel
theorem dI_bitCount_16 : decode prog_10_method_49_code 16 = .ok (.iconst 2, 1) := by decide +kernel
theorem dI_bitCount_17 : decode prog_10_method_49_code 17 = .ok (.iushr, 1) := by decide +kernel
theorem dI_bitCount_18 : decode prog_10_method_49_code 18 = .ok (.ldc_w 266, 3) := by decide +kernel
theorem dI_bitCount_21 : decode prog_10_method_49_code 21 = .ok (.iand, 1) := by decide +kernel
theorem dI_bitCount_22 : decode prog_10_method_49_code 22 = .ok (.iadd, 1) := by decide +kernel
theorem dI_bitCount_23 : decode prog_10_method_49_code 23 = .ok (.istore_n 0, 1) := by decide +kernel
theorem dI_bitCount_24 : decode prog_10_method_49_code 24 = .ok (.iload_n 0, 1) := by decide +kernel
theorem dI_bitCount_25 : decode prog_10_method_49_code 25 = .ok (.iload_n 0, 1) := by decide +kernel
theorem dI_bitCount_26 : decode prog_10_method_49_code 26 = .ok (.iconst 4, 1) := by decide +kernel
theorem dI_bitCount_27 : decode prog_10_method_49_code 27 = .ok (.iushr, 1) := by decide +kernel
theorem dI_bitCount_28 : decode prog_10_method_49_code 28 = .ok (.iadd, 1) := by decide +kernel
theorem dI_bitCount_29 : decode prog_10_method_49_code 29 = .ok (.ldc_w 267, 3) := by decide +kernel
theorem dI_bitCount_32 : decode prog_10_method_49_code 32 = .ok (.iand, 1) := by decide +kernel
theorem dI_bitCount_33 : decode prog_10_method_49_code 33 = .ok (.istore_n 0, 1) := by decide +kernel
theorem dI_bitCount_34 : decode prog_10_method_49_code 34 = .ok (.iload_n 0, 1) := by decide +kernel
theorem dI_bitCount_35 : decode prog_10_method_49_code 35 = .ok (.iload_n 0, 1) := by decide +kernel
theorem dI_bitCount_36 : decode prog_10_method_49_code 36 = .ok (.bipush 8, 2) := by decide +kernel
theorem dI_bitCount_38 : decode prog_10_method_49_code 38 = .ok (.iushr, 1) := by decide +kernel
theorem dI_bitCount_39 : decode prog_10_method_49_code 39 = .ok (.iadd, 1) := by decide +kernel
theorem dI_bitCount_40 : decode prog_10_method_49_code 40 = .ok (.istore_n 0, 1) := by decide +kernel
theorem dI_bitCount_41 : decode prog_10_method_49_code 41 = .ok (.iload_n 0, 1) := by decide +kernel
theorem dI_bitCount_42 : decode prog_10_method_49_code 42 = .ok (.iload_n 0, 1) := by decide +kernel
theorem dI_bitCount_43 : decode prog_10_method_49_code 43 = .ok (.bipush 16, 2) := by decide +kernel
theorem dI_bitCount_45 : decode prog_10_method_49_code 45 = .ok (.iushr, 1) := by decide +kernel
theorem dI_bitCount_46 : decode prog_10_method_49_code 46 = .ok (.iadd, 1) := by decide +kernel
theorem dI_bitCount_47 : decode prog_10_method_49_code 47 = .ok (.istore_n 0, 1) := by decide +kernel
theorem dI_bitCount_48 : decode prog_10_method_49_code 48 = .ok (.iload_n 0, 1) := by decide +kernel
theorem dI_bitCount_49 : decode prog_10_method_49_code 49 = .ok (.bipush 63, 2) := by decide +kernel
theorem dI_bitCount_51 : decode prog_10_method_49_code 51 = .ok (.iand, 1) := by decide +kernel
theorem dI_bitCount_52 : decode prog_10_method_49_code 52 = .ok (.ireturn, 1) := by decide +kernel
def y_isMark : MethodName := ⟨"FragileRules", "isMark", "(I)Z"⟩
theorem dF_isMark_0 : decode prog_1_method_17_code 0 = .ok (.iload_n 0, 1) := by decide +kernel
theorem dF_isMark_1 : decode prog_1_method_17_code 1 = .ok (.bipush 16, 2) := by decide +kernel
theorem dF_isMark_3 : decode prog_1_method_17_code 3 = .ok (.invokestatic 53, 3) := by decide +kernel
theorem dF_isMark_6 : decode prog_1_method_17_code 6 = .ok (.ifCond .eq 15, 3) := by decide +kernel
theorem dF_isMark_9 : decode prog_1_method_17_code 9 = .ok (.iload_n 0, 1) := by decide +kernel
theorem dF_isMark_10 : decode prog_1_method_17_code 10 = .ok (.invokestatic 184, 3) := by decide +kernel
theorem dF_isMark_13 : decode prog_1_method_17_code 13 = .ok (.iconst 1, 1) := by decide +kernel
theorem dF_isMark_14 : decode prog_1_method_17_code 14 = .ok (.if_icmp .ne 7, 3) := by decide +kernel
theorem dF_isMark_17 : decode prog_1_method_17_code 17 = .ok (.iconst 1, 1) := by decide +kernel
theorem dF_isMark_18 : decode prog_1_method_17_code 18 = .ok (.goto 4, 3) := by decide +kernel
theorem dF_isMark_21 : decode prog_1_method_17_code 21 = .ok (.iconst 0, 1) := by decide +kernel
theorem dF_isMark_22 : decode prog_1_method_17_code 22 = .ok (.ireturn, 1) := by decide +kernel
def y_isRule : MethodName := ⟨"FragileRules", "isRule", "(III)Z"⟩
theorem dF_isRule_0 : decode prog_1_method_18_code 0 = .ok (.iload_n 0, 1) := by decide +kernel
theorem dF_isRule_1 : decode prog_1_method_18_code 1 = .ok (.tableswitch 132 0 4 #[35, 35, 59, 83, 107], 35) := by decide +kernel
theorem dF_isRule_36 : decode prog_1_method_18_code 36 = .ok (.iload_n 1, 1) := by decide +kernel
theorem dF_isRule_37 : decode prog_1_method_18_code 37 = .ok (.bipush 7, 2) := by decide +kernel
theorem dF_isRule_39 : decode prog_1_method_18_code 39 = .ok (.invokestatic 53, 3) := by decide +kernel
theorem dF_isRule_42 : decode prog_1_method_18_code 42 = .ok (.ifCond .eq 16, 3) := by decide +kernel
theorem dF_isRule_45 : decode prog_1_method_18_code 45 = .ok (.iload_n 2, 1) := by decide +kernel
theorem dF_isRule_46 : decode prog_1_method_18_code 46 = .ok (.bipush 7, 2) := by decide +kernel
theorem dF_isRule_48 : decode prog_1_method_18_code 48 = .ok (.invokestatic 53, 3) := by decide +kernel
theorem dF_isRule_51 : decode prog_1_method_18_code 51 = .ok (.ifCond .eq 7, 3) := by decide +kernel
theorem dF_isRule_54 : decode prog_1_method_18_code 54 = .ok (.iconst 1, 1) := by decide +kernel
theorem dF_isRule_55 : decode prog_1_method_18_code 55 = .ok (.goto 4, 3) := by decide +kernel
theorem dF_isRule_58 : decode prog_1_method_18_code 58 = .ok (.iconst 0, 1) := by decide +kernel
theorem dF_isRule_59 : decode prog_1_method_18_code 59 = .ok (.ireturn, 1) := by decide +kernel
theorem dF_isRule_60 : decode prog_1_method_18_code 60 = .ok (.iload_n 1, 1) := by decide +kernel
theorem dF_isRule_61 : decode prog_1_method_18_code 61 = .ok (.bipush 7, 2) := by decide +kernel
theorem dF_isRule_63 : decode prog_1_method_18_code 63 = .ok (.invokestatic 53, 3) := by decide +kernel
theorem dF_isRule_66 : decode prog_1_method_18_code 66 = .ok (.ifCond .eq 16, 3) := by decide +kernel
theorem dF_isRule_69 : decode prog_1_method_18_code 69 = .ok (.iload_n 2, 1) := by decide +kernel
theorem dF_isRule_70 : decode prog_1_method_18_code 70 = .ok (.bipush 99, 2) := by decide +kernel
theorem dF_isRule_72 : decode prog_1_method_18_code 72 = .ok (.invokestatic 53, 3) := by decide +kernel
theorem dF_isRule_75 : decode prog_1_method_18_code 75 = .ok (.ifCond .eq 7, 3) := by decide +kernel
theorem dF_isRule_78 : decode prog_1_method_18_code 78 = .ok (.iconst 1, 1) := by decide +kernel
theorem dF_isRule_79 : decode prog_1_method_18_code 79 = .ok (.goto 4, 3) := by decide +kernel
theorem dF_isRule_82 : decode prog_1_method_18_code 82 = .ok (.iconst 0, 1) := by decide +kernel
theorem dF_isRule_83 : decode prog_1_method_18_code 83 = .ok (.ireturn, 1) := by decide +kernel
theorem dF_isRule_84 : decode prog_1_method_18_code 84 = .ok (.iload_n 1, 1) := by decide +kernel
theorem dF_isRule_85 : decode prog_1_method_18_code 85 = .ok (.bipush 7, 2) := by decide +kernel
theorem dF_isRule_87 : decode prog_1_method_18_code 87 = .ok (.invokestatic 53, 3) := by decide +kernel
theorem dF_isRule_90 : decode prog_1_method_18_code 90 = .ok (.ifCond .eq 16, 3) := by decide +kernel
theorem dF_isRule_93 : decode prog_1_method_18_code 93 = .ok (.iload_n 2, 1) := by decide +kernel
theorem dF_isRule_94 : decode prog_1_method_18_code 94 = .ok (.bipush 9, 2) := by decide +kernel
theorem dF_isRule_96 : decode prog_1_method_18_code 96 = .ok (.invokestatic 53, 3) := by decide +kernel
theorem dF_isRule_99 : decode prog_1_method_18_code 99 = .ok (.ifCond .eq 7, 3) := by decide +kernel
theorem dF_isRule_102 : decode prog_1_method_18_code 102 = .ok (.iconst 1, 1) := by decide +kernel
theorem dF_isRule_103 : decode prog_1_method_18_code 103 = .ok (.goto 4, 3) := by decide +kernel
theorem dF_isRule_106 : decode prog_1_method_18_code 106 = .ok (.iconst 0, 1) := by decide +kernel
theorem dF_isRule_107 : decode prog_1_method_18_code 107 = .ok (.ireturn, 1) := by decide +kernel
theorem dF_isRule_108 : decode prog_1_method_18_code 108 = .ok (.iload_n 1, 1) := by decide +kernel
theorem dF_isRule_109 : decode prog_1_method_18_code 109 = .ok (.invokestatic 139, 3) := by decide +kernel
theorem dF_isRule_112 : decode prog_1_method_18_code 112 = .ok (.ifCond .eq 19, 3) := by decide +kernel
theorem dF_isRule_115 : decode prog_1_method_18_code 115 = .ok (.iload_n 2, 1) := by decide +kernel
theorem dF_isRule_116 : decode prog_1_method_18_code 116 = .ok (.invokestatic 139, 3) := by decide +kernel
theorem dF_isRule_119 : decode prog_1_method_18_code 119 = .ok (.ifCond .eq 12, 3) := by decide +kernel
theorem dF_isRule_122 : decode prog_1_method_18_code 122 = .ok (.iload_n 1, 1) := by decide +kernel
theorem dF_isRule_123 : decode prog_1_method_18_code 123 = .ok (.iload_n 2, 1) := by decide +kernel
theorem dF_isRule_124 : decode prog_1_method_18_code 124 = .ok (.if_icmp .eq 7, 3) := by decide +kernel
theorem dF_isRule_127 : decode prog_1_method_18_code 127 = .ok (.iconst 1, 1) := by decide +kernel
theorem dF_isRule_128 : decode prog_1_method_18_code 128 = .ok (.goto 4, 3) := by decide +kernel
theorem dF_isRule_131 : decode prog_1_method_18_code 131 = .ok (.iconst 0, 1) := by decide +kernel
theorem dF_isRule_132 : decode prog_1_method_18_code 132 = .ok (.ireturn, 1) := by decide +kernel
theorem dF_isRule_133 : decode prog_1_method_18_code 133 = .ok (.iconst 0, 1) := by decide +kernel
theorem dF_isRule_134 : decode prog_1_method_18_code 134 = .ok (.ireturn, 1) := by decide +kernel
def y_addLines : MethodName := ⟨"FragileRules", "addLines", "(I)V"⟩
theorem dF_addLines_0 : decode prog_1_method_22_code 0 = .ok (.iconst 0, 1) := by decide +kernel
theorem dF_addLines_1 : decode prog_1_method_22_code 1 = .ok (.istore_n 2, 1) := by decide +kernel
theorem dF_addLines_2 : decode prog_1_method_22_code 2 = .ok (.iconst 0, 1) := by decide +kernel
theorem dF_addLines_3 : decode prog_1_method_22_code 3 = .ok (.istore_n 3, 1) := by decide +kernel
theorem dF_addLines_4 : decode prog_1_method_22_code 4 = .ok (.iload_n 3, 1) := by decide +kernel
theorem dF_addLines_5 : decode prog_1_method_22_code 5 = .ok (.iload_n 1, 1) := by decide +kernel
theorem dF_addLines_6 : decode prog_1_method_22_code 6 = .ok (.if_icmp .ge 51, 3) := by decide +kernel
theorem dF_addLines_9 : decode prog_1_method_22_code 9 = .ok (.aload_n 0, 1) := by decide +kernel
theorem dF_addLines_10 : decode prog_1_method_22_code 10 = .ok (.aload_n 0, 1) := by decide +kernel
theorem dF_addLines_11 : decode prog_1_method_22_code 11 = .ok (.getfield 41, 3) := by decide +kernel
theorem dF_addLines_14 : decode prog_1_method_22_code 14 = .ok (.iload_n 2, 1) := by decide +kernel
theorem dF_addLines_15 : decode prog_1_method_22_code 15 = .ok (.invokevirtual 189, 3) := by decide +kernel
theorem dF_addLines_18 : decode prog_1_method_22_code 18 = .ok (.aload_n 0, 1) := by decide +kernel
theorem dF_addLines_19 : decode prog_1_method_22_code 19 = .ok (.getfield 41, 3) := by decide +kernel
theorem dF_addLines_22 : decode prog_1_method_22_code 22 = .ok (.iload_n 2, 1) := by decide +kernel
theorem dF_addLines_23 : decode prog_1_method_22_code 23 = .ok (.iconst 2, 1) := by decide +kernel
theorem dF_addLines_24 : decode prog_1_method_22_code 24 = .ok (.iadd, 1) := by decide +kernel
theorem dF_addLines_25 : decode prog_1_method_22_code 25 = .ok (.invokevirtual 192, 3) := by decide +kernel
theorem dF_addLines_28 : decode prog_1_method_22_code 28 = .ok (.aload_n 0, 1) := by decide +kernel
theorem dF_addLines_29 : decode prog_1_method_22_code 29 = .ok (.getfield 41, 3) := by decide +kernel
theorem dF_addLines_32 : decode prog_1_method_22_code 32 = .ok (.iload_n 2, 1) := by decide +kernel
theorem dF_addLines_33 : decode prog_1_method_22_code 33 = .ok (.iconst 4, 1) := by decide +kernel
theorem dF_addLines_34 : decode prog_1_method_22_code 34 = .ok (.iadd, 1) := by decide +kernel
theorem dF_addLines_35 : decode prog_1_method_22_code 35 = .ok (.invokevirtual 195, 3) := by decide +kernel
theorem dF_addLines_38 : decode prog_1_method_22_code 38 = .ok (.invokevirtual 90, 3) := by decide +kernel
theorem dF_addLines_41 : decode prog_1_method_22_code 41 = .ok (.pop, 1) := by decide +kernel
theorem dF_addLines_42 : decode prog_1_method_22_code 42 = .ok (.aload_n 0, 1) := by decide +kernel
theorem dF_addLines_43 : decode prog_1_method_22_code 43 = .ok (.getfield 41, 3) := by decide +kernel
theorem dF_addLines_46 : decode prog_1_method_22_code 46 = .ok (.iload_n 2, 1) := by decide +kernel
theorem dF_addLines_47 : decode prog_1_method_22_code 47 = .ok (.invokevirtual 198, 3) := by decide +kernel
theorem dF_addLines_50 : decode prog_1_method_22_code 50 = .ok (.istore_n 2, 1) := by decide +kernel
theorem dF_addLines_51 : decode prog_1_method_22_code 51 = .ok (.iinc 3 1, 3) := by decide +kernel
theorem dF_addLines_54 : decode prog_1_method_22_code 54 = .ok (.goto (-50), 3) := by decide +kernel
theorem dF_addLines_57 : decode prog_1_method_22_code 57 = .ok (.return_, 1) := by decide +kernel
def y_marks : MethodName := ⟨"FragileRules", "firstRefusingMarks", "(LFragileRules$Unit;)I"⟩
theorem dF_firstRefusingMarks_0 : decode prog_1_method_25_code 0 = .ok (.iconst 1, 1) := by decide +kernel
theorem dF_firstRefusingMarks_1 : decode prog_1_method_25_code 1 = .ok (.istore_n 2, 1) := by decide +kernel
theorem dF_firstRefusingMarks_2 : decode prog_1_method_25_code 2 = .ok (.iload_n 2, 1) := by decide +kernel
theorem dF_firstRefusingMarks_3 : decode prog_1_method_25_code 3 = .ok (.bipush 16, 2) := by decide +kernel
theorem dF_firstRefusingMarks_5 : decode prog_1_method_25_code 5 = .ok (.if_icmp .gt 37, 3) := by decide +kernel
theorem dF_firstRefusingMarks_8 : decode prog_1_method_25_code 8 = .ok (.aload_n 1, 1) := by decide +kernel
theorem dF_firstRefusingMarks_9 : decode prog_1_method_25_code 9 = .ok (.iload_n 2, 1) := by decide +kernel
theorem dF_firstRefusingMarks_10 : decode prog_1_method_25_code 10 = .ok (.invokevirtual 144, 3) := by decide +kernel
theorem dF_firstRefusingMarks_13 : decode prog_1_method_25_code 13 = .ok (.ifCond .eq 14, 3) := by decide +kernel
theorem dF_firstRefusingMarks_16 : decode prog_1_method_25_code 16 = .ok (.aload_n 0, 1) := by decide +kernel
theorem dF_firstRefusingMarks_17 : decode prog_1_method_25_code 17 = .ok (.iconst 2, 1) := by decide +kernel
theorem dF_firstRefusingMarks_18 : decode prog_1_method_25_code 18 = .ok (.aload_n 1, 1) := by decide +kernel
theorem dF_firstRefusingMarks_19 : decode prog_1_method_25_code 19 = .ok (.aload_n 1, 1) := by decide +kernel
theorem dF_firstRefusingMarks_20 : decode prog_1_method_25_code 20 = .ok (.iload_n 2, 1) := by decide +kernel
theorem dF_firstRefusingMarks_21 : decode prog_1_method_25_code 21 = .ok (.invokevirtual 201, 3) := by decide +kernel
theorem dF_firstRefusingMarks_24 : decode prog_1_method_25_code 24 = .ok (.goto 4, 3) := by decide +kernel
theorem dF_firstRefusingMarks_27 : decode prog_1_method_25_code 27 = .ok (.iconst 0, 1) := by decide +kernel
theorem dF_firstRefusingMarks_28 : decode prog_1_method_25_code 28 = .ok (.istore_n 3, 1) := by decide +kernel
theorem dF_firstRefusingMarks_29 : decode prog_1_method_25_code 29 = .ok (.iload_n 3, 1) := by decide +kernel
theorem dF_firstRefusingMarks_30 : decode prog_1_method_25_code 30 = .ok (.ifCond .eq 5, 3) := by decide +kernel
theorem dF_firstRefusingMarks_33 : decode prog_1_method_25_code 33 = .ok (.iload_n 3, 1) := by decide +kernel
theorem dF_firstRefusingMarks_34 : decode prog_1_method_25_code 34 = .ok (.ireturn, 1) := by decide +kernel
theorem dF_firstRefusingMarks_35 : decode prog_1_method_25_code 35 = .ok (.iload_n 2, 1) := by decide +kernel
theorem dF_firstRefusingMarks_36 : decode prog_1_method_25_code 36 = .ok (.iconst 1, 1) := by decide +kernel
theorem dF_firstRefusingMarks_37 : decode prog_1_method_25_code 37 = .ok (.ishl, 1) := by decide +kernel
theorem dF_firstRefusingMarks_38 : decode prog_1_method_25_code 38 = .ok (.istore_n 2, 1) := by decide +kernel
theorem dF_firstRefusingMarks_39 : decode prog_1_method_25_code 39 = .ok (.goto (-37), 3) := by decide +kernel
theorem dF_firstRefusingMarks_42 : decode prog_1_method_25_code 42 = .ok (.iconst 0, 1) := by decide +kernel
theorem dF_firstRefusingMarks_43 : decode prog_1_method_25_code 43 = .ok (.ireturn, 1) := by decide +kernel
def y_unit : MethodName := ⟨"FragileRules", "unit", "(III)I"⟩
theorem dF_unit_0 : decode prog_1_method_2_code 0 = .ok (.iload_n 1, 1) := by decide +kernel
theorem dF_unit_1 : decode prog_1_method_2_code 1 = .ok (.bipush 7, 2) := by decide +kernel
theorem dF_unit_3 : decode prog_1_method_2_code 3 = .ok (.invokestatic 53, 3) := by decide +kernel
theorem dF_unit_6 : decode prog_1_method_2_code 6 = .ok (.ifCond .eq 22, 3) := by decide +kernel
theorem dF_unit_9 : decode prog_1_method_2_code 9 = .ok (.iload_n 2, 1) := by decide +kernel
theorem dF_unit_10 : decode prog_1_method_2_code 10 = .ok (.sipush 1000, 3) := by decide +kernel
theorem dF_unit_13 : decode prog_1_method_2_code 13 = .ok (.invokestatic 53, 3) := by decide +kernel
theorem dF_unit_16 : decode prog_1_method_2_code 16 = .ok (.ifCond .eq 12, 3) := by decide +kernel
theorem dF_unit_19 : decode prog_1_method_2_code 19 = .ok (.iload_n 3, 1) := by decide +kernel
theorem dF_unit_20 : decode prog_1_method_2_code 20 = .ok (.bipush 31, 2) := by decide +kernel
theorem dF_unit_22 : decode prog_1_method_2_code 22 = .ok (.invokestatic 53, 3) := by decide +kernel
theorem dF_unit_25 : decode prog_1_method_2_code 25 = .ok (.ifCond .ne 13, 3) := by decide +kernel
theorem dF_unit_28 : decode prog_1_method_2_code 28 = .ok (.new 57, 3) := by decide +kernel
theorem dF_unit_31 : decode prog_1_method_2_code 31 = .ok (.dup, 1) := by decide +kernel
theorem dF_unit_32 : decode prog_1_method_2_code 32 = .ok (.ldc 59, 2) := by decide +kernel
theorem dF_unit_34 : decode prog_1_method_2_code 34 = .ok (.invokespecial 61, 3) := by decide +kernel
theorem dF_unit_37 : decode prog_1_method_2_code 37 = .ok (.athrow, 1) := by decide +kernel
theorem dF_unit_38 : decode prog_1_method_2_code 38 = .ok (.aload_n 0, 1) := by decide +kernel
theorem dF_unit_39 : decode prog_1_method_2_code 39 = .ok (.getfield 15, 3) := by decide +kernel
theorem dF_unit_42 : decode prog_1_method_2_code 42 = .ok (.bipush 10, 2) := by decide +kernel
theorem dF_unit_44 : decode prog_1_method_2_code 44 = .ok (.if_icmp .lt 13, 3) := by decide +kernel
theorem dF_unit_47 : decode prog_1_method_2_code 47 = .ok (.new 64, 3) := by decide +kernel
theorem dF_unit_50 : decode prog_1_method_2_code 50 = .ok (.dup, 1) := by decide +kernel
theorem dF_unit_51 : decode prog_1_method_2_code 51 = .ok (.ldc 66, 2) := by decide +kernel
theorem dF_unit_53 : decode prog_1_method_2_code 53 = .ok (.invokespecial 68, 3) := by decide +kernel
theorem dF_unit_56 : decode prog_1_method_2_code 56 = .ok (.athrow, 1) := by decide +kernel
theorem dF_unit_57 : decode prog_1_method_2_code 57 = .ok (.aload_n 0, 1) := by decide +kernel
theorem dF_unit_58 : decode prog_1_method_2_code 58 = .ok (.getfield 11, 3) := by decide +kernel
theorem dF_unit_61 : decode prog_1_method_2_code 61 = .ok (.aload_n 0, 1) := by decide +kernel
theorem dF_unit_62 : decode prog_1_method_2_code 62 = .ok (.getfield 15, 3) := by decide +kernel
theorem dF_unit_65 : decode prog_1_method_2_code 65 = .ok (.aaload, 1) := by decide +kernel
theorem dF_unit_66 : decode prog_1_method_2_code 66 = .ok (.astore 4, 2) := by decide +kernel
theorem dF_unit_68 : decode prog_1_method_2_code 68 = .ok (.aload 4, 2) := by decide +kernel
theorem dF_unit_70 : decode prog_1_method_2_code 70 = .ok (.iload_n 1, 1) := by decide +kernel
theorem dF_unit_71 : decode prog_1_method_2_code 71 = .ok (.putfield 69, 3) := by decide +kernel
theorem dF_unit_74 : decode prog_1_method_2_code 74 = .ok (.aload 4, 2) := by decide +kernel
theorem dF_unit_76 : decode prog_1_method_2_code 76 = .ok (.iload_n 2, 1) := by decide +kernel
theorem dF_unit_77 : decode prog_1_method_2_code 77 = .ok (.putfield 72, 3) := by decide +kernel
theorem dF_unit_80 : decode prog_1_method_2_code 80 = .ok (.aload 4, 2) := by decide +kernel
theorem dF_unit_82 : decode prog_1_method_2_code 82 = .ok (.iload_n 3, 1) := by decide +kernel
theorem dF_unit_83 : decode prog_1_method_2_code 83 = .ok (.putfield 75, 3) := by decide +kernel
theorem dF_unit_86 : decode prog_1_method_2_code 86 = .ok (.aload_n 0, 1) := by decide +kernel
theorem dF_unit_87 : decode prog_1_method_2_code 87 = .ok (.aload 4, 2) := by decide +kernel
theorem dF_unit_89 : decode prog_1_method_2_code 89 = .ok (.invokevirtual 78, 3) := by decide +kernel
theorem dF_unit_92 : decode prog_1_method_2_code 92 = .ok (.istore 5, 2) := by decide +kernel
theorem dF_unit_94 : decode prog_1_method_2_code 94 = .ok (.aload_n 0, 1) := by decide +kernel
theorem dF_unit_95 : decode prog_1_method_2_code 95 = .ok (.iconst 0, 1) := by decide +kernel
theorem dF_unit_96 : decode prog_1_method_2_code 96 = .ok (.putfield 35, 3) := by decide +kernel
theorem dF_unit_99 : decode prog_1_method_2_code 99 = .ok (.iload 5, 2) := by decide +kernel
theorem dF_unit_101 : decode prog_1_method_2_code 101 = .ok (.ifCond .eq 8, 3) := by decide +kernel
theorem dF_unit_104 : decode prog_1_method_2_code 104 = .ok (.iconst (-1), 1) := by decide +kernel
theorem dF_unit_105 : decode prog_1_method_2_code 105 = .ok (.iload 5, 2) := by decide +kernel
theorem dF_unit_107 : decode prog_1_method_2_code 107 = .ok (.isub, 1) := by decide +kernel
theorem dF_unit_108 : decode prog_1_method_2_code 108 = .ok (.ireturn, 1) := by decide +kernel
theorem dF_unit_109 : decode prog_1_method_2_code 109 = .ok (.aload_n 0, 1) := by decide +kernel
theorem dF_unit_110 : decode prog_1_method_2_code 110 = .ok (.dup, 1) := by decide +kernel
theorem dF_unit_111 : decode prog_1_method_2_code 111 = .ok (.getfield 15, 3) := by decide +kernel
theorem dF_unit_114 : decode prog_1_method_2_code 114 = .ok (.iconst 1, 1) := by decide +kernel
theorem dF_unit_115 : decode prog_1_method_2_code 115 = .ok (.iadd, 1) := by decide +kernel
theorem dF_unit_116 : decode prog_1_method_2_code 116 = .ok (.putfield 15, 3) := by decide +kernel
theorem dF_unit_119 : decode prog_1_method_2_code 119 = .ok (.aload_n 0, 1) := by decide +kernel
theorem dF_unit_120 : decode prog_1_method_2_code 120 = .ok (.getfield 15, 3) := by decide +kernel
theorem dF_unit_123 : decode prog_1_method_2_code 123 = .ok (.iconst 1, 1) := by decide +kernel
theorem dF_unit_124 : decode prog_1_method_2_code 124 = .ok (.isub, 1) := by decide +kernel
theorem dF_unit_125 : decode prog_1_method_2_code 125 = .ok (.ireturn, 1) := by decide +kernel
def y_rule : MethodName := ⟨"FragileRules", "rule", "(III)I"⟩
theorem dF_rule_0 : decode prog_1_method_3_code 0 = .ok (.iload_n 1, 1) := by decide +kernel
theorem dF_rule_1 : decode prog_1_method_3_code 1 = .ok (.iload_n 2, 1) := by decide +kernel
theorem dF_rule_2 : decode prog_1_method_3_code 2 = .ok (.iload_n 3, 1) := by decide +kernel
theorem dF_rule_3 : decode prog_1_method_3_code 3 = .ok (.invokestatic 82, 3) := by decide +kernel
theorem dF_rule_6 : decode prog_1_method_3_code 6 = .ok (.ifCond .ne 13, 3) := by decide +kernel
theorem dF_rule_9 : decode prog_1_method_3_code 9 = .ok (.new 57, 3) := by decide +kernel
theorem dF_rule_12 : decode prog_1_method_3_code 12 = .ok (.dup, 1) := by decide +kernel
theorem dF_rule_13 : decode prog_1_method_3_code 13 = .ok (.ldc 86, 2) := by decide +kernel
theorem dF_rule_15 : decode prog_1_method_3_code 15 = .ok (.invokespecial 61, 3) := by decide +kernel
theorem dF_rule_18 : decode prog_1_method_3_code 18 = .ok (.athrow, 1) := by decide +kernel
theorem dF_rule_19 : decode prog_1_method_3_code 19 = .ok (.aload_n 0, 1) := by decide +kernel
theorem dF_rule_20 : decode prog_1_method_3_code 20 = .ok (.getfield 25, 3) := by decide +kernel
theorem dF_rule_23 : decode prog_1_method_3_code 23 = .ok (.bipush 12, 2) := by decide +kernel
theorem dF_rule_25 : decode prog_1_method_3_code 25 = .ok (.if_icmp .lt 13, 3) := by decide +kernel
theorem dF_rule_28 : decode prog_1_method_3_code 28 = .ok (.new 64, 3) := by decide +kernel
theorem dF_rule_31 : decode prog_1_method_3_code 31 = .ok (.dup, 1) := by decide +kernel
theorem dF_rule_32 : decode prog_1_method_3_code 32 = .ok (.ldc 88, 2) := by decide +kernel
theorem dF_rule_34 : decode prog_1_method_3_code 34 = .ok (.invokespecial 68, 3) := by decide +kernel
theorem dF_rule_37 : decode prog_1_method_3_code 37 = .ok (.athrow, 1) := by decide +kernel
theorem dF_rule_38 : decode prog_1_method_3_code 38 = .ok (.aload_n 0, 1) := by decide +kernel
theorem dF_rule_39 : decode prog_1_method_3_code 39 = .ok (.iload_n 1, 1) := by decide +kernel
theorem dF_rule_40 : decode prog_1_method_3_code 40 = .ok (.iload_n 2, 1) := by decide +kernel
theorem dF_rule_41 : decode prog_1_method_3_code 41 = .ok (.iload_n 3, 1) := by decide +kernel
theorem dF_rule_42 : decode prog_1_method_3_code 42 = .ok (.invokevirtual 90, 3) := by decide +kernel
theorem dF_rule_45 : decode prog_1_method_3_code 45 = .ok (.ireturn, 1) := by decide +kernel
def y_own : MethodName := ⟨"FragileRules", "own", "(IZ)I"⟩
theorem dF_own_0 : decode prog_1_method_4_code 0 = .ok (.iload_n 1, 1) := by decide +kernel
theorem dF_own_1 : decode prog_1_method_4_code 1 = .ok (.iconst 3, 1) := by decide +kernel
theorem dF_own_2 : decode prog_1_method_4_code 2 = .ok (.invokestatic 53, 3) := by decide +kernel
theorem dF_own_5 : decode prog_1_method_4_code 5 = .ok (.ifCond .ne 13, 3) := by decide +kernel
theorem dF_own_8 : decode prog_1_method_4_code 8 = .ok (.new 57, 3) := by decide +kernel
theorem dF_own_11 : decode prog_1_method_4_code 11 = .ok (.dup, 1) := by decide +kernel
theorem dF_own_12 : decode prog_1_method_4_code 12 = .ok (.ldc 94, 2) := by decide +kernel
theorem dF_own_14 : decode prog_1_method_4_code 14 = .ok (.invokespecial 61, 3) := by decide +kernel
theorem dF_own_17 : decode prog_1_method_4_code 17 = .ok (.athrow, 1) := by decide +kernel
theorem dF_own_18 : decode prog_1_method_4_code 18 = .ok (.aload_n 0, 1) := by decide +kernel
theorem dF_own_19 : decode prog_1_method_4_code 19 = .ok (.getfield 25, 3) := by decide +kernel
theorem dF_own_22 : decode prog_1_method_4_code 22 = .ok (.bipush 12, 2) := by decide +kernel
theorem dF_own_24 : decode prog_1_method_4_code 24 = .ok (.if_icmp .lt 13, 3) := by decide +kernel
theorem dF_own_27 : decode prog_1_method_4_code 27 = .ok (.new 64, 3) := by decide +kernel
theorem dF_own_30 : decode prog_1_method_4_code 30 = .ok (.dup, 1) := by decide +kernel
theorem dF_own_31 : decode prog_1_method_4_code 31 = .ok (.ldc 88, 2) := by decide +kernel
theorem dF_own_33 : decode prog_1_method_4_code 33 = .ok (.invokespecial 68, 3) := by decide +kernel
theorem dF_own_36 : decode prog_1_method_4_code 36 = .ok (.athrow, 1) := by decide +kernel
theorem dF_own_37 : decode prog_1_method_4_code 37 = .ok (.aload_n 0, 1) := by decide +kernel
theorem dF_own_38 : decode prog_1_method_4_code 38 = .ok (.iconst 5, 1) := by decide +kernel
theorem dF_own_39 : decode prog_1_method_4_code 39 = .ok (.iload_n 1, 1) := by decide +kernel
theorem dF_own_40 : decode prog_1_method_4_code 40 = .ok (.iload_n 2, 1) := by decide +kernel
theorem dF_own_41 : decode prog_1_method_4_code 41 = .ok (.ifCond .eq 7, 3) := by decide +kernel
theorem dF_own_44 : decode prog_1_method_4_code 44 = .ok (.iconst 1, 1) := by decide +kernel
theorem dF_own_45 : decode prog_1_method_4_code 45 = .ok (.goto 4, 3) := by decide +kernel
theorem dF_own_48 : decode prog_1_method_4_code 48 = .ok (.iconst 0, 1) := by decide +kernel
theorem dF_own_49 : decode prog_1_method_4_code 49 = .ok (.invokevirtual 90, 3) := by decide +kernel
theorem dF_own_52 : decode prog_1_method_4_code 52 = .ok (.ireturn, 1) := by decide +kernel
def y_sign : MethodName := ⟨"FragileRules", "sign", "(I)V"⟩
theorem dF_sign_0 : decode prog_1_method_5_code 0 = .ok (.iload_n 1, 1) := by decide +kernel
theorem dF_sign_1 : decode prog_1_method_5_code 1 = .ok (.bipush 10, 2) := by decide +kernel
theorem dF_sign_3 : decode prog_1_method_5_code 3 = .ok (.if_icmp .eq 25, 3) := by decide +kernel
theorem dF_sign_6 : decode prog_1_method_5_code 6 = .ok (.iload_n 1, 1) := by decide +kernel
theorem dF_sign_7 : decode prog_1_method_5_code 7 = .ok (.bipush 32, 2) := by decide +kernel
theorem dF_sign_9 : decode prog_1_method_5_code 9 = .ok (.if_icmp .lt 9, 3) := by decide +kernel
theorem dF_sign_12 : decode prog_1_method_5_code 12 = .ok (.iload_n 1, 1) := by decide +kernel
theorem dF_sign_13 : decode prog_1_method_5_code 13 = .ok (.bipush 126, 2) := by decide +kernel
theorem dF_sign_15 : decode prog_1_method_5_code 15 = .ok (.if_icmp .le 13, 3) := by decide +kernel
theorem dF_sign_18 : decode prog_1_method_5_code 18 = .ok (.new 57, 3) := by decide +kernel
theorem dF_sign_21 : decode prog_1_method_5_code 21 = .ok (.dup, 1) := by decide +kernel
theorem dF_sign_22 : decode prog_1_method_5_code 22 = .ok (.ldc 96, 2) := by decide +kernel
theorem dF_sign_24 : decode prog_1_method_5_code 24 = .ok (.invokespecial 61, 3) := by decide +kernel
theorem dF_sign_27 : decode prog_1_method_5_code 27 = .ok (.athrow, 1) := by decide +kernel
theorem dF_sign_28 : decode prog_1_method_5_code 28 = .ok (.aload_n 0, 1) := by decide +kernel
theorem dF_sign_29 : decode prog_1_method_5_code 29 = .ok (.getfield 41, 3) := by decide +kernel
theorem dF_sign_32 : decode prog_1_method_5_code 32 = .ok (.getfield 98, 3) := by decide +kernel
theorem dF_sign_35 : decode prog_1_method_5_code 35 = .ok (.sipush 200, 3) := by decide +kernel
theorem dF_sign_38 : decode prog_1_method_5_code 38 = .ok (.if_icmp .lt 13, 3) := by decide +kernel
theorem dF_sign_41 : decode prog_1_method_5_code 41 = .ok (.new 64, 3) := by decide +kernel
theorem dF_sign_44 : decode prog_1_method_5_code 44 = .ok (.dup, 1) := by decide +kernel
theorem dF_sign_45 : decode prog_1_method_5_code 45 = .ok (.ldc 101, 2) := by decide +kernel
theorem dF_sign_47 : decode prog_1_method_5_code 47 = .ok (.invokespecial 68, 3) := by decide +kernel
theorem dF_sign_50 : decode prog_1_method_5_code 50 = .ok (.athrow, 1) := by decide +kernel
theorem dF_sign_51 : decode prog_1_method_5_code 51 = .ok (.aload_n 0, 1) := by decide +kernel
theorem dF_sign_52 : decode prog_1_method_5_code 52 = .ok (.getfield 41, 3) := by decide +kernel
theorem dF_sign_55 : decode prog_1_method_5_code 55 = .ok (.getfield 103, 3) := by decide +kernel
theorem dF_sign_58 : decode prog_1_method_5_code 58 = .ok (.aload_n 0, 1) := by decide +kernel
theorem dF_sign_59 : decode prog_1_method_5_code 59 = .ok (.getfield 41, 3) := by decide +kernel
theorem dF_sign_62 : decode prog_1_method_5_code 62 = .ok (.getfield 98, 3) := by decide +kernel
theorem dF_sign_65 : decode prog_1_method_5_code 65 = .ok (.iload_n 1, 1) := by decide +kernel
theorem dF_sign_66 : decode prog_1_method_5_code 66 = .ok (.iastore, 1) := by decide +kernel
theorem dF_sign_67 : decode prog_1_method_5_code 67 = .ok (.aload_n 0, 1) := by decide +kernel
theorem dF_sign_68 : decode prog_1_method_5_code 68 = .ok (.getfield 41, 3) := by decide +kernel
theorem dF_sign_71 : decode prog_1_method_5_code 71 = .ok (.dup, 1) := by decide +kernel
theorem dF_sign_72 : decode prog_1_method_5_code 72 = .ok (.getfield 98, 3) := by decide +kernel
theorem dF_sign_75 : decode prog_1_method_5_code 75 = .ok (.iconst 1, 1) := by decide +kernel
theorem dF_sign_76 : decode prog_1_method_5_code 76 = .ok (.iadd, 1) := by decide +kernel
theorem dF_sign_77 : decode prog_1_method_5_code 77 = .ok (.putfield 98, 3) := by decide +kernel
theorem dF_sign_80 : decode prog_1_method_5_code 80 = .ok (.return_, 1) := by decide +kernel
def y_read : MethodName := ⟨"FragileRules", "read", "()I"⟩
theorem dF_read_0 : decode prog_1_method_6_code 0 = .ok (.aload_n 0, 1) := by decide +kernel
theorem dF_read_1 : decode prog_1_method_6_code 1 = .ok (.getfield 41, 3) := by decide +kernel
theorem dF_read_4 : decode prog_1_method_6_code 4 = .ok (.invokevirtual 106, 3) := by decide +kernel
theorem dF_read_7 : decode prog_1_method_6_code 7 = .ok (.istore_n 1, 1) := by decide +kernel
theorem dF_read_8 : decode prog_1_method_6_code 8 = .ok (.aload_n 0, 1) := by decide +kernel
theorem dF_read_9 : decode prog_1_method_6_code 9 = .ok (.getfield 41, 3) := by decide +kernel
theorem dF_read_12 : decode prog_1_method_6_code 12 = .ok (.invokevirtual 110, 3) := by decide +kernel
theorem dF_read_15 : decode prog_1_method_6_code 15 = .ok (.istore_n 2, 1) := by decide +kernel
theorem dF_read_16 : decode prog_1_method_6_code 16 = .ok (.iload_n 2, 1) := by decide +kernel
theorem dF_read_17 : decode prog_1_method_6_code 17 = .ok (.bipush 12, 2) := by decide +kernel
theorem dF_read_19 : decode prog_1_method_6_code 19 = .ok (.aload_n 0, 1) := by decide +kernel
theorem dF_read_20 : decode prog_1_method_6_code 20 = .ok (.getfield 25, 3) := by decide +kernel
theorem dF_read_23 : decode prog_1_method_6_code 23 = .ok (.isub, 1) := by decide +kernel
theorem dF_read_24 : decode prog_1_method_6_code 24 = .ok (.if_icmp .gt 7, 3) := by decide +kernel
theorem dF_read_27 : decode prog_1_method_6_code 27 = .ok (.iconst 1, 1) := by decide +kernel
theorem dF_read_28 : decode prog_1_method_6_code 28 = .ok (.goto 4, 3) := by decide +kernel
theorem dF_read_31 : decode prog_1_method_6_code 31 = .ok (.iconst 0, 1) := by decide +kernel
theorem dF_read_32 : decode prog_1_method_6_code 32 = .ok (.istore_n 3, 1) := by decide +kernel
theorem dF_read_33 : decode prog_1_method_6_code 33 = .ok (.iload_n 1, 1) := by decide +kernel
theorem dF_read_34 : decode prog_1_method_6_code 34 = .ok (.iconst (-1), 1) := by decide +kernel
theorem dF_read_35 : decode prog_1_method_6_code 35 = .ok (.if_icmp .ne 12, 3) := by decide +kernel
theorem dF_read_38 : decode prog_1_method_6_code 38 = .ok (.iload_n 3, 1) := by decide +kernel
theorem dF_read_39 : decode prog_1_method_6_code 39 = .ok (.ifCond .eq 8, 3) := by decide +kernel
theorem dF_read_42 : decode prog_1_method_6_code 42 = .ok (.aload_n 0, 1) := by decide +kernel
theorem dF_read_43 : decode prog_1_method_6_code 43 = .ok (.iload_n 2, 1) := by decide +kernel
theorem dF_read_44 : decode prog_1_method_6_code 44 = .ok (.invokevirtual 113, 3) := by decide +kernel
theorem dF_read_47 : decode prog_1_method_6_code 47 = .ok (.aload_n 0, 1) := by decide +kernel
theorem dF_read_48 : decode prog_1_method_6_code 48 = .ok (.getfield 41, 3) := by decide +kernel
theorem dF_read_51 : decode prog_1_method_6_code 51 = .ok (.iconst 0, 1) := by decide +kernel
theorem dF_read_52 : decode prog_1_method_6_code 52 = .ok (.putfield 98, 3) := by decide +kernel
theorem dF_read_55 : decode prog_1_method_6_code 55 = .ok (.iload_n 1, 1) := by decide +kernel
theorem dF_read_56 : decode prog_1_method_6_code 56 = .ok (.iconst (-1), 1) := by decide +kernel
theorem dF_read_57 : decode prog_1_method_6_code 57 = .ok (.if_icmp .eq 7, 3) := by decide +kernel
theorem dF_read_60 : decode prog_1_method_6_code 60 = .ok (.iconst (-1), 1) := by decide +kernel
theorem dF_read_61 : decode prog_1_method_6_code 61 = .ok (.iload_n 1, 1) := by decide +kernel
theorem dF_read_62 : decode prog_1_method_6_code 62 = .ok (.isub, 1) := by decide +kernel
theorem dF_read_63 : decode prog_1_method_6_code 63 = .ok (.ireturn, 1) := by decide +kernel
theorem dF_read_64 : decode prog_1_method_6_code 64 = .ok (.iload_n 3, 1) := by decide +kernel
theorem dF_read_65 : decode prog_1_method_6_code 65 = .ok (.ifCond .ne 13, 3) := by decide +kernel
theorem dF_read_68 : decode prog_1_method_6_code 68 = .ok (.new 64, 3) := by decide +kernel
theorem dF_read_71 : decode prog_1_method_6_code 71 = .ok (.dup, 1) := by decide +kernel
theorem dF_read_72 : decode prog_1_method_6_code 72 = .ok (.ldc 117, 2) := by decide +kernel
theorem dF_read_74 : decode prog_1_method_6_code 74 = .ok (.invokespecial 68, 3) := by decide +kernel
theorem dF_read_77 : decode prog_1_method_6_code 77 = .ok (.athrow, 1) := by decide +kernel
theorem dF_read_78 : decode prog_1_method_6_code 78 = .ok (.aload_n 0, 1) := by decide +kernel
theorem dF_read_79 : decode prog_1_method_6_code 79 = .ok (.getfield 25, 3) := by decide +kernel
theorem dF_read_82 : decode prog_1_method_6_code 82 = .ok (.ireturn, 1) := by decide +kernel
def y_may : MethodName := ⟨"FragileRules", "may", "(III)I"⟩
theorem dF_may_0 : decode prog_1_method_7_code 0 = .ok (.aload_n 0, 1) := by decide +kernel
theorem dF_may_1 : decode prog_1_method_7_code 1 = .ok (.iload_n 1, 1) := by decide +kernel
theorem dF_may_2 : decode prog_1_method_7_code 2 = .ok (.invokevirtual 119, 3) := by decide +kernel
theorem dF_may_5 : decode prog_1_method_7_code 5 = .ok (.ifCond .eq 11, 3) := by decide +kernel
theorem dF_may_8 : decode prog_1_method_7_code 8 = .ok (.aload_n 0, 1) := by decide +kernel
theorem dF_may_9 : decode prog_1_method_7_code 9 = .ok (.iload_n 2, 1) := by decide +kernel
theorem dF_may_10 : decode prog_1_method_7_code 10 = .ok (.invokevirtual 119, 3) := by decide +kernel
theorem dF_may_13 : decode prog_1_method_7_code 13 = .ok (.ifCond .ne 13, 3) := by decide +kernel
theorem dF_may_16 : decode prog_1_method_7_code 16 = .ok (.new 123, 3) := by decide +kernel
theorem dF_may_19 : decode prog_1_method_7_code 19 = .ok (.dup, 1) := by decide +kernel
theorem dF_may_20 : decode prog_1_method_7_code 20 = .ok (.ldc 125, 2) := by decide +kernel
theorem dF_may_22 : decode prog_1_method_7_code 22 = .ok (.invokespecial 127, 3) := by decide +kernel
theorem dF_may_25 : decode prog_1_method_7_code 25 = .ok (.athrow, 1) := by decide +kernel
theorem dF_may_26 : decode prog_1_method_7_code 26 = .ok (.iload_n 3, 1) := by decide +kernel
theorem dF_may_27 : decode prog_1_method_7_code 27 = .ok (.bipush 9, 2) := by decide +kernel
theorem dF_may_29 : decode prog_1_method_7_code 29 = .ok (.invokestatic 53, 3) := by decide +kernel
theorem dF_may_32 : decode prog_1_method_7_code 32 = .ok (.ifCond .ne 13, 3) := by decide +kernel
theorem dF_may_35 : decode prog_1_method_7_code 35 = .ok (.new 57, 3) := by decide +kernel
theorem dF_may_38 : decode prog_1_method_7_code 38 = .ok (.dup, 1) := by decide +kernel
theorem dF_may_39 : decode prog_1_method_7_code 39 = .ok (.ldc 128, 2) := by decide +kernel
theorem dF_may_41 : decode prog_1_method_7_code 41 = .ok (.invokespecial 61, 3) := by decide +kernel
theorem dF_may_44 : decode prog_1_method_7_code 44 = .ok (.athrow, 1) := by decide +kernel
theorem dF_may_45 : decode prog_1_method_7_code 45 = .ok (.iload_n 1, 1) := by decide +kernel
theorem dF_may_46 : decode prog_1_method_7_code 46 = .ok (.iload_n 2, 1) := by decide +kernel
theorem dF_may_47 : decode prog_1_method_7_code 47 = .ok (.if_icmp .ne 13, 3) := by decide +kernel
theorem dF_may_50 : decode prog_1_method_7_code 50 = .ok (.new 130, 3) := by decide +kernel
theorem dF_may_53 : decode prog_1_method_7_code 53 = .ok (.dup, 1) := by decide +kernel
theorem dF_may_54 : decode prog_1_method_7_code 54 = .ok (.ldc 132, 2) := by decide +kernel
theorem dF_may_56 : decode prog_1_method_7_code 56 = .ok (.invokespecial 134, 3) := by decide +kernel
theorem dF_may_59 : decode prog_1_method_7_code 59 = .ok (.athrow, 1) := by decide +kernel
theorem dF_may_60 : decode prog_1_method_7_code 60 = .ok (.aload_n 0, 1) := by decide +kernel
theorem dF_may_61 : decode prog_1_method_7_code 61 = .ok (.iconst 0, 1) := by decide +kernel
theorem dF_may_62 : decode prog_1_method_7_code 62 = .ok (.aload_n 0, 1) := by decide +kernel
theorem dF_may_63 : decode prog_1_method_7_code 63 = .ok (.getfield 11, 3) := by decide +kernel
theorem dF_may_66 : decode prog_1_method_7_code 66 = .ok (.iload_n 1, 1) := by decide +kernel
theorem dF_may_67 : decode prog_1_method_7_code 67 = .ok (.aaload, 1) := by decide +kernel
theorem dF_may_68 : decode prog_1_method_7_code 68 = .ok (.aload_n 0, 1) := by decide +kernel
theorem dF_may_69 : decode prog_1_method_7_code 69 = .ok (.getfield 11, 3) := by decide +kernel
theorem dF_may_72 : decode prog_1_method_7_code 72 = .ok (.iload_n 2, 1) := by decide +kernel
theorem dF_may_73 : decode prog_1_method_7_code 73 = .ok (.aaload, 1) := by decide +kernel
theorem dF_may_74 : decode prog_1_method_7_code 74 = .ok (.iload_n 3, 1) := by decide +kernel
theorem dF_may_75 : decode prog_1_method_7_code 75 = .ok (.invokevirtual 135, 3) := by decide +kernel
theorem dF_may_78 : decode prog_1_method_7_code 78 = .ok (.ireturn, 1) := by decide +kernel
def y_together : MethodName := ⟨"FragileRules", "together", "(II)I"⟩
theorem dF_together_0 : decode prog_1_method_8_code 0 = .ok (.aload_n 0, 1) := by decide +kernel
theorem dF_together_1 : decode prog_1_method_8_code 1 = .ok (.iload_n 1, 1) := by decide +kernel
theorem dF_together_2 : decode prog_1_method_8_code 2 = .ok (.invokevirtual 119, 3) := by decide +kernel
theorem dF_together_5 : decode prog_1_method_8_code 5 = .ok (.ifCond .eq 11, 3) := by decide +kernel
theorem dF_together_8 : decode prog_1_method_8_code 8 = .ok (.aload_n 0, 1) := by decide +kernel
theorem dF_together_9 : decode prog_1_method_8_code 9 = .ok (.iload_n 2, 1) := by decide +kernel
theorem dF_together_10 : decode prog_1_method_8_code 10 = .ok (.invokevirtual 119, 3) := by decide +kernel
theorem dF_together_13 : decode prog_1_method_8_code 13 = .ok (.ifCond .ne 13, 3) := by decide +kernel
theorem dF_together_16 : decode prog_1_method_8_code 16 = .ok (.new 123, 3) := by decide +kernel
theorem dF_together_19 : decode prog_1_method_8_code 19 = .ok (.dup, 1) := by decide +kernel
theorem dF_together_20 : decode prog_1_method_8_code 20 = .ok (.ldc 125, 2) := by decide +kernel
theorem dF_together_22 : decode prog_1_method_8_code 22 = .ok (.invokespecial 127, 3) := by decide +kernel
theorem dF_together_25 : decode prog_1_method_8_code 25 = .ok (.athrow, 1) := by decide +kernel
theorem dF_together_26 : decode prog_1_method_8_code 26 = .ok (.iload_n 1, 1) := by decide +kernel
theorem dF_together_27 : decode prog_1_method_8_code 27 = .ok (.iload_n 2, 1) := by decide +kernel
theorem dF_together_28 : decode prog_1_method_8_code 28 = .ok (.if_icmp .ne 13, 3) := by decide +kernel
theorem dF_together_31 : decode prog_1_method_8_code 31 = .ok (.new 130, 3) := by decide +kernel
theorem dF_together_34 : decode prog_1_method_8_code 34 = .ok (.dup, 1) := by decide +kernel
theorem dF_together_35 : decode prog_1_method_8_code 35 = .ok (.ldc 132, 2) := by decide +kernel
theorem dF_together_37 : decode prog_1_method_8_code 37 = .ok (.invokespecial 134, 3) := by decide +kernel
theorem dF_together_40 : decode prog_1_method_8_code 40 = .ok (.athrow, 1) := by decide +kernel
theorem dF_together_41 : decode prog_1_method_8_code 41 = .ok (.aload_n 0, 1) := by decide +kernel
theorem dF_together_42 : decode prog_1_method_8_code 42 = .ok (.iconst 1, 1) := by decide +kernel
theorem dF_together_43 : decode prog_1_method_8_code 43 = .ok (.aload_n 0, 1) := by decide +kernel
theorem dF_together_44 : decode prog_1_method_8_code 44 = .ok (.getfield 11, 3) := by decide +kernel
theorem dF_together_47 : decode prog_1_method_8_code 47 = .ok (.iload_n 1, 1) := by decide +kernel
theorem dF_together_48 : decode prog_1_method_8_code 48 = .ok (.aaload, 1) := by decide +kernel
theorem dF_together_49 : decode prog_1_method_8_code 49 = .ok (.aload_n 0, 1) := by decide +kernel
theorem dF_together_50 : decode prog_1_method_8_code 50 = .ok (.getfield 11, 3) := by decide +kernel
theorem dF_together_53 : decode prog_1_method_8_code 53 = .ok (.iload_n 2, 1) := by decide +kernel
theorem dF_together_54 : decode prog_1_method_8_code 54 = .ok (.aaload, 1) := by decide +kernel
theorem dF_together_55 : decode prog_1_method_8_code 55 = .ok (.iconst 0, 1) := by decide +kernel
theorem dF_together_56 : decode prog_1_method_8_code 56 = .ok (.invokevirtual 135, 3) := by decide +kernel
theorem dF_together_59 : decode prog_1_method_8_code 59 = .ok (.ireturn, 1) := by decide +kernel
def y_mark : MethodName := ⟨"FragileRules", "mark", "(II)I"⟩
theorem dF_mark_0 : decode prog_1_method_9_code 0 = .ok (.aload_n 0, 1) := by decide +kernel
theorem dF_mark_1 : decode prog_1_method_9_code 1 = .ok (.iload_n 1, 1) := by decide +kernel
theorem dF_mark_2 : decode prog_1_method_9_code 2 = .ok (.invokevirtual 119, 3) := by decide +kernel
theorem dF_mark_5 : decode prog_1_method_9_code 5 = .ok (.ifCond .ne 13, 3) := by decide +kernel
theorem dF_mark_8 : decode prog_1_method_9_code 8 = .ok (.new 123, 3) := by decide +kernel
theorem dF_mark_11 : decode prog_1_method_9_code 11 = .ok (.dup, 1) := by decide +kernel
theorem dF_mark_12 : decode prog_1_method_9_code 12 = .ok (.ldc 125, 2) := by decide +kernel
theorem dF_mark_14 : decode prog_1_method_9_code 14 = .ok (.invokespecial 127, 3) := by decide +kernel
theorem dF_mark_17 : decode prog_1_method_9_code 17 = .ok (.athrow, 1) := by decide +kernel
theorem dF_mark_18 : decode prog_1_method_9_code 18 = .ok (.iload_n 2, 1) := by decide +kernel
theorem dF_mark_19 : decode prog_1_method_9_code 19 = .ok (.invokestatic 139, 3) := by decide +kernel
theorem dF_mark_22 : decode prog_1_method_9_code 22 = .ok (.ifCond .ne 13, 3) := by decide +kernel
theorem dF_mark_25 : decode prog_1_method_9_code 25 = .ok (.new 57, 3) := by decide +kernel
theorem dF_mark_28 : decode prog_1_method_9_code 28 = .ok (.dup, 1) := by decide +kernel
theorem dF_mark_29 : decode prog_1_method_9_code 29 = .ok (.ldc 142, 2) := by decide +kernel
theorem dF_mark_31 : decode prog_1_method_9_code 31 = .ok (.invokespecial 61, 3) := by decide +kernel
theorem dF_mark_34 : decode prog_1_method_9_code 34 = .ok (.athrow, 1) := by decide +kernel
theorem dF_mark_35 : decode prog_1_method_9_code 35 = .ok (.aload_n 0, 1) := by decide +kernel
theorem dF_mark_36 : decode prog_1_method_9_code 36 = .ok (.getfield 11, 3) := by decide +kernel
theorem dF_mark_39 : decode prog_1_method_9_code 39 = .ok (.iload_n 1, 1) := by decide +kernel
theorem dF_mark_40 : decode prog_1_method_9_code 40 = .ok (.aaload, 1) := by decide +kernel
theorem dF_mark_41 : decode prog_1_method_9_code 41 = .ok (.astore_n 3, 1) := by decide +kernel
theorem dF_mark_42 : decode prog_1_method_9_code 42 = .ok (.aload_n 3, 1) := by decide +kernel
theorem dF_mark_43 : decode prog_1_method_9_code 43 = .ok (.iload_n 2, 1) := by decide +kernel
theorem dF_mark_44 : decode prog_1_method_9_code 44 = .ok (.invokevirtual 144, 3) := by decide +kernel
theorem dF_mark_47 : decode prog_1_method_9_code 47 = .ok (.ifCond .eq 13, 3) := by decide +kernel
theorem dF_mark_50 : decode prog_1_method_9_code 50 = .ok (.new 130, 3) := by decide +kernel
theorem dF_mark_53 : decode prog_1_method_9_code 53 = .ok (.dup, 1) := by decide +kernel
theorem dF_mark_54 : decode prog_1_method_9_code 54 = .ok (.ldc 147, 2) := by decide +kernel
theorem dF_mark_56 : decode prog_1_method_9_code 56 = .ok (.invokespecial 134, 3) := by decide +kernel
theorem dF_mark_59 : decode prog_1_method_9_code 59 = .ok (.athrow, 1) := by decide +kernel
theorem dF_mark_60 : decode prog_1_method_9_code 60 = .ok (.aload_n 0, 1) := by decide +kernel
theorem dF_mark_61 : decode prog_1_method_9_code 61 = .ok (.iconst 2, 1) := by decide +kernel
theorem dF_mark_62 : decode prog_1_method_9_code 62 = .ok (.aload_n 3, 1) := by decide +kernel
theorem dF_mark_63 : decode prog_1_method_9_code 63 = .ok (.aload_n 3, 1) := by decide +kernel
theorem dF_mark_64 : decode prog_1_method_9_code 64 = .ok (.iload_n 2, 1) := by decide +kernel
theorem dF_mark_65 : decode prog_1_method_9_code 65 = .ok (.invokevirtual 135, 3) := by decide +kernel
theorem dF_mark_68 : decode prog_1_method_9_code 68 = .ok (.istore 4, 2) := by decide +kernel
theorem dF_mark_70 : decode prog_1_method_9_code 70 = .ok (.iload 4, 2) := by decide +kernel
theorem dF_mark_72 : decode prog_1_method_9_code 72 = .ok (.ifCond .ne 13, 3) := by decide +kernel
theorem dF_mark_75 : decode prog_1_method_9_code 75 = .ok (.aload_n 3, 1) := by decide +kernel
theorem dF_mark_76 : decode prog_1_method_9_code 76 = .ok (.dup, 1) := by decide +kernel
theorem dF_mark_77 : decode prog_1_method_9_code 77 = .ok (.getfield 75, 3) := by decide +kernel
theorem dF_mark_80 : decode prog_1_method_9_code 80 = .ok (.iload_n 2, 1) := by decide +kernel
theorem dF_mark_81 : decode prog_1_method_9_code 81 = .ok (.ior, 1) := by decide +kernel
theorem dF_mark_82 : decode prog_1_method_9_code 82 = .ok (.putfield 75, 3) := by decide +kernel
theorem dF_mark_85 : decode prog_1_method_9_code 85 = .ok (.iload 4, 2) := by decide +kernel
theorem dF_mark_87 : decode prog_1_method_9_code 87 = .ok (.ireturn, 1) := by decide +kernel
def y_never : MethodName := ⟨"FragileRules", "never", "(I)I"⟩
theorem dF_never_0 : decode prog_1_method_11_code 0 = .ok (.iload_n 1, 1) := by decide +kernel
theorem dF_never_1 : decode prog_1_method_11_code 1 = .ok (.ifCond .ge 13, 3) := by decide +kernel
theorem dF_never_4 : decode prog_1_method_11_code 4 = .ok (.new 57, 3) := by decide +kernel
theorem dF_never_7 : decode prog_1_method_11_code 7 = .ok (.dup, 1) := by decide +kernel
theorem dF_never_8 : decode prog_1_method_11_code 8 = .ok (.ldc 149, 2) := by decide +kernel
theorem dF_never_10 : decode prog_1_method_11_code 10 = .ok (.invokespecial 61, 3) := by decide +kernel
theorem dF_never_13 : decode prog_1_method_11_code 13 = .ok (.athrow, 1) := by decide +kernel
theorem dF_never_14 : decode prog_1_method_11_code 14 = .ok (.iconst 0, 1) := by decide +kernel
theorem dF_never_15 : decode prog_1_method_11_code 15 = .ok (.istore_n 2, 1) := by decide +kernel
theorem dF_never_16 : decode prog_1_method_11_code 16 = .ok (.iconst 1, 1) := by decide +kernel
theorem dF_never_17 : decode prog_1_method_11_code 17 = .ok (.istore_n 3, 1) := by decide +kernel
theorem dF_never_18 : decode prog_1_method_11_code 18 = .ok (.iload_n 3, 1) := by decide +kernel
theorem dF_never_19 : decode prog_1_method_11_code 19 = .ok (.aload_n 0, 1) := by decide +kernel
theorem dF_never_20 : decode prog_1_method_11_code 20 = .ok (.getfield 25, 3) := by decide +kernel
theorem dF_never_23 : decode prog_1_method_11_code 23 = .ok (.if_icmp .gt 33, 3) := by decide +kernel
theorem dF_never_26 : decode prog_1_method_11_code 26 = .ok (.aload_n 0, 1) := by decide +kernel
theorem dF_never_27 : decode prog_1_method_11_code 27 = .ok (.getfield 21, 3) := by decide +kernel
theorem dF_never_30 : decode prog_1_method_11_code 30 = .ok (.iload_n 3, 1) := by decide +kernel
theorem dF_never_31 : decode prog_1_method_11_code 31 = .ok (.iconst 1, 1) := by decide +kernel
theorem dF_never_32 : decode prog_1_method_11_code 32 = .ok (.isub, 1) := by decide +kernel
theorem dF_never_33 : decode prog_1_method_11_code 33 = .ok (.aaload, 1) := by decide +kernel
theorem dF_never_34 : decode prog_1_method_11_code 34 = .ok (.getfield 151, 3) := by decide +kernel
theorem dF_never_37 : decode prog_1_method_11_code 37 = .ok (.ifCond .ne 13, 3) := by decide +kernel
theorem dF_never_40 : decode prog_1_method_11_code 40 = .ok (.iload_n 2, 1) := by decide +kernel
theorem dF_never_41 : decode prog_1_method_11_code 41 = .ok (.iload_n 1, 1) := by decide +kernel
theorem dF_never_42 : decode prog_1_method_11_code 42 = .ok (.if_icmp .ne 5, 3) := by decide +kernel
theorem dF_never_45 : decode prog_1_method_11_code 45 = .ok (.iload_n 3, 1) := by decide +kernel
theorem dF_never_46 : decode prog_1_method_11_code 46 = .ok (.ireturn, 1) := by decide +kernel
theorem dF_never_47 : decode prog_1_method_11_code 47 = .ok (.iinc 2 1, 3) := by decide +kernel
theorem dF_never_50 : decode prog_1_method_11_code 50 = .ok (.iinc 3 1, 3) := by decide +kernel
theorem dF_never_53 : decode prog_1_method_11_code 53 = .ok (.goto (-35), 3) := by decide +kernel
theorem dF_never_56 : decode prog_1_method_11_code 56 = .ok (.iconst (-1), 1) := by decide +kernel
theorem dF_never_57 : decode prog_1_method_11_code 57 = .ok (.ireturn, 1) := by decide +kernel
def y_order : MethodName := ⟨"FragileRules", "order", "(II)I"⟩
theorem dF_order_0 : decode prog_1_method_12_code 0 = .ok (.aload_n 0, 1) := by decide +kernel
theorem dF_order_1 : decode prog_1_method_12_code 1 = .ok (.iload_n 1, 1) := by decide +kernel
theorem dF_order_2 : decode prog_1_method_12_code 2 = .ok (.invokevirtual 154, 3) := by decide +kernel
theorem dF_order_5 : decode prog_1_method_12_code 5 = .ok (.ifCond .ne 13, 3) := by decide +kernel
theorem dF_order_8 : decode prog_1_method_12_code 8 = .ok (.new 123, 3) := by decide +kernel
theorem dF_order_11 : decode prog_1_method_12_code 11 = .ok (.dup, 1) := by decide +kernel
theorem dF_order_12 : decode prog_1_method_12_code 12 = .ok (.ldc 157, 2) := by decide +kernel
theorem dF_order_14 : decode prog_1_method_12_code 14 = .ok (.invokespecial 127, 3) := by decide +kernel
theorem dF_order_17 : decode prog_1_method_12_code 17 = .ok (.athrow, 1) := by decide +kernel
theorem dF_order_18 : decode prog_1_method_12_code 18 = .ok (.iload_n 2, 1) := by decide +kernel
theorem dF_order_19 : decode prog_1_method_12_code 19 = .ok (.aload_n 0, 1) := by decide +kernel
theorem dF_order_20 : decode prog_1_method_12_code 20 = .ok (.getfield 25, 3) := by decide +kernel
theorem dF_order_23 : decode prog_1_method_12_code 23 = .ok (.iconst 1, 1) := by decide +kernel
theorem dF_order_24 : decode prog_1_method_12_code 24 = .ok (.isub, 1) := by decide +kernel
theorem dF_order_25 : decode prog_1_method_12_code 25 = .ok (.invokestatic 53, 3) := by decide +kernel
theorem dF_order_28 : decode prog_1_method_12_code 28 = .ok (.ifCond .ne 13, 3) := by decide +kernel
theorem dF_order_31 : decode prog_1_method_12_code 31 = .ok (.new 57, 3) := by decide +kernel
theorem dF_order_34 : decode prog_1_method_12_code 34 = .ok (.dup, 1) := by decide +kernel
theorem dF_order_35 : decode prog_1_method_12_code 35 = .ok (.ldc 159, 2) := by decide +kernel
theorem dF_order_37 : decode prog_1_method_12_code 37 = .ok (.invokespecial 61, 3) := by decide +kernel
theorem dF_order_40 : decode prog_1_method_12_code 40 = .ok (.athrow, 1) := by decide +kernel
theorem dF_order_41 : decode prog_1_method_12_code 41 = .ok (.aload_n 0, 1) := by decide +kernel
theorem dF_order_42 : decode prog_1_method_12_code 42 = .ok (.iload_n 1, 1) := by decide +kernel
theorem dF_order_43 : decode prog_1_method_12_code 43 = .ok (.invokevirtual 161, 3) := by decide +kernel
theorem dF_order_46 : decode prog_1_method_12_code 46 = .ok (.istore_n 3, 1) := by decide +kernel
theorem dF_order_47 : decode prog_1_method_12_code 47 = .ok (.iload_n 3, 1) := by decide +kernel
theorem dF_order_48 : decode prog_1_method_12_code 48 = .ok (.iload_n 2, 1) := by decide +kernel
theorem dF_order_49 : decode prog_1_method_12_code 49 = .ok (.if_icmp .ge 24, 3) := by decide +kernel
theorem dF_order_52 : decode prog_1_method_12_code 52 = .ok (.aload_n 0, 1) := by decide +kernel
theorem dF_order_53 : decode prog_1_method_12_code 53 = .ok (.getfield 28, 3) := by decide +kernel
theorem dF_order_56 : decode prog_1_method_12_code 56 = .ok (.iload_n 3, 1) := by decide +kernel
theorem dF_order_57 : decode prog_1_method_12_code 57 = .ok (.iconst 1, 1) := by decide +kernel
theorem dF_order_58 : decode prog_1_method_12_code 58 = .ok (.iadd, 1) := by decide +kernel
theorem dF_order_59 : decode prog_1_method_12_code 59 = .ok (.aload_n 0, 1) := by decide +kernel
theorem dF_order_60 : decode prog_1_method_12_code 60 = .ok (.getfield 28, 3) := by decide +kernel
theorem dF_order_63 : decode prog_1_method_12_code 63 = .ok (.iload_n 3, 1) := by decide +kernel
theorem dF_order_64 : decode prog_1_method_12_code 64 = .ok (.iload_n 2, 1) := by decide +kernel
theorem dF_order_65 : decode prog_1_method_12_code 65 = .ok (.iload_n 3, 1) := by decide +kernel
theorem dF_order_66 : decode prog_1_method_12_code 66 = .ok (.isub, 1) := by decide +kernel
theorem dF_order_67 : decode prog_1_method_12_code 67 = .ok (.invokestatic 165, 3) := by decide +kernel
theorem dF_order_70 : decode prog_1_method_12_code 70 = .ok (.goto 21, 3) := by decide +kernel
theorem dF_order_73 : decode prog_1_method_12_code 73 = .ok (.aload_n 0, 1) := by decide +kernel
theorem dF_order_74 : decode prog_1_method_12_code 74 = .ok (.getfield 28, 3) := by decide +kernel
theorem dF_order_77 : decode prog_1_method_12_code 77 = .ok (.iload_n 2, 1) := by decide +kernel
theorem dF_order_78 : decode prog_1_method_12_code 78 = .ok (.aload_n 0, 1) := by decide +kernel
theorem dF_order_79 : decode prog_1_method_12_code 79 = .ok (.getfield 28, 3) := by decide +kernel
theorem dF_order_82 : decode prog_1_method_12_code 82 = .ok (.iload_n 2, 1) := by decide +kernel
theorem dF_order_83 : decode prog_1_method_12_code 83 = .ok (.iconst 1, 1) := by decide +kernel
theorem dF_order_84 : decode prog_1_method_12_code 84 = .ok (.iadd, 1) := by decide +kernel
theorem dF_order_85 : decode prog_1_method_12_code 85 = .ok (.iload_n 3, 1) := by decide +kernel
theorem dF_order_86 : decode prog_1_method_12_code 86 = .ok (.iload_n 2, 1) := by decide +kernel
theorem dF_order_87 : decode prog_1_method_12_code 87 = .ok (.isub, 1) := by decide +kernel
theorem dF_order_88 : decode prog_1_method_12_code 88 = .ok (.invokestatic 165, 3) := by decide +kernel
theorem dF_order_91 : decode prog_1_method_12_code 91 = .ok (.aload_n 0, 1) := by decide +kernel
theorem dF_order_92 : decode prog_1_method_12_code 92 = .ok (.getfield 28, 3) := by decide +kernel
theorem dF_order_95 : decode prog_1_method_12_code 95 = .ok (.iload_n 2, 1) := by decide +kernel
theorem dF_order_96 : decode prog_1_method_12_code 96 = .ok (.iload_n 1, 1) := by decide +kernel
theorem dF_order_97 : decode prog_1_method_12_code 97 = .ok (.iastore, 1) := by decide +kernel
theorem dF_order_98 : decode prog_1_method_12_code 98 = .ok (.iload_n 3, 1) := by decide +kernel
theorem dF_order_99 : decode prog_1_method_12_code 99 = .ok (.ireturn, 1) := by decide +kernel
def y_told : MethodName := ⟨"FragileRules", "told", "(II)I"⟩
theorem dF_told_0 : decode prog_1_method_13_code 0 = .ok (.aload_n 0, 1) := by decide +kernel
theorem dF_told_1 : decode prog_1_method_13_code 1 = .ok (.iload_n 1, 1) := by decide +kernel
theorem dF_told_2 : decode prog_1_method_13_code 2 = .ok (.invokevirtual 154, 3) := by decide +kernel
theorem dF_told_5 : decode prog_1_method_13_code 5 = .ok (.ifCond .ne 13, 3) := by decide +kernel
theorem dF_told_8 : decode prog_1_method_13_code 8 = .ok (.new 123, 3) := by decide +kernel
theorem dF_told_11 : decode prog_1_method_13_code 11 = .ok (.dup, 1) := by decide +kernel
theorem dF_told_12 : decode prog_1_method_13_code 12 = .ok (.ldc 157, 2) := by decide +kernel
theorem dF_told_14 : decode prog_1_method_13_code 14 = .ok (.invokespecial 127, 3) := by decide +kernel
theorem dF_told_17 : decode prog_1_method_13_code 17 = .ok (.athrow, 1) := by decide +kernel
theorem dF_told_18 : decode prog_1_method_13_code 18 = .ok (.aload_n 0, 1) := by decide +kernel
theorem dF_told_19 : decode prog_1_method_13_code 19 = .ok (.getfield 21, 3) := by decide +kernel
theorem dF_told_22 : decode prog_1_method_13_code 22 = .ok (.iload_n 1, 1) := by decide +kernel
theorem dF_told_23 : decode prog_1_method_13_code 23 = .ok (.iconst 1, 1) := by decide +kernel
theorem dF_told_24 : decode prog_1_method_13_code 24 = .ok (.isub, 1) := by decide +kernel
theorem dF_told_25 : decode prog_1_method_13_code 25 = .ok (.aaload, 1) := by decide +kernel
theorem dF_told_26 : decode prog_1_method_13_code 26 = .ok (.astore_n 3, 1) := by decide +kernel
theorem dF_told_27 : decode prog_1_method_13_code 27 = .ok (.iload_n 2, 1) := by decide +kernel
theorem dF_told_28 : decode prog_1_method_13_code 28 = .ok (.tableswitch 62 0 4 #[36, 41, 46, 51, 57], 36) := by decide +kernel
theorem dF_told_64 : decode prog_1_method_13_code 64 = .ok (.aload_n 3, 1) := by decide +kernel
theorem dF_told_65 : decode prog_1_method_13_code 65 = .ok (.getfield 171, 3) := by decide +kernel
theorem dF_told_68 : decode prog_1_method_13_code 68 = .ok (.ireturn, 1) := by decide +kernel
theorem dF_told_69 : decode prog_1_method_13_code 69 = .ok (.aload_n 3, 1) := by decide +kernel
theorem dF_told_70 : decode prog_1_method_13_code 70 = .ok (.getfield 174, 3) := by decide +kernel
theorem dF_told_73 : decode prog_1_method_13_code 73 = .ok (.ireturn, 1) := by decide +kernel
theorem dF_told_74 : decode prog_1_method_13_code 74 = .ok (.aload_n 3, 1) := by decide +kernel
theorem dF_told_75 : decode prog_1_method_13_code 75 = .ok (.getfield 177, 3) := by decide +kernel
theorem dF_told_78 : decode prog_1_method_13_code 78 = .ok (.ireturn, 1) := by decide +kernel
theorem dF_told_79 : decode prog_1_method_13_code 79 = .ok (.aload_n 0, 1) := by decide +kernel
theorem dF_told_80 : decode prog_1_method_13_code 80 = .ok (.iload_n 1, 1) := by decide +kernel
theorem dF_told_81 : decode prog_1_method_13_code 81 = .ok (.invokevirtual 161, 3) := by decide +kernel
theorem dF_told_84 : decode prog_1_method_13_code 84 = .ok (.ireturn, 1) := by decide +kernel
theorem dF_told_85 : decode prog_1_method_13_code 85 = .ok (.aload_n 3, 1) := by decide +kernel
theorem dF_told_86 : decode prog_1_method_13_code 86 = .ok (.getfield 151, 3) := by decide +kernel
theorem dF_told_89 : decode prog_1_method_13_code 89 = .ok (.ireturn, 1) := by decide +kernel
theorem dF_told_90 : decode prog_1_method_13_code 90 = .ok (.new 57, 3) := by decide +kernel
theorem dF_told_93 : decode prog_1_method_13_code 93 = .ok (.dup, 1) := by decide +kernel
theorem dF_told_94 : decode prog_1_method_13_code 94 = .ok (.ldc 180, 2) := by decide +kernel
theorem dF_told_96 : decode prog_1_method_13_code 96 = .ok (.invokespecial 61, 3) := by decide +kernel
theorem dF_told_99 : decode prog_1_method_13_code 99 = .ok (.athrow, 1) := by decide +kernel
def y_about : MethodName := ⟨"FragileRules", "about", "(II)I"⟩
theorem dF_about_0 : decode prog_1_method_14_code 0 = .ok (.aload_n 0, 1) := by decide +kernel
theorem dF_about_1 : decode prog_1_method_14_code 1 = .ok (.iload_n 1, 1) := by decide +kernel
theorem dF_about_2 : decode prog_1_method_14_code 2 = .ok (.invokevirtual 119, 3) := by decide +kernel
theorem dF_about_5 : decode prog_1_method_14_code 5 = .ok (.ifCond .ne 13, 3) := by decide +kernel
theorem dF_about_8 : decode prog_1_method_14_code 8 = .ok (.new 123, 3) := by decide +kernel
theorem dF_about_11 : decode prog_1_method_14_code 11 = .ok (.dup, 1) := by decide +kernel
theorem dF_about_12 : decode prog_1_method_14_code 12 = .ok (.ldc 125, 2) := by decide +kernel
theorem dF_about_14 : decode prog_1_method_14_code 14 = .ok (.invokespecial 127, 3) := by decide +kernel
theorem dF_about_17 : decode prog_1_method_14_code 17 = .ok (.athrow, 1) := by decide +kernel
theorem dF_about_18 : decode prog_1_method_14_code 18 = .ok (.iload_n 2, 1) := by decide +kernel
theorem dF_about_19 : decode prog_1_method_14_code 19 = .ok (.tableswitch 55 0 2 #[25, 35, 45], 25) := by decide +kernel
theorem dF_about_44 : decode prog_1_method_14_code 44 = .ok (.aload_n 0, 1) := by decide +kernel
theorem dF_about_45 : decode prog_1_method_14_code 45 = .ok (.getfield 11, 3) := by decide +kernel
theorem dF_about_48 : decode prog_1_method_14_code 48 = .ok (.iload_n 1, 1) := by decide +kernel
theorem dF_about_49 : decode prog_1_method_14_code 49 = .ok (.aaload, 1) := by decide +kernel
theorem dF_about_50 : decode prog_1_method_14_code 50 = .ok (.getfield 69, 3) := by decide +kernel
theorem dF_about_53 : decode prog_1_method_14_code 53 = .ok (.ireturn, 1) := by decide +kernel
theorem dF_about_54 : decode prog_1_method_14_code 54 = .ok (.aload_n 0, 1) := by decide +kernel
theorem dF_about_55 : decode prog_1_method_14_code 55 = .ok (.getfield 11, 3) := by decide +kernel
theorem dF_about_58 : decode prog_1_method_14_code 58 = .ok (.iload_n 1, 1) := by decide +kernel
theorem dF_about_59 : decode prog_1_method_14_code 59 = .ok (.aaload, 1) := by decide +kernel
theorem dF_about_60 : decode prog_1_method_14_code 60 = .ok (.getfield 72, 3) := by decide +kernel
theorem dF_about_63 : decode prog_1_method_14_code 63 = .ok (.ireturn, 1) := by decide +kernel
theorem dF_about_64 : decode prog_1_method_14_code 64 = .ok (.aload_n 0, 1) := by decide +kernel
theorem dF_about_65 : decode prog_1_method_14_code 65 = .ok (.getfield 11, 3) := by decide +kernel
theorem dF_about_68 : decode prog_1_method_14_code 68 = .ok (.iload_n 1, 1) := by decide +kernel
theorem dF_about_69 : decode prog_1_method_14_code 69 = .ok (.aaload, 1) := by decide +kernel
theorem dF_about_70 : decode prog_1_method_14_code 70 = .ok (.getfield 75, 3) := by decide +kernel
theorem dF_about_73 : decode prog_1_method_14_code 73 = .ok (.ireturn, 1) := by decide +kernel
theorem dF_about_74 : decode prog_1_method_14_code 74 = .ok (.new 57, 3) := by decide +kernel
theorem dF_about_77 : decode prog_1_method_14_code 77 = .ok (.dup, 1) := by decide +kernel
theorem dF_about_78 : decode prog_1_method_14_code 78 = .ok (.ldc 182, 2) := by decide +kernel
theorem dF_about_80 : decode prog_1_method_14_code 80 = .ok (.invokespecial 61, 3) := by decide +kernel
theorem dF_about_83 : decode prog_1_method_14_code 83 = .ok (.athrow, 1) := by decide +kernel
theorem fl_U_16 : Cond.fieldLink "FragileRules$Unit" 16 "FragileRules$Unit" "marks" "I" ∈ fr_tbl := fr_in 78 (by decide +kernel) rfl
theorem fl_T_15 : Cond.fieldLink "FragileRules$Text" 15 "FragileRules$Text" "length" "I" ∈ fr_tbl := fr_in 59 (by decide +kernel) rfl
theorem fl_T_9 : Cond.fieldLink "FragileRules$Text" 9 "FragileRules$Text" "signs" "[I" ∈ fr_tbl := fr_in 57 (by decide +kernel) rfl
theorem ml_T_26 : Cond.methodLink "FragileRules$Text" 26 ⟨"FragileRules$Text", "signAt", "(I)I"⟩ ∈ fr_tbl := fr_in 331 (by decide +kernel) rfl
theorem mi_signAt : Cond.instanceMethod ⟨"FragileRules$Text", "signAt", "(I)I"⟩ ∈ fr_tbl := fr_in 332 (by decide +kernel) rfl
theorem msel_signAt : Cond.selects "FragileRules$Text" ⟨"FragileRules$Text", "signAt", "(I)I"⟩ ⟨"FragileRules$Text", "signAt", "(I)I"⟩ ∈ fr_tbl := fr_in 333 (by decide +kernel) rfl
theorem mini_T : Cond.initialized "FragileRules$Text" ∈ fr_tbl := fr_in 26 (by decide +kernel) rfl
theorem mc_signAt : Cond.code ⟨"FragileRules$Text", "signAt", "(I)I"⟩ prog_3_method_8_code 2 (some FieldType.int) ∈ fr_tbl := fr_in 334 (by decide +kernel) rfl
theorem ml_T_29 : Cond.methodLink "FragileRules$Text" 29 ⟨"FragileRules$Text", "digitAt", "(I)I"⟩ ∈ fr_tbl := fr_in 335 (by decide +kernel) rfl
theorem mi_digitAt : Cond.instanceMethod ⟨"FragileRules$Text", "digitAt", "(I)I"⟩ ∈ fr_tbl := fr_in 336 (by decide +kernel) rfl
theorem msel_digitAt : Cond.selects "FragileRules$Text" ⟨"FragileRules$Text", "digitAt", "(I)I"⟩ ⟨"FragileRules$Text", "digitAt", "(I)I"⟩ ∈ fr_tbl := fr_in 337 (by decide +kernel) rfl
theorem mc_digitAt : Cond.code ⟨"FragileRules$Text", "digitAt", "(I)I"⟩ prog_3_method_7_code 3 (some FieldType.int) ∈ fr_tbl := fr_in 338 (by decide +kernel) rfl
theorem ml_T_23 : Cond.methodLink "FragileRules$Text" 23 ⟨"FragileRules$Text", "rowAt", "(I)I"⟩ ∈ fr_tbl := fr_in 327 (by decide +kernel) rfl
theorem mi_rowAt : Cond.instanceMethod ⟨"FragileRules$Text", "rowAt", "(I)I"⟩ ∈ fr_tbl := fr_in 328 (by decide +kernel) rfl
theorem msel_rowAt : Cond.selects "FragileRules$Text" ⟨"FragileRules$Text", "rowAt", "(I)I"⟩ ⟨"FragileRules$Text", "rowAt", "(I)I"⟩ ∈ fr_tbl := fr_in 329 (by decide +kernel) rfl
theorem mc_rowAt : Cond.code ⟨"FragileRules$Text", "rowAt", "(I)I"⟩ prog_3_method_5_code 2 (some FieldType.int) ∈ fr_tbl := fr_in 330 (by decide +kernel) rfl
theorem mc_within : Cond.code ⟨"FragileRules", "isWithin", "(II)Z"⟩ prog_1_method_16_code 2 (some FieldType.boolean) ∈ fr_tbl := fr_in 159 (by decide +kernel) rfl
theorem mini_F : Cond.initialized "FragileRules" ∈ fr_tbl := fr_in 25 (by decide +kernel) rfl
theorem mst_within : Cond.static ⟨"FragileRules", "isWithin", "(II)Z"⟩ ∈ fr_tbl := fr_in 158 (by decide +kernel) rfl
theorem ml_T_19 : Cond.methodLink "FragileRules$Text" 19 ⟨"FragileRules$Text", "behindLine", "(I)I"⟩ ∈ fr_tbl := fr_in 323 (by decide +kernel) rfl
theorem mi_behind : Cond.instanceMethod ⟨"FragileRules$Text", "behindLine", "(I)I"⟩ ∈ fr_tbl := fr_in 324 (by decide +kernel) rfl
theorem msel_behind : Cond.selects "FragileRules$Text" ⟨"FragileRules$Text", "behindLine", "(I)I"⟩ ⟨"FragileRules$Text", "behindLine", "(I)I"⟩ ∈ fr_tbl := fr_in 325 (by decide +kernel) rfl
theorem mc_behind : Cond.code ⟨"FragileRules$Text", "behindLine", "(I)I"⟩ prog_3_method_4_code 6 (some FieldType.int) ∈ fr_tbl := fr_in 326 (by decide +kernel) rfl
theorem fl_F_15 : Cond.fieldLink "FragileRules" 15 "FragileRules" "unitCount" "I" ∈ fr_tbl := fr_in 110 (by decide +kernel) rfl
theorem fl_F_25 : Cond.fieldLink "FragileRules" 25 "FragileRules" "ruleCount" "I" ∈ fr_tbl := fr_in 112 (by decide +kernel) rfl
theorem fl_R_9 : Cond.fieldLink "FragileRules$Rule" 9 "FragileRules$Rule" "row" "I" ∈ fr_tbl := fr_in 92 (by decide +kernel) rfl
theorem fl_R_15 : Cond.fieldLink "FragileRules$Rule" 15 "FragileRules$Rule" "a" "I" ∈ fr_tbl := fr_in 94 (by decide +kernel) rfl
theorem ml_R_32 : Cond.methodLink "FragileRules$Rule" 32 ⟨"FragileRules$Unit", "has", "(I)Z"⟩ ∈ fr_tbl := fr_in 265 (by decide +kernel) rfl
theorem mi_has : Cond.instanceMethod ⟨"FragileRules$Unit", "has", "(I)Z"⟩ ∈ fr_tbl := fr_in 250 (by decide +kernel) rfl
theorem msel_has : Cond.selects "FragileRules$Unit" ⟨"FragileRules$Unit", "has", "(I)Z"⟩ ⟨"FragileRules$Unit", "has", "(I)Z"⟩ ∈ fr_tbl := fr_in 251 (by decide +kernel) rfl
theorem mini_U : Cond.initialized "FragileRules$Unit" ∈ fr_tbl := fr_in 27 (by decide +kernel) rfl
theorem mc_has : Cond.code ⟨"FragileRules$Unit", "has", "(I)Z"⟩ prog_4_method_2_code 2 (some FieldType.boolean) ∈ fr_tbl := fr_in 252 (by decide +kernel) rfl
theorem fl_R_24 : Cond.fieldLink "FragileRules$Rule" 24 "FragileRules$Unit" "kind" "I" ∈ fr_tbl := fr_in 74 (by decide +kernel) rfl
theorem fl_R_18 : Cond.fieldLink "FragileRules$Rule" 18 "FragileRules$Rule" "b" "I" ∈ fr_tbl := fr_in 96 (by decide +kernel) rfl
theorem fl_R_29 : Cond.fieldLink "FragileRules$Rule" 29 "FragileRules$Unit" "weight" "I" ∈ fr_tbl := fr_in 77 (by decide +kernel) rfl
theorem ml_R_36 : Cond.methodLink "FragileRules$Rule" 36 ⟨"FragileRules$Rule", "refusesByItsDoing", "(LFragileRules$Unit;LFragileRules$Unit;I)Z"⟩ ∈ fr_tbl := fr_in 266 (by decide +kernel) rfl
theorem mi_doing : Cond.instanceMethod ⟨"FragileRules$Rule", "refusesByItsDoing", "(LFragileRules$Unit;LFragileRules$Unit;I)Z"⟩ ∈ fr_tbl := fr_in 267 (by decide +kernel) rfl
theorem msel_doing : Cond.selects "FragileRules$Rule" ⟨"FragileRules$Rule", "refusesByItsDoing", "(LFragileRules$Unit;LFragileRules$Unit;I)Z"⟩ ⟨"FragileRules$Rule", "refusesByItsDoing", "(LFragileRules$Unit;LFragileRules$Unit;I)Z"⟩ ∈ fr_tbl := fr_in 268 (by decide +kernel) rfl
theorem mini_R : Cond.initialized "FragileRules$Rule" ∈ fr_tbl := fr_in 28 (by decide +kernel) rfl
theorem mc_doing : Cond.code ⟨"FragileRules$Rule", "refusesByItsDoing", "(LFragileRules$Unit;LFragileRules$Unit;I)Z"⟩ prog_2_method_4_code 4 (some FieldType.boolean) ∈ fr_tbl := fr_in 269 (by decide +kernel) rfl
theorem fl_F_41 : Cond.fieldLink "FragileRules" 41 "FragileRules" "text" "LFragileRules$Text;" ∈ fr_tbl := fr_in 116 (by decide +kernel) rfl
theorem fl_F_98 : Cond.fieldLink "FragileRules" 98 "FragileRules$Text" "length" "I" ∈ fr_tbl := fr_in 60 (by decide +kernel) rfl
theorem fl_F_45 : Cond.fieldLink "FragileRules" 45 "FragileRules" "verdictCount" "I" ∈ fr_tbl := fr_in 117 (by decide +kernel) rfl
theorem fl_F_48 : Cond.fieldLink "FragileRules" 48 "FragileRules" "refusedCount" "I" ∈ fr_tbl := fr_in 118 (by decide +kernel) rfl
theorem fl_F_35 : Cond.fieldLink "FragileRules" 35 "FragileRules" "askedCount" "I" ∈ fr_tbl := fr_in 115 (by decide +kernel) rfl
theorem fl_F_32 : Cond.fieldLink "FragileRules" 32 "FragileRules" "askedNumbers" "[I" ∈ fr_tbl := fr_in 114 (by decide +kernel) rfl
theorem fl_F_28 : Cond.fieldLink "FragileRules" 28 "FragileRules" "numbersInOrder" "[I" ∈ fr_tbl := fr_in 113 (by decide +kernel) rfl
theorem fl_F_21 : Cond.fieldLink "FragileRules" 21 "FragileRules" "rules" "[LFragileRules$Rule;" ∈ fr_tbl := fr_in 111 (by decide +kernel) rfl
theorem fl_F_171 : Cond.fieldLink "FragileRules" 171 "FragileRules$Rule" "row" "I" ∈ fr_tbl := fr_in 93 (by decide +kernel) rfl
theorem fl_F_174 : Cond.fieldLink "FragileRules" 174 "FragileRules$Rule" "a" "I" ∈ fr_tbl := fr_in 95 (by decide +kernel) rfl
theorem fl_F_177 : Cond.fieldLink "FragileRules" 177 "FragileRules$Rule" "b" "I" ∈ fr_tbl := fr_in 97 (by decide +kernel) rfl
theorem ml_F_204 : Cond.methodLink "FragileRules" 204 ⟨"FragileRules$Rule", "asking", "()I"⟩ ∈ fr_tbl := fr_in 257 (by decide +kernel) rfl
theorem mi_asking : Cond.instanceMethod ⟨"FragileRules$Rule", "asking", "()I"⟩ ∈ fr_tbl := fr_in 258 (by decide +kernel) rfl
theorem msel_asking : Cond.selects "FragileRules$Rule" ⟨"FragileRules$Rule", "asking", "()I"⟩ ⟨"FragileRules$Rule", "asking", "()I"⟩ ∈ fr_tbl := fr_in 259 (by decide +kernel) rfl
theorem mc_asking : Cond.code ⟨"FragileRules$Rule", "asking", "()I"⟩ prog_2_method_2_code 1 (some FieldType.int) ∈ fr_tbl := fr_in 260 (by decide +kernel) rfl
theorem ml_F_207 : Cond.methodLink "FragileRules" 207 ⟨"FragileRules$Rule", "refuses", "(LFragileRules$Unit;LFragileRules$Unit;I)Z"⟩ ∈ fr_tbl := fr_in 261 (by decide +kernel) rfl
theorem mi_refuses : Cond.instanceMethod ⟨"FragileRules$Rule", "refuses", "(LFragileRules$Unit;LFragileRules$Unit;I)Z"⟩ ∈ fr_tbl := fr_in 262 (by decide +kernel) rfl
theorem msel_refuses : Cond.selects "FragileRules$Rule" ⟨"FragileRules$Rule", "refuses", "(LFragileRules$Unit;LFragileRules$Unit;I)Z"⟩ ⟨"FragileRules$Rule", "refuses", "(LFragileRules$Unit;LFragileRules$Unit;I)Z"⟩ ∈ fr_tbl := fr_in 263 (by decide +kernel) rfl
theorem mc_refuses : Cond.code ⟨"FragileRules$Rule", "refuses", "(LFragileRules$Unit;LFragileRules$Unit;I)Z"⟩ prog_2_method_3_code 4 (some FieldType.boolean) ∈ fr_tbl := fr_in 264 (by decide +kernel) rfl
theorem fl_F_151 : Cond.fieldLink "FragileRules" 151 "FragileRules$Rule" "refusals" "I" ∈ fr_tbl := fr_in 99 (by decide +kernel) rfl
theorem ml_F_201 : Cond.methodLink "FragileRules" 201 ⟨"FragileRules", "firstRefusing", "(ILFragileRules$Unit;LFragileRules$Unit;I)I"⟩ ∈ fr_tbl := fr_in 253 (by decide +kernel) rfl
theorem mi_firstRefusing : Cond.instanceMethod ⟨"FragileRules", "firstRefusing", "(ILFragileRules$Unit;LFragileRules$Unit;I)I"⟩ ∈ fr_tbl := fr_in 255 (by decide +kernel) rfl
theorem msel_firstRefusing : Cond.selects "FragileRules" ⟨"FragileRules", "firstRefusing", "(ILFragileRules$Unit;LFragileRules$Unit;I)I"⟩ ⟨"FragileRules", "firstRefusing", "(ILFragileRules$Unit;LFragileRules$Unit;I)I"⟩ ∈ fr_tbl := fr_in 2 (by decide +kernel) rfl
theorem mc_firstRefusing : Cond.code ⟨"FragileRules", "firstRefusing", "(ILFragileRules$Unit;LFragileRules$Unit;I)I"⟩ prog_1_method_26_code 8 (some FieldType.int) ∈ fr_tbl := fr_in 256 (by decide +kernel) rfl
theorem cst_I_265 : Cond.constant "java/lang/Integer" 265 (1431655765 : Int32) ∈ fr_tbl := fr_in 286 (by decide +kernel) rfl
theorem cst_I_266 : Cond.constant "java/lang/Integer" 266 (858993459 : Int32) ∈ fr_tbl := fr_in 287 (by decide +kernel) rfl
theorem cst_I_267 : Cond.constant "java/lang/Integer" 267 (252645135 : Int32) ∈ fr_tbl := fr_in 288 (by decide +kernel) rfl
theorem ml_F_53 : Cond.methodLink "FragileRules" 53 ⟨"FragileRules", "isWithin", "(II)Z"⟩ ∈ fr_tbl := fr_in 157 (by decide +kernel) rfl
theorem ml_F_184 : Cond.methodLink "FragileRules" 184 ⟨"java/lang/Integer", "bitCount", "(I)I"⟩ ∈ fr_tbl := fr_in 283 (by decide +kernel) rfl
theorem mst_bitCount : Cond.static ⟨"java/lang/Integer", "bitCount", "(I)I"⟩ ∈ fr_tbl := fr_in 284 (by decide +kernel) rfl
theorem mini_I : Cond.initialized "java/lang/Integer" ∈ fr_tbl := fr_in 35 (by decide +kernel) rfl
theorem mc_bitCount : Cond.code ⟨"java/lang/Integer", "bitCount", "(I)I"⟩ prog_10_method_49_code 1 (some FieldType.int) ∈ fr_tbl := fr_in 285 (by decide +kernel) rfl
theorem ml_F_139 : Cond.methodLink "FragileRules" 139 ⟨"FragileRules", "isMark", "(I)Z"⟩ ∈ fr_tbl := fr_in 280 (by decide +kernel) rfl
theorem mst_isMark : Cond.static ⟨"FragileRules", "isMark", "(I)Z"⟩ ∈ fr_tbl := fr_in 281 (by decide +kernel) rfl
theorem mc_isMark : Cond.code ⟨"FragileRules", "isMark", "(I)Z"⟩ prog_1_method_17_code 1 (some FieldType.boolean) ∈ fr_tbl := fr_in 282 (by decide +kernel) rfl
theorem ml_F_189 : Cond.methodLink "FragileRules" 189 ⟨"FragileRules$Text", "rowAt", "(I)I"⟩ ∈ fr_tbl := fr_in 348 (by decide +kernel) rfl
theorem ml_F_192 : Cond.methodLink "FragileRules" 192 ⟨"FragileRules$Text", "digitAt", "(I)I"⟩ ∈ fr_tbl := fr_in 349 (by decide +kernel) rfl
theorem ml_F_195 : Cond.methodLink "FragileRules" 195 ⟨"FragileRules$Text", "numberAt", "(I)I"⟩ ∈ fr_tbl := fr_in 350 (by decide +kernel) rfl
theorem mi_numberAt : Cond.instanceMethod ⟨"FragileRules$Text", "numberAt", "(I)I"⟩ ∈ fr_tbl := fr_in 351 (by decide +kernel) rfl
theorem msel_numberAt : Cond.selects "FragileRules$Text" ⟨"FragileRules$Text", "numberAt", "(I)I"⟩ ⟨"FragileRules$Text", "numberAt", "(I)I"⟩ ∈ fr_tbl := fr_in 352 (by decide +kernel) rfl
theorem mc_numberAt : Cond.code ⟨"FragileRules$Text", "numberAt", "(I)I"⟩ prog_3_method_6_code 4 (some FieldType.int) ∈ fr_tbl := fr_in 353 (by decide +kernel) rfl
theorem ml_F_90 : Cond.methodLink "FragileRules" 90 ⟨"FragileRules", "addRule", "(III)I"⟩ ∈ fr_tbl := fr_in 291 (by decide +kernel) rfl
theorem mi_addRule : Cond.instanceMethod ⟨"FragileRules", "addRule", "(III)I"⟩ ∈ fr_tbl := fr_in 293 (by decide +kernel) rfl
theorem msel_addRule : Cond.selects "FragileRules" ⟨"FragileRules", "addRule", "(III)I"⟩ ⟨"FragileRules", "addRule", "(III)I"⟩ ∈ fr_tbl := fr_in 3 (by decide +kernel) rfl
theorem mc_addRule : Cond.code ⟨"FragileRules", "addRule", "(III)I"⟩ prog_1_method_21_code 5 (some FieldType.int) ∈ fr_tbl := fr_in 294 (by decide +kernel) rfl
theorem ml_F_198 : Cond.methodLink "FragileRules" 198 ⟨"FragileRules$Text", "behindLine", "(I)I"⟩ ∈ fr_tbl := fr_in 354 (by decide +kernel) rfl
theorem ml_F_144 : Cond.methodLink "FragileRules" 144 ⟨"FragileRules$Unit", "has", "(I)Z"⟩ ∈ fr_tbl := fr_in 249 (by decide +kernel) rfl
theorem cl0_F_57 : Cond.classLink "FragileRules" 57 "java/lang/IllegalArgumentException" ∈ fr_tbl := fr_in 160 (by decide +kernel) rfl
theorem mins_IllegalArgumentException : Cond.instantiable "java/lang/IllegalArgumentException" 6 ∈ fr_tbl := fr_in 161 (by decide +kernel) rfl
theorem mini_IllegalArgumentException : Cond.initialized "java/lang/IllegalArgumentException" ∈ fr_tbl := fr_in 33 (by decide +kernel) rfl
theorem fl_F_11 : Cond.fieldLink "FragileRules" 11 "FragileRules" "units" "[LFragileRules$Unit;" ∈ fr_tbl := fr_in 109 (by decide +kernel) rfl
theorem fl_F_69 : Cond.fieldLink "FragileRules" 69 "FragileRules$Unit" "kind" "I" ∈ fr_tbl := fr_in 73 (by decide +kernel) rfl
theorem fl_F_72 : Cond.fieldLink "FragileRules" 72 "FragileRules$Unit" "weight" "I" ∈ fr_tbl := fr_in 76 (by decide +kernel) rfl
theorem fl_F_75 : Cond.fieldLink "FragileRules" 75 "FragileRules$Unit" "marks" "I" ∈ fr_tbl := fr_in 79 (by decide +kernel) rfl
theorem ml_F_78 : Cond.methodLink "FragileRules" 78 ⟨"FragileRules", "firstRefusingMarks", "(LFragileRules$Unit;)I"⟩ ∈ fr_tbl := fr_in 245 (by decide +kernel) rfl
theorem mi_marks : Cond.instanceMethod ⟨"FragileRules", "firstRefusingMarks", "(LFragileRules$Unit;)I"⟩ ∈ fr_tbl := fr_in 247 (by decide +kernel) rfl
theorem msel_marks : Cond.selects "FragileRules" ⟨"FragileRules", "firstRefusingMarks", "(LFragileRules$Unit;)I"⟩ ⟨"FragileRules", "firstRefusingMarks", "(LFragileRules$Unit;)I"⟩ ∈ fr_tbl := fr_in 1 (by decide +kernel) rfl
theorem mc_marks : Cond.code ⟨"FragileRules", "firstRefusingMarks", "(LFragileRules$Unit;)I"⟩ prog_1_method_25_code 4 (some FieldType.int) ∈ fr_tbl := fr_in 248 (by decide +kernel) rfl
theorem cl0_F_64 : Cond.classLink "FragileRules" 64 "java/lang/UnsupportedOperationException" ∈ fr_tbl := fr_in 229 (by decide +kernel) rfl
theorem mins_UnsupportedOperationException : Cond.instantiable "java/lang/UnsupportedOperationException" 6 ∈ fr_tbl := fr_in 230 (by decide +kernel) rfl
theorem mini_UnsupportedOperationException : Cond.initialized "java/lang/UnsupportedOperationException" ∈ fr_tbl := fr_in 34 (by decide +kernel) rfl
theorem ml_F_82 : Cond.methodLink "FragileRules" 82 ⟨"FragileRules", "isRule", "(III)Z"⟩ ∈ fr_tbl := fr_in 277 (by decide +kernel) rfl
theorem mst_isRule : Cond.static ⟨"FragileRules", "isRule", "(III)Z"⟩ ∈ fr_tbl := fr_in 278 (by decide +kernel) rfl
theorem mc_isRule : Cond.code ⟨"FragileRules", "isRule", "(III)Z"⟩ prog_1_method_18_code 3 (some FieldType.boolean) ∈ fr_tbl := fr_in 279 (by decide +kernel) rfl
theorem fl_F_103 : Cond.fieldLink "FragileRules" 103 "FragileRules$Text" "signs" "[I" ∈ fr_tbl := fr_in 58 (by decide +kernel) rfl
theorem ml_F_106 : Cond.methodLink "FragileRules" 106 ⟨"FragileRules$Text", "wrongPlace", "()I"⟩ ∈ fr_tbl := fr_in 319 (by decide +kernel) rfl
theorem mi_wrongPlace : Cond.instanceMethod ⟨"FragileRules$Text", "wrongPlace", "()I"⟩ ∈ fr_tbl := fr_in 320 (by decide +kernel) rfl
theorem msel_wrongPlace : Cond.selects "FragileRules$Text" ⟨"FragileRules$Text", "wrongPlace", "()I"⟩ ⟨"FragileRules$Text", "wrongPlace", "()I"⟩ ∈ fr_tbl := fr_in 321 (by decide +kernel) rfl
theorem mc_wrongPlace : Cond.code ⟨"FragileRules$Text", "wrongPlace", "()I"⟩ prog_3_method_2_code 4 (some FieldType.int) ∈ fr_tbl := fr_in 322 (by decide +kernel) rfl
theorem ml_F_110 : Cond.methodLink "FragileRules" 110 ⟨"FragileRules$Text", "lineCount", "()I"⟩ ∈ fr_tbl := fr_in 340 (by decide +kernel) rfl
theorem mi_lineCount : Cond.instanceMethod ⟨"FragileRules$Text", "lineCount", "()I"⟩ ∈ fr_tbl := fr_in 341 (by decide +kernel) rfl
theorem msel_lineCount : Cond.selects "FragileRules$Text" ⟨"FragileRules$Text", "lineCount", "()I"⟩ ⟨"FragileRules$Text", "lineCount", "()I"⟩ ∈ fr_tbl := fr_in 342 (by decide +kernel) rfl
theorem mc_lineCount : Cond.code ⟨"FragileRules$Text", "lineCount", "()I"⟩ prog_3_method_3_code 3 (some FieldType.int) ∈ fr_tbl := fr_in 343 (by decide +kernel) rfl
theorem ml_F_113 : Cond.methodLink "FragileRules" 113 ⟨"FragileRules", "addLines", "(I)V"⟩ ∈ fr_tbl := fr_in 344 (by decide +kernel) rfl
theorem mi_addLines : Cond.instanceMethod ⟨"FragileRules", "addLines", "(I)V"⟩ ∈ fr_tbl := fr_in 346 (by decide +kernel) rfl
theorem msel_addLines : Cond.selects "FragileRules" ⟨"FragileRules", "addLines", "(I)V"⟩ ⟨"FragileRules", "addLines", "(I)V"⟩ ∈ fr_tbl := fr_in 4 (by decide +kernel) rfl
theorem mc_addLines : Cond.code ⟨"FragileRules", "addLines", "(I)V"⟩ prog_1_method_22_code 4 (none : Option Jvm.ClassFile.FieldType) ∈ fr_tbl := fr_in 347 (by decide +kernel) rfl
theorem ml_F_119 : Cond.methodLink "FragileRules" 119 ⟨"FragileRules", "isUnit", "(I)Z"⟩ ∈ fr_tbl := fr_in 365 (by decide +kernel) rfl
theorem mi_isUnit : Cond.instanceMethod ⟨"FragileRules", "isUnit", "(I)Z"⟩ ∈ fr_tbl := fr_in 367 (by decide +kernel) rfl
theorem msel_isUnit : Cond.selects "FragileRules" ⟨"FragileRules", "isUnit", "(I)Z"⟩ ⟨"FragileRules", "isUnit", "(I)Z"⟩ ∈ fr_tbl := fr_in 5 (by decide +kernel) rfl
theorem mc_isUnit : Cond.code ⟨"FragileRules", "isUnit", "(I)Z"⟩ prog_1_method_19_code 2 (some FieldType.boolean) ∈ fr_tbl := fr_in 368 (by decide +kernel) rfl
theorem cl0_F_123 : Cond.classLink "FragileRules" 123 "java/util/NoSuchElementException" ∈ fr_tbl := fr_in 369 (by decide +kernel) rfl
theorem mins_NoSuchElementException : Cond.instantiable "java/util/NoSuchElementException" 6 ∈ fr_tbl := fr_in 370 (by decide +kernel) rfl
theorem mini_NoSuchElementException : Cond.initialized "java/util/NoSuchElementException" ∈ fr_tbl := fr_in 36 (by decide +kernel) rfl
theorem ml_F_135 : Cond.methodLink "FragileRules" 135 ⟨"FragileRules", "verdict", "(ILFragileRules$Unit;LFragileRules$Unit;I)I"⟩ ∈ fr_tbl := fr_in 402 (by decide +kernel) rfl
theorem mi_verdict : Cond.instanceMethod ⟨"FragileRules", "verdict", "(ILFragileRules$Unit;LFragileRules$Unit;I)I"⟩ ∈ fr_tbl := fr_in 404 (by decide +kernel) rfl
theorem msel_verdict : Cond.selects "FragileRules" ⟨"FragileRules", "verdict", "(ILFragileRules$Unit;LFragileRules$Unit;I)I"⟩ ⟨"FragileRules", "verdict", "(ILFragileRules$Unit;LFragileRules$Unit;I)I"⟩ ∈ fr_tbl := fr_in 6 (by decide +kernel) rfl
theorem mc_verdict : Cond.code ⟨"FragileRules", "verdict", "(ILFragileRules$Unit;LFragileRules$Unit;I)I"⟩ prog_1_method_24_code 6 (some FieldType.int) ∈ fr_tbl := fr_in 405 (by decide +kernel) rfl
theorem cl0_F_130 : Cond.classLink "FragileRules" 130 "java/lang/IllegalStateException" ∈ fr_tbl := fr_in 386 (by decide +kernel) rfl
theorem mins_IllegalStateException : Cond.instantiable "java/lang/IllegalStateException" 6 ∈ fr_tbl := fr_in 387 (by decide +kernel) rfl
theorem mini_IllegalStateException : Cond.initialized "java/lang/IllegalStateException" ∈ fr_tbl := fr_in 37 (by decide +kernel) rfl
theorem ml_F_154 : Cond.methodLink "FragileRules" 154 ⟨"FragileRules", "isRuleNumber", "(I)Z"⟩ ∈ fr_tbl := fr_in 437 (by decide +kernel) rfl
theorem mi_isRuleNumber : Cond.instanceMethod ⟨"FragileRules", "isRuleNumber", "(I)Z"⟩ ∈ fr_tbl := fr_in 439 (by decide +kernel) rfl
theorem msel_isRuleNumber : Cond.selects "FragileRules" ⟨"FragileRules", "isRuleNumber", "(I)Z"⟩ ⟨"FragileRules", "isRuleNumber", "(I)Z"⟩ ∈ fr_tbl := fr_in 7 (by decide +kernel) rfl
theorem mc_isRuleNumber : Cond.code ⟨"FragileRules", "isRuleNumber", "(I)Z"⟩ prog_1_method_20_code 2 (some FieldType.boolean) ∈ fr_tbl := fr_in 440 (by decide +kernel) rfl
theorem ml_F_161 : Cond.methodLink "FragileRules" 161 ⟨"FragileRules", "placeInOrder", "(I)I"⟩ ∈ fr_tbl := fr_in 443 (by decide +kernel) rfl
theorem mi_placeIn : Cond.instanceMethod ⟨"FragileRules", "placeInOrder", "(I)I"⟩ ∈ fr_tbl := fr_in 445 (by decide +kernel) rfl
theorem msel_placeIn : Cond.selects "FragileRules" ⟨"FragileRules", "placeInOrder", "(I)I"⟩ ⟨"FragileRules", "placeInOrder", "(I)I"⟩ ∈ fr_tbl := fr_in 8 (by decide +kernel) rfl
theorem mc_placeIn : Cond.code ⟨"FragileRules", "placeInOrder", "(I)I"⟩ prog_1_method_23_code 3 (some FieldType.int) ∈ fr_tbl := fr_in 446 (by decide +kernel) rfl
theorem ac_link_F_165 : Cond.methodLink "FragileRules" 165 ⟨"java/lang/System", "arraycopy", "(Ljava/lang/Object;ILjava/lang/Object;II)V"⟩ ∈ fr_tbl := fr_in 447 (by decide +kernel) rfl
theorem ac_native : Cond.native ⟨"java/lang/System", "arraycopy", "(Ljava/lang/Object;ILjava/lang/Object;II)V"⟩ ∈ fr_tbl := fr_in 449 (by decide +kernel) rfl
theorem ac_static : Cond.static ⟨"java/lang/System", "arraycopy", "(Ljava/lang/Object;ILjava/lang/Object;II)V"⟩ ∈ fr_tbl := fr_in 448 (by decide +kernel) rfl
theorem mini_System : Cond.initialized "java/lang/System" ∈ fr_tbl := fr_in 38 (by decide +kernel) rfl
