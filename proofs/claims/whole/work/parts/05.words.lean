def y_within : MethodName := ⟨"FragileRules", "isWithin", "(II)Z"⟩
theorem dF_isWithin_0 : decode prog_1_method_16_code 0 = .ok (.iload_n 0, 1) := by decide +kernel
theorem dF_isWithin_1 : decode prog_1_method_16_code 1 = .ok (.ifCond .lt 12, 3) := by decide +kernel
theorem dF_isWithin_4 : decode prog_1_method_16_code 4 = .ok (.iload_n 0, 1) := by decide +kernel
theorem dF_isWithin_5 : decode prog_1_method_16_code 5 = .ok (.iload_n 1, 1) := by decide +kernel
theorem dF_isWithin_6 : decode prog_1_method_16_code 6 = .ok (.if_icmp .gt 7, 3) := by decide +kernel
theorem dF_isWithin_9 : decode prog_1_method_16_code 9 = .ok (.iconst 1, 1) := by decide +kernel
theorem dF_isWithin_10 : decode prog_1_method_16_code 10 = .ok (.goto 4, 3) := by decide +kernel
theorem dF_isWithin_13 : decode prog_1_method_16_code 13 = .ok (.iconst 0, 1) := by decide +kernel
theorem dF_isWithin_14 : decode prog_1_method_16_code 14 = .ok (.ireturn, 1) := by decide +kernel
def y_has : MethodName := ⟨"FragileRules$Unit", "has", "(I)Z"⟩
theorem dU_has_0 : decode prog_4_method_2_code 0 = .ok (.aload_n 0, 1) := by decide +kernel
theorem dU_has_1 : decode prog_4_method_2_code 1 = .ok (.getfield 16, 3) := by decide +kernel
theorem dU_has_4 : decode prog_4_method_2_code 4 = .ok (.iload_n 1, 1) := by decide +kernel
theorem dU_has_5 : decode prog_4_method_2_code 5 = .ok (.iand, 1) := by decide +kernel
theorem dU_has_6 : decode prog_4_method_2_code 6 = .ok (.ifCond .eq 7, 3) := by decide +kernel
theorem dU_has_9 : decode prog_4_method_2_code 9 = .ok (.iconst 1, 1) := by decide +kernel
theorem dU_has_10 : decode prog_4_method_2_code 10 = .ok (.goto 4, 3) := by decide +kernel
theorem dU_has_13 : decode prog_4_method_2_code 13 = .ok (.iconst 0, 1) := by decide +kernel
theorem dU_has_14 : decode prog_4_method_2_code 14 = .ok (.ireturn, 1) := by decide +kernel
def y_signAt : MethodName := ⟨"FragileRules$Text", "signAt", "(I)I"⟩
theorem dT_signAt_0 : decode prog_3_method_8_code 0 = .ok (.iload_n 1, 1) := by decide +kernel
theorem dT_signAt_1 : decode prog_3_method_8_code 1 = .ok (.ifCond .lt 20, 3) := by decide +kernel
theorem dT_signAt_4 : decode prog_3_method_8_code 4 = .ok (.iload_n 1, 1) := by decide +kernel
theorem dT_signAt_5 : decode prog_3_method_8_code 5 = .ok (.aload_n 0, 1) := by decide +kernel
theorem dT_signAt_6 : decode prog_3_method_8_code 6 = .ok (.getfield 15, 3) := by decide +kernel
theorem dT_signAt_9 : decode prog_3_method_8_code 9 = .ok (.if_icmp .ge 12, 3) := by decide +kernel
theorem dT_signAt_12 : decode prog_3_method_8_code 12 = .ok (.aload_n 0, 1) := by decide +kernel
theorem dT_signAt_13 : decode prog_3_method_8_code 13 = .ok (.getfield 9, 3) := by decide +kernel
theorem dT_signAt_16 : decode prog_3_method_8_code 16 = .ok (.iload_n 1, 1) := by decide +kernel
theorem dT_signAt_17 : decode prog_3_method_8_code 17 = .ok (.iaload, 1) := by decide +kernel
theorem dT_signAt_18 : decode prog_3_method_8_code 18 = .ok (.goto 4, 3) := by decide +kernel
theorem dT_signAt_21 : decode prog_3_method_8_code 21 = .ok (.iconst (-1), 1) := by decide +kernel
theorem dT_signAt_22 : decode prog_3_method_8_code 22 = .ok (.ireturn, 1) := by decide +kernel
def y_digitAt : MethodName := ⟨"FragileRules$Text", "digitAt", "(I)I"⟩
theorem dT_digitAt_0 : decode prog_3_method_7_code 0 = .ok (.aload_n 0, 1) := by decide +kernel
theorem dT_digitAt_1 : decode prog_3_method_7_code 1 = .ok (.iload_n 1, 1) := by decide +kernel
theorem dT_digitAt_2 : decode prog_3_method_7_code 2 = .ok (.invokevirtual 26, 3) := by decide +kernel
theorem dT_digitAt_5 : decode prog_3_method_7_code 5 = .ok (.istore_n 2, 1) := by decide +kernel
theorem dT_digitAt_6 : decode prog_3_method_7_code 6 = .ok (.iload_n 2, 1) := by decide +kernel
theorem dT_digitAt_7 : decode prog_3_method_7_code 7 = .ok (.bipush 48, 2) := by decide +kernel
theorem dT_digitAt_9 : decode prog_3_method_7_code 9 = .ok (.if_icmp .lt 16, 3) := by decide +kernel
theorem dT_digitAt_12 : decode prog_3_method_7_code 12 = .ok (.iload_n 2, 1) := by decide +kernel
theorem dT_digitAt_13 : decode prog_3_method_7_code 13 = .ok (.bipush 57, 2) := by decide +kernel
theorem dT_digitAt_15 : decode prog_3_method_7_code 15 = .ok (.if_icmp .gt 10, 3) := by decide +kernel
theorem dT_digitAt_18 : decode prog_3_method_7_code 18 = .ok (.iload_n 2, 1) := by decide +kernel
theorem dT_digitAt_19 : decode prog_3_method_7_code 19 = .ok (.bipush 48, 2) := by decide +kernel
theorem dT_digitAt_21 : decode prog_3_method_7_code 21 = .ok (.isub, 1) := by decide +kernel
theorem dT_digitAt_22 : decode prog_3_method_7_code 22 = .ok (.goto 4, 3) := by decide +kernel
theorem dT_digitAt_25 : decode prog_3_method_7_code 25 = .ok (.iconst (-1), 1) := by decide +kernel
theorem dT_digitAt_26 : decode prog_3_method_7_code 26 = .ok (.ireturn, 1) := by decide +kernel
def y_rowAt : MethodName := ⟨"FragileRules$Text", "rowAt", "(I)I"⟩
theorem dT_rowAt_0 : decode prog_3_method_5_code 0 = .ok (.aload_n 0, 1) := by decide +kernel
theorem dT_rowAt_1 : decode prog_3_method_5_code 1 = .ok (.iload_n 1, 1) := by decide +kernel
theorem dT_rowAt_2 : decode prog_3_method_5_code 2 = .ok (.invokevirtual 26, 3) := by decide +kernel
theorem dT_rowAt_5 : decode prog_3_method_5_code 5 = .ok (.lookupswitch 51 #[(65, 45), (66, 47), (76, 49), (78, 43)], 43) := by decide +kernel
theorem dT_rowAt_48 : decode prog_3_method_5_code 48 = .ok (.iconst 0, 1) := by decide +kernel
theorem dT_rowAt_49 : decode prog_3_method_5_code 49 = .ok (.ireturn, 1) := by decide +kernel
theorem dT_rowAt_50 : decode prog_3_method_5_code 50 = .ok (.iconst 1, 1) := by decide +kernel
theorem dT_rowAt_51 : decode prog_3_method_5_code 51 = .ok (.ireturn, 1) := by decide +kernel
theorem dT_rowAt_52 : decode prog_3_method_5_code 52 = .ok (.iconst 2, 1) := by decide +kernel
theorem dT_rowAt_53 : decode prog_3_method_5_code 53 = .ok (.ireturn, 1) := by decide +kernel
theorem dT_rowAt_54 : decode prog_3_method_5_code 54 = .ok (.iconst 3, 1) := by decide +kernel
theorem dT_rowAt_55 : decode prog_3_method_5_code 55 = .ok (.ireturn, 1) := by decide +kernel
theorem dT_rowAt_56 : decode prog_3_method_5_code 56 = .ok (.iconst (-1), 1) := by decide +kernel
theorem dT_rowAt_57 : decode prog_3_method_5_code 57 = .ok (.ireturn, 1) := by decide +kernel
def y_numberAt : MethodName := ⟨"FragileRules$Text", "numberAt", "(I)I"⟩
theorem dT_numberAt_0 : decode prog_3_method_6_code 0 = .ok (.aload_n 0, 1) := by decide +kernel
theorem dT_numberAt_1 : decode prog_3_method_6_code 1 = .ok (.iload_n 1, 1) := by decide +kernel
theorem dT_numberAt_2 : decode prog_3_method_6_code 2 = .ok (.invokevirtual 29, 3) := by decide +kernel
theorem dT_numberAt_5 : decode prog_3_method_6_code 5 = .ok (.istore_n 2, 1) := by decide +kernel
theorem dT_numberAt_6 : decode prog_3_method_6_code 6 = .ok (.aload_n 0, 1) := by decide +kernel
theorem dT_numberAt_7 : decode prog_3_method_6_code 7 = .ok (.iload_n 1, 1) := by decide +kernel
theorem dT_numberAt_8 : decode prog_3_method_6_code 8 = .ok (.iconst 1, 1) := by decide +kernel
theorem dT_numberAt_9 : decode prog_3_method_6_code 9 = .ok (.iadd, 1) := by decide +kernel
theorem dT_numberAt_10 : decode prog_3_method_6_code 10 = .ok (.invokevirtual 29, 3) := by decide +kernel
theorem dT_numberAt_13 : decode prog_3_method_6_code 13 = .ok (.istore_n 3, 1) := by decide +kernel
theorem dT_numberAt_14 : decode prog_3_method_6_code 14 = .ok (.iload_n 3, 1) := by decide +kernel
theorem dT_numberAt_15 : decode prog_3_method_6_code 15 = .ok (.iconst (-1), 1) := by decide +kernel
theorem dT_numberAt_16 : decode prog_3_method_6_code 16 = .ok (.if_icmp .ne 7, 3) := by decide +kernel
theorem dT_numberAt_19 : decode prog_3_method_6_code 19 = .ok (.iload_n 2, 1) := by decide +kernel
theorem dT_numberAt_20 : decode prog_3_method_6_code 20 = .ok (.goto 9, 3) := by decide +kernel
theorem dT_numberAt_23 : decode prog_3_method_6_code 23 = .ok (.bipush 10, 2) := by decide +kernel
theorem dT_numberAt_25 : decode prog_3_method_6_code 25 = .ok (.iload_n 2, 1) := by decide +kernel
theorem dT_numberAt_26 : decode prog_3_method_6_code 26 = .ok (.imul, 1) := by decide +kernel
theorem dT_numberAt_27 : decode prog_3_method_6_code 27 = .ok (.iload_n 3, 1) := by decide +kernel
theorem dT_numberAt_28 : decode prog_3_method_6_code 28 = .ok (.iadd, 1) := by decide +kernel
theorem dT_numberAt_29 : decode prog_3_method_6_code 29 = .ok (.ireturn, 1) := by decide +kernel
def y_behind : MethodName := ⟨"FragileRules$Text", "behindLine", "(I)I"⟩
theorem dT_behindLine_0 : decode prog_3_method_4_code 0 = .ok (.aload_n 0, 1) := by decide +kernel
theorem dT_behindLine_1 : decode prog_3_method_4_code 1 = .ok (.iload_n 1, 1) := by decide +kernel
theorem dT_behindLine_2 : decode prog_3_method_4_code 2 = .ok (.invokevirtual 23, 3) := by decide +kernel
theorem dT_behindLine_5 : decode prog_3_method_4_code 5 = .ok (.istore_n 2, 1) := by decide +kernel
theorem dT_behindLine_6 : decode prog_3_method_4_code 6 = .ok (.iload_n 2, 1) := by decide +kernel
theorem dT_behindLine_7 : decode prog_3_method_4_code 7 = .ok (.iconst (-1), 1) := by decide +kernel
theorem dT_behindLine_8 : decode prog_3_method_4_code 8 = .ok (.if_icmp .ne 7, 3) := by decide +kernel
theorem dT_behindLine_11 : decode prog_3_method_4_code 11 = .ok (.iconst (-1), 1) := by decide +kernel
theorem dT_behindLine_12 : decode prog_3_method_4_code 12 = .ok (.iload_n 1, 1) := by decide +kernel
theorem dT_behindLine_13 : decode prog_3_method_4_code 13 = .ok (.isub, 1) := by decide +kernel
theorem dT_behindLine_14 : decode prog_3_method_4_code 14 = .ok (.ireturn, 1) := by decide +kernel
theorem dT_behindLine_15 : decode prog_3_method_4_code 15 = .ok (.aload_n 0, 1) := by decide +kernel
theorem dT_behindLine_16 : decode prog_3_method_4_code 16 = .ok (.iload_n 1, 1) := by decide +kernel
theorem dT_behindLine_17 : decode prog_3_method_4_code 17 = .ok (.iconst 1, 1) := by decide +kernel
theorem dT_behindLine_18 : decode prog_3_method_4_code 18 = .ok (.iadd, 1) := by decide +kernel
theorem dT_behindLine_19 : decode prog_3_method_4_code 19 = .ok (.invokevirtual 26, 3) := by decide +kernel
theorem dT_behindLine_22 : decode prog_3_method_4_code 22 = .ok (.bipush 32, 2) := by decide +kernel
theorem dT_behindLine_24 : decode prog_3_method_4_code 24 = .ok (.if_icmp .eq 8, 3) := by decide +kernel
theorem dT_behindLine_27 : decode prog_3_method_4_code 27 = .ok (.bipush (-2), 2) := by decide +kernel
theorem dT_behindLine_29 : decode prog_3_method_4_code 29 = .ok (.iload_n 1, 1) := by decide +kernel
theorem dT_behindLine_30 : decode prog_3_method_4_code 30 = .ok (.isub, 1) := by decide +kernel
theorem dT_behindLine_31 : decode prog_3_method_4_code 31 = .ok (.ireturn, 1) := by decide +kernel
theorem dT_behindLine_32 : decode prog_3_method_4_code 32 = .ok (.aload_n 0, 1) := by decide +kernel
theorem dT_behindLine_33 : decode prog_3_method_4_code 33 = .ok (.iload_n 1, 1) := by decide +kernel
theorem dT_behindLine_34 : decode prog_3_method_4_code 34 = .ok (.iconst 2, 1) := by decide +kernel
theorem dT_behindLine_35 : decode prog_3_method_4_code 35 = .ok (.iadd, 1) := by decide +kernel
theorem dT_behindLine_36 : decode prog_3_method_4_code 36 = .ok (.invokevirtual 29, 3) := by decide +kernel
theorem dT_behindLine_39 : decode prog_3_method_4_code 39 = .ok (.bipush 7, 2) := by decide +kernel
theorem dT_behindLine_41 : decode prog_3_method_4_code 41 = .ok (.invokestatic 32, 3) := by decide +kernel
theorem dT_behindLine_44 : decode prog_3_method_4_code 44 = .ok (.ifCond .ne 8, 3) := by decide +kernel
theorem dT_behindLine_47 : decode prog_3_method_4_code 47 = .ok (.bipush (-3), 2) := by decide +kernel
theorem dT_behindLine_49 : decode prog_3_method_4_code 49 = .ok (.iload_n 1, 1) := by decide +kernel
theorem dT_behindLine_50 : decode prog_3_method_4_code 50 = .ok (.isub, 1) := by decide +kernel
theorem dT_behindLine_51 : decode prog_3_method_4_code 51 = .ok (.ireturn, 1) := by decide +kernel
theorem dT_behindLine_52 : decode prog_3_method_4_code 52 = .ok (.aload_n 0, 1) := by decide +kernel
theorem dT_behindLine_53 : decode prog_3_method_4_code 53 = .ok (.iload_n 1, 1) := by decide +kernel
theorem dT_behindLine_54 : decode prog_3_method_4_code 54 = .ok (.iconst 3, 1) := by decide +kernel
theorem dT_behindLine_55 : decode prog_3_method_4_code 55 = .ok (.iadd, 1) := by decide +kernel
theorem dT_behindLine_56 : decode prog_3_method_4_code 56 = .ok (.invokevirtual 26, 3) := by decide +kernel
theorem dT_behindLine_59 : decode prog_3_method_4_code 59 = .ok (.bipush 32, 2) := by decide +kernel
theorem dT_behindLine_61 : decode prog_3_method_4_code 61 = .ok (.if_icmp .eq 8, 3) := by decide +kernel
theorem dT_behindLine_64 : decode prog_3_method_4_code 64 = .ok (.bipush (-4), 2) := by decide +kernel
theorem dT_behindLine_66 : decode prog_3_method_4_code 66 = .ok (.iload_n 1, 1) := by decide +kernel
theorem dT_behindLine_67 : decode prog_3_method_4_code 67 = .ok (.isub, 1) := by decide +kernel
theorem dT_behindLine_68 : decode prog_3_method_4_code 68 = .ok (.ireturn, 1) := by decide +kernel
theorem dT_behindLine_69 : decode prog_3_method_4_code 69 = .ok (.aload_n 0, 1) := by decide +kernel
theorem dT_behindLine_70 : decode prog_3_method_4_code 70 = .ok (.iload_n 1, 1) := by decide +kernel
theorem dT_behindLine_71 : decode prog_3_method_4_code 71 = .ok (.iconst 4, 1) := by decide +kernel
theorem dT_behindLine_72 : decode prog_3_method_4_code 72 = .ok (.iadd, 1) := by decide +kernel
theorem dT_behindLine_73 : decode prog_3_method_4_code 73 = .ok (.invokevirtual 29, 3) := by decide +kernel
theorem dT_behindLine_76 : decode prog_3_method_4_code 76 = .ok (.istore_n 3, 1) := by decide +kernel
theorem dT_behindLine_77 : decode prog_3_method_4_code 77 = .ok (.iload_n 3, 1) := by decide +kernel
theorem dT_behindLine_78 : decode prog_3_method_4_code 78 = .ok (.iload_n 2, 1) := by decide +kernel
theorem dT_behindLine_79 : decode prog_3_method_4_code 79 = .ok (.iconst 2, 1) := by decide +kernel
theorem dT_behindLine_80 : decode prog_3_method_4_code 80 = .ok (.if_icmp .eq 8, 3) := by decide +kernel
theorem dT_behindLine_83 : decode prog_3_method_4_code 83 = .ok (.iload_n 2, 1) := by decide +kernel
theorem dT_behindLine_84 : decode prog_3_method_4_code 84 = .ok (.iconst 3, 1) := by decide +kernel
theorem dT_behindLine_85 : decode prog_3_method_4_code 85 = .ok (.if_icmp .ne 8, 3) := by decide +kernel
theorem dT_behindLine_88 : decode prog_3_method_4_code 88 = .ok (.bipush 9, 2) := by decide +kernel
theorem dT_behindLine_90 : decode prog_3_method_4_code 90 = .ok (.goto 5, 3) := by decide +kernel
theorem dT_behindLine_93 : decode prog_3_method_4_code 93 = .ok (.bipush 7, 2) := by decide +kernel
theorem dT_behindLine_95 : decode prog_3_method_4_code 95 = .ok (.invokestatic 32, 3) := by decide +kernel
theorem dT_behindLine_98 : decode prog_3_method_4_code 98 = .ok (.ifCond .ne 8, 3) := by decide +kernel
theorem dT_behindLine_101 : decode prog_3_method_4_code 101 = .ok (.bipush (-5), 2) := by decide +kernel
theorem dT_behindLine_103 : decode prog_3_method_4_code 103 = .ok (.iload_n 1, 1) := by decide +kernel
theorem dT_behindLine_104 : decode prog_3_method_4_code 104 = .ok (.isub, 1) := by decide +kernel
theorem dT_behindLine_105 : decode prog_3_method_4_code 105 = .ok (.ireturn, 1) := by decide +kernel
theorem dT_behindLine_106 : decode prog_3_method_4_code 106 = .ok (.iload_n 2, 1) := by decide +kernel
theorem dT_behindLine_107 : decode prog_3_method_4_code 107 = .ok (.iconst 2, 1) := by decide +kernel
theorem dT_behindLine_108 : decode prog_3_method_4_code 108 = .ok (.if_icmp .ne 22, 3) := by decide +kernel
theorem dT_behindLine_111 : decode prog_3_method_4_code 111 = .ok (.iload_n 3, 1) := by decide +kernel
theorem dT_behindLine_112 : decode prog_3_method_4_code 112 = .ok (.ifCond .eq 18, 3) := by decide +kernel
theorem dT_behindLine_115 : decode prog_3_method_4_code 115 = .ok (.aload_n 0, 1) := by decide +kernel
theorem dT_behindLine_116 : decode prog_3_method_4_code 116 = .ok (.iload_n 1, 1) := by decide +kernel
theorem dT_behindLine_117 : decode prog_3_method_4_code 117 = .ok (.iconst 5, 1) := by decide +kernel
theorem dT_behindLine_118 : decode prog_3_method_4_code 118 = .ok (.iadd, 1) := by decide +kernel
theorem dT_behindLine_119 : decode prog_3_method_4_code 119 = .ok (.invokevirtual 29, 3) := by decide +kernel
theorem dT_behindLine_122 : decode prog_3_method_4_code 122 = .ok (.iconst (-1), 1) := by decide +kernel
theorem dT_behindLine_123 : decode prog_3_method_4_code 123 = .ok (.if_icmp .eq 7, 3) := by decide +kernel
theorem dT_behindLine_126 : decode prog_3_method_4_code 126 = .ok (.iconst 1, 1) := by decide +kernel
theorem dT_behindLine_127 : decode prog_3_method_4_code 127 = .ok (.goto 4, 3) := by decide +kernel
theorem dT_behindLine_130 : decode prog_3_method_4_code 130 = .ok (.iconst 0, 1) := by decide +kernel
theorem dT_behindLine_131 : decode prog_3_method_4_code 131 = .ok (.istore 4, 2) := by decide +kernel
theorem dT_behindLine_133 : decode prog_3_method_4_code 133 = .ok (.iload_n 1, 1) := by decide +kernel
theorem dT_behindLine_134 : decode prog_3_method_4_code 134 = .ok (.iload 4, 2) := by decide +kernel
theorem dT_behindLine_136 : decode prog_3_method_4_code 136 = .ok (.ifCond .eq 8, 3) := by decide +kernel
theorem dT_behindLine_139 : decode prog_3_method_4_code 139 = .ok (.bipush 6, 2) := by decide +kernel
theorem dT_behindLine_141 : decode prog_3_method_4_code 141 = .ok (.goto 4, 3) := by decide +kernel
theorem dT_behindLine_144 : decode prog_3_method_4_code 144 = .ok (.iconst 5, 1) := by decide +kernel
theorem dT_behindLine_145 : decode prog_3_method_4_code 145 = .ok (.iadd, 1) := by decide +kernel
theorem dT_behindLine_146 : decode prog_3_method_4_code 146 = .ok (.istore 5, 2) := by decide +kernel
theorem dT_behindLine_148 : decode prog_3_method_4_code 148 = .ok (.aload_n 0, 1) := by decide +kernel
theorem dT_behindLine_149 : decode prog_3_method_4_code 149 = .ok (.iload 5, 2) := by decide +kernel
theorem dT_behindLine_151 : decode prog_3_method_4_code 151 = .ok (.invokevirtual 26, 3) := by decide +kernel
theorem dT_behindLine_154 : decode prog_3_method_4_code 154 = .ok (.bipush 10, 2) := by decide +kernel
theorem dT_behindLine_156 : decode prog_3_method_4_code 156 = .ok (.if_icmp .ne 10, 3) := by decide +kernel
theorem dT_behindLine_159 : decode prog_3_method_4_code 159 = .ok (.iload 5, 2) := by decide +kernel
theorem dT_behindLine_161 : decode prog_3_method_4_code 161 = .ok (.iconst 1, 1) := by decide +kernel
theorem dT_behindLine_162 : decode prog_3_method_4_code 162 = .ok (.iadd, 1) := by decide +kernel
theorem dT_behindLine_163 : decode prog_3_method_4_code 163 = .ok (.goto 7, 3) := by decide +kernel
theorem dT_behindLine_166 : decode prog_3_method_4_code 166 = .ok (.iconst (-1), 1) := by decide +kernel
theorem dT_behindLine_167 : decode prog_3_method_4_code 167 = .ok (.iload 5, 2) := by decide +kernel
theorem dT_behindLine_169 : decode prog_3_method_4_code 169 = .ok (.isub, 1) := by decide +kernel
theorem dT_behindLine_170 : decode prog_3_method_4_code 170 = .ok (.ireturn, 1) := by decide +kernel
def y_wrongPlace : MethodName := ⟨"FragileRules$Text", "wrongPlace", "()I"⟩
theorem dT_wrongPlace_0 : decode prog_3_method_2_code 0 = .ok (.iconst 0, 1) := by decide +kernel
theorem dT_wrongPlace_1 : decode prog_3_method_2_code 1 = .ok (.istore_n 1, 1) := by decide +kernel
theorem dT_wrongPlace_2 : decode prog_3_method_2_code 2 = .ok (.iconst 0, 1) := by decide +kernel
theorem dT_wrongPlace_3 : decode prog_3_method_2_code 3 = .ok (.istore_n 2, 1) := by decide +kernel
theorem dT_wrongPlace_4 : decode prog_3_method_2_code 4 = .ok (.iload_n 2, 1) := by decide +kernel
theorem dT_wrongPlace_5 : decode prog_3_method_2_code 5 = .ok (.sipush 200, 3) := by decide +kernel
theorem dT_wrongPlace_8 : decode prog_3_method_2_code 8 = .ok (.if_icmp .ge 33, 3) := by decide +kernel
theorem dT_wrongPlace_11 : decode prog_3_method_2_code 11 = .ok (.iload_n 1, 1) := by decide +kernel
theorem dT_wrongPlace_12 : decode prog_3_method_2_code 12 = .ok (.aload_n 0, 1) := by decide +kernel
theorem dT_wrongPlace_13 : decode prog_3_method_2_code 13 = .ok (.getfield 15, 3) := by decide +kernel
theorem dT_wrongPlace_16 : decode prog_3_method_2_code 16 = .ok (.if_icmp .ge 25, 3) := by decide +kernel
theorem dT_wrongPlace_19 : decode prog_3_method_2_code 19 = .ok (.aload_n 0, 1) := by decide +kernel
theorem dT_wrongPlace_20 : decode prog_3_method_2_code 20 = .ok (.iload_n 1, 1) := by decide +kernel
theorem dT_wrongPlace_21 : decode prog_3_method_2_code 21 = .ok (.invokevirtual 19, 3) := by decide +kernel
theorem dT_wrongPlace_24 : decode prog_3_method_2_code 24 = .ok (.istore_n 3, 1) := by decide +kernel
theorem dT_wrongPlace_25 : decode prog_3_method_2_code 25 = .ok (.iload_n 3, 1) := by decide +kernel
theorem dT_wrongPlace_26 : decode prog_3_method_2_code 26 = .ok (.ifCond .ge 7, 3) := by decide +kernel
theorem dT_wrongPlace_29 : decode prog_3_method_2_code 29 = .ok (.iconst (-1), 1) := by decide +kernel
theorem dT_wrongPlace_30 : decode prog_3_method_2_code 30 = .ok (.iload_n 3, 1) := by decide +kernel
theorem dT_wrongPlace_31 : decode prog_3_method_2_code 31 = .ok (.isub, 1) := by decide +kernel
theorem dT_wrongPlace_32 : decode prog_3_method_2_code 32 = .ok (.ireturn, 1) := by decide +kernel
theorem dT_wrongPlace_33 : decode prog_3_method_2_code 33 = .ok (.iload_n 3, 1) := by decide +kernel
theorem dT_wrongPlace_34 : decode prog_3_method_2_code 34 = .ok (.istore_n 1, 1) := by decide +kernel
theorem dT_wrongPlace_35 : decode prog_3_method_2_code 35 = .ok (.iinc 2 1, 3) := by decide +kernel
theorem dT_wrongPlace_38 : decode prog_3_method_2_code 38 = .ok (.goto (-34), 3) := by decide +kernel
theorem dT_wrongPlace_41 : decode prog_3_method_2_code 41 = .ok (.iconst (-1), 1) := by decide +kernel
theorem dT_wrongPlace_42 : decode prog_3_method_2_code 42 = .ok (.ireturn, 1) := by decide +kernel
def y_lineCount : MethodName := ⟨"FragileRules$Text", "lineCount", "()I"⟩
theorem dT_lineCount_0 : decode prog_3_method_3_code 0 = .ok (.iconst 0, 1) := by decide +kernel
theorem dT_lineCount_1 : decode prog_3_method_3_code 1 = .ok (.istore_n 1, 1) := by decide +kernel
theorem dT_lineCount_2 : decode prog_3_method_3_code 2 = .ok (.iconst 0, 1) := by decide +kernel
theorem dT_lineCount_3 : decode prog_3_method_3_code 3 = .ok (.istore_n 2, 1) := by decide +kernel
theorem dT_lineCount_4 : decode prog_3_method_3_code 4 = .ok (.iload_n 2, 1) := by decide +kernel
theorem dT_lineCount_5 : decode prog_3_method_3_code 5 = .ok (.aload_n 0, 1) := by decide +kernel
theorem dT_lineCount_6 : decode prog_3_method_3_code 6 = .ok (.getfield 15, 3) := by decide +kernel
theorem dT_lineCount_9 : decode prog_3_method_3_code 9 = .ok (.if_icmp .ge 23, 3) := by decide +kernel
theorem dT_lineCount_12 : decode prog_3_method_3_code 12 = .ok (.aload_n 0, 1) := by decide +kernel
theorem dT_lineCount_13 : decode prog_3_method_3_code 13 = .ok (.getfield 9, 3) := by decide +kernel
theorem dT_lineCount_16 : decode prog_3_method_3_code 16 = .ok (.iload_n 2, 1) := by decide +kernel
theorem dT_lineCount_17 : decode prog_3_method_3_code 17 = .ok (.iaload, 1) := by decide +kernel
theorem dT_lineCount_18 : decode prog_3_method_3_code 18 = .ok (.bipush 10, 2) := by decide +kernel
theorem dT_lineCount_20 : decode prog_3_method_3_code 20 = .ok (.if_icmp .ne 6, 3) := by decide +kernel
theorem dT_lineCount_23 : decode prog_3_method_3_code 23 = .ok (.iinc 1 1, 3) := by decide +kernel
theorem dT_lineCount_26 : decode prog_3_method_3_code 26 = .ok (.iinc 2 1, 3) := by decide +kernel
theorem dT_lineCount_29 : decode prog_3_method_3_code 29 = .ok (.goto (-25), 3) := by decide +kernel
theorem dT_lineCount_32 : decode prog_3_method_3_code 32 = .ok (.iload_n 1, 1) := by decide +kernel
theorem dT_lineCount_33 : decode prog_3_method_3_code 33 = .ok (.ireturn, 1) := by decide +kernel
def y_isUnit : MethodName := ⟨"FragileRules", "isUnit", "(I)Z"⟩
theorem dF_isUnit_0 : decode prog_1_method_19_code 0 = .ok (.iload_n 1, 1) := by decide +kernel
theorem dF_isUnit_1 : decode prog_1_method_19_code 1 = .ok (.ifCond .lt 15, 3) := by decide +kernel
theorem dF_isUnit_4 : decode prog_1_method_19_code 4 = .ok (.iload_n 1, 1) := by decide +kernel
theorem dF_isUnit_5 : decode prog_1_method_19_code 5 = .ok (.aload_n 0, 1) := by decide +kernel
theorem dF_isUnit_6 : decode prog_1_method_19_code 6 = .ok (.getfield 15, 3) := by decide +kernel
theorem dF_isUnit_9 : decode prog_1_method_19_code 9 = .ok (.if_icmp .ge 7, 3) := by decide +kernel
theorem dF_isUnit_12 : decode prog_1_method_19_code 12 = .ok (.iconst 1, 1) := by decide +kernel
theorem dF_isUnit_13 : decode prog_1_method_19_code 13 = .ok (.goto 4, 3) := by decide +kernel
theorem dF_isUnit_16 : decode prog_1_method_19_code 16 = .ok (.iconst 0, 1) := by decide +kernel
theorem dF_isUnit_17 : decode prog_1_method_19_code 17 = .ok (.ireturn, 1) := by decide +kernel
def y_isRuleNumber : MethodName := ⟨"FragileRules", "isRuleNumber", "(I)Z"⟩
theorem dF_isRuleNumber_0 : decode prog_1_method_20_code 0 = .ok (.iload_n 1, 1) := by decide +kernel
theorem dF_isRuleNumber_1 : decode prog_1_method_20_code 1 = .ok (.iconst 1, 1) := by decide +kernel
theorem dF_isRuleNumber_2 : decode prog_1_method_20_code 2 = .ok (.if_icmp .lt 15, 3) := by decide +kernel
theorem dF_isRuleNumber_5 : decode prog_1_method_20_code 5 = .ok (.iload_n 1, 1) := by decide +kernel
theorem dF_isRuleNumber_6 : decode prog_1_method_20_code 6 = .ok (.aload_n 0, 1) := by decide +kernel
theorem dF_isRuleNumber_7 : decode prog_1_method_20_code 7 = .ok (.getfield 25, 3) := by decide +kernel
theorem dF_isRuleNumber_10 : decode prog_1_method_20_code 10 = .ok (.if_icmp .gt 7, 3) := by decide +kernel
theorem dF_isRuleNumber_13 : decode prog_1_method_20_code 13 = .ok (.iconst 1, 1) := by decide +kernel
theorem dF_isRuleNumber_14 : decode prog_1_method_20_code 14 = .ok (.goto 4, 3) := by decide +kernel
theorem dF_isRuleNumber_17 : decode prog_1_method_20_code 17 = .ok (.iconst 0, 1) := by decide +kernel
theorem dF_isRuleNumber_18 : decode prog_1_method_20_code 18 = .ok (.ireturn, 1) := by decide +kernel
def y_asking : MethodName := ⟨"FragileRules$Rule", "asking", "()I"⟩
theorem dR_asking_0 : decode prog_2_method_2_code 0 = .ok (.aload_n 0, 1) := by decide +kernel
theorem dR_asking_1 : decode prog_2_method_2_code 1 = .ok (.getfield 9, 3) := by decide +kernel
theorem dR_asking_4 : decode prog_2_method_2_code 4 = .ok (.tableswitch 54 1 5 #[36, 54, 54, 38, 40], 36) := by decide +kernel
theorem dR_asking_40 : decode prog_2_method_2_code 40 = .ok (.iconst 1, 1) := by decide +kernel
theorem dR_asking_41 : decode prog_2_method_2_code 41 = .ok (.ireturn, 1) := by decide +kernel
theorem dR_asking_42 : decode prog_2_method_2_code 42 = .ok (.iconst 2, 1) := by decide +kernel
theorem dR_asking_43 : decode prog_2_method_2_code 43 = .ok (.ireturn, 1) := by decide +kernel
theorem dR_asking_44 : decode prog_2_method_2_code 44 = .ok (.aload_n 0, 1) := by decide +kernel
theorem dR_asking_45 : decode prog_2_method_2_code 45 = .ok (.getfield 15, 3) := by decide +kernel
theorem dR_asking_48 : decode prog_2_method_2_code 48 = .ok (.iconst 2, 1) := by decide +kernel
theorem dR_asking_49 : decode prog_2_method_2_code 49 = .ok (.if_icmp .ne 7, 3) := by decide +kernel
theorem dR_asking_52 : decode prog_2_method_2_code 52 = .ok (.iconst 1, 1) := by decide +kernel
theorem dR_asking_53 : decode prog_2_method_2_code 53 = .ok (.goto 4, 3) := by decide +kernel
theorem dR_asking_56 : decode prog_2_method_2_code 56 = .ok (.iconst 0, 1) := by decide +kernel
theorem dR_asking_57 : decode prog_2_method_2_code 57 = .ok (.ireturn, 1) := by decide +kernel
theorem dR_asking_58 : decode prog_2_method_2_code 58 = .ok (.iconst 0, 1) := by decide +kernel
theorem dR_asking_59 : decode prog_2_method_2_code 59 = .ok (.ireturn, 1) := by decide +kernel
def y_doing : MethodName := ⟨"FragileRules$Rule", "refusesByItsDoing", "(LFragileRules$Unit;LFragileRules$Unit;I)Z"⟩
theorem dR_refusesByItsDoing_0 : decode prog_2_method_4_code 0 = .ok (.aload_n 0, 1) := by decide +kernel
theorem dR_refusesByItsDoing_1 : decode prog_2_method_4_code 1 = .ok (.getfield 15, 3) := by decide +kernel
theorem dR_refusesByItsDoing_4 : decode prog_2_method_4_code 4 = .ok (.tableswitch 87 0 2 #[28, 34, 52], 28) := by decide +kernel
theorem dR_refusesByItsDoing_32 : decode prog_2_method_4_code 32 = .ok (.aload_n 1, 1) := by decide +kernel
theorem dR_refusesByItsDoing_33 : decode prog_2_method_4_code 33 = .ok (.iconst 1, 1) := by decide +kernel
theorem dR_refusesByItsDoing_34 : decode prog_2_method_4_code 34 = .ok (.invokevirtual 32, 3) := by decide +kernel
theorem dR_refusesByItsDoing_37 : decode prog_2_method_4_code 37 = .ok (.ireturn, 1) := by decide +kernel
theorem dR_refusesByItsDoing_38 : decode prog_2_method_4_code 38 = .ok (.aload_n 2, 1) := by decide +kernel
theorem dR_refusesByItsDoing_39 : decode prog_2_method_4_code 39 = .ok (.iconst 2, 1) := by decide +kernel
theorem dR_refusesByItsDoing_40 : decode prog_2_method_4_code 40 = .ok (.invokevirtual 32, 3) := by decide +kernel
theorem dR_refusesByItsDoing_43 : decode prog_2_method_4_code 43 = .ok (.ifCond .eq 11, 3) := by decide +kernel
theorem dR_refusesByItsDoing_46 : decode prog_2_method_4_code 46 = .ok (.iload_n 3, 1) := by decide +kernel
theorem dR_refusesByItsDoing_47 : decode prog_2_method_4_code 47 = .ok (.ifCond .eq 7, 3) := by decide +kernel
theorem dR_refusesByItsDoing_50 : decode prog_2_method_4_code 50 = .ok (.iconst 1, 1) := by decide +kernel
theorem dR_refusesByItsDoing_51 : decode prog_2_method_4_code 51 = .ok (.goto 4, 3) := by decide +kernel
theorem dR_refusesByItsDoing_54 : decode prog_2_method_4_code 54 = .ok (.iconst 0, 1) := by decide +kernel
theorem dR_refusesByItsDoing_55 : decode prog_2_method_4_code 55 = .ok (.ireturn, 1) := by decide +kernel
theorem dR_refusesByItsDoing_56 : decode prog_2_method_4_code 56 = .ok (.aload_n 1, 1) := by decide +kernel
theorem dR_refusesByItsDoing_57 : decode prog_2_method_4_code 57 = .ok (.bipush 8, 2) := by decide +kernel
theorem dR_refusesByItsDoing_59 : decode prog_2_method_4_code 59 = .ok (.invokevirtual 32, 3) := by decide +kernel
theorem dR_refusesByItsDoing_62 : decode prog_2_method_4_code 62 = .ok (.ifCond .ne 12, 3) := by decide +kernel
theorem dR_refusesByItsDoing_65 : decode prog_2_method_4_code 65 = .ok (.aload_n 2, 1) := by decide +kernel
theorem dR_refusesByItsDoing_66 : decode prog_2_method_4_code 66 = .ok (.bipush 8, 2) := by decide +kernel
theorem dR_refusesByItsDoing_68 : decode prog_2_method_4_code 68 = .ok (.invokevirtual 32, 3) := by decide +kernel
theorem dR_refusesByItsDoing_71 : decode prog_2_method_4_code 71 = .ok (.ifCond .eq 18, 3) := by decide +kernel
theorem dR_refusesByItsDoing_74 : decode prog_2_method_4_code 74 = .ok (.aload_n 1, 1) := by decide +kernel
theorem dR_refusesByItsDoing_75 : decode prog_2_method_4_code 75 = .ok (.getfield 24, 3) := by decide +kernel
theorem dR_refusesByItsDoing_78 : decode prog_2_method_4_code 78 = .ok (.aload_n 2, 1) := by decide +kernel
theorem dR_refusesByItsDoing_79 : decode prog_2_method_4_code 79 = .ok (.getfield 24, 3) := by decide +kernel
theorem dR_refusesByItsDoing_82 : decode prog_2_method_4_code 82 = .ok (.if_icmp .eq 7, 3) := by decide +kernel
theorem dR_refusesByItsDoing_85 : decode prog_2_method_4_code 85 = .ok (.iconst 1, 1) := by decide +kernel
theorem dR_refusesByItsDoing_86 : decode prog_2_method_4_code 86 = .ok (.goto 4, 3) := by decide +kernel
theorem dR_refusesByItsDoing_89 : decode prog_2_method_4_code 89 = .ok (.iconst 0, 1) := by decide +kernel
theorem dR_refusesByItsDoing_90 : decode prog_2_method_4_code 90 = .ok (.ireturn, 1) := by decide +kernel
theorem dR_refusesByItsDoing_91 : decode prog_2_method_4_code 91 = .ok (.aload_n 1, 1) := by decide +kernel
theorem dR_refusesByItsDoing_92 : decode prog_2_method_4_code 92 = .ok (.iconst 4, 1) := by decide +kernel
theorem dR_refusesByItsDoing_93 : decode prog_2_method_4_code 93 = .ok (.invokevirtual 32, 3) := by decide +kernel
theorem dR_refusesByItsDoing_96 : decode prog_2_method_4_code 96 = .ok (.ifCond .eq 18, 3) := by decide +kernel
theorem dR_refusesByItsDoing_99 : decode prog_2_method_4_code 99 = .ok (.aload_n 1, 1) := by decide +kernel
theorem dR_refusesByItsDoing_100 : decode prog_2_method_4_code 100 = .ok (.getfield 24, 3) := by decide +kernel
theorem dR_refusesByItsDoing_103 : decode prog_2_method_4_code 103 = .ok (.aload_n 2, 1) := by decide +kernel
theorem dR_refusesByItsDoing_104 : decode prog_2_method_4_code 104 = .ok (.getfield 24, 3) := by decide +kernel
theorem dR_refusesByItsDoing_107 : decode prog_2_method_4_code 107 = .ok (.if_icmp .eq 7, 3) := by decide +kernel
theorem dR_refusesByItsDoing_110 : decode prog_2_method_4_code 110 = .ok (.iconst 1, 1) := by decide +kernel
theorem dR_refusesByItsDoing_111 : decode prog_2_method_4_code 111 = .ok (.goto 4, 3) := by decide +kernel
theorem dR_refusesByItsDoing_114 : decode prog_2_method_4_code 114 = .ok (.iconst 0, 1) := by decide +kernel
theorem dR_refusesByItsDoing_115 : decode prog_2_method_4_code 115 = .ok (.ireturn, 1) := by decide +kernel
def y_refuses : MethodName := ⟨"FragileRules$Rule", "refuses", "(LFragileRules$Unit;LFragileRules$Unit;I)Z"⟩
theorem dR_refuses_0 : decode prog_2_method_3_code 0 = .ok (.aload_n 0, 1) := by decide +kernel
theorem dR_refuses_1 : decode prog_2_method_3_code 1 = .ok (.getfield 9, 3) := by decide +kernel
theorem dR_refuses_4 : decode prog_2_method_3_code 4 = .ok (.tableswitch 195 0 4 #[36, 64, 114, 145, 170], 36) := by decide +kernel
theorem dR_refuses_40 : decode prog_2_method_3_code 40 = .ok (.aload_n 2, 1) := by decide +kernel
theorem dR_refuses_41 : decode prog_2_method_3_code 41 = .ok (.getfield 24, 3) := by decide +kernel
theorem dR_refuses_44 : decode prog_2_method_3_code 44 = .ok (.aload_n 0, 1) := by decide +kernel
theorem dR_refuses_45 : decode prog_2_method_3_code 45 = .ok (.getfield 15, 3) := by decide +kernel
theorem dR_refuses_48 : decode prog_2_method_3_code 48 = .ok (.if_icmp .ne 18, 3) := by decide +kernel
theorem dR_refuses_51 : decode prog_2_method_3_code 51 = .ok (.aload_n 1, 1) := by decide +kernel
theorem dR_refuses_52 : decode prog_2_method_3_code 52 = .ok (.getfield 24, 3) := by decide +kernel
theorem dR_refuses_55 : decode prog_2_method_3_code 55 = .ok (.aload_n 0, 1) := by decide +kernel
theorem dR_refuses_56 : decode prog_2_method_3_code 56 = .ok (.getfield 18, 3) := by decide +kernel
theorem dR_refuses_59 : decode prog_2_method_3_code 59 = .ok (.if_icmp .ne 7, 3) := by decide +kernel
theorem dR_refuses_62 : decode prog_2_method_3_code 62 = .ok (.iconst 1, 1) := by decide +kernel
theorem dR_refuses_63 : decode prog_2_method_3_code 63 = .ok (.goto 4, 3) := by decide +kernel
theorem dR_refuses_66 : decode prog_2_method_3_code 66 = .ok (.iconst 0, 1) := by decide +kernel
theorem dR_refuses_67 : decode prog_2_method_3_code 67 = .ok (.ireturn, 1) := by decide +kernel
theorem dR_refuses_68 : decode prog_2_method_3_code 68 = .ok (.aload_n 1, 1) := by decide +kernel
theorem dR_refuses_69 : decode prog_2_method_3_code 69 = .ok (.getfield 24, 3) := by decide +kernel
theorem dR_refuses_72 : decode prog_2_method_3_code 72 = .ok (.aload_n 0, 1) := by decide +kernel
theorem dR_refuses_73 : decode prog_2_method_3_code 73 = .ok (.getfield 15, 3) := by decide +kernel
theorem dR_refuses_76 : decode prog_2_method_3_code 76 = .ok (.if_icmp .ne 14, 3) := by decide +kernel
theorem dR_refuses_79 : decode prog_2_method_3_code 79 = .ok (.aload_n 2, 1) := by decide +kernel
theorem dR_refuses_80 : decode prog_2_method_3_code 80 = .ok (.getfield 24, 3) := by decide +kernel
theorem dR_refuses_83 : decode prog_2_method_3_code 83 = .ok (.aload_n 0, 1) := by decide +kernel
theorem dR_refuses_84 : decode prog_2_method_3_code 84 = .ok (.getfield 18, 3) := by decide +kernel
theorem dR_refuses_87 : decode prog_2_method_3_code 87 = .ok (.if_icmp .eq 25, 3) := by decide +kernel
theorem dR_refuses_90 : decode prog_2_method_3_code 90 = .ok (.aload_n 1, 1) := by decide +kernel
theorem dR_refuses_91 : decode prog_2_method_3_code 91 = .ok (.getfield 24, 3) := by decide +kernel
theorem dR_refuses_94 : decode prog_2_method_3_code 94 = .ok (.aload_n 0, 1) := by decide +kernel
theorem dR_refuses_95 : decode prog_2_method_3_code 95 = .ok (.getfield 18, 3) := by decide +kernel
theorem dR_refuses_98 : decode prog_2_method_3_code 98 = .ok (.if_icmp .ne 18, 3) := by decide +kernel
theorem dR_refuses_101 : decode prog_2_method_3_code 101 = .ok (.aload_n 2, 1) := by decide +kernel
theorem dR_refuses_102 : decode prog_2_method_3_code 102 = .ok (.getfield 24, 3) := by decide +kernel
theorem dR_refuses_105 : decode prog_2_method_3_code 105 = .ok (.aload_n 0, 1) := by decide +kernel
theorem dR_refuses_106 : decode prog_2_method_3_code 106 = .ok (.getfield 15, 3) := by decide +kernel
theorem dR_refuses_109 : decode prog_2_method_3_code 109 = .ok (.if_icmp .ne 7, 3) := by decide +kernel
theorem dR_refuses_112 : decode prog_2_method_3_code 112 = .ok (.iconst 1, 1) := by decide +kernel
theorem dR_refuses_113 : decode prog_2_method_3_code 113 = .ok (.goto 4, 3) := by decide +kernel
theorem dR_refuses_116 : decode prog_2_method_3_code 116 = .ok (.iconst 0, 1) := by decide +kernel
theorem dR_refuses_117 : decode prog_2_method_3_code 117 = .ok (.ireturn, 1) := by decide +kernel
theorem dR_refuses_118 : decode prog_2_method_3_code 118 = .ok (.aload_n 1, 1) := by decide +kernel
theorem dR_refuses_119 : decode prog_2_method_3_code 119 = .ok (.getfield 24, 3) := by decide +kernel
theorem dR_refuses_122 : decode prog_2_method_3_code 122 = .ok (.aload_n 0, 1) := by decide +kernel
theorem dR_refuses_123 : decode prog_2_method_3_code 123 = .ok (.getfield 15, 3) := by decide +kernel
theorem dR_refuses_126 : decode prog_2_method_3_code 126 = .ok (.if_icmp .ne 21, 3) := by decide +kernel
theorem dR_refuses_129 : decode prog_2_method_3_code 129 = .ok (.aload_n 2, 1) := by decide +kernel
theorem dR_refuses_130 : decode prog_2_method_3_code 130 = .ok (.getfield 29, 3) := by decide +kernel
theorem dR_refuses_133 : decode prog_2_method_3_code 133 = .ok (.bipush 10, 2) := by decide +kernel
theorem dR_refuses_135 : decode prog_2_method_3_code 135 = .ok (.aload_n 0, 1) := by decide +kernel
theorem dR_refuses_136 : decode prog_2_method_3_code 136 = .ok (.getfield 18, 3) := by decide +kernel
theorem dR_refuses_139 : decode prog_2_method_3_code 139 = .ok (.imul, 1) := by decide +kernel
theorem dR_refuses_140 : decode prog_2_method_3_code 140 = .ok (.if_icmp .le 7, 3) := by decide +kernel
theorem dR_refuses_143 : decode prog_2_method_3_code 143 = .ok (.iconst 1, 1) := by decide +kernel
theorem dR_refuses_144 : decode prog_2_method_3_code 144 = .ok (.goto 4, 3) := by decide +kernel
theorem dR_refuses_147 : decode prog_2_method_3_code 147 = .ok (.iconst 0, 1) := by decide +kernel
theorem dR_refuses_148 : decode prog_2_method_3_code 148 = .ok (.ireturn, 1) := by decide +kernel
theorem dR_refuses_149 : decode prog_2_method_3_code 149 = .ok (.aload_n 2, 1) := by decide +kernel
theorem dR_refuses_150 : decode prog_2_method_3_code 150 = .ok (.getfield 24, 3) := by decide +kernel
theorem dR_refuses_153 : decode prog_2_method_3_code 153 = .ok (.aload_n 0, 1) := by decide +kernel
theorem dR_refuses_154 : decode prog_2_method_3_code 154 = .ok (.getfield 15, 3) := by decide +kernel
theorem dR_refuses_157 : decode prog_2_method_3_code 157 = .ok (.if_icmp .ne 15, 3) := by decide +kernel
theorem dR_refuses_160 : decode prog_2_method_3_code 160 = .ok (.iload_n 3, 1) := by decide +kernel
theorem dR_refuses_161 : decode prog_2_method_3_code 161 = .ok (.aload_n 0, 1) := by decide +kernel
theorem dR_refuses_162 : decode prog_2_method_3_code 162 = .ok (.getfield 18, 3) := by decide +kernel
theorem dR_refuses_165 : decode prog_2_method_3_code 165 = .ok (.if_icmp .lt 7, 3) := by decide +kernel
theorem dR_refuses_168 : decode prog_2_method_3_code 168 = .ok (.iconst 1, 1) := by decide +kernel
theorem dR_refuses_169 : decode prog_2_method_3_code 169 = .ok (.goto 4, 3) := by decide +kernel
theorem dR_refuses_172 : decode prog_2_method_3_code 172 = .ok (.iconst 0, 1) := by decide +kernel
theorem dR_refuses_173 : decode prog_2_method_3_code 173 = .ok (.ireturn, 1) := by decide +kernel
theorem dR_refuses_174 : decode prog_2_method_3_code 174 = .ok (.iload_n 3, 1) := by decide +kernel
theorem dR_refuses_175 : decode prog_2_method_3_code 175 = .ok (.aload_n 0, 1) := by decide +kernel
theorem dR_refuses_176 : decode prog_2_method_3_code 176 = .ok (.getfield 15, 3) := by decide +kernel
theorem dR_refuses_179 : decode prog_2_method_3_code 179 = .ok (.if_icmp .ne 18, 3) := by decide +kernel
theorem dR_refuses_182 : decode prog_2_method_3_code 182 = .ok (.aload_n 1, 1) := by decide +kernel
theorem dR_refuses_183 : decode prog_2_method_3_code 183 = .ok (.aload_n 0, 1) := by decide +kernel
theorem dR_refuses_184 : decode prog_2_method_3_code 184 = .ok (.getfield 18, 3) := by decide +kernel
theorem dR_refuses_187 : decode prog_2_method_3_code 187 = .ok (.invokevirtual 32, 3) := by decide +kernel
theorem dR_refuses_190 : decode prog_2_method_3_code 190 = .ok (.ifCond .ne 7, 3) := by decide +kernel
theorem dR_refuses_193 : decode prog_2_method_3_code 193 = .ok (.iconst 1, 1) := by decide +kernel
theorem dR_refuses_194 : decode prog_2_method_3_code 194 = .ok (.goto 4, 3) := by decide +kernel
theorem dR_refuses_197 : decode prog_2_method_3_code 197 = .ok (.iconst 0, 1) := by decide +kernel
theorem dR_refuses_198 : decode prog_2_method_3_code 198 = .ok (.ireturn, 1) := by decide +kernel
theorem dR_refuses_199 : decode prog_2_method_3_code 199 = .ok (.aload_n 0, 1) := by decide +kernel
theorem dR_refuses_200 : decode prog_2_method_3_code 200 = .ok (.getfield 18, 3) := by decide +kernel
theorem dR_refuses_203 : decode prog_2_method_3_code 203 = .ok (.iconst 1, 1) := by decide +kernel
theorem dR_refuses_204 : decode prog_2_method_3_code 204 = .ok (.if_icmp .eq 13, 3) := by decide +kernel
theorem dR_refuses_207 : decode prog_2_method_3_code 207 = .ok (.aload_n 0, 1) := by decide +kernel
theorem dR_refuses_208 : decode prog_2_method_3_code 208 = .ok (.aload_n 1, 1) := by decide +kernel
theorem dR_refuses_209 : decode prog_2_method_3_code 209 = .ok (.aload_n 2, 1) := by decide +kernel
theorem dR_refuses_210 : decode prog_2_method_3_code 210 = .ok (.iload_n 3, 1) := by decide +kernel
theorem dR_refuses_211 : decode prog_2_method_3_code 211 = .ok (.invokevirtual 36, 3) := by decide +kernel
theorem dR_refuses_214 : decode prog_2_method_3_code 214 = .ok (.ifCond .eq 7, 3) := by decide +kernel
theorem dR_refuses_217 : decode prog_2_method_3_code 217 = .ok (.iconst 1, 1) := by decide +kernel
theorem dR_refuses_218 : decode prog_2_method_3_code 218 = .ok (.goto 4, 3) := by decide +kernel
theorem dR_refuses_221 : decode prog_2_method_3_code 221 = .ok (.iconst 0, 1) := by decide +kernel
theorem dR_refuses_222 : decode prog_2_method_3_code 222 = .ok (.ireturn, 1) := by decide +kernel
def y_count : MethodName := ⟨"FragileRules", "count", "(I)I"⟩
theorem dF_count_0 : decode prog_1_method_15_code 0 = .ok (.iload_n 1, 1) := by decide +kernel
theorem dF_count_1 : decode prog_1_method_15_code 1 = .ok (.tableswitch 63 0 4 #[35, 40, 45, 53, 58], 35) := by decide +kernel
theorem dF_count_36 : decode prog_1_method_15_code 36 = .ok (.aload_n 0, 1) := by decide +kernel
theorem dF_count_37 : decode prog_1_method_15_code 37 = .ok (.getfield 15, 3) := by decide +kernel
theorem dF_count_40 : decode prog_1_method_15_code 40 = .ok (.ireturn, 1) := by decide +kernel
theorem dF_count_41 : decode prog_1_method_15_code 41 = .ok (.aload_n 0, 1) := by decide +kernel
theorem dF_count_42 : decode prog_1_method_15_code 42 = .ok (.getfield 25, 3) := by decide +kernel
theorem dF_count_45 : decode prog_1_method_15_code 45 = .ok (.ireturn, 1) := by decide +kernel
theorem dF_count_46 : decode prog_1_method_15_code 46 = .ok (.aload_n 0, 1) := by decide +kernel
theorem dF_count_47 : decode prog_1_method_15_code 47 = .ok (.getfield 41, 3) := by decide +kernel
theorem dF_count_50 : decode prog_1_method_15_code 50 = .ok (.getfield 98, 3) := by decide +kernel
theorem dF_count_53 : decode prog_1_method_15_code 53 = .ok (.ireturn, 1) := by decide +kernel
theorem dF_count_54 : decode prog_1_method_15_code 54 = .ok (.aload_n 0, 1) := by decide +kernel
theorem dF_count_55 : decode prog_1_method_15_code 55 = .ok (.getfield 45, 3) := by decide +kernel
theorem dF_count_58 : decode prog_1_method_15_code 58 = .ok (.ireturn, 1) := by decide +kernel
theorem dF_count_59 : decode prog_1_method_15_code 59 = .ok (.aload_n 0, 1) := by decide +kernel
theorem dF_count_60 : decode prog_1_method_15_code 60 = .ok (.getfield 48, 3) := by decide +kernel
theorem dF_count_63 : decode prog_1_method_15_code 63 = .ok (.ireturn, 1) := by decide +kernel
theorem dF_count_64 : decode prog_1_method_15_code 64 = .ok (.iconst (-1), 1) := by decide +kernel
theorem dF_count_65 : decode prog_1_method_15_code 65 = .ok (.ireturn, 1) := by decide +kernel
def y_asked : MethodName := ⟨"FragileRules", "asked", "(I)I"⟩
theorem dF_asked_0 : decode prog_1_method_10_code 0 = .ok (.iload_n 1, 1) := by decide +kernel
theorem dF_asked_1 : decode prog_1_method_10_code 1 = .ok (.ifCond .lt 20, 3) := by decide +kernel
theorem dF_asked_4 : decode prog_1_method_10_code 4 = .ok (.iload_n 1, 1) := by decide +kernel
theorem dF_asked_5 : decode prog_1_method_10_code 5 = .ok (.aload_n 0, 1) := by decide +kernel
theorem dF_asked_6 : decode prog_1_method_10_code 6 = .ok (.getfield 35, 3) := by decide +kernel
theorem dF_asked_9 : decode prog_1_method_10_code 9 = .ok (.if_icmp .ge 12, 3) := by decide +kernel
theorem dF_asked_12 : decode prog_1_method_10_code 12 = .ok (.aload_n 0, 1) := by decide +kernel
theorem dF_asked_13 : decode prog_1_method_10_code 13 = .ok (.getfield 32, 3) := by decide +kernel
theorem dF_asked_16 : decode prog_1_method_10_code 16 = .ok (.iload_n 1, 1) := by decide +kernel
theorem dF_asked_17 : decode prog_1_method_10_code 17 = .ok (.iaload, 1) := by decide +kernel
theorem dF_asked_18 : decode prog_1_method_10_code 18 = .ok (.goto 4, 3) := by decide +kernel
theorem dF_asked_21 : decode prog_1_method_10_code 21 = .ok (.iconst (-1), 1) := by decide +kernel
theorem dF_asked_22 : decode prog_1_method_10_code 22 = .ok (.ireturn, 1) := by decide +kernel
def y_placeIn : MethodName := ⟨"FragileRules", "placeInOrder", "(I)I"⟩
theorem dF_placeInOrder_0 : decode prog_1_method_23_code 0 = .ok (.iconst 0, 1) := by decide +kernel
theorem dF_placeInOrder_1 : decode prog_1_method_23_code 1 = .ok (.istore_n 2, 1) := by decide +kernel
theorem dF_placeInOrder_2 : decode prog_1_method_23_code 2 = .ok (.iload_n 2, 1) := by decide +kernel
theorem dF_placeInOrder_3 : decode prog_1_method_23_code 3 = .ok (.aload_n 0, 1) := by decide +kernel
theorem dF_placeInOrder_4 : decode prog_1_method_23_code 4 = .ok (.getfield 25, 3) := by decide +kernel
theorem dF_placeInOrder_7 : decode prog_1_method_23_code 7 = .ok (.iconst 1, 1) := by decide +kernel
theorem dF_placeInOrder_8 : decode prog_1_method_23_code 8 = .ok (.isub, 1) := by decide +kernel
theorem dF_placeInOrder_9 : decode prog_1_method_23_code 9 = .ok (.if_icmp .ge 19, 3) := by decide +kernel
theorem dF_placeInOrder_12 : decode prog_1_method_23_code 12 = .ok (.aload_n 0, 1) := by decide +kernel
theorem dF_placeInOrder_13 : decode prog_1_method_23_code 13 = .ok (.getfield 28, 3) := by decide +kernel
theorem dF_placeInOrder_16 : decode prog_1_method_23_code 16 = .ok (.iload_n 2, 1) := by decide +kernel
theorem dF_placeInOrder_17 : decode prog_1_method_23_code 17 = .ok (.iaload, 1) := by decide +kernel
theorem dF_placeInOrder_18 : decode prog_1_method_23_code 18 = .ok (.iload_n 1, 1) := by decide +kernel
theorem dF_placeInOrder_19 : decode prog_1_method_23_code 19 = .ok (.if_icmp .eq 9, 3) := by decide +kernel
theorem dF_placeInOrder_22 : decode prog_1_method_23_code 22 = .ok (.iinc 2 1, 3) := by decide +kernel
theorem dF_placeInOrder_25 : decode prog_1_method_23_code 25 = .ok (.goto (-23), 3) := by decide +kernel
theorem dF_placeInOrder_28 : decode prog_1_method_23_code 28 = .ok (.iload_n 2, 1) := by decide +kernel
theorem dF_placeInOrder_29 : decode prog_1_method_23_code 29 = .ok (.ireturn, 1) := by decide +kernel
theorem fl_U_16 : Cond.fieldLink "FragileRules$Unit" 16 "FragileRules$Unit" "marks" "I" ∈ fr_tbl := fr_in 78 (by decide +kernel) rfl
theorem fl_T_15 : Cond.fieldLink "FragileRules$Text" 15 "FragileRules$Text" "length" "I" ∈ fr_tbl := fr_in 59 (by decide +kernel) rfl
theorem fl_T_9 : Cond.fieldLink "FragileRules$Text" 9 "FragileRules$Text" "signs" "[I" ∈ fr_tbl := fr_in 57 (by decide +kernel) rfl
theorem ml_T_26 : Cond.methodLink "FragileRules$Text" 26 ⟨"FragileRules$Text", "signAt", "(I)I"⟩ ∈ fr_tbl := fr_in 331 (by decide +kernel) rfl
theorem mi_signAt : Cond.instanceMethod ⟨"FragileRules$Text", "signAt", "(I)I"⟩ ∈ fr_tbl := fr_in 332 (by decide +kernel) rfl
theorem msel_signAt : Cond.selects "FragileRules$Text" ⟨"FragileRules$Text", "signAt", "(I)I"⟩ ⟨"FragileRules$Text", "signAt", "(I)I"⟩ ∈ fr_tbl := fr_in 333 (by decide +kernel) rfl
theorem mini_T : Cond.initialized "FragileRules$Text" ∈ fr_tbl := fr_in 26 (by decide +kernel) rfl
theorem mc_signAt : Cond.code ⟨"FragileRules$Text", "signAt", "(I)I"⟩ prog_3_method_8_code 2 (some FieldType.int) ∈ fr_tbl := fr_in 334 (by decide +kernel) rfl
theorem ml_T_29 : Cond.methodLink "FragileRules$Text" 29 ⟨"FragileRules$Text", "digitAt", "(I)I"⟩ ∈ fr_tbl := fr_in 335 (by decide +kernel) rfl
theorem mi_digitAt : Cond.instanceMethod ⟨"FragileRules$Text", "digitAt", "(I)I"⟩ ∈ fr_tbl := fr_in 336 (by decide +kernel) rfl
theorem msel_digitAt : Cond.selects "FragileRules$Text" ⟨"FragileRules$Text", "digitAt", "(I)I"⟩ ⟨"FragileRules$Text", "digitAt", "(I)I"⟩ ∈ fr_tbl := fr_in 337 (by decide +kernel) rfl
theorem mc_digitAt : Cond.code ⟨"FragileRules$Text", "digitAt", "(I)I"⟩ prog_3_method_7_code 3 (some FieldType.int) ∈ fr_tbl := fr_in 338 (by decide +kernel) rfl
theorem ml_T_23 : Cond.methodLink "FragileRules$Text" 23 ⟨"FragileRules$Text", "rowAt", "(I)I"⟩ ∈ fr_tbl := fr_in 327 (by decide +kernel) rfl
theorem mi_rowAt : Cond.instanceMethod ⟨"FragileRules$Text", "rowAt", "(I)I"⟩ ∈ fr_tbl := fr_in 328 (by decide +kernel) rfl
theorem msel_rowAt : Cond.selects "FragileRules$Text" ⟨"FragileRules$Text", "rowAt", "(I)I"⟩ ⟨"FragileRules$Text", "rowAt", "(I)I"⟩ ∈ fr_tbl := fr_in 329 (by decide +kernel) rfl
theorem mc_rowAt : Cond.code ⟨"FragileRules$Text", "rowAt", "(I)I"⟩ prog_3_method_5_code 2 (some FieldType.int) ∈ fr_tbl := fr_in 330 (by decide +kernel) rfl
theorem mc_within : Cond.code ⟨"FragileRules", "isWithin", "(II)Z"⟩ prog_1_method_16_code 2 (some FieldType.boolean) ∈ fr_tbl := fr_in 159 (by decide +kernel) rfl
theorem mini_F : Cond.initialized "FragileRules" ∈ fr_tbl := fr_in 25 (by decide +kernel) rfl
theorem mst_within : Cond.static ⟨"FragileRules", "isWithin", "(II)Z"⟩ ∈ fr_tbl := fr_in 158 (by decide +kernel) rfl
theorem ml_T_19 : Cond.methodLink "FragileRules$Text" 19 ⟨"FragileRules$Text", "behindLine", "(I)I"⟩ ∈ fr_tbl := fr_in 323 (by decide +kernel) rfl
theorem mi_behind : Cond.instanceMethod ⟨"FragileRules$Text", "behindLine", "(I)I"⟩ ∈ fr_tbl := fr_in 324 (by decide +kernel) rfl
theorem msel_behind : Cond.selects "FragileRules$Text" ⟨"FragileRules$Text", "behindLine", "(I)I"⟩ ⟨"FragileRules$Text", "behindLine", "(I)I"⟩ ∈ fr_tbl := fr_in 325 (by decide +kernel) rfl
theorem mc_behind : Cond.code ⟨"FragileRules$Text", "behindLine", "(I)I"⟩ prog_3_method_4_code 6 (some FieldType.int) ∈ fr_tbl := fr_in 326 (by decide +kernel) rfl
theorem fl_F_15 : Cond.fieldLink "FragileRules" 15 "FragileRules" "unitCount" "I" ∈ fr_tbl := fr_in 110 (by decide +kernel) rfl
theorem fl_F_25 : Cond.fieldLink "FragileRules" 25 "FragileRules" "ruleCount" "I" ∈ fr_tbl := fr_in 112 (by decide +kernel) rfl
theorem fl_R_9 : Cond.fieldLink "FragileRules$Rule" 9 "FragileRules$Rule" "row" "I" ∈ fr_tbl := fr_in 92 (by decide +kernel) rfl
theorem fl_R_15 : Cond.fieldLink "FragileRules$Rule" 15 "FragileRules$Rule" "a" "I" ∈ fr_tbl := fr_in 94 (by decide +kernel) rfl
theorem ml_R_32 : Cond.methodLink "FragileRules$Rule" 32 ⟨"FragileRules$Unit", "has", "(I)Z"⟩ ∈ fr_tbl := fr_in 265 (by decide +kernel) rfl
theorem mi_has : Cond.instanceMethod ⟨"FragileRules$Unit", "has", "(I)Z"⟩ ∈ fr_tbl := fr_in 250 (by decide +kernel) rfl
theorem msel_has : Cond.selects "FragileRules$Unit" ⟨"FragileRules$Unit", "has", "(I)Z"⟩ ⟨"FragileRules$Unit", "has", "(I)Z"⟩ ∈ fr_tbl := fr_in 251 (by decide +kernel) rfl
theorem mini_U : Cond.initialized "FragileRules$Unit" ∈ fr_tbl := fr_in 27 (by decide +kernel) rfl
theorem mc_has : Cond.code ⟨"FragileRules$Unit", "has", "(I)Z"⟩ prog_4_method_2_code 2 (some FieldType.boolean) ∈ fr_tbl := fr_in 252 (by decide +kernel) rfl
theorem fl_R_24 : Cond.fieldLink "FragileRules$Rule" 24 "FragileRules$Unit" "kind" "I" ∈ fr_tbl := fr_in 74 (by decide +kernel) rfl
theorem fl_R_18 : Cond.fieldLink "FragileRules$Rule" 18 "FragileRules$Rule" "b" "I" ∈ fr_tbl := fr_in 96 (by decide +kernel) rfl
theorem fl_R_29 : Cond.fieldLink "FragileRules$Rule" 29 "FragileRules$Unit" "weight" "I" ∈ fr_tbl := fr_in 77 (by decide +kernel) rfl
theorem ml_R_36 : Cond.methodLink "FragileRules$Rule" 36 ⟨"FragileRules$Rule", "refusesByItsDoing", "(LFragileRules$Unit;LFragileRules$Unit;I)Z"⟩ ∈ fr_tbl := fr_in 266 (by decide +kernel) rfl
theorem mi_doing : Cond.instanceMethod ⟨"FragileRules$Rule", "refusesByItsDoing", "(LFragileRules$Unit;LFragileRules$Unit;I)Z"⟩ ∈ fr_tbl := fr_in 267 (by decide +kernel) rfl
theorem msel_doing : Cond.selects "FragileRules$Rule" ⟨"FragileRules$Rule", "refusesByItsDoing", "(LFragileRules$Unit;LFragileRules$Unit;I)Z"⟩ ⟨"FragileRules$Rule", "refusesByItsDoing", "(LFragileRules$Unit;LFragileRules$Unit;I)Z"⟩ ∈ fr_tbl := fr_in 268 (by decide +kernel) rfl
theorem mini_R : Cond.initialized "FragileRules$Rule" ∈ fr_tbl := fr_in 28 (by decide +kernel) rfl
theorem mc_doing : Cond.code ⟨"FragileRules$Rule", "refusesByItsDoing", "(LFragileRules$Unit;LFragileRules$Unit;I)Z"⟩ prog_2_method_4_code 4 (some FieldType.boolean) ∈ fr_tbl := fr_in 269 (by decide +kernel) rfl
theorem fl_F_41 : Cond.fieldLink "FragileRules" 41 "FragileRules" "text" "LFragileRules$Text;" ∈ fr_tbl := fr_in 116 (by decide +kernel) rfl
theorem fl_F_98 : Cond.fieldLink "FragileRules" 98 "FragileRules$Text" "length" "I" ∈ fr_tbl := fr_in 60 (by decide +kernel) rfl
theorem fl_F_45 : Cond.fieldLink "FragileRules" 45 "FragileRules" "verdictCount" "I" ∈ fr_tbl := fr_in 117 (by decide +kernel) rfl
theorem fl_F_48 : Cond.fieldLink "FragileRules" 48 "FragileRules" "refusedCount" "I" ∈ fr_tbl := fr_in 118 (by decide +kernel) rfl
theorem fl_F_35 : Cond.fieldLink "FragileRules" 35 "FragileRules" "askedCount" "I" ∈ fr_tbl := fr_in 115 (by decide +kernel) rfl
theorem fl_F_32 : Cond.fieldLink "FragileRules" 32 "FragileRules" "askedNumbers" "[I" ∈ fr_tbl := fr_in 114 (by decide +kernel) rfl
theorem fl_F_28 : Cond.fieldLink "FragileRules" 28 "FragileRules" "numbersInOrder" "[I" ∈ fr_tbl := fr_in 113 (by decide +kernel) rfl
