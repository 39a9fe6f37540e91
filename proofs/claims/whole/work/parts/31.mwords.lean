def y_m_thrown : MethodName := ⟨"FragileRulesModel", "thrown", "()I"⟩
theorem dM_thrown_0 : decode prog_6_method_2_code 0 = .ok (.aload_n 0, 1) := by decide +kernel
theorem dM_thrown_1 : decode prog_6_method_2_code 1 = .ok (.getfield 40, 3) := by decide +kernel
theorem dM_thrown_4 : decode prog_6_method_2_code 4 = .ok (.ireturn, 1) := by decide +kernel
def y_m_within : MethodName := ⟨"FragileRulesModel", "within", "(III)Z"⟩
theorem dM_within_0 : decode prog_6_method_3_code 0 = .ok (.iload_n 0, 1) := by decide +kernel
theorem dM_within_1 : decode prog_6_method_3_code 1 = .ok (.iload_n 1, 1) := by decide +kernel
theorem dM_within_2 : decode prog_6_method_3_code 2 = .ok (.if_icmp .lt 12, 3) := by decide +kernel
theorem dM_within_5 : decode prog_6_method_3_code 5 = .ok (.iload_n 0, 1) := by decide +kernel
theorem dM_within_6 : decode prog_6_method_3_code 6 = .ok (.iload_n 2, 1) := by decide +kernel
theorem dM_within_7 : decode prog_6_method_3_code 7 = .ok (.if_icmp .gt 7, 3) := by decide +kernel
theorem dM_within_10 : decode prog_6_method_3_code 10 = .ok (.iconst 1, 1) := by decide +kernel
theorem dM_within_11 : decode prog_6_method_3_code 11 = .ok (.goto 4, 3) := by decide +kernel
theorem dM_within_14 : decode prog_6_method_3_code 14 = .ok (.iconst 0, 1) := by decide +kernel
theorem dM_within_15 : decode prog_6_method_3_code 15 = .ok (.ireturn, 1) := by decide +kernel
def y_m_isUnit : MethodName := ⟨"FragileRulesModel", "isUnit", "(I)Z"⟩
theorem dM_isUnit_0 : decode prog_6_method_4_code 0 = .ok (.iload_n 1, 1) := by decide +kernel
theorem dM_isUnit_1 : decode prog_6_method_4_code 1 = .ok (.ifCond .lt 15, 3) := by decide +kernel
theorem dM_isUnit_4 : decode prog_6_method_4_code 4 = .ok (.iload_n 1, 1) := by decide +kernel
theorem dM_isUnit_5 : decode prog_6_method_4_code 5 = .ok (.aload_n 0, 1) := by decide +kernel
theorem dM_isUnit_6 : decode prog_6_method_4_code 6 = .ok (.getfield 44, 3) := by decide +kernel
theorem dM_isUnit_9 : decode prog_6_method_4_code 9 = .ok (.if_icmp .ge 7, 3) := by decide +kernel
theorem dM_isUnit_12 : decode prog_6_method_4_code 12 = .ok (.iconst 1, 1) := by decide +kernel
theorem dM_isUnit_13 : decode prog_6_method_4_code 13 = .ok (.goto 4, 3) := by decide +kernel
theorem dM_isUnit_16 : decode prog_6_method_4_code 16 = .ok (.iconst 0, 1) := by decide +kernel
theorem dM_isUnit_17 : decode prog_6_method_4_code 17 = .ok (.ireturn, 1) := by decide +kernel
def y_m_isMark : MethodName := ⟨"FragileRulesModel", "isMark", "(I)Z"⟩
theorem dM_isMark_0 : decode prog_6_method_5_code 0 = .ok (.iload_n 0, 1) := by decide +kernel
theorem dM_isMark_1 : decode prog_6_method_5_code 1 = .ok (.iconst 1, 1) := by decide +kernel
theorem dM_isMark_2 : decode prog_6_method_5_code 2 = .ok (.if_icmp .eq 25, 3) := by decide +kernel
theorem dM_isMark_5 : decode prog_6_method_5_code 5 = .ok (.iload_n 0, 1) := by decide +kernel
theorem dM_isMark_6 : decode prog_6_method_5_code 6 = .ok (.iconst 2, 1) := by decide +kernel
theorem dM_isMark_7 : decode prog_6_method_5_code 7 = .ok (.if_icmp .eq 20, 3) := by decide +kernel
theorem dM_isMark_10 : decode prog_6_method_5_code 10 = .ok (.iload_n 0, 1) := by decide +kernel
theorem dM_isMark_11 : decode prog_6_method_5_code 11 = .ok (.iconst 4, 1) := by decide +kernel
theorem dM_isMark_12 : decode prog_6_method_5_code 12 = .ok (.if_icmp .eq 15, 3) := by decide +kernel
theorem dM_isMark_15 : decode prog_6_method_5_code 15 = .ok (.iload_n 0, 1) := by decide +kernel
theorem dM_isMark_16 : decode prog_6_method_5_code 16 = .ok (.bipush 8, 2) := by decide +kernel
theorem dM_isMark_18 : decode prog_6_method_5_code 18 = .ok (.if_icmp .eq 9, 3) := by decide +kernel
theorem dM_isMark_21 : decode prog_6_method_5_code 21 = .ok (.iload_n 0, 1) := by decide +kernel
theorem dM_isMark_22 : decode prog_6_method_5_code 22 = .ok (.bipush 16, 2) := by decide +kernel
theorem dM_isMark_24 : decode prog_6_method_5_code 24 = .ok (.if_icmp .ne 7, 3) := by decide +kernel
theorem dM_isMark_27 : decode prog_6_method_5_code 27 = .ok (.iconst 1, 1) := by decide +kernel
theorem dM_isMark_28 : decode prog_6_method_5_code 28 = .ok (.goto 4, 3) := by decide +kernel
theorem dM_isMark_31 : decode prog_6_method_5_code 31 = .ok (.iconst 0, 1) := by decide +kernel
theorem dM_isMark_32 : decode prog_6_method_5_code 32 = .ok (.ireturn, 1) := by decide +kernel
def y_m_concerns : MethodName := ⟨"FragileRulesModel", "concerns", "(I)Z"⟩
theorem dM_concerns_0 : decode prog_6_method_6_code 0 = .ok (.aload_n 0, 1) := by decide +kernel
theorem dM_concerns_1 : decode prog_6_method_6_code 1 = .ok (.getfield 19, 3) := by decide +kernel
theorem dM_concerns_4 : decode prog_6_method_6_code 4 = .ok (.iload_n 1, 1) := by decide +kernel
theorem dM_concerns_5 : decode prog_6_method_6_code 5 = .ok (.iaload, 1) := by decide +kernel
theorem dM_concerns_6 : decode prog_6_method_6_code 6 = .ok (.iconst 5, 1) := by decide +kernel
theorem dM_concerns_7 : decode prog_6_method_6_code 7 = .ok (.if_icmp .ne 52, 3) := by decide +kernel
theorem dM_concerns_10 : decode prog_6_method_6_code 10 = .ok (.aload_n 0, 1) := by decide +kernel
theorem dM_concerns_11 : decode prog_6_method_6_code 11 = .ok (.getfield 47, 3) := by decide +kernel
theorem dM_concerns_14 : decode prog_6_method_6_code 14 = .ok (.ifCond .ne 21, 3) := by decide +kernel
theorem dM_concerns_17 : decode prog_6_method_6_code 17 = .ok (.aload_n 0, 1) := by decide +kernel
theorem dM_concerns_18 : decode prog_6_method_6_code 18 = .ok (.getfield 22, 3) := by decide +kernel
theorem dM_concerns_21 : decode prog_6_method_6_code 21 = .ok (.iload_n 1, 1) := by decide +kernel
theorem dM_concerns_22 : decode prog_6_method_6_code 22 = .ok (.iaload, 1) := by decide +kernel
theorem dM_concerns_23 : decode prog_6_method_6_code 23 = .ok (.iconst 2, 1) := by decide +kernel
theorem dM_concerns_24 : decode prog_6_method_6_code 24 = .ok (.if_icmp .eq 7, 3) := by decide +kernel
theorem dM_concerns_27 : decode prog_6_method_6_code 27 = .ok (.iconst 1, 1) := by decide +kernel
theorem dM_concerns_28 : decode prog_6_method_6_code 28 = .ok (.goto 30, 3) := by decide +kernel
theorem dM_concerns_31 : decode prog_6_method_6_code 31 = .ok (.iconst 0, 1) := by decide +kernel
theorem dM_concerns_32 : decode prog_6_method_6_code 32 = .ok (.goto 26, 3) := by decide +kernel
theorem dM_concerns_35 : decode prog_6_method_6_code 35 = .ok (.aload_n 0, 1) := by decide +kernel
theorem dM_concerns_36 : decode prog_6_method_6_code 36 = .ok (.getfield 47, 3) := by decide +kernel
theorem dM_concerns_39 : decode prog_6_method_6_code 39 = .ok (.iconst 1, 1) := by decide +kernel
theorem dM_concerns_40 : decode prog_6_method_6_code 40 = .ok (.if_icmp .ne 17, 3) := by decide +kernel
theorem dM_concerns_43 : decode prog_6_method_6_code 43 = .ok (.aload_n 0, 1) := by decide +kernel
theorem dM_concerns_44 : decode prog_6_method_6_code 44 = .ok (.getfield 22, 3) := by decide +kernel
theorem dM_concerns_47 : decode prog_6_method_6_code 47 = .ok (.iload_n 1, 1) := by decide +kernel
theorem dM_concerns_48 : decode prog_6_method_6_code 48 = .ok (.iaload, 1) := by decide +kernel
theorem dM_concerns_49 : decode prog_6_method_6_code 49 = .ok (.iconst 2, 1) := by decide +kernel
theorem dM_concerns_50 : decode prog_6_method_6_code 50 = .ok (.if_icmp .ne 7, 3) := by decide +kernel
theorem dM_concerns_53 : decode prog_6_method_6_code 53 = .ok (.iconst 1, 1) := by decide +kernel
theorem dM_concerns_54 : decode prog_6_method_6_code 54 = .ok (.goto 4, 3) := by decide +kernel
theorem dM_concerns_57 : decode prog_6_method_6_code 57 = .ok (.iconst 0, 1) := by decide +kernel
theorem dM_concerns_58 : decode prog_6_method_6_code 58 = .ok (.ireturn, 1) := by decide +kernel
theorem dM_concerns_59 : decode prog_6_method_6_code 59 = .ok (.aload_n 0, 1) := by decide +kernel
theorem dM_concerns_60 : decode prog_6_method_6_code 60 = .ok (.getfield 47, 3) := by decide +kernel
theorem dM_concerns_63 : decode prog_6_method_6_code 63 = .ok (.ifCond .ne 40, 3) := by decide +kernel
theorem dM_concerns_66 : decode prog_6_method_6_code 66 = .ok (.aload_n 0, 1) := by decide +kernel
theorem dM_concerns_67 : decode prog_6_method_6_code 67 = .ok (.getfield 19, 3) := by decide +kernel
theorem dM_concerns_70 : decode prog_6_method_6_code 70 = .ok (.iload_n 1, 1) := by decide +kernel
theorem dM_concerns_71 : decode prog_6_method_6_code 71 = .ok (.iaload, 1) := by decide +kernel
theorem dM_concerns_72 : decode prog_6_method_6_code 72 = .ok (.ifCond .eq 23, 3) := by decide +kernel
theorem dM_concerns_75 : decode prog_6_method_6_code 75 = .ok (.aload_n 0, 1) := by decide +kernel
theorem dM_concerns_76 : decode prog_6_method_6_code 76 = .ok (.getfield 19, 3) := by decide +kernel
theorem dM_concerns_79 : decode prog_6_method_6_code 79 = .ok (.iload_n 1, 1) := by decide +kernel
theorem dM_concerns_80 : decode prog_6_method_6_code 80 = .ok (.iaload, 1) := by decide +kernel
theorem dM_concerns_81 : decode prog_6_method_6_code 81 = .ok (.iconst 2, 1) := by decide +kernel
theorem dM_concerns_82 : decode prog_6_method_6_code 82 = .ok (.if_icmp .eq 13, 3) := by decide +kernel
theorem dM_concerns_85 : decode prog_6_method_6_code 85 = .ok (.aload_n 0, 1) := by decide +kernel
theorem dM_concerns_86 : decode prog_6_method_6_code 86 = .ok (.getfield 19, 3) := by decide +kernel
theorem dM_concerns_89 : decode prog_6_method_6_code 89 = .ok (.iload_n 1, 1) := by decide +kernel
theorem dM_concerns_90 : decode prog_6_method_6_code 90 = .ok (.iaload, 1) := by decide +kernel
theorem dM_concerns_91 : decode prog_6_method_6_code 91 = .ok (.iconst 3, 1) := by decide +kernel
theorem dM_concerns_92 : decode prog_6_method_6_code 92 = .ok (.if_icmp .ne 7, 3) := by decide +kernel
theorem dM_concerns_95 : decode prog_6_method_6_code 95 = .ok (.iconst 1, 1) := by decide +kernel
theorem dM_concerns_96 : decode prog_6_method_6_code 96 = .ok (.goto 48, 3) := by decide +kernel
theorem dM_concerns_99 : decode prog_6_method_6_code 99 = .ok (.iconst 0, 1) := by decide +kernel
theorem dM_concerns_100 : decode prog_6_method_6_code 100 = .ok (.goto 44, 3) := by decide +kernel
theorem dM_concerns_103 : decode prog_6_method_6_code 103 = .ok (.aload_n 0, 1) := by decide +kernel
theorem dM_concerns_104 : decode prog_6_method_6_code 104 = .ok (.getfield 47, 3) := by decide +kernel
theorem dM_concerns_107 : decode prog_6_method_6_code 107 = .ok (.iconst 1, 1) := by decide +kernel
theorem dM_concerns_108 : decode prog_6_method_6_code 108 = .ok (.if_icmp .ne 21, 3) := by decide +kernel
theorem dM_concerns_111 : decode prog_6_method_6_code 111 = .ok (.aload_n 0, 1) := by decide +kernel
theorem dM_concerns_112 : decode prog_6_method_6_code 112 = .ok (.getfield 19, 3) := by decide +kernel
theorem dM_concerns_115 : decode prog_6_method_6_code 115 = .ok (.iload_n 1, 1) := by decide +kernel
theorem dM_concerns_116 : decode prog_6_method_6_code 116 = .ok (.iaload, 1) := by decide +kernel
theorem dM_concerns_117 : decode prog_6_method_6_code 117 = .ok (.iconst 1, 1) := by decide +kernel
theorem dM_concerns_118 : decode prog_6_method_6_code 118 = .ok (.if_icmp .ne 7, 3) := by decide +kernel
theorem dM_concerns_121 : decode prog_6_method_6_code 121 = .ok (.iconst 1, 1) := by decide +kernel
theorem dM_concerns_122 : decode prog_6_method_6_code 122 = .ok (.goto 22, 3) := by decide +kernel
theorem dM_concerns_125 : decode prog_6_method_6_code 125 = .ok (.iconst 0, 1) := by decide +kernel
theorem dM_concerns_126 : decode prog_6_method_6_code 126 = .ok (.goto 18, 3) := by decide +kernel
theorem dM_concerns_129 : decode prog_6_method_6_code 129 = .ok (.aload_n 0, 1) := by decide +kernel
theorem dM_concerns_130 : decode prog_6_method_6_code 130 = .ok (.getfield 19, 3) := by decide +kernel
theorem dM_concerns_133 : decode prog_6_method_6_code 133 = .ok (.iload_n 1, 1) := by decide +kernel
theorem dM_concerns_134 : decode prog_6_method_6_code 134 = .ok (.iaload, 1) := by decide +kernel
theorem dM_concerns_135 : decode prog_6_method_6_code 135 = .ok (.iconst 4, 1) := by decide +kernel
theorem dM_concerns_136 : decode prog_6_method_6_code 136 = .ok (.if_icmp .ne 7, 3) := by decide +kernel
theorem dM_concerns_139 : decode prog_6_method_6_code 139 = .ok (.iconst 1, 1) := by decide +kernel
theorem dM_concerns_140 : decode prog_6_method_6_code 140 = .ok (.goto 4, 3) := by decide +kernel
theorem dM_concerns_143 : decode prog_6_method_6_code 143 = .ok (.iconst 0, 1) := by decide +kernel
theorem dM_concerns_144 : decode prog_6_method_6_code 144 = .ok (.ireturn, 1) := by decide +kernel
def y_m_ownRefuses : MethodName := ⟨"FragileRulesModel", "ownRefuses", "(I)Z"⟩
theorem dM_ownRefuses_0 : decode prog_6_method_7_code 0 = .ok (.aload_n 0, 1) := by decide +kernel
theorem dM_ownRefuses_1 : decode prog_6_method_7_code 1 = .ok (.getfield 25, 3) := by decide +kernel
theorem dM_ownRefuses_4 : decode prog_6_method_7_code 4 = .ok (.iload_n 1, 1) := by decide +kernel
theorem dM_ownRefuses_5 : decode prog_6_method_7_code 5 = .ok (.iaload, 1) := by decide +kernel
theorem dM_ownRefuses_6 : decode prog_6_method_7_code 6 = .ok (.iconst 1, 1) := by decide +kernel
theorem dM_ownRefuses_7 : decode prog_6_method_7_code 7 = .ok (.if_icmp .ne 5, 3) := by decide +kernel
theorem dM_ownRefuses_10 : decode prog_6_method_7_code 10 = .ok (.iconst 1, 1) := by decide +kernel
theorem dM_ownRefuses_11 : decode prog_6_method_7_code 11 = .ok (.ireturn, 1) := by decide +kernel
theorem dM_ownRefuses_12 : decode prog_6_method_7_code 12 = .ok (.aload_n 0, 1) := by decide +kernel
theorem dM_ownRefuses_13 : decode prog_6_method_7_code 13 = .ok (.getfield 7, 3) := by decide +kernel
theorem dM_ownRefuses_16 : decode prog_6_method_7_code 16 = .ok (.aload_n 0, 1) := by decide +kernel
theorem dM_ownRefuses_17 : decode prog_6_method_7_code 17 = .ok (.getfield 50, 3) := by decide +kernel
theorem dM_ownRefuses_20 : decode prog_6_method_7_code 20 = .ok (.iaload, 1) := by decide +kernel
theorem dM_ownRefuses_21 : decode prog_6_method_7_code 21 = .ok (.aload_n 0, 1) := by decide +kernel
theorem dM_ownRefuses_22 : decode prog_6_method_7_code 22 = .ok (.getfield 7, 3) := by decide +kernel
theorem dM_ownRefuses_25 : decode prog_6_method_7_code 25 = .ok (.aload_n 0, 1) := by decide +kernel
theorem dM_ownRefuses_26 : decode prog_6_method_7_code 26 = .ok (.getfield 53, 3) := by decide +kernel
theorem dM_ownRefuses_29 : decode prog_6_method_7_code 29 = .ok (.iaload, 1) := by decide +kernel
theorem dM_ownRefuses_30 : decode prog_6_method_7_code 30 = .ok (.if_icmp .eq 7, 3) := by decide +kernel
theorem dM_ownRefuses_33 : decode prog_6_method_7_code 33 = .ok (.iconst 1, 1) := by decide +kernel
theorem dM_ownRefuses_34 : decode prog_6_method_7_code 34 = .ok (.goto 4, 3) := by decide +kernel
theorem dM_ownRefuses_37 : decode prog_6_method_7_code 37 = .ok (.iconst 0, 1) := by decide +kernel
theorem dM_ownRefuses_38 : decode prog_6_method_7_code 38 = .ok (.istore_n 2, 1) := by decide +kernel
theorem dM_ownRefuses_39 : decode prog_6_method_7_code 39 = .ok (.aload_n 0, 1) := by decide +kernel
theorem dM_ownRefuses_40 : decode prog_6_method_7_code 40 = .ok (.getfield 22, 3) := by decide +kernel
theorem dM_ownRefuses_43 : decode prog_6_method_7_code 43 = .ok (.iload_n 1, 1) := by decide +kernel
theorem dM_ownRefuses_44 : decode prog_6_method_7_code 44 = .ok (.iaload, 1) := by decide +kernel
theorem dM_ownRefuses_45 : decode prog_6_method_7_code 45 = .ok (.tableswitch 109 0 2 #[27, 47, 74], 27) := by decide +kernel
theorem dM_ownRefuses_72 : decode prog_6_method_7_code 72 = .ok (.aload_n 0, 1) := by decide +kernel
theorem dM_ownRefuses_73 : decode prog_6_method_7_code 73 = .ok (.getfield 16, 3) := by decide +kernel
theorem dM_ownRefuses_76 : decode prog_6_method_7_code 76 = .ok (.aload_n 0, 1) := by decide +kernel
theorem dM_ownRefuses_77 : decode prog_6_method_7_code 77 = .ok (.getfield 50, 3) := by decide +kernel
theorem dM_ownRefuses_80 : decode prog_6_method_7_code 80 = .ok (.iaload, 1) := by decide +kernel
theorem dM_ownRefuses_81 : decode prog_6_method_7_code 81 = .ok (.iconst 1, 1) := by decide +kernel
theorem dM_ownRefuses_82 : decode prog_6_method_7_code 82 = .ok (.iand, 1) := by decide +kernel
theorem dM_ownRefuses_83 : decode prog_6_method_7_code 83 = .ok (.ifCond .eq 7, 3) := by decide +kernel
theorem dM_ownRefuses_86 : decode prog_6_method_7_code 86 = .ok (.iconst 1, 1) := by decide +kernel
theorem dM_ownRefuses_87 : decode prog_6_method_7_code 87 = .ok (.goto 4, 3) := by decide +kernel
theorem dM_ownRefuses_90 : decode prog_6_method_7_code 90 = .ok (.iconst 0, 1) := by decide +kernel
theorem dM_ownRefuses_91 : decode prog_6_method_7_code 91 = .ok (.ireturn, 1) := by decide +kernel
theorem dM_ownRefuses_92 : decode prog_6_method_7_code 92 = .ok (.aload_n 0, 1) := by decide +kernel
theorem dM_ownRefuses_93 : decode prog_6_method_7_code 93 = .ok (.getfield 16, 3) := by decide +kernel
theorem dM_ownRefuses_96 : decode prog_6_method_7_code 96 = .ok (.aload_n 0, 1) := by decide +kernel
theorem dM_ownRefuses_97 : decode prog_6_method_7_code 97 = .ok (.getfield 53, 3) := by decide +kernel
theorem dM_ownRefuses_100 : decode prog_6_method_7_code 100 = .ok (.iaload, 1) := by decide +kernel
theorem dM_ownRefuses_101 : decode prog_6_method_7_code 101 = .ok (.iconst 2, 1) := by decide +kernel
theorem dM_ownRefuses_102 : decode prog_6_method_7_code 102 = .ok (.iand, 1) := by decide +kernel
theorem dM_ownRefuses_103 : decode prog_6_method_7_code 103 = .ok (.ifCond .eq 14, 3) := by decide +kernel
theorem dM_ownRefuses_106 : decode prog_6_method_7_code 106 = .ok (.aload_n 0, 1) := by decide +kernel
theorem dM_ownRefuses_107 : decode prog_6_method_7_code 107 = .ok (.getfield 56, 3) := by decide +kernel
theorem dM_ownRefuses_110 : decode prog_6_method_7_code 110 = .ok (.ifCond .eq 7, 3) := by decide +kernel
theorem dM_ownRefuses_113 : decode prog_6_method_7_code 113 = .ok (.iconst 1, 1) := by decide +kernel
theorem dM_ownRefuses_114 : decode prog_6_method_7_code 114 = .ok (.goto 4, 3) := by decide +kernel
theorem dM_ownRefuses_117 : decode prog_6_method_7_code 117 = .ok (.iconst 0, 1) := by decide +kernel
theorem dM_ownRefuses_118 : decode prog_6_method_7_code 118 = .ok (.ireturn, 1) := by decide +kernel
theorem dM_ownRefuses_119 : decode prog_6_method_7_code 119 = .ok (.iload_n 2, 1) := by decide +kernel
theorem dM_ownRefuses_120 : decode prog_6_method_7_code 120 = .ok (.ifCond .eq 32, 3) := by decide +kernel
theorem dM_ownRefuses_123 : decode prog_6_method_7_code 123 = .ok (.aload_n 0, 1) := by decide +kernel
theorem dM_ownRefuses_124 : decode prog_6_method_7_code 124 = .ok (.getfield 16, 3) := by decide +kernel
theorem dM_ownRefuses_127 : decode prog_6_method_7_code 127 = .ok (.aload_n 0, 1) := by decide +kernel
theorem dM_ownRefuses_128 : decode prog_6_method_7_code 128 = .ok (.getfield 50, 3) := by decide +kernel
theorem dM_ownRefuses_131 : decode prog_6_method_7_code 131 = .ok (.iaload, 1) := by decide +kernel
theorem dM_ownRefuses_132 : decode prog_6_method_7_code 132 = .ok (.aload_n 0, 1) := by decide +kernel
theorem dM_ownRefuses_133 : decode prog_6_method_7_code 133 = .ok (.getfield 16, 3) := by decide +kernel
theorem dM_ownRefuses_136 : decode prog_6_method_7_code 136 = .ok (.aload_n 0, 1) := by decide +kernel
theorem dM_ownRefuses_137 : decode prog_6_method_7_code 137 = .ok (.getfield 53, 3) := by decide +kernel
theorem dM_ownRefuses_140 : decode prog_6_method_7_code 140 = .ok (.iaload, 1) := by decide +kernel
theorem dM_ownRefuses_141 : decode prog_6_method_7_code 141 = .ok (.ior, 1) := by decide +kernel
theorem dM_ownRefuses_142 : decode prog_6_method_7_code 142 = .ok (.bipush 8, 2) := by decide +kernel
theorem dM_ownRefuses_144 : decode prog_6_method_7_code 144 = .ok (.iand, 1) := by decide +kernel
theorem dM_ownRefuses_145 : decode prog_6_method_7_code 145 = .ok (.ifCond .eq 7, 3) := by decide +kernel
theorem dM_ownRefuses_148 : decode prog_6_method_7_code 148 = .ok (.iconst 1, 1) := by decide +kernel
theorem dM_ownRefuses_149 : decode prog_6_method_7_code 149 = .ok (.goto 4, 3) := by decide +kernel
theorem dM_ownRefuses_152 : decode prog_6_method_7_code 152 = .ok (.iconst 0, 1) := by decide +kernel
theorem dM_ownRefuses_153 : decode prog_6_method_7_code 153 = .ok (.ireturn, 1) := by decide +kernel
theorem dM_ownRefuses_154 : decode prog_6_method_7_code 154 = .ok (.iload_n 2, 1) := by decide +kernel
theorem dM_ownRefuses_155 : decode prog_6_method_7_code 155 = .ok (.ifCond .eq 21, 3) := by decide +kernel
theorem dM_ownRefuses_158 : decode prog_6_method_7_code 158 = .ok (.aload_n 0, 1) := by decide +kernel
theorem dM_ownRefuses_159 : decode prog_6_method_7_code 159 = .ok (.getfield 16, 3) := by decide +kernel
theorem dM_ownRefuses_162 : decode prog_6_method_7_code 162 = .ok (.aload_n 0, 1) := by decide +kernel
theorem dM_ownRefuses_163 : decode prog_6_method_7_code 163 = .ok (.getfield 50, 3) := by decide +kernel
theorem dM_ownRefuses_166 : decode prog_6_method_7_code 166 = .ok (.iaload, 1) := by decide +kernel
theorem dM_ownRefuses_167 : decode prog_6_method_7_code 167 = .ok (.iconst 4, 1) := by decide +kernel
theorem dM_ownRefuses_168 : decode prog_6_method_7_code 168 = .ok (.iand, 1) := by decide +kernel
theorem dM_ownRefuses_169 : decode prog_6_method_7_code 169 = .ok (.ifCond .eq 7, 3) := by decide +kernel
theorem dM_ownRefuses_172 : decode prog_6_method_7_code 172 = .ok (.iconst 1, 1) := by decide +kernel
theorem dM_ownRefuses_173 : decode prog_6_method_7_code 173 = .ok (.goto 4, 3) := by decide +kernel
theorem dM_ownRefuses_176 : decode prog_6_method_7_code 176 = .ok (.iconst 0, 1) := by decide +kernel
theorem dM_ownRefuses_177 : decode prog_6_method_7_code 177 = .ok (.ireturn, 1) := by decide +kernel
def y_m_refuses : MethodName := ⟨"FragileRulesModel", "refuses", "(I)Z"⟩
theorem dM_refuses_0 : decode prog_6_method_8_code 0 = .ok (.aload_n 0, 1) := by decide +kernel
theorem dM_refuses_1 : decode prog_6_method_8_code 1 = .ok (.getfield 22, 3) := by decide +kernel
theorem dM_refuses_4 : decode prog_6_method_8_code 4 = .ok (.iload_n 1, 1) := by decide +kernel
theorem dM_refuses_5 : decode prog_6_method_8_code 5 = .ok (.iaload, 1) := by decide +kernel
theorem dM_refuses_6 : decode prog_6_method_8_code 6 = .ok (.istore_n 2, 1) := by decide +kernel
theorem dM_refuses_7 : decode prog_6_method_8_code 7 = .ok (.aload_n 0, 1) := by decide +kernel
theorem dM_refuses_8 : decode prog_6_method_8_code 8 = .ok (.getfield 25, 3) := by decide +kernel
theorem dM_refuses_11 : decode prog_6_method_8_code 11 = .ok (.iload_n 1, 1) := by decide +kernel
theorem dM_refuses_12 : decode prog_6_method_8_code 12 = .ok (.iaload, 1) := by decide +kernel
theorem dM_refuses_13 : decode prog_6_method_8_code 13 = .ok (.istore_n 3, 1) := by decide +kernel
theorem dM_refuses_14 : decode prog_6_method_8_code 14 = .ok (.aload_n 0, 1) := by decide +kernel
theorem dM_refuses_15 : decode prog_6_method_8_code 15 = .ok (.getfield 19, 3) := by decide +kernel
theorem dM_refuses_18 : decode prog_6_method_8_code 18 = .ok (.iload_n 1, 1) := by decide +kernel
theorem dM_refuses_19 : decode prog_6_method_8_code 19 = .ok (.iaload, 1) := by decide +kernel
theorem dM_refuses_20 : decode prog_6_method_8_code 20 = .ok (.tableswitch 211 0 4 #[36, 68, 126, 161, 188], 36) := by decide +kernel
theorem dM_refuses_56 : decode prog_6_method_8_code 56 = .ok (.aload_n 0, 1) := by decide +kernel
theorem dM_refuses_57 : decode prog_6_method_8_code 57 = .ok (.getfield 7, 3) := by decide +kernel
theorem dM_refuses_60 : decode prog_6_method_8_code 60 = .ok (.aload_n 0, 1) := by decide +kernel
theorem dM_refuses_61 : decode prog_6_method_8_code 61 = .ok (.getfield 53, 3) := by decide +kernel
theorem dM_refuses_64 : decode prog_6_method_8_code 64 = .ok (.iaload, 1) := by decide +kernel
theorem dM_refuses_65 : decode prog_6_method_8_code 65 = .ok (.iload_n 2, 1) := by decide +kernel
theorem dM_refuses_66 : decode prog_6_method_8_code 66 = .ok (.if_icmp .ne 20, 3) := by decide +kernel
theorem dM_refuses_69 : decode prog_6_method_8_code 69 = .ok (.aload_n 0, 1) := by decide +kernel
theorem dM_refuses_70 : decode prog_6_method_8_code 70 = .ok (.getfield 7, 3) := by decide +kernel
theorem dM_refuses_73 : decode prog_6_method_8_code 73 = .ok (.aload_n 0, 1) := by decide +kernel
theorem dM_refuses_74 : decode prog_6_method_8_code 74 = .ok (.getfield 50, 3) := by decide +kernel
theorem dM_refuses_77 : decode prog_6_method_8_code 77 = .ok (.iaload, 1) := by decide +kernel
theorem dM_refuses_78 : decode prog_6_method_8_code 78 = .ok (.iload_n 3, 1) := by decide +kernel
theorem dM_refuses_79 : decode prog_6_method_8_code 79 = .ok (.if_icmp .ne 7, 3) := by decide +kernel
theorem dM_refuses_82 : decode prog_6_method_8_code 82 = .ok (.iconst 1, 1) := by decide +kernel
theorem dM_refuses_83 : decode prog_6_method_8_code 83 = .ok (.goto 4, 3) := by decide +kernel
theorem dM_refuses_86 : decode prog_6_method_8_code 86 = .ok (.iconst 0, 1) := by decide +kernel
theorem dM_refuses_87 : decode prog_6_method_8_code 87 = .ok (.ireturn, 1) := by decide +kernel
theorem dM_refuses_88 : decode prog_6_method_8_code 88 = .ok (.aload_n 0, 1) := by decide +kernel
theorem dM_refuses_89 : decode prog_6_method_8_code 89 = .ok (.getfield 7, 3) := by decide +kernel
theorem dM_refuses_92 : decode prog_6_method_8_code 92 = .ok (.aload_n 0, 1) := by decide +kernel
theorem dM_refuses_93 : decode prog_6_method_8_code 93 = .ok (.getfield 53, 3) := by decide +kernel
theorem dM_refuses_96 : decode prog_6_method_8_code 96 = .ok (.iaload, 1) := by decide +kernel
theorem dM_refuses_97 : decode prog_6_method_8_code 97 = .ok (.iload_n 2, 1) := by decide +kernel
theorem dM_refuses_98 : decode prog_6_method_8_code 98 = .ok (.if_icmp .ne 16, 3) := by decide +kernel
theorem dM_refuses_101 : decode prog_6_method_8_code 101 = .ok (.aload_n 0, 1) := by decide +kernel
theorem dM_refuses_102 : decode prog_6_method_8_code 102 = .ok (.getfield 7, 3) := by decide +kernel
theorem dM_refuses_105 : decode prog_6_method_8_code 105 = .ok (.aload_n 0, 1) := by decide +kernel
theorem dM_refuses_106 : decode prog_6_method_8_code 106 = .ok (.getfield 50, 3) := by decide +kernel
theorem dM_refuses_109 : decode prog_6_method_8_code 109 = .ok (.iaload, 1) := by decide +kernel
theorem dM_refuses_110 : decode prog_6_method_8_code 110 = .ok (.iload_n 3, 1) := by decide +kernel
theorem dM_refuses_111 : decode prog_6_method_8_code 111 = .ok (.if_icmp .eq 29, 3) := by decide +kernel
theorem dM_refuses_114 : decode prog_6_method_8_code 114 = .ok (.aload_n 0, 1) := by decide +kernel
theorem dM_refuses_115 : decode prog_6_method_8_code 115 = .ok (.getfield 7, 3) := by decide +kernel
theorem dM_refuses_118 : decode prog_6_method_8_code 118 = .ok (.aload_n 0, 1) := by decide +kernel
theorem dM_refuses_119 : decode prog_6_method_8_code 119 = .ok (.getfield 53, 3) := by decide +kernel
theorem dM_refuses_122 : decode prog_6_method_8_code 122 = .ok (.iaload, 1) := by decide +kernel
theorem dM_refuses_123 : decode prog_6_method_8_code 123 = .ok (.iload_n 3, 1) := by decide +kernel
theorem dM_refuses_124 : decode prog_6_method_8_code 124 = .ok (.if_icmp .ne 20, 3) := by decide +kernel
theorem dM_refuses_127 : decode prog_6_method_8_code 127 = .ok (.aload_n 0, 1) := by decide +kernel
theorem dM_refuses_128 : decode prog_6_method_8_code 128 = .ok (.getfield 7, 3) := by decide +kernel
theorem dM_refuses_131 : decode prog_6_method_8_code 131 = .ok (.aload_n 0, 1) := by decide +kernel
theorem dM_refuses_132 : decode prog_6_method_8_code 132 = .ok (.getfield 50, 3) := by decide +kernel
theorem dM_refuses_135 : decode prog_6_method_8_code 135 = .ok (.iaload, 1) := by decide +kernel
theorem dM_refuses_136 : decode prog_6_method_8_code 136 = .ok (.iload_n 2, 1) := by decide +kernel
theorem dM_refuses_137 : decode prog_6_method_8_code 137 = .ok (.if_icmp .ne 7, 3) := by decide +kernel
theorem dM_refuses_140 : decode prog_6_method_8_code 140 = .ok (.iconst 1, 1) := by decide +kernel
theorem dM_refuses_141 : decode prog_6_method_8_code 141 = .ok (.goto 4, 3) := by decide +kernel
theorem dM_refuses_144 : decode prog_6_method_8_code 144 = .ok (.iconst 0, 1) := by decide +kernel
theorem dM_refuses_145 : decode prog_6_method_8_code 145 = .ok (.ireturn, 1) := by decide +kernel
theorem dM_refuses_146 : decode prog_6_method_8_code 146 = .ok (.aload_n 0, 1) := by decide +kernel
theorem dM_refuses_147 : decode prog_6_method_8_code 147 = .ok (.getfield 7, 3) := by decide +kernel
theorem dM_refuses_150 : decode prog_6_method_8_code 150 = .ok (.aload_n 0, 1) := by decide +kernel
theorem dM_refuses_151 : decode prog_6_method_8_code 151 = .ok (.getfield 50, 3) := by decide +kernel
theorem dM_refuses_154 : decode prog_6_method_8_code 154 = .ok (.iaload, 1) := by decide +kernel
theorem dM_refuses_155 : decode prog_6_method_8_code 155 = .ok (.iload_n 2, 1) := by decide +kernel
theorem dM_refuses_156 : decode prog_6_method_8_code 156 = .ok (.if_icmp .ne 23, 3) := by decide +kernel
theorem dM_refuses_159 : decode prog_6_method_8_code 159 = .ok (.aload_n 0, 1) := by decide +kernel
theorem dM_refuses_160 : decode prog_6_method_8_code 160 = .ok (.getfield 13, 3) := by decide +kernel
theorem dM_refuses_163 : decode prog_6_method_8_code 163 = .ok (.aload_n 0, 1) := by decide +kernel
theorem dM_refuses_164 : decode prog_6_method_8_code 164 = .ok (.getfield 53, 3) := by decide +kernel
theorem dM_refuses_167 : decode prog_6_method_8_code 167 = .ok (.iaload, 1) := by decide +kernel
theorem dM_refuses_168 : decode prog_6_method_8_code 168 = .ok (.bipush 10, 2) := by decide +kernel
theorem dM_refuses_170 : decode prog_6_method_8_code 170 = .ok (.iload_n 3, 1) := by decide +kernel
theorem dM_refuses_171 : decode prog_6_method_8_code 171 = .ok (.imul, 1) := by decide +kernel
theorem dM_refuses_172 : decode prog_6_method_8_code 172 = .ok (.if_icmp .le 7, 3) := by decide +kernel
theorem dM_refuses_175 : decode prog_6_method_8_code 175 = .ok (.iconst 1, 1) := by decide +kernel
theorem dM_refuses_176 : decode prog_6_method_8_code 176 = .ok (.goto 4, 3) := by decide +kernel
theorem dM_refuses_179 : decode prog_6_method_8_code 179 = .ok (.iconst 0, 1) := by decide +kernel
theorem dM_refuses_180 : decode prog_6_method_8_code 180 = .ok (.ireturn, 1) := by decide +kernel
theorem dM_refuses_181 : decode prog_6_method_8_code 181 = .ok (.aload_n 0, 1) := by decide +kernel
theorem dM_refuses_182 : decode prog_6_method_8_code 182 = .ok (.getfield 7, 3) := by decide +kernel
theorem dM_refuses_185 : decode prog_6_method_8_code 185 = .ok (.aload_n 0, 1) := by decide +kernel
theorem dM_refuses_186 : decode prog_6_method_8_code 186 = .ok (.getfield 53, 3) := by decide +kernel
theorem dM_refuses_189 : decode prog_6_method_8_code 189 = .ok (.iaload, 1) := by decide +kernel
theorem dM_refuses_190 : decode prog_6_method_8_code 190 = .ok (.iload_n 2, 1) := by decide +kernel
theorem dM_refuses_191 : decode prog_6_method_8_code 191 = .ok (.if_icmp .ne 15, 3) := by decide +kernel
theorem dM_refuses_194 : decode prog_6_method_8_code 194 = .ok (.aload_n 0, 1) := by decide +kernel
theorem dM_refuses_195 : decode prog_6_method_8_code 195 = .ok (.getfield 56, 3) := by decide +kernel
theorem dM_refuses_198 : decode prog_6_method_8_code 198 = .ok (.iload_n 3, 1) := by decide +kernel
theorem dM_refuses_199 : decode prog_6_method_8_code 199 = .ok (.if_icmp .lt 7, 3) := by decide +kernel
theorem dM_refuses_202 : decode prog_6_method_8_code 202 = .ok (.iconst 1, 1) := by decide +kernel
theorem dM_refuses_203 : decode prog_6_method_8_code 203 = .ok (.goto 4, 3) := by decide +kernel
theorem dM_refuses_206 : decode prog_6_method_8_code 206 = .ok (.iconst 0, 1) := by decide +kernel
theorem dM_refuses_207 : decode prog_6_method_8_code 207 = .ok (.ireturn, 1) := by decide +kernel
theorem dM_refuses_208 : decode prog_6_method_8_code 208 = .ok (.aload_n 0, 1) := by decide +kernel
theorem dM_refuses_209 : decode prog_6_method_8_code 209 = .ok (.getfield 59, 3) := by decide +kernel
theorem dM_refuses_212 : decode prog_6_method_8_code 212 = .ok (.iload_n 2, 1) := by decide +kernel
theorem dM_refuses_213 : decode prog_6_method_8_code 213 = .ok (.if_icmp .ne 16, 3) := by decide +kernel
theorem dM_refuses_216 : decode prog_6_method_8_code 216 = .ok (.aload_n 0, 1) := by decide +kernel
theorem dM_refuses_217 : decode prog_6_method_8_code 217 = .ok (.getfield 62, 3) := by decide +kernel
theorem dM_refuses_220 : decode prog_6_method_8_code 220 = .ok (.iload_n 3, 1) := by decide +kernel
theorem dM_refuses_221 : decode prog_6_method_8_code 221 = .ok (.iand, 1) := by decide +kernel
theorem dM_refuses_222 : decode prog_6_method_8_code 222 = .ok (.ifCond .ne 7, 3) := by decide +kernel
theorem dM_refuses_225 : decode prog_6_method_8_code 225 = .ok (.iconst 1, 1) := by decide +kernel
theorem dM_refuses_226 : decode prog_6_method_8_code 226 = .ok (.goto 4, 3) := by decide +kernel
theorem dM_refuses_229 : decode prog_6_method_8_code 229 = .ok (.iconst 0, 1) := by decide +kernel
theorem dM_refuses_230 : decode prog_6_method_8_code 230 = .ok (.ireturn, 1) := by decide +kernel
theorem dM_refuses_231 : decode prog_6_method_8_code 231 = .ok (.aload_n 0, 1) := by decide +kernel
theorem dM_refuses_232 : decode prog_6_method_8_code 232 = .ok (.iload_n 1, 1) := by decide +kernel
theorem dM_refuses_233 : decode prog_6_method_8_code 233 = .ok (.invokevirtual 65, 3) := by decide +kernel
theorem dM_refuses_236 : decode prog_6_method_8_code 236 = .ok (.ireturn, 1) := by decide +kernel
def y_m_ask : MethodName := ⟨"FragileRulesModel", "ask", "()I"⟩
theorem dM_ask_0 : decode prog_6_method_9_code 0 = .ok (.aload_n 0, 1) := by decide +kernel
theorem dM_ask_1 : decode prog_6_method_9_code 1 = .ok (.iconst 0, 1) := by decide +kernel
theorem dM_ask_2 : decode prog_6_method_9_code 2 = .ok (.putfield 69, 3) := by decide +kernel
theorem dM_ask_5 : decode prog_6_method_9_code 5 = .ok (.iconst 0, 1) := by decide +kernel
theorem dM_ask_6 : decode prog_6_method_9_code 6 = .ok (.istore_n 1, 1) := by decide +kernel
theorem dM_ask_7 : decode prog_6_method_9_code 7 = .ok (.iload_n 1, 1) := by decide +kernel
theorem dM_ask_8 : decode prog_6_method_9_code 8 = .ok (.aload_n 0, 1) := by decide +kernel
theorem dM_ask_9 : decode prog_6_method_9_code 9 = .ok (.getfield 72, 3) := by decide +kernel
theorem dM_ask_12 : decode prog_6_method_9_code 12 = .ok (.if_icmp .ge 68, 3) := by decide +kernel
theorem dM_ask_15 : decode prog_6_method_9_code 15 = .ok (.aload_n 0, 1) := by decide +kernel
theorem dM_ask_16 : decode prog_6_method_9_code 16 = .ok (.getfield 31, 3) := by decide +kernel
theorem dM_ask_19 : decode prog_6_method_9_code 19 = .ok (.iload_n 1, 1) := by decide +kernel
theorem dM_ask_20 : decode prog_6_method_9_code 20 = .ok (.iaload, 1) := by decide +kernel
theorem dM_ask_21 : decode prog_6_method_9_code 21 = .ok (.istore_n 2, 1) := by decide +kernel
theorem dM_ask_22 : decode prog_6_method_9_code 22 = .ok (.aload_n 0, 1) := by decide +kernel
theorem dM_ask_23 : decode prog_6_method_9_code 23 = .ok (.iload_n 2, 1) := by decide +kernel
theorem dM_ask_24 : decode prog_6_method_9_code 24 = .ok (.invokevirtual 75, 3) := by decide +kernel
theorem dM_ask_27 : decode prog_6_method_9_code 27 = .ok (.ifCond .eq 47, 3) := by decide +kernel
theorem dM_ask_30 : decode prog_6_method_9_code 30 = .ok (.aload_n 0, 1) := by decide +kernel
theorem dM_ask_31 : decode prog_6_method_9_code 31 = .ok (.getfield 37, 3) := by decide +kernel
theorem dM_ask_34 : decode prog_6_method_9_code 34 = .ok (.aload_n 0, 1) := by decide +kernel
theorem dM_ask_35 : decode prog_6_method_9_code 35 = .ok (.getfield 69, 3) := by decide +kernel
theorem dM_ask_38 : decode prog_6_method_9_code 38 = .ok (.iload_n 2, 1) := by decide +kernel
theorem dM_ask_39 : decode prog_6_method_9_code 39 = .ok (.iconst 1, 1) := by decide +kernel
theorem dM_ask_40 : decode prog_6_method_9_code 40 = .ok (.iadd, 1) := by decide +kernel
theorem dM_ask_41 : decode prog_6_method_9_code 41 = .ok (.iastore, 1) := by decide +kernel
theorem dM_ask_42 : decode prog_6_method_9_code 42 = .ok (.aload_n 0, 1) := by decide +kernel
theorem dM_ask_43 : decode prog_6_method_9_code 43 = .ok (.dup, 1) := by decide +kernel
theorem dM_ask_44 : decode prog_6_method_9_code 44 = .ok (.getfield 69, 3) := by decide +kernel
theorem dM_ask_47 : decode prog_6_method_9_code 47 = .ok (.iconst 1, 1) := by decide +kernel
theorem dM_ask_48 : decode prog_6_method_9_code 48 = .ok (.iadd, 1) := by decide +kernel
theorem dM_ask_49 : decode prog_6_method_9_code 49 = .ok (.putfield 69, 3) := by decide +kernel
theorem dM_ask_52 : decode prog_6_method_9_code 52 = .ok (.aload_n 0, 1) := by decide +kernel
theorem dM_ask_53 : decode prog_6_method_9_code 53 = .ok (.iload_n 2, 1) := by decide +kernel
theorem dM_ask_54 : decode prog_6_method_9_code 54 = .ok (.invokevirtual 78, 3) := by decide +kernel
theorem dM_ask_57 : decode prog_6_method_9_code 57 = .ok (.ifCond .eq 17, 3) := by decide +kernel
theorem dM_ask_60 : decode prog_6_method_9_code 60 = .ok (.aload_n 0, 1) := by decide +kernel
theorem dM_ask_61 : decode prog_6_method_9_code 61 = .ok (.getfield 28, 3) := by decide +kernel
theorem dM_ask_64 : decode prog_6_method_9_code 64 = .ok (.iload_n 2, 1) := by decide +kernel
theorem dM_ask_65 : decode prog_6_method_9_code 65 = .ok (.dup2, 1) := by decide +kernel
theorem dM_ask_66 : decode prog_6_method_9_code 66 = .ok (.iaload, 1) := by decide +kernel
theorem dM_ask_67 : decode prog_6_method_9_code 67 = .ok (.iconst 1, 1) := by decide +kernel
theorem dM_ask_68 : decode prog_6_method_9_code 68 = .ok (.iadd, 1) := by decide +kernel
theorem dM_ask_69 : decode prog_6_method_9_code 69 = .ok (.iastore, 1) := by decide +kernel
theorem dM_ask_70 : decode prog_6_method_9_code 70 = .ok (.iload_n 2, 1) := by decide +kernel
theorem dM_ask_71 : decode prog_6_method_9_code 71 = .ok (.iconst 1, 1) := by decide +kernel
theorem dM_ask_72 : decode prog_6_method_9_code 72 = .ok (.iadd, 1) := by decide +kernel
theorem dM_ask_73 : decode prog_6_method_9_code 73 = .ok (.ireturn, 1) := by decide +kernel
theorem dM_ask_74 : decode prog_6_method_9_code 74 = .ok (.iinc 1 1, 3) := by decide +kernel
theorem dM_ask_77 : decode prog_6_method_9_code 77 = .ok (.goto (-70), 3) := by decide +kernel
theorem dM_ask_80 : decode prog_6_method_9_code 80 = .ok (.iconst 0, 1) := by decide +kernel
theorem dM_ask_81 : decode prog_6_method_9_code 81 = .ok (.ireturn, 1) := by decide +kernel
def y_m_verdict : MethodName := ⟨"FragileRulesModel", "verdict", "()I"⟩
theorem dM_verdict_0 : decode prog_6_method_10_code 0 = .ok (.aload_n 0, 1) := by decide +kernel
theorem dM_verdict_1 : decode prog_6_method_10_code 1 = .ok (.invokevirtual 81, 3) := by decide +kernel
theorem dM_verdict_4 : decode prog_6_method_10_code 4 = .ok (.istore_n 1, 1) := by decide +kernel
theorem dM_verdict_5 : decode prog_6_method_10_code 5 = .ok (.aload_n 0, 1) := by decide +kernel
theorem dM_verdict_6 : decode prog_6_method_10_code 6 = .ok (.dup, 1) := by decide +kernel
theorem dM_verdict_7 : decode prog_6_method_10_code 7 = .ok (.getfield 85, 3) := by decide +kernel
theorem dM_verdict_10 : decode prog_6_method_10_code 10 = .ok (.iconst 1, 1) := by decide +kernel
theorem dM_verdict_11 : decode prog_6_method_10_code 11 = .ok (.iadd, 1) := by decide +kernel
theorem dM_verdict_12 : decode prog_6_method_10_code 12 = .ok (.putfield 85, 3) := by decide +kernel
theorem dM_verdict_15 : decode prog_6_method_10_code 15 = .ok (.iload_n 1, 1) := by decide +kernel
theorem dM_verdict_16 : decode prog_6_method_10_code 16 = .ok (.ifCond .le 13, 3) := by decide +kernel
theorem dM_verdict_19 : decode prog_6_method_10_code 19 = .ok (.aload_n 0, 1) := by decide +kernel
theorem dM_verdict_20 : decode prog_6_method_10_code 20 = .ok (.dup, 1) := by decide +kernel
theorem dM_verdict_21 : decode prog_6_method_10_code 21 = .ok (.getfield 88, 3) := by decide +kernel
theorem dM_verdict_24 : decode prog_6_method_10_code 24 = .ok (.iconst 1, 1) := by decide +kernel
theorem dM_verdict_25 : decode prog_6_method_10_code 25 = .ok (.iadd, 1) := by decide +kernel
theorem dM_verdict_26 : decode prog_6_method_10_code 26 = .ok (.putfield 88, 3) := by decide +kernel
theorem dM_verdict_29 : decode prog_6_method_10_code 29 = .ok (.iload_n 1, 1) := by decide +kernel
theorem dM_verdict_30 : decode prog_6_method_10_code 30 = .ok (.ireturn, 1) := by decide +kernel
def y_m_unit : MethodName := ⟨"FragileRulesModel", "unit", "(III)I"⟩
theorem dM_unit_0 : decode prog_6_method_11_code 0 = .ok (.iload_n 1, 1) := by decide +kernel
theorem dM_unit_1 : decode prog_6_method_11_code 1 = .ok (.iconst 0, 1) := by decide +kernel
theorem dM_unit_2 : decode prog_6_method_11_code 2 = .ok (.bipush 7, 2) := by decide +kernel
theorem dM_unit_4 : decode prog_6_method_11_code 4 = .ok (.invokestatic 91, 3) := by decide +kernel
theorem dM_unit_7 : decode prog_6_method_11_code 7 = .ok (.ifCond .eq 28, 3) := by decide +kernel
theorem dM_unit_10 : decode prog_6_method_11_code 10 = .ok (.iload_n 2, 1) := by decide +kernel
theorem dM_unit_11 : decode prog_6_method_11_code 11 = .ok (.iconst 0, 1) := by decide +kernel
theorem dM_unit_12 : decode prog_6_method_11_code 12 = .ok (.sipush 1000, 3) := by decide +kernel
theorem dM_unit_15 : decode prog_6_method_11_code 15 = .ok (.invokestatic 91, 3) := by decide +kernel
theorem dM_unit_18 : decode prog_6_method_11_code 18 = .ok (.ifCond .eq 17, 3) := by decide +kernel
theorem dM_unit_21 : decode prog_6_method_11_code 21 = .ok (.iload_n 3, 1) := by decide +kernel
theorem dM_unit_22 : decode prog_6_method_11_code 22 = .ok (.iconst 0, 1) := by decide +kernel
theorem dM_unit_23 : decode prog_6_method_11_code 23 = .ok (.bipush 31, 2) := by decide +kernel
theorem dM_unit_25 : decode prog_6_method_11_code 25 = .ok (.invokestatic 91, 3) := by decide +kernel
theorem dM_unit_28 : decode prog_6_method_11_code 28 = .ok (.ifCond .eq 7, 3) := by decide +kernel
theorem dM_unit_31 : decode prog_6_method_11_code 31 = .ok (.iconst 1, 1) := by decide +kernel
theorem dM_unit_32 : decode prog_6_method_11_code 32 = .ok (.goto 4, 3) := by decide +kernel
theorem dM_unit_35 : decode prog_6_method_11_code 35 = .ok (.iconst 0, 1) := by decide +kernel
theorem dM_unit_36 : decode prog_6_method_11_code 36 = .ok (.istore 4, 2) := by decide +kernel
theorem dM_unit_38 : decode prog_6_method_11_code 38 = .ok (.aload_n 0, 1) := by decide +kernel
theorem dM_unit_39 : decode prog_6_method_11_code 39 = .ok (.iload 4, 2) := by decide +kernel
theorem dM_unit_41 : decode prog_6_method_11_code 41 = .ok (.ifCond .ne 7, 3) := by decide +kernel
theorem dM_unit_44 : decode prog_6_method_11_code 44 = .ok (.iconst 1, 1) := by decide +kernel
theorem dM_unit_45 : decode prog_6_method_11_code 45 = .ok (.goto 17, 3) := by decide +kernel
theorem dM_unit_48 : decode prog_6_method_11_code 48 = .ok (.aload_n 0, 1) := by decide +kernel
theorem dM_unit_49 : decode prog_6_method_11_code 49 = .ok (.getfield 44, 3) := by decide +kernel
theorem dM_unit_52 : decode prog_6_method_11_code 52 = .ok (.bipush 10, 2) := by decide +kernel
theorem dM_unit_54 : decode prog_6_method_11_code 54 = .ok (.if_icmp .ne 7, 3) := by decide +kernel
theorem dM_unit_57 : decode prog_6_method_11_code 57 = .ok (.iconst 2, 1) := by decide +kernel
theorem dM_unit_58 : decode prog_6_method_11_code 58 = .ok (.goto 4, 3) := by decide +kernel
theorem dM_unit_61 : decode prog_6_method_11_code 61 = .ok (.iconst 0, 1) := by decide +kernel
theorem dM_unit_62 : decode prog_6_method_11_code 62 = .ok (.putfield 40, 3) := by decide +kernel
theorem dM_unit_65 : decode prog_6_method_11_code 65 = .ok (.aload_n 0, 1) := by decide +kernel
theorem dM_unit_66 : decode prog_6_method_11_code 66 = .ok (.getfield 40, 3) := by decide +kernel
theorem dM_unit_69 : decode prog_6_method_11_code 69 = .ok (.ifCond .eq 5, 3) := by decide +kernel
theorem dM_unit_72 : decode prog_6_method_11_code 72 = .ok (.iconst 0, 1) := by decide +kernel
theorem dM_unit_73 : decode prog_6_method_11_code 73 = .ok (.ireturn, 1) := by decide +kernel
theorem dM_unit_74 : decode prog_6_method_11_code 74 = .ok (.aload_n 0, 1) := by decide +kernel
theorem dM_unit_75 : decode prog_6_method_11_code 75 = .ok (.iconst 2, 1) := by decide +kernel
theorem dM_unit_76 : decode prog_6_method_11_code 76 = .ok (.putfield 47, 3) := by decide +kernel
theorem dM_unit_79 : decode prog_6_method_11_code 79 = .ok (.aload_n 0, 1) := by decide +kernel
theorem dM_unit_80 : decode prog_6_method_11_code 80 = .ok (.iload_n 3, 1) := by decide +kernel
theorem dM_unit_81 : decode prog_6_method_11_code 81 = .ok (.putfield 62, 3) := by decide +kernel
theorem dM_unit_84 : decode prog_6_method_11_code 84 = .ok (.iconst 0, 1) := by decide +kernel
theorem dM_unit_85 : decode prog_6_method_11_code 85 = .ok (.istore 5, 2) := by decide +kernel
theorem dM_unit_87 : decode prog_6_method_11_code 87 = .ok (.iconst 1, 1) := by decide +kernel
theorem dM_unit_88 : decode prog_6_method_11_code 88 = .ok (.istore 6, 2) := by decide +kernel
theorem dM_unit_90 : decode prog_6_method_11_code 90 = .ok (.iload 6, 2) := by decide +kernel
theorem dM_unit_92 : decode prog_6_method_11_code 92 = .ok (.bipush 16, 2) := by decide +kernel
theorem dM_unit_94 : decode prog_6_method_11_code 94 = .ok (.if_icmp .gt 36, 3) := by decide +kernel
theorem dM_unit_97 : decode prog_6_method_11_code 97 = .ok (.iload 5, 2) := by decide +kernel
theorem dM_unit_99 : decode prog_6_method_11_code 99 = .ok (.ifCond .ne 31, 3) := by decide +kernel
theorem dM_unit_102 : decode prog_6_method_11_code 102 = .ok (.aload_n 0, 1) := by decide +kernel
theorem dM_unit_103 : decode prog_6_method_11_code 103 = .ok (.iload 6, 2) := by decide +kernel
theorem dM_unit_105 : decode prog_6_method_11_code 105 = .ok (.putfield 59, 3) := by decide +kernel
theorem dM_unit_108 : decode prog_6_method_11_code 108 = .ok (.iload_n 3, 1) := by decide +kernel
theorem dM_unit_109 : decode prog_6_method_11_code 109 = .ok (.iload 6, 2) := by decide +kernel
theorem dM_unit_111 : decode prog_6_method_11_code 111 = .ok (.iand, 1) := by decide +kernel
theorem dM_unit_112 : decode prog_6_method_11_code 112 = .ok (.ifCond .eq 9, 3) := by decide +kernel
theorem dM_unit_115 : decode prog_6_method_11_code 115 = .ok (.aload_n 0, 1) := by decide +kernel
theorem dM_unit_116 : decode prog_6_method_11_code 116 = .ok (.invokevirtual 81, 3) := by decide +kernel
theorem dM_unit_119 : decode prog_6_method_11_code 119 = .ok (.istore 5, 2) := by decide +kernel
theorem dM_unit_121 : decode prog_6_method_11_code 121 = .ok (.iload 6, 2) := by decide +kernel
theorem dM_unit_123 : decode prog_6_method_11_code 123 = .ok (.iconst 2, 1) := by decide +kernel
theorem dM_unit_124 : decode prog_6_method_11_code 124 = .ok (.imul, 1) := by decide +kernel
theorem dM_unit_125 : decode prog_6_method_11_code 125 = .ok (.istore 6, 2) := by decide +kernel
theorem dM_unit_127 : decode prog_6_method_11_code 127 = .ok (.goto (-37), 3) := by decide +kernel
theorem dM_unit_130 : decode prog_6_method_11_code 130 = .ok (.aload_n 0, 1) := by decide +kernel
theorem dM_unit_131 : decode prog_6_method_11_code 131 = .ok (.iconst 0, 1) := by decide +kernel
theorem dM_unit_132 : decode prog_6_method_11_code 132 = .ok (.putfield 69, 3) := by decide +kernel
theorem dM_unit_135 : decode prog_6_method_11_code 135 = .ok (.iload 5, 2) := by decide +kernel
theorem dM_unit_137 : decode prog_6_method_11_code 137 = .ok (.ifCond .le 8, 3) := by decide +kernel
theorem dM_unit_140 : decode prog_6_method_11_code 140 = .ok (.iconst (-1), 1) := by decide +kernel
theorem dM_unit_141 : decode prog_6_method_11_code 141 = .ok (.iload 5, 2) := by decide +kernel
theorem dM_unit_143 : decode prog_6_method_11_code 143 = .ok (.isub, 1) := by decide +kernel
theorem dM_unit_144 : decode prog_6_method_11_code 144 = .ok (.ireturn, 1) := by decide +kernel
theorem dM_unit_145 : decode prog_6_method_11_code 145 = .ok (.aload_n 0, 1) := by decide +kernel
theorem dM_unit_146 : decode prog_6_method_11_code 146 = .ok (.getfield 7, 3) := by decide +kernel
theorem dM_unit_149 : decode prog_6_method_11_code 149 = .ok (.aload_n 0, 1) := by decide +kernel
theorem dM_unit_150 : decode prog_6_method_11_code 150 = .ok (.getfield 44, 3) := by decide +kernel
theorem dM_unit_153 : decode prog_6_method_11_code 153 = .ok (.iload_n 1, 1) := by decide +kernel
theorem dM_unit_154 : decode prog_6_method_11_code 154 = .ok (.iastore, 1) := by decide +kernel
theorem dM_unit_155 : decode prog_6_method_11_code 155 = .ok (.aload_n 0, 1) := by decide +kernel
theorem dM_unit_156 : decode prog_6_method_11_code 156 = .ok (.getfield 13, 3) := by decide +kernel
theorem dM_unit_159 : decode prog_6_method_11_code 159 = .ok (.aload_n 0, 1) := by decide +kernel
theorem dM_unit_160 : decode prog_6_method_11_code 160 = .ok (.getfield 44, 3) := by decide +kernel
theorem dM_unit_163 : decode prog_6_method_11_code 163 = .ok (.iload_n 2, 1) := by decide +kernel
theorem dM_unit_164 : decode prog_6_method_11_code 164 = .ok (.iastore, 1) := by decide +kernel
theorem dM_unit_165 : decode prog_6_method_11_code 165 = .ok (.aload_n 0, 1) := by decide +kernel
theorem dM_unit_166 : decode prog_6_method_11_code 166 = .ok (.getfield 16, 3) := by decide +kernel
theorem dM_unit_169 : decode prog_6_method_11_code 169 = .ok (.aload_n 0, 1) := by decide +kernel
theorem dM_unit_170 : decode prog_6_method_11_code 170 = .ok (.getfield 44, 3) := by decide +kernel
theorem dM_unit_173 : decode prog_6_method_11_code 173 = .ok (.iload_n 3, 1) := by decide +kernel
theorem dM_unit_174 : decode prog_6_method_11_code 174 = .ok (.iastore, 1) := by decide +kernel
theorem dM_unit_175 : decode prog_6_method_11_code 175 = .ok (.aload_n 0, 1) := by decide +kernel
theorem dM_unit_176 : decode prog_6_method_11_code 176 = .ok (.dup, 1) := by decide +kernel
theorem dM_unit_177 : decode prog_6_method_11_code 177 = .ok (.getfield 44, 3) := by decide +kernel
theorem dM_unit_180 : decode prog_6_method_11_code 180 = .ok (.iconst 1, 1) := by decide +kernel
theorem dM_unit_181 : decode prog_6_method_11_code 181 = .ok (.iadd, 1) := by decide +kernel
theorem dM_unit_182 : decode prog_6_method_11_code 182 = .ok (.putfield 44, 3) := by decide +kernel
theorem dM_unit_185 : decode prog_6_method_11_code 185 = .ok (.aload_n 0, 1) := by decide +kernel
theorem dM_unit_186 : decode prog_6_method_11_code 186 = .ok (.getfield 44, 3) := by decide +kernel
theorem dM_unit_189 : decode prog_6_method_11_code 189 = .ok (.iconst 1, 1) := by decide +kernel
theorem dM_unit_190 : decode prog_6_method_11_code 190 = .ok (.isub, 1) := by decide +kernel
theorem dM_unit_191 : decode prog_6_method_11_code 191 = .ok (.ireturn, 1) := by decide +kernel
def y_m_add : MethodName := ⟨"FragileRulesModel", "add", "(III)V"⟩
theorem dM_add_0 : decode prog_6_method_12_code 0 = .ok (.aload_n 0, 1) := by decide +kernel
theorem dM_add_1 : decode prog_6_method_12_code 1 = .ok (.getfield 19, 3) := by decide +kernel
theorem dM_add_4 : decode prog_6_method_12_code 4 = .ok (.aload_n 0, 1) := by decide +kernel
theorem dM_add_5 : decode prog_6_method_12_code 5 = .ok (.getfield 72, 3) := by decide +kernel
theorem dM_add_8 : decode prog_6_method_12_code 8 = .ok (.iload_n 1, 1) := by decide +kernel
theorem dM_add_9 : decode prog_6_method_12_code 9 = .ok (.iastore, 1) := by decide +kernel
theorem dM_add_10 : decode prog_6_method_12_code 10 = .ok (.aload_n 0, 1) := by decide +kernel
theorem dM_add_11 : decode prog_6_method_12_code 11 = .ok (.getfield 22, 3) := by decide +kernel
theorem dM_add_14 : decode prog_6_method_12_code 14 = .ok (.aload_n 0, 1) := by decide +kernel
theorem dM_add_15 : decode prog_6_method_12_code 15 = .ok (.getfield 72, 3) := by decide +kernel
theorem dM_add_18 : decode prog_6_method_12_code 18 = .ok (.iload_n 2, 1) := by decide +kernel
theorem dM_add_19 : decode prog_6_method_12_code 19 = .ok (.iastore, 1) := by decide +kernel
theorem dM_add_20 : decode prog_6_method_12_code 20 = .ok (.aload_n 0, 1) := by decide +kernel
theorem dM_add_21 : decode prog_6_method_12_code 21 = .ok (.getfield 25, 3) := by decide +kernel
theorem dM_add_24 : decode prog_6_method_12_code 24 = .ok (.aload_n 0, 1) := by decide +kernel
theorem dM_add_25 : decode prog_6_method_12_code 25 = .ok (.getfield 72, 3) := by decide +kernel
theorem dM_add_28 : decode prog_6_method_12_code 28 = .ok (.iload_n 3, 1) := by decide +kernel
theorem dM_add_29 : decode prog_6_method_12_code 29 = .ok (.iastore, 1) := by decide +kernel
theorem dM_add_30 : decode prog_6_method_12_code 30 = .ok (.aload_n 0, 1) := by decide +kernel
theorem dM_add_31 : decode prog_6_method_12_code 31 = .ok (.getfield 28, 3) := by decide +kernel
theorem dM_add_34 : decode prog_6_method_12_code 34 = .ok (.aload_n 0, 1) := by decide +kernel
theorem dM_add_35 : decode prog_6_method_12_code 35 = .ok (.getfield 72, 3) := by decide +kernel
theorem dM_add_38 : decode prog_6_method_12_code 38 = .ok (.iconst 0, 1) := by decide +kernel
theorem dM_add_39 : decode prog_6_method_12_code 39 = .ok (.iastore, 1) := by decide +kernel
theorem dM_add_40 : decode prog_6_method_12_code 40 = .ok (.aload_n 0, 1) := by decide +kernel
theorem dM_add_41 : decode prog_6_method_12_code 41 = .ok (.getfield 31, 3) := by decide +kernel
theorem dM_add_44 : decode prog_6_method_12_code 44 = .ok (.aload_n 0, 1) := by decide +kernel
theorem dM_add_45 : decode prog_6_method_12_code 45 = .ok (.getfield 72, 3) := by decide +kernel
theorem dM_add_48 : decode prog_6_method_12_code 48 = .ok (.aload_n 0, 1) := by decide +kernel
theorem dM_add_49 : decode prog_6_method_12_code 49 = .ok (.getfield 72, 3) := by decide +kernel
theorem dM_add_52 : decode prog_6_method_12_code 52 = .ok (.iastore, 1) := by decide +kernel
theorem dM_add_53 : decode prog_6_method_12_code 53 = .ok (.aload_n 0, 1) := by decide +kernel
theorem dM_add_54 : decode prog_6_method_12_code 54 = .ok (.dup, 1) := by decide +kernel
theorem dM_add_55 : decode prog_6_method_12_code 55 = .ok (.getfield 72, 3) := by decide +kernel
theorem dM_add_58 : decode prog_6_method_12_code 58 = .ok (.iconst 1, 1) := by decide +kernel
theorem dM_add_59 : decode prog_6_method_12_code 59 = .ok (.iadd, 1) := by decide +kernel
theorem dM_add_60 : decode prog_6_method_12_code 60 = .ok (.putfield 72, 3) := by decide +kernel
theorem dM_add_63 : decode prog_6_method_12_code 63 = .ok (.return_, 1) := by decide +kernel
def y_m_isRule : MethodName := ⟨"FragileRulesModel", "isRule", "(III)Z"⟩
theorem dM_isRule_0 : decode prog_6_method_13_code 0 = .ok (.iload_n 0, 1) := by decide +kernel
theorem dM_isRule_1 : decode prog_6_method_13_code 1 = .ok (.iconst 4, 1) := by decide +kernel
theorem dM_isRule_2 : decode prog_6_method_13_code 2 = .ok (.if_icmp .ne 28, 3) := by decide +kernel
theorem dM_isRule_5 : decode prog_6_method_13_code 5 = .ok (.iload_n 1, 1) := by decide +kernel
theorem dM_isRule_6 : decode prog_6_method_13_code 6 = .ok (.invokestatic 95, 3) := by decide +kernel
theorem dM_isRule_9 : decode prog_6_method_13_code 9 = .ok (.ifCond .eq 19, 3) := by decide +kernel
theorem dM_isRule_12 : decode prog_6_method_13_code 12 = .ok (.iload_n 2, 1) := by decide +kernel
theorem dM_isRule_13 : decode prog_6_method_13_code 13 = .ok (.invokestatic 95, 3) := by decide +kernel
theorem dM_isRule_16 : decode prog_6_method_13_code 16 = .ok (.ifCond .eq 12, 3) := by decide +kernel
theorem dM_isRule_19 : decode prog_6_method_13_code 19 = .ok (.iload_n 1, 1) := by decide +kernel
theorem dM_isRule_20 : decode prog_6_method_13_code 20 = .ok (.iload_n 2, 1) := by decide +kernel
theorem dM_isRule_21 : decode prog_6_method_13_code 21 = .ok (.if_icmp .eq 7, 3) := by decide +kernel
theorem dM_isRule_24 : decode prog_6_method_13_code 24 = .ok (.iconst 1, 1) := by decide +kernel
theorem dM_isRule_25 : decode prog_6_method_13_code 25 = .ok (.goto 4, 3) := by decide +kernel
theorem dM_isRule_28 : decode prog_6_method_13_code 28 = .ok (.iconst 0, 1) := by decide +kernel
theorem dM_isRule_29 : decode prog_6_method_13_code 29 = .ok (.ireturn, 1) := by decide +kernel
theorem dM_isRule_30 : decode prog_6_method_13_code 30 = .ok (.iload_n 0, 1) := by decide +kernel
theorem dM_isRule_31 : decode prog_6_method_13_code 31 = .ok (.iconst 2, 1) := by decide +kernel
theorem dM_isRule_32 : decode prog_6_method_13_code 32 = .ok (.if_icmp .ne 8, 3) := by decide +kernel
theorem dM_isRule_35 : decode prog_6_method_13_code 35 = .ok (.bipush 99, 2) := by decide +kernel
theorem dM_isRule_37 : decode prog_6_method_13_code 37 = .ok (.goto 15, 3) := by decide +kernel
theorem dM_isRule_40 : decode prog_6_method_13_code 40 = .ok (.iload_n 0, 1) := by decide +kernel
theorem dM_isRule_41 : decode prog_6_method_13_code 41 = .ok (.iconst 3, 1) := by decide +kernel
theorem dM_isRule_42 : decode prog_6_method_13_code 42 = .ok (.if_icmp .ne 8, 3) := by decide +kernel
theorem dM_isRule_45 : decode prog_6_method_13_code 45 = .ok (.bipush 9, 2) := by decide +kernel
theorem dM_isRule_47 : decode prog_6_method_13_code 47 = .ok (.goto 5, 3) := by decide +kernel
theorem dM_isRule_50 : decode prog_6_method_13_code 50 = .ok (.bipush 7, 2) := by decide +kernel
theorem dM_isRule_52 : decode prog_6_method_13_code 52 = .ok (.istore_n 3, 1) := by decide +kernel
theorem dM_isRule_53 : decode prog_6_method_13_code 53 = .ok (.iload_n 0, 1) := by decide +kernel
theorem dM_isRule_54 : decode prog_6_method_13_code 54 = .ok (.iconst 0, 1) := by decide +kernel
theorem dM_isRule_55 : decode prog_6_method_13_code 55 = .ok (.iconst 3, 1) := by decide +kernel
theorem dM_isRule_56 : decode prog_6_method_13_code 56 = .ok (.invokestatic 91, 3) := by decide +kernel
theorem dM_isRule_59 : decode prog_6_method_13_code 59 = .ok (.ifCond .eq 26, 3) := by decide +kernel
theorem dM_isRule_62 : decode prog_6_method_13_code 62 = .ok (.iload_n 1, 1) := by decide +kernel
theorem dM_isRule_63 : decode prog_6_method_13_code 63 = .ok (.iconst 0, 1) := by decide +kernel
theorem dM_isRule_64 : decode prog_6_method_13_code 64 = .ok (.bipush 7, 2) := by decide +kernel
theorem dM_isRule_66 : decode prog_6_method_13_code 66 = .ok (.invokestatic 91, 3) := by decide +kernel
theorem dM_isRule_69 : decode prog_6_method_13_code 69 = .ok (.ifCond .eq 16, 3) := by decide +kernel
theorem dM_isRule_72 : decode prog_6_method_13_code 72 = .ok (.iload_n 2, 1) := by decide +kernel
theorem dM_isRule_73 : decode prog_6_method_13_code 73 = .ok (.iconst 0, 1) := by decide +kernel
theorem dM_isRule_74 : decode prog_6_method_13_code 74 = .ok (.iload_n 3, 1) := by decide +kernel
theorem dM_isRule_75 : decode prog_6_method_13_code 75 = .ok (.invokestatic 91, 3) := by decide +kernel
theorem dM_isRule_78 : decode prog_6_method_13_code 78 = .ok (.ifCond .eq 7, 3) := by decide +kernel
theorem dM_isRule_81 : decode prog_6_method_13_code 81 = .ok (.iconst 1, 1) := by decide +kernel
theorem dM_isRule_82 : decode prog_6_method_13_code 82 = .ok (.goto 4, 3) := by decide +kernel
theorem dM_isRule_85 : decode prog_6_method_13_code 85 = .ok (.iconst 0, 1) := by decide +kernel
theorem dM_isRule_86 : decode prog_6_method_13_code 86 = .ok (.ireturn, 1) := by decide +kernel
def y_m_rule : MethodName := ⟨"FragileRulesModel", "rule", "(III)I"⟩
theorem dM_rule_0 : decode prog_6_method_14_code 0 = .ok (.aload_n 0, 1) := by decide +kernel
theorem dM_rule_1 : decode prog_6_method_14_code 1 = .ok (.iload_n 1, 1) := by decide +kernel
theorem dM_rule_2 : decode prog_6_method_14_code 2 = .ok (.iload_n 2, 1) := by decide +kernel
theorem dM_rule_3 : decode prog_6_method_14_code 3 = .ok (.iload_n 3, 1) := by decide +kernel
theorem dM_rule_4 : decode prog_6_method_14_code 4 = .ok (.invokestatic 98, 3) := by decide +kernel
theorem dM_rule_7 : decode prog_6_method_14_code 7 = .ok (.ifCond .ne 7, 3) := by decide +kernel
theorem dM_rule_10 : decode prog_6_method_14_code 10 = .ok (.iconst 1, 1) := by decide +kernel
theorem dM_rule_11 : decode prog_6_method_14_code 11 = .ok (.goto 17, 3) := by decide +kernel
theorem dM_rule_14 : decode prog_6_method_14_code 14 = .ok (.aload_n 0, 1) := by decide +kernel
theorem dM_rule_15 : decode prog_6_method_14_code 15 = .ok (.getfield 72, 3) := by decide +kernel
theorem dM_rule_18 : decode prog_6_method_14_code 18 = .ok (.bipush 12, 2) := by decide +kernel
theorem dM_rule_20 : decode prog_6_method_14_code 20 = .ok (.if_icmp .ne 7, 3) := by decide +kernel
theorem dM_rule_23 : decode prog_6_method_14_code 23 = .ok (.iconst 2, 1) := by decide +kernel
theorem dM_rule_24 : decode prog_6_method_14_code 24 = .ok (.goto 4, 3) := by decide +kernel
theorem dM_rule_27 : decode prog_6_method_14_code 27 = .ok (.iconst 0, 1) := by decide +kernel
theorem dM_rule_28 : decode prog_6_method_14_code 28 = .ok (.putfield 40, 3) := by decide +kernel
theorem dM_rule_31 : decode prog_6_method_14_code 31 = .ok (.aload_n 0, 1) := by decide +kernel
theorem dM_rule_32 : decode prog_6_method_14_code 32 = .ok (.getfield 40, 3) := by decide +kernel
theorem dM_rule_35 : decode prog_6_method_14_code 35 = .ok (.ifCond .eq 5, 3) := by decide +kernel
theorem dM_rule_38 : decode prog_6_method_14_code 38 = .ok (.iconst 0, 1) := by decide +kernel
theorem dM_rule_39 : decode prog_6_method_14_code 39 = .ok (.ireturn, 1) := by decide +kernel
theorem dM_rule_40 : decode prog_6_method_14_code 40 = .ok (.aload_n 0, 1) := by decide +kernel
theorem dM_rule_41 : decode prog_6_method_14_code 41 = .ok (.iload_n 1, 1) := by decide +kernel
theorem dM_rule_42 : decode prog_6_method_14_code 42 = .ok (.iload_n 2, 1) := by decide +kernel
theorem dM_rule_43 : decode prog_6_method_14_code 43 = .ok (.iload_n 3, 1) := by decide +kernel
theorem dM_rule_44 : decode prog_6_method_14_code 44 = .ok (.invokevirtual 101, 3) := by decide +kernel
theorem dM_rule_47 : decode prog_6_method_14_code 47 = .ok (.aload_n 0, 1) := by decide +kernel
theorem dM_rule_48 : decode prog_6_method_14_code 48 = .ok (.getfield 72, 3) := by decide +kernel
theorem dM_rule_51 : decode prog_6_method_14_code 51 = .ok (.ireturn, 1) := by decide +kernel
def y_m_own : MethodName := ⟨"FragileRulesModel", "own", "(IZ)I"⟩
theorem dM_own_0 : decode prog_6_method_15_code 0 = .ok (.aload_n 0, 1) := by decide +kernel
theorem dM_own_1 : decode prog_6_method_15_code 1 = .ok (.iload_n 1, 1) := by decide +kernel
theorem dM_own_2 : decode prog_6_method_15_code 2 = .ok (.iconst 0, 1) := by decide +kernel
theorem dM_own_3 : decode prog_6_method_15_code 3 = .ok (.iconst 3, 1) := by decide +kernel
theorem dM_own_4 : decode prog_6_method_15_code 4 = .ok (.invokestatic 91, 3) := by decide +kernel
theorem dM_own_7 : decode prog_6_method_15_code 7 = .ok (.ifCond .ne 7, 3) := by decide +kernel
theorem dM_own_10 : decode prog_6_method_15_code 10 = .ok (.iconst 1, 1) := by decide +kernel
theorem dM_own_11 : decode prog_6_method_15_code 11 = .ok (.goto 17, 3) := by decide +kernel
theorem dM_own_14 : decode prog_6_method_15_code 14 = .ok (.aload_n 0, 1) := by decide +kernel
theorem dM_own_15 : decode prog_6_method_15_code 15 = .ok (.getfield 72, 3) := by decide +kernel
theorem dM_own_18 : decode prog_6_method_15_code 18 = .ok (.bipush 12, 2) := by decide +kernel
theorem dM_own_20 : decode prog_6_method_15_code 20 = .ok (.if_icmp .ne 7, 3) := by decide +kernel
theorem dM_own_23 : decode prog_6_method_15_code 23 = .ok (.iconst 2, 1) := by decide +kernel
theorem dM_own_24 : decode prog_6_method_15_code 24 = .ok (.goto 4, 3) := by decide +kernel
theorem dM_own_27 : decode prog_6_method_15_code 27 = .ok (.iconst 0, 1) := by decide +kernel
theorem dM_own_28 : decode prog_6_method_15_code 28 = .ok (.putfield 40, 3) := by decide +kernel
theorem dM_own_31 : decode prog_6_method_15_code 31 = .ok (.aload_n 0, 1) := by decide +kernel
theorem dM_own_32 : decode prog_6_method_15_code 32 = .ok (.getfield 40, 3) := by decide +kernel
theorem dM_own_35 : decode prog_6_method_15_code 35 = .ok (.ifCond .eq 5, 3) := by decide +kernel
theorem dM_own_38 : decode prog_6_method_15_code 38 = .ok (.iconst 0, 1) := by decide +kernel
theorem dM_own_39 : decode prog_6_method_15_code 39 = .ok (.ireturn, 1) := by decide +kernel
theorem dM_own_40 : decode prog_6_method_15_code 40 = .ok (.aload_n 0, 1) := by decide +kernel
theorem dM_own_41 : decode prog_6_method_15_code 41 = .ok (.iconst 5, 1) := by decide +kernel
theorem dM_own_42 : decode prog_6_method_15_code 42 = .ok (.iload_n 1, 1) := by decide +kernel
theorem dM_own_43 : decode prog_6_method_15_code 43 = .ok (.iload_n 2, 1) := by decide +kernel
theorem dM_own_44 : decode prog_6_method_15_code 44 = .ok (.ifCond .eq 7, 3) := by decide +kernel
theorem dM_own_47 : decode prog_6_method_15_code 47 = .ok (.iconst 1, 1) := by decide +kernel
theorem dM_own_48 : decode prog_6_method_15_code 48 = .ok (.goto 4, 3) := by decide +kernel
theorem dM_own_51 : decode prog_6_method_15_code 51 = .ok (.iconst 0, 1) := by decide +kernel
theorem dM_own_52 : decode prog_6_method_15_code 52 = .ok (.invokevirtual 101, 3) := by decide +kernel
theorem dM_own_55 : decode prog_6_method_15_code 55 = .ok (.aload_n 0, 1) := by decide +kernel
theorem dM_own_56 : decode prog_6_method_15_code 56 = .ok (.getfield 72, 3) := by decide +kernel
theorem dM_own_59 : decode prog_6_method_15_code 59 = .ok (.ireturn, 1) := by decide +kernel
def y_m_sign : MethodName := ⟨"FragileRulesModel", "sign", "(I)V"⟩
theorem dM_sign_0 : decode prog_6_method_16_code 0 = .ok (.aload_n 0, 1) := by decide +kernel
theorem dM_sign_1 : decode prog_6_method_16_code 1 = .ok (.iload_n 1, 1) := by decide +kernel
theorem dM_sign_2 : decode prog_6_method_16_code 2 = .ok (.bipush 10, 2) := by decide +kernel
theorem dM_sign_4 : decode prog_6_method_16_code 4 = .ok (.if_icmp .eq 18, 3) := by decide +kernel
theorem dM_sign_7 : decode prog_6_method_16_code 7 = .ok (.iload_n 1, 1) := by decide +kernel
theorem dM_sign_8 : decode prog_6_method_16_code 8 = .ok (.bipush 32, 2) := by decide +kernel
theorem dM_sign_10 : decode prog_6_method_16_code 10 = .ok (.bipush 126, 2) := by decide +kernel
theorem dM_sign_12 : decode prog_6_method_16_code 12 = .ok (.invokestatic 91, 3) := by decide +kernel
theorem dM_sign_15 : decode prog_6_method_16_code 15 = .ok (.ifCond .ne 7, 3) := by decide +kernel
theorem dM_sign_18 : decode prog_6_method_16_code 18 = .ok (.iconst 1, 1) := by decide +kernel
theorem dM_sign_19 : decode prog_6_method_16_code 19 = .ok (.goto 18, 3) := by decide +kernel
theorem dM_sign_22 : decode prog_6_method_16_code 22 = .ok (.aload_n 0, 1) := by decide +kernel
theorem dM_sign_23 : decode prog_6_method_16_code 23 = .ok (.getfield 105, 3) := by decide +kernel
theorem dM_sign_26 : decode prog_6_method_16_code 26 = .ok (.sipush 200, 3) := by decide +kernel
theorem dM_sign_29 : decode prog_6_method_16_code 29 = .ok (.if_icmp .ne 7, 3) := by decide +kernel
theorem dM_sign_32 : decode prog_6_method_16_code 32 = .ok (.iconst 2, 1) := by decide +kernel
theorem dM_sign_33 : decode prog_6_method_16_code 33 = .ok (.goto 4, 3) := by decide +kernel
theorem dM_sign_36 : decode prog_6_method_16_code 36 = .ok (.iconst 0, 1) := by decide +kernel
theorem dM_sign_37 : decode prog_6_method_16_code 37 = .ok (.putfield 40, 3) := by decide +kernel
theorem dM_sign_40 : decode prog_6_method_16_code 40 = .ok (.aload_n 0, 1) := by decide +kernel
theorem dM_sign_41 : decode prog_6_method_16_code 41 = .ok (.getfield 40, 3) := by decide +kernel
theorem dM_sign_44 : decode prog_6_method_16_code 44 = .ok (.ifCond .eq 4, 3) := by decide +kernel
theorem dM_sign_47 : decode prog_6_method_16_code 47 = .ok (.return_, 1) := by decide +kernel
theorem dM_sign_48 : decode prog_6_method_16_code 48 = .ok (.aload_n 0, 1) := by decide +kernel
theorem dM_sign_49 : decode prog_6_method_16_code 49 = .ok (.getfield 34, 3) := by decide +kernel
theorem dM_sign_52 : decode prog_6_method_16_code 52 = .ok (.aload_n 0, 1) := by decide +kernel
theorem dM_sign_53 : decode prog_6_method_16_code 53 = .ok (.getfield 105, 3) := by decide +kernel
theorem dM_sign_56 : decode prog_6_method_16_code 56 = .ok (.iload_n 1, 1) := by decide +kernel
theorem dM_sign_57 : decode prog_6_method_16_code 57 = .ok (.iastore, 1) := by decide +kernel
theorem dM_sign_58 : decode prog_6_method_16_code 58 = .ok (.aload_n 0, 1) := by decide +kernel
theorem dM_sign_59 : decode prog_6_method_16_code 59 = .ok (.dup, 1) := by decide +kernel
theorem dM_sign_60 : decode prog_6_method_16_code 60 = .ok (.getfield 105, 3) := by decide +kernel
theorem dM_sign_63 : decode prog_6_method_16_code 63 = .ok (.iconst 1, 1) := by decide +kernel
theorem dM_sign_64 : decode prog_6_method_16_code 64 = .ok (.iadd, 1) := by decide +kernel
theorem dM_sign_65 : decode prog_6_method_16_code 65 = .ok (.putfield 105, 3) := by decide +kernel
theorem dM_sign_68 : decode prog_6_method_16_code 68 = .ok (.return_, 1) := by decide +kernel
def y_m_may : MethodName := ⟨"FragileRulesModel", "may", "(III)I"⟩
theorem dM_may_0 : decode prog_6_method_25_code 0 = .ok (.aload_n 0, 1) := by decide +kernel
theorem dM_may_1 : decode prog_6_method_25_code 1 = .ok (.aload_n 0, 1) := by decide +kernel
theorem dM_may_2 : decode prog_6_method_25_code 2 = .ok (.iload_n 1, 1) := by decide +kernel
theorem dM_may_3 : decode prog_6_method_25_code 3 = .ok (.invokevirtual 139, 3) := by decide +kernel
theorem dM_may_6 : decode prog_6_method_25_code 6 = .ok (.ifCond .eq 11, 3) := by decide +kernel
theorem dM_may_9 : decode prog_6_method_25_code 9 = .ok (.aload_n 0, 1) := by decide +kernel
theorem dM_may_10 : decode prog_6_method_25_code 10 = .ok (.iload_n 2, 1) := by decide +kernel
theorem dM_may_11 : decode prog_6_method_25_code 11 = .ok (.invokevirtual 139, 3) := by decide +kernel
theorem dM_may_14 : decode prog_6_method_25_code 14 = .ok (.ifCond .ne 7, 3) := by decide +kernel
theorem dM_may_17 : decode prog_6_method_25_code 17 = .ok (.iconst 1, 1) := by decide +kernel
theorem dM_may_18 : decode prog_6_method_25_code 18 = .ok (.goto 27, 3) := by decide +kernel
theorem dM_may_21 : decode prog_6_method_25_code 21 = .ok (.iload_n 3, 1) := by decide +kernel
theorem dM_may_22 : decode prog_6_method_25_code 22 = .ok (.iconst 0, 1) := by decide +kernel
theorem dM_may_23 : decode prog_6_method_25_code 23 = .ok (.bipush 9, 2) := by decide +kernel
theorem dM_may_25 : decode prog_6_method_25_code 25 = .ok (.invokestatic 91, 3) := by decide +kernel
theorem dM_may_28 : decode prog_6_method_25_code 28 = .ok (.ifCond .ne 7, 3) := by decide +kernel
theorem dM_may_31 : decode prog_6_method_25_code 31 = .ok (.iconst 2, 1) := by decide +kernel
theorem dM_may_32 : decode prog_6_method_25_code 32 = .ok (.goto 13, 3) := by decide +kernel
theorem dM_may_35 : decode prog_6_method_25_code 35 = .ok (.iload_n 1, 1) := by decide +kernel
theorem dM_may_36 : decode prog_6_method_25_code 36 = .ok (.iload_n 2, 1) := by decide +kernel
theorem dM_may_37 : decode prog_6_method_25_code 37 = .ok (.if_icmp .ne 7, 3) := by decide +kernel
theorem dM_may_40 : decode prog_6_method_25_code 40 = .ok (.iconst 3, 1) := by decide +kernel
theorem dM_may_41 : decode prog_6_method_25_code 41 = .ok (.goto 4, 3) := by decide +kernel
theorem dM_may_44 : decode prog_6_method_25_code 44 = .ok (.iconst 0, 1) := by decide +kernel
theorem dM_may_45 : decode prog_6_method_25_code 45 = .ok (.putfield 40, 3) := by decide +kernel
theorem dM_may_48 : decode prog_6_method_25_code 48 = .ok (.aload_n 0, 1) := by decide +kernel
theorem dM_may_49 : decode prog_6_method_25_code 49 = .ok (.getfield 40, 3) := by decide +kernel
theorem dM_may_52 : decode prog_6_method_25_code 52 = .ok (.ifCond .eq 5, 3) := by decide +kernel
theorem dM_may_55 : decode prog_6_method_25_code 55 = .ok (.iconst 0, 1) := by decide +kernel
theorem dM_may_56 : decode prog_6_method_25_code 56 = .ok (.ireturn, 1) := by decide +kernel
theorem dM_may_57 : decode prog_6_method_25_code 57 = .ok (.aload_n 0, 1) := by decide +kernel
theorem dM_may_58 : decode prog_6_method_25_code 58 = .ok (.iconst 0, 1) := by decide +kernel
theorem dM_may_59 : decode prog_6_method_25_code 59 = .ok (.putfield 47, 3) := by decide +kernel
theorem dM_may_62 : decode prog_6_method_25_code 62 = .ok (.aload_n 0, 1) := by decide +kernel
theorem dM_may_63 : decode prog_6_method_25_code 63 = .ok (.iload_n 1, 1) := by decide +kernel
theorem dM_may_64 : decode prog_6_method_25_code 64 = .ok (.putfield 50, 3) := by decide +kernel
theorem dM_may_67 : decode prog_6_method_25_code 67 = .ok (.aload_n 0, 1) := by decide +kernel
theorem dM_may_68 : decode prog_6_method_25_code 68 = .ok (.iload_n 2, 1) := by decide +kernel
theorem dM_may_69 : decode prog_6_method_25_code 69 = .ok (.putfield 53, 3) := by decide +kernel
theorem dM_may_72 : decode prog_6_method_25_code 72 = .ok (.aload_n 0, 1) := by decide +kernel
theorem dM_may_73 : decode prog_6_method_25_code 73 = .ok (.iload_n 3, 1) := by decide +kernel
theorem dM_may_74 : decode prog_6_method_25_code 74 = .ok (.putfield 56, 3) := by decide +kernel
theorem dM_may_77 : decode prog_6_method_25_code 77 = .ok (.aload_n 0, 1) := by decide +kernel
theorem dM_may_78 : decode prog_6_method_25_code 78 = .ok (.invokevirtual 142, 3) := by decide +kernel
theorem dM_may_81 : decode prog_6_method_25_code 81 = .ok (.ireturn, 1) := by decide +kernel
def y_m_together : MethodName := ⟨"FragileRulesModel", "together", "(II)I"⟩
theorem dM_together_0 : decode prog_6_method_26_code 0 = .ok (.aload_n 0, 1) := by decide +kernel
theorem dM_together_1 : decode prog_6_method_26_code 1 = .ok (.aload_n 0, 1) := by decide +kernel
theorem dM_together_2 : decode prog_6_method_26_code 2 = .ok (.iload_n 1, 1) := by decide +kernel
theorem dM_together_3 : decode prog_6_method_26_code 3 = .ok (.invokevirtual 139, 3) := by decide +kernel
theorem dM_together_6 : decode prog_6_method_26_code 6 = .ok (.ifCond .eq 11, 3) := by decide +kernel
theorem dM_together_9 : decode prog_6_method_26_code 9 = .ok (.aload_n 0, 1) := by decide +kernel
theorem dM_together_10 : decode prog_6_method_26_code 10 = .ok (.iload_n 2, 1) := by decide +kernel
theorem dM_together_11 : decode prog_6_method_26_code 11 = .ok (.invokevirtual 139, 3) := by decide +kernel
theorem dM_together_14 : decode prog_6_method_26_code 14 = .ok (.ifCond .ne 7, 3) := by decide +kernel
theorem dM_together_17 : decode prog_6_method_26_code 17 = .ok (.iconst 1, 1) := by decide +kernel
theorem dM_together_18 : decode prog_6_method_26_code 18 = .ok (.goto 13, 3) := by decide +kernel
theorem dM_together_21 : decode prog_6_method_26_code 21 = .ok (.iload_n 1, 1) := by decide +kernel
theorem dM_together_22 : decode prog_6_method_26_code 22 = .ok (.iload_n 2, 1) := by decide +kernel
theorem dM_together_23 : decode prog_6_method_26_code 23 = .ok (.if_icmp .ne 7, 3) := by decide +kernel
theorem dM_together_26 : decode prog_6_method_26_code 26 = .ok (.iconst 2, 1) := by decide +kernel
theorem dM_together_27 : decode prog_6_method_26_code 27 = .ok (.goto 4, 3) := by decide +kernel
theorem dM_together_30 : decode prog_6_method_26_code 30 = .ok (.iconst 0, 1) := by decide +kernel
theorem dM_together_31 : decode prog_6_method_26_code 31 = .ok (.putfield 40, 3) := by decide +kernel
theorem dM_together_34 : decode prog_6_method_26_code 34 = .ok (.aload_n 0, 1) := by decide +kernel
theorem dM_together_35 : decode prog_6_method_26_code 35 = .ok (.getfield 40, 3) := by decide +kernel
theorem dM_together_38 : decode prog_6_method_26_code 38 = .ok (.ifCond .eq 5, 3) := by decide +kernel
theorem dM_together_41 : decode prog_6_method_26_code 41 = .ok (.iconst 0, 1) := by decide +kernel
theorem dM_together_42 : decode prog_6_method_26_code 42 = .ok (.ireturn, 1) := by decide +kernel
theorem dM_together_43 : decode prog_6_method_26_code 43 = .ok (.aload_n 0, 1) := by decide +kernel
theorem dM_together_44 : decode prog_6_method_26_code 44 = .ok (.iconst 1, 1) := by decide +kernel
theorem dM_together_45 : decode prog_6_method_26_code 45 = .ok (.putfield 47, 3) := by decide +kernel
theorem dM_together_48 : decode prog_6_method_26_code 48 = .ok (.aload_n 0, 1) := by decide +kernel
theorem dM_together_49 : decode prog_6_method_26_code 49 = .ok (.iload_n 1, 1) := by decide +kernel
theorem dM_together_50 : decode prog_6_method_26_code 50 = .ok (.putfield 50, 3) := by decide +kernel
theorem dM_together_53 : decode prog_6_method_26_code 53 = .ok (.aload_n 0, 1) := by decide +kernel
theorem dM_together_54 : decode prog_6_method_26_code 54 = .ok (.iload_n 2, 1) := by decide +kernel
theorem dM_together_55 : decode prog_6_method_26_code 55 = .ok (.putfield 53, 3) := by decide +kernel
theorem dM_together_58 : decode prog_6_method_26_code 58 = .ok (.aload_n 0, 1) := by decide +kernel
theorem dM_together_59 : decode prog_6_method_26_code 59 = .ok (.invokevirtual 142, 3) := by decide +kernel
theorem dM_together_62 : decode prog_6_method_26_code 62 = .ok (.ireturn, 1) := by decide +kernel
def y_m_mark : MethodName := ⟨"FragileRulesModel", "mark", "(II)I"⟩
theorem dM_mark_0 : decode prog_6_method_27_code 0 = .ok (.aload_n 0, 1) := by decide +kernel
theorem dM_mark_1 : decode prog_6_method_27_code 1 = .ok (.aload_n 0, 1) := by decide +kernel
theorem dM_mark_2 : decode prog_6_method_27_code 2 = .ok (.iload_n 1, 1) := by decide +kernel
theorem dM_mark_3 : decode prog_6_method_27_code 3 = .ok (.invokevirtual 139, 3) := by decide +kernel
theorem dM_mark_6 : decode prog_6_method_27_code 6 = .ok (.ifCond .ne 7, 3) := by decide +kernel
theorem dM_mark_9 : decode prog_6_method_27_code 9 = .ok (.iconst 1, 1) := by decide +kernel
theorem dM_mark_10 : decode prog_6_method_27_code 10 = .ok (.goto 30, 3) := by decide +kernel
theorem dM_mark_13 : decode prog_6_method_27_code 13 = .ok (.iload_n 2, 1) := by decide +kernel
theorem dM_mark_14 : decode prog_6_method_27_code 14 = .ok (.invokestatic 95, 3) := by decide +kernel
theorem dM_mark_17 : decode prog_6_method_27_code 17 = .ok (.ifCond .ne 7, 3) := by decide +kernel
theorem dM_mark_20 : decode prog_6_method_27_code 20 = .ok (.iconst 2, 1) := by decide +kernel
theorem dM_mark_21 : decode prog_6_method_27_code 21 = .ok (.goto 19, 3) := by decide +kernel
theorem dM_mark_24 : decode prog_6_method_27_code 24 = .ok (.aload_n 0, 1) := by decide +kernel
theorem dM_mark_25 : decode prog_6_method_27_code 25 = .ok (.getfield 16, 3) := by decide +kernel
theorem dM_mark_28 : decode prog_6_method_27_code 28 = .ok (.iload_n 1, 1) := by decide +kernel
theorem dM_mark_29 : decode prog_6_method_27_code 29 = .ok (.iaload, 1) := by decide +kernel
theorem dM_mark_30 : decode prog_6_method_27_code 30 = .ok (.iload_n 2, 1) := by decide +kernel
theorem dM_mark_31 : decode prog_6_method_27_code 31 = .ok (.iand, 1) := by decide +kernel
theorem dM_mark_32 : decode prog_6_method_27_code 32 = .ok (.ifCond .eq 7, 3) := by decide +kernel
theorem dM_mark_35 : decode prog_6_method_27_code 35 = .ok (.iconst 3, 1) := by decide +kernel
theorem dM_mark_36 : decode prog_6_method_27_code 36 = .ok (.goto 4, 3) := by decide +kernel
theorem dM_mark_39 : decode prog_6_method_27_code 39 = .ok (.iconst 0, 1) := by decide +kernel
theorem dM_mark_40 : decode prog_6_method_27_code 40 = .ok (.putfield 40, 3) := by decide +kernel
theorem dM_mark_43 : decode prog_6_method_27_code 43 = .ok (.aload_n 0, 1) := by decide +kernel
theorem dM_mark_44 : decode prog_6_method_27_code 44 = .ok (.getfield 40, 3) := by decide +kernel
theorem dM_mark_47 : decode prog_6_method_27_code 47 = .ok (.ifCond .eq 5, 3) := by decide +kernel
theorem dM_mark_50 : decode prog_6_method_27_code 50 = .ok (.iconst 0, 1) := by decide +kernel
theorem dM_mark_51 : decode prog_6_method_27_code 51 = .ok (.ireturn, 1) := by decide +kernel
theorem dM_mark_52 : decode prog_6_method_27_code 52 = .ok (.aload_n 0, 1) := by decide +kernel
theorem dM_mark_53 : decode prog_6_method_27_code 53 = .ok (.iconst 2, 1) := by decide +kernel
theorem dM_mark_54 : decode prog_6_method_27_code 54 = .ok (.putfield 47, 3) := by decide +kernel
theorem dM_mark_57 : decode prog_6_method_27_code 57 = .ok (.aload_n 0, 1) := by decide +kernel
theorem dM_mark_58 : decode prog_6_method_27_code 58 = .ok (.iload_n 2, 1) := by decide +kernel
theorem dM_mark_59 : decode prog_6_method_27_code 59 = .ok (.putfield 59, 3) := by decide +kernel
theorem dM_mark_62 : decode prog_6_method_27_code 62 = .ok (.aload_n 0, 1) := by decide +kernel
theorem dM_mark_63 : decode prog_6_method_27_code 63 = .ok (.aload_n 0, 1) := by decide +kernel
theorem dM_mark_64 : decode prog_6_method_27_code 64 = .ok (.getfield 16, 3) := by decide +kernel
theorem dM_mark_67 : decode prog_6_method_27_code 67 = .ok (.iload_n 1, 1) := by decide +kernel
theorem dM_mark_68 : decode prog_6_method_27_code 68 = .ok (.iaload, 1) := by decide +kernel
theorem dM_mark_69 : decode prog_6_method_27_code 69 = .ok (.putfield 62, 3) := by decide +kernel
theorem dM_mark_72 : decode prog_6_method_27_code 72 = .ok (.aload_n 0, 1) := by decide +kernel
theorem dM_mark_73 : decode prog_6_method_27_code 73 = .ok (.invokevirtual 142, 3) := by decide +kernel
theorem dM_mark_76 : decode prog_6_method_27_code 76 = .ok (.istore_n 3, 1) := by decide +kernel
theorem dM_mark_77 : decode prog_6_method_27_code 77 = .ok (.iload_n 3, 1) := by decide +kernel
theorem dM_mark_78 : decode prog_6_method_27_code 78 = .ok (.ifCond .ne 13, 3) := by decide +kernel
theorem dM_mark_81 : decode prog_6_method_27_code 81 = .ok (.aload_n 0, 1) := by decide +kernel
theorem dM_mark_82 : decode prog_6_method_27_code 82 = .ok (.getfield 16, 3) := by decide +kernel
theorem dM_mark_85 : decode prog_6_method_27_code 85 = .ok (.iload_n 1, 1) := by decide +kernel
theorem dM_mark_86 : decode prog_6_method_27_code 86 = .ok (.dup2, 1) := by decide +kernel
theorem dM_mark_87 : decode prog_6_method_27_code 87 = .ok (.iaload, 1) := by decide +kernel
theorem dM_mark_88 : decode prog_6_method_27_code 88 = .ok (.iload_n 2, 1) := by decide +kernel
theorem dM_mark_89 : decode prog_6_method_27_code 89 = .ok (.ior, 1) := by decide +kernel
theorem dM_mark_90 : decode prog_6_method_27_code 90 = .ok (.iastore, 1) := by decide +kernel
theorem dM_mark_91 : decode prog_6_method_27_code 91 = .ok (.iload_n 3, 1) := by decide +kernel
theorem dM_mark_92 : decode prog_6_method_27_code 92 = .ok (.ireturn, 1) := by decide +kernel
def y_m_asked : MethodName := ⟨"FragileRulesModel", "asked", "(I)I"⟩
theorem dM_asked_0 : decode prog_6_method_28_code 0 = .ok (.aload_n 0, 1) := by decide +kernel
theorem dM_asked_1 : decode prog_6_method_28_code 1 = .ok (.iconst 0, 1) := by decide +kernel
theorem dM_asked_2 : decode prog_6_method_28_code 2 = .ok (.putfield 40, 3) := by decide +kernel
theorem dM_asked_5 : decode prog_6_method_28_code 5 = .ok (.iload_n 1, 1) := by decide +kernel
theorem dM_asked_6 : decode prog_6_method_28_code 6 = .ok (.ifCond .lt 11, 3) := by decide +kernel
theorem dM_asked_9 : decode prog_6_method_28_code 9 = .ok (.iload_n 1, 1) := by decide +kernel
theorem dM_asked_10 : decode prog_6_method_28_code 10 = .ok (.aload_n 0, 1) := by decide +kernel
theorem dM_asked_11 : decode prog_6_method_28_code 11 = .ok (.getfield 69, 3) := by decide +kernel
theorem dM_asked_14 : decode prog_6_method_28_code 14 = .ok (.if_icmp .lt 7, 3) := by decide +kernel
theorem dM_asked_17 : decode prog_6_method_28_code 17 = .ok (.iconst (-1), 1) := by decide +kernel
theorem dM_asked_18 : decode prog_6_method_28_code 18 = .ok (.goto 9, 3) := by decide +kernel
theorem dM_asked_21 : decode prog_6_method_28_code 21 = .ok (.aload_n 0, 1) := by decide +kernel
theorem dM_asked_22 : decode prog_6_method_28_code 22 = .ok (.getfield 37, 3) := by decide +kernel
theorem dM_asked_25 : decode prog_6_method_28_code 25 = .ok (.iload_n 1, 1) := by decide +kernel
theorem dM_asked_26 : decode prog_6_method_28_code 26 = .ok (.iaload, 1) := by decide +kernel
theorem dM_asked_27 : decode prog_6_method_28_code 27 = .ok (.ireturn, 1) := by decide +kernel
def y_m_never : MethodName := ⟨"FragileRulesModel", "never", "(I)I"⟩
theorem dM_never_0 : decode prog_6_method_29_code 0 = .ok (.aload_n 0, 1) := by decide +kernel
theorem dM_never_1 : decode prog_6_method_29_code 1 = .ok (.iload_n 1, 1) := by decide +kernel
theorem dM_never_2 : decode prog_6_method_29_code 2 = .ok (.ifCond .ge 7, 3) := by decide +kernel
theorem dM_never_5 : decode prog_6_method_29_code 5 = .ok (.iconst 1, 1) := by decide +kernel
theorem dM_never_6 : decode prog_6_method_29_code 6 = .ok (.goto 4, 3) := by decide +kernel
theorem dM_never_9 : decode prog_6_method_29_code 9 = .ok (.iconst 0, 1) := by decide +kernel
theorem dM_never_10 : decode prog_6_method_29_code 10 = .ok (.putfield 40, 3) := by decide +kernel
theorem dM_never_13 : decode prog_6_method_29_code 13 = .ok (.aload_n 0, 1) := by decide +kernel
theorem dM_never_14 : decode prog_6_method_29_code 14 = .ok (.getfield 40, 3) := by decide +kernel
theorem dM_never_17 : decode prog_6_method_29_code 17 = .ok (.ifCond .eq 5, 3) := by decide +kernel
theorem dM_never_20 : decode prog_6_method_29_code 20 = .ok (.iconst 0, 1) := by decide +kernel
theorem dM_never_21 : decode prog_6_method_29_code 21 = .ok (.ireturn, 1) := by decide +kernel
theorem dM_never_22 : decode prog_6_method_29_code 22 = .ok (.iconst 0, 1) := by decide +kernel
theorem dM_never_23 : decode prog_6_method_29_code 23 = .ok (.istore_n 2, 1) := by decide +kernel
theorem dM_never_24 : decode prog_6_method_29_code 24 = .ok (.iconst 0, 1) := by decide +kernel
theorem dM_never_25 : decode prog_6_method_29_code 25 = .ok (.istore_n 3, 1) := by decide +kernel
theorem dM_never_26 : decode prog_6_method_29_code 26 = .ok (.iload_n 3, 1) := by decide +kernel
theorem dM_never_27 : decode prog_6_method_29_code 27 = .ok (.aload_n 0, 1) := by decide +kernel
theorem dM_never_28 : decode prog_6_method_29_code 28 = .ok (.getfield 72, 3) := by decide +kernel
theorem dM_never_31 : decode prog_6_method_29_code 31 = .ok (.if_icmp .ge 30, 3) := by decide +kernel
theorem dM_never_34 : decode prog_6_method_29_code 34 = .ok (.aload_n 0, 1) := by decide +kernel
theorem dM_never_35 : decode prog_6_method_29_code 35 = .ok (.getfield 28, 3) := by decide +kernel
theorem dM_never_38 : decode prog_6_method_29_code 38 = .ok (.iload_n 3, 1) := by decide +kernel
theorem dM_never_39 : decode prog_6_method_29_code 39 = .ok (.iaload, 1) := by decide +kernel
theorem dM_never_40 : decode prog_6_method_29_code 40 = .ok (.ifCond .ne 15, 3) := by decide +kernel
theorem dM_never_43 : decode prog_6_method_29_code 43 = .ok (.iload_n 2, 1) := by decide +kernel
theorem dM_never_44 : decode prog_6_method_29_code 44 = .ok (.iload_n 1, 1) := by decide +kernel
theorem dM_never_45 : decode prog_6_method_29_code 45 = .ok (.if_icmp .ne 7, 3) := by decide +kernel
theorem dM_never_48 : decode prog_6_method_29_code 48 = .ok (.iload_n 3, 1) := by decide +kernel
theorem dM_never_49 : decode prog_6_method_29_code 49 = .ok (.iconst 1, 1) := by decide +kernel
theorem dM_never_50 : decode prog_6_method_29_code 50 = .ok (.iadd, 1) := by decide +kernel
theorem dM_never_51 : decode prog_6_method_29_code 51 = .ok (.ireturn, 1) := by decide +kernel
theorem dM_never_52 : decode prog_6_method_29_code 52 = .ok (.iinc 2 1, 3) := by decide +kernel
theorem dM_never_55 : decode prog_6_method_29_code 55 = .ok (.iinc 3 1, 3) := by decide +kernel
theorem dM_never_58 : decode prog_6_method_29_code 58 = .ok (.goto (-32), 3) := by decide +kernel
theorem dM_never_61 : decode prog_6_method_29_code 61 = .ok (.iconst (-1), 1) := by decide +kernel
theorem dM_never_62 : decode prog_6_method_29_code 62 = .ok (.ireturn, 1) := by decide +kernel
def y_m_placeOf : MethodName := ⟨"FragileRulesModel", "placeOf", "(I)I"⟩
theorem dM_placeOf_0 : decode prog_6_method_30_code 0 = .ok (.iconst 0, 1) := by decide +kernel
theorem dM_placeOf_1 : decode prog_6_method_30_code 1 = .ok (.istore_n 2, 1) := by decide +kernel
theorem dM_placeOf_2 : decode prog_6_method_30_code 2 = .ok (.aload_n 0, 1) := by decide +kernel
theorem dM_placeOf_3 : decode prog_6_method_30_code 3 = .ok (.getfield 31, 3) := by decide +kernel
theorem dM_placeOf_6 : decode prog_6_method_30_code 6 = .ok (.iload_n 2, 1) := by decide +kernel
theorem dM_placeOf_7 : decode prog_6_method_30_code 7 = .ok (.iaload, 1) := by decide +kernel
theorem dM_placeOf_8 : decode prog_6_method_30_code 8 = .ok (.iload_n 1, 1) := by decide +kernel
theorem dM_placeOf_9 : decode prog_6_method_30_code 9 = .ok (.if_icmp .eq 9, 3) := by decide +kernel
theorem dM_placeOf_12 : decode prog_6_method_30_code 12 = .ok (.iinc 2 1, 3) := by decide +kernel
theorem dM_placeOf_15 : decode prog_6_method_30_code 15 = .ok (.goto (-13), 3) := by decide +kernel
theorem dM_placeOf_18 : decode prog_6_method_30_code 18 = .ok (.iload_n 2, 1) := by decide +kernel
theorem dM_placeOf_19 : decode prog_6_method_30_code 19 = .ok (.ireturn, 1) := by decide +kernel
def y_m_isNumber : MethodName := ⟨"FragileRulesModel", "isNumber", "(I)Z"⟩
theorem dM_isNumber_0 : decode prog_6_method_31_code 0 = .ok (.iload_n 1, 1) := by decide +kernel
theorem dM_isNumber_1 : decode prog_6_method_31_code 1 = .ok (.iconst 1, 1) := by decide +kernel
theorem dM_isNumber_2 : decode prog_6_method_31_code 2 = .ok (.if_icmp .lt 15, 3) := by decide +kernel
theorem dM_isNumber_5 : decode prog_6_method_31_code 5 = .ok (.iload_n 1, 1) := by decide +kernel
theorem dM_isNumber_6 : decode prog_6_method_31_code 6 = .ok (.aload_n 0, 1) := by decide +kernel
theorem dM_isNumber_7 : decode prog_6_method_31_code 7 = .ok (.getfield 72, 3) := by decide +kernel
theorem dM_isNumber_10 : decode prog_6_method_31_code 10 = .ok (.if_icmp .gt 7, 3) := by decide +kernel
theorem dM_isNumber_13 : decode prog_6_method_31_code 13 = .ok (.iconst 1, 1) := by decide +kernel
theorem dM_isNumber_14 : decode prog_6_method_31_code 14 = .ok (.goto 4, 3) := by decide +kernel
theorem dM_isNumber_17 : decode prog_6_method_31_code 17 = .ok (.iconst 0, 1) := by decide +kernel
theorem dM_isNumber_18 : decode prog_6_method_31_code 18 = .ok (.ireturn, 1) := by decide +kernel
def y_m_told : MethodName := ⟨"FragileRulesModel", "told", "(II)I"⟩
theorem dM_told_0 : decode prog_6_method_33_code 0 = .ok (.aload_n 0, 1) := by decide +kernel
theorem dM_told_1 : decode prog_6_method_33_code 1 = .ok (.aload_n 0, 1) := by decide +kernel
theorem dM_told_2 : decode prog_6_method_33_code 2 = .ok (.iload_n 1, 1) := by decide +kernel
theorem dM_told_3 : decode prog_6_method_33_code 3 = .ok (.invokevirtual 145, 3) := by decide +kernel
theorem dM_told_6 : decode prog_6_method_33_code 6 = .ok (.ifCond .ne 7, 3) := by decide +kernel
theorem dM_told_9 : decode prog_6_method_33_code 9 = .ok (.iconst 1, 1) := by decide +kernel
theorem dM_told_10 : decode prog_6_method_33_code 10 = .ok (.goto 17, 3) := by decide +kernel
theorem dM_told_13 : decode prog_6_method_33_code 13 = .ok (.iload_n 2, 1) := by decide +kernel
theorem dM_told_14 : decode prog_6_method_33_code 14 = .ok (.iconst 0, 1) := by decide +kernel
theorem dM_told_15 : decode prog_6_method_33_code 15 = .ok (.iconst 4, 1) := by decide +kernel
theorem dM_told_16 : decode prog_6_method_33_code 16 = .ok (.invokestatic 91, 3) := by decide +kernel
theorem dM_told_19 : decode prog_6_method_33_code 19 = .ok (.ifCond .ne 7, 3) := by decide +kernel
theorem dM_told_22 : decode prog_6_method_33_code 22 = .ok (.iconst 2, 1) := by decide +kernel
theorem dM_told_23 : decode prog_6_method_33_code 23 = .ok (.goto 4, 3) := by decide +kernel
theorem dM_told_26 : decode prog_6_method_33_code 26 = .ok (.iconst 0, 1) := by decide +kernel
theorem dM_told_27 : decode prog_6_method_33_code 27 = .ok (.putfield 40, 3) := by decide +kernel
theorem dM_told_30 : decode prog_6_method_33_code 30 = .ok (.aload_n 0, 1) := by decide +kernel
theorem dM_told_31 : decode prog_6_method_33_code 31 = .ok (.getfield 40, 3) := by decide +kernel
theorem dM_told_34 : decode prog_6_method_33_code 34 = .ok (.ifCond .eq 5, 3) := by decide +kernel
theorem dM_told_37 : decode prog_6_method_33_code 37 = .ok (.iconst 0, 1) := by decide +kernel
theorem dM_told_38 : decode prog_6_method_33_code 38 = .ok (.ireturn, 1) := by decide +kernel
theorem dM_told_39 : decode prog_6_method_33_code 39 = .ok (.iload_n 2, 1) := by decide +kernel
theorem dM_told_40 : decode prog_6_method_33_code 40 = .ok (.tableswitch 67 0 3 #[32, 41, 50, 59], 32) := by decide +kernel
theorem dM_told_72 : decode prog_6_method_33_code 72 = .ok (.aload_n 0, 1) := by decide +kernel
theorem dM_told_73 : decode prog_6_method_33_code 73 = .ok (.getfield 19, 3) := by decide +kernel
theorem dM_told_76 : decode prog_6_method_33_code 76 = .ok (.iload_n 1, 1) := by decide +kernel
theorem dM_told_77 : decode prog_6_method_33_code 77 = .ok (.iconst 1, 1) := by decide +kernel
theorem dM_told_78 : decode prog_6_method_33_code 78 = .ok (.isub, 1) := by decide +kernel
theorem dM_told_79 : decode prog_6_method_33_code 79 = .ok (.iaload, 1) := by decide +kernel
theorem dM_told_80 : decode prog_6_method_33_code 80 = .ok (.ireturn, 1) := by decide +kernel
theorem dM_told_81 : decode prog_6_method_33_code 81 = .ok (.aload_n 0, 1) := by decide +kernel
theorem dM_told_82 : decode prog_6_method_33_code 82 = .ok (.getfield 22, 3) := by decide +kernel
theorem dM_told_85 : decode prog_6_method_33_code 85 = .ok (.iload_n 1, 1) := by decide +kernel
theorem dM_told_86 : decode prog_6_method_33_code 86 = .ok (.iconst 1, 1) := by decide +kernel
theorem dM_told_87 : decode prog_6_method_33_code 87 = .ok (.isub, 1) := by decide +kernel
theorem dM_told_88 : decode prog_6_method_33_code 88 = .ok (.iaload, 1) := by decide +kernel
theorem dM_told_89 : decode prog_6_method_33_code 89 = .ok (.ireturn, 1) := by decide +kernel
theorem dM_told_90 : decode prog_6_method_33_code 90 = .ok (.aload_n 0, 1) := by decide +kernel
theorem dM_told_91 : decode prog_6_method_33_code 91 = .ok (.getfield 25, 3) := by decide +kernel
theorem dM_told_94 : decode prog_6_method_33_code 94 = .ok (.iload_n 1, 1) := by decide +kernel
theorem dM_told_95 : decode prog_6_method_33_code 95 = .ok (.iconst 1, 1) := by decide +kernel
theorem dM_told_96 : decode prog_6_method_33_code 96 = .ok (.isub, 1) := by decide +kernel
theorem dM_told_97 : decode prog_6_method_33_code 97 = .ok (.iaload, 1) := by decide +kernel
theorem dM_told_98 : decode prog_6_method_33_code 98 = .ok (.ireturn, 1) := by decide +kernel
theorem dM_told_99 : decode prog_6_method_33_code 99 = .ok (.aload_n 0, 1) := by decide +kernel
theorem dM_told_100 : decode prog_6_method_33_code 100 = .ok (.iload_n 1, 1) := by decide +kernel
theorem dM_told_101 : decode prog_6_method_33_code 101 = .ok (.iconst 1, 1) := by decide +kernel
theorem dM_told_102 : decode prog_6_method_33_code 102 = .ok (.isub, 1) := by decide +kernel
theorem dM_told_103 : decode prog_6_method_33_code 103 = .ok (.invokevirtual 148, 3) := by decide +kernel
theorem dM_told_106 : decode prog_6_method_33_code 106 = .ok (.ireturn, 1) := by decide +kernel
theorem dM_told_107 : decode prog_6_method_33_code 107 = .ok (.aload_n 0, 1) := by decide +kernel
theorem dM_told_108 : decode prog_6_method_33_code 108 = .ok (.getfield 28, 3) := by decide +kernel
theorem dM_told_111 : decode prog_6_method_33_code 111 = .ok (.iload_n 1, 1) := by decide +kernel
theorem dM_told_112 : decode prog_6_method_33_code 112 = .ok (.iconst 1, 1) := by decide +kernel
theorem dM_told_113 : decode prog_6_method_33_code 113 = .ok (.isub, 1) := by decide +kernel
theorem dM_told_114 : decode prog_6_method_33_code 114 = .ok (.iaload, 1) := by decide +kernel
theorem dM_told_115 : decode prog_6_method_33_code 115 = .ok (.ireturn, 1) := by decide +kernel
def y_m_about : MethodName := ⟨"FragileRulesModel", "about", "(II)I"⟩
theorem dM_about_0 : decode prog_6_method_34_code 0 = .ok (.aload_n 0, 1) := by decide +kernel
theorem dM_about_1 : decode prog_6_method_34_code 1 = .ok (.aload_n 0, 1) := by decide +kernel
theorem dM_about_2 : decode prog_6_method_34_code 2 = .ok (.iload_n 1, 1) := by decide +kernel
theorem dM_about_3 : decode prog_6_method_34_code 3 = .ok (.invokevirtual 139, 3) := by decide +kernel
theorem dM_about_6 : decode prog_6_method_34_code 6 = .ok (.ifCond .ne 7, 3) := by decide +kernel
theorem dM_about_9 : decode prog_6_method_34_code 9 = .ok (.iconst 1, 1) := by decide +kernel
theorem dM_about_10 : decode prog_6_method_34_code 10 = .ok (.goto 17, 3) := by decide +kernel
theorem dM_about_13 : decode prog_6_method_34_code 13 = .ok (.iload_n 2, 1) := by decide +kernel
theorem dM_about_14 : decode prog_6_method_34_code 14 = .ok (.iconst 0, 1) := by decide +kernel
theorem dM_about_15 : decode prog_6_method_34_code 15 = .ok (.iconst 2, 1) := by decide +kernel
theorem dM_about_16 : decode prog_6_method_34_code 16 = .ok (.invokestatic 91, 3) := by decide +kernel
theorem dM_about_19 : decode prog_6_method_34_code 19 = .ok (.ifCond .ne 7, 3) := by decide +kernel
theorem dM_about_22 : decode prog_6_method_34_code 22 = .ok (.iconst 2, 1) := by decide +kernel
theorem dM_about_23 : decode prog_6_method_34_code 23 = .ok (.goto 4, 3) := by decide +kernel
theorem dM_about_26 : decode prog_6_method_34_code 26 = .ok (.iconst 0, 1) := by decide +kernel
theorem dM_about_27 : decode prog_6_method_34_code 27 = .ok (.putfield 40, 3) := by decide +kernel
theorem dM_about_30 : decode prog_6_method_34_code 30 = .ok (.aload_n 0, 1) := by decide +kernel
theorem dM_about_31 : decode prog_6_method_34_code 31 = .ok (.getfield 40, 3) := by decide +kernel
theorem dM_about_34 : decode prog_6_method_34_code 34 = .ok (.ifCond .eq 5, 3) := by decide +kernel
theorem dM_about_37 : decode prog_6_method_34_code 37 = .ok (.iconst 0, 1) := by decide +kernel
theorem dM_about_38 : decode prog_6_method_34_code 38 = .ok (.ireturn, 1) := by decide +kernel
theorem dM_about_39 : decode prog_6_method_34_code 39 = .ok (.iload_n 2, 1) := by decide +kernel
theorem dM_about_40 : decode prog_6_method_34_code 40 = .ok (.ifCond .ne 12, 3) := by decide +kernel
theorem dM_about_43 : decode prog_6_method_34_code 43 = .ok (.aload_n 0, 1) := by decide +kernel
theorem dM_about_44 : decode prog_6_method_34_code 44 = .ok (.getfield 7, 3) := by decide +kernel
theorem dM_about_47 : decode prog_6_method_34_code 47 = .ok (.iload_n 1, 1) := by decide +kernel
theorem dM_about_48 : decode prog_6_method_34_code 48 = .ok (.iaload, 1) := by decide +kernel
theorem dM_about_49 : decode prog_6_method_34_code 49 = .ok (.goto 23, 3) := by decide +kernel
theorem dM_about_52 : decode prog_6_method_34_code 52 = .ok (.iload_n 2, 1) := by decide +kernel
theorem dM_about_53 : decode prog_6_method_34_code 53 = .ok (.iconst 1, 1) := by decide +kernel
theorem dM_about_54 : decode prog_6_method_34_code 54 = .ok (.if_icmp .ne 12, 3) := by decide +kernel
theorem dM_about_57 : decode prog_6_method_34_code 57 = .ok (.aload_n 0, 1) := by decide +kernel
theorem dM_about_58 : decode prog_6_method_34_code 58 = .ok (.getfield 13, 3) := by decide +kernel
theorem dM_about_61 : decode prog_6_method_34_code 61 = .ok (.iload_n 1, 1) := by decide +kernel
theorem dM_about_62 : decode prog_6_method_34_code 62 = .ok (.iaload, 1) := by decide +kernel
theorem dM_about_63 : decode prog_6_method_34_code 63 = .ok (.goto 9, 3) := by decide +kernel
theorem dM_about_66 : decode prog_6_method_34_code 66 = .ok (.aload_n 0, 1) := by decide +kernel
theorem dM_about_67 : decode prog_6_method_34_code 67 = .ok (.getfield 16, 3) := by decide +kernel
theorem dM_about_70 : decode prog_6_method_34_code 70 = .ok (.iload_n 1, 1) := by decide +kernel
theorem dM_about_71 : decode prog_6_method_34_code 71 = .ok (.iaload, 1) := by decide +kernel
theorem dM_about_72 : decode prog_6_method_34_code 72 = .ok (.ireturn, 1) := by decide +kernel
def y_m_count : MethodName := ⟨"FragileRulesModel", "count", "(I)I"⟩
theorem dM_count_0 : decode prog_6_method_35_code 0 = .ok (.aload_n 0, 1) := by decide +kernel
theorem dM_count_1 : decode prog_6_method_35_code 1 = .ok (.iconst 0, 1) := by decide +kernel
theorem dM_count_2 : decode prog_6_method_35_code 2 = .ok (.putfield 40, 3) := by decide +kernel
theorem dM_count_5 : decode prog_6_method_35_code 5 = .ok (.iload_n 1, 1) := by decide +kernel
theorem dM_count_6 : decode prog_6_method_35_code 6 = .ok (.tableswitch 59 0 4 #[34, 39, 44, 49, 54], 34) := by decide +kernel
theorem dM_count_40 : decode prog_6_method_35_code 40 = .ok (.aload_n 0, 1) := by decide +kernel
theorem dM_count_41 : decode prog_6_method_35_code 41 = .ok (.getfield 44, 3) := by decide +kernel
theorem dM_count_44 : decode prog_6_method_35_code 44 = .ok (.ireturn, 1) := by decide +kernel
theorem dM_count_45 : decode prog_6_method_35_code 45 = .ok (.aload_n 0, 1) := by decide +kernel
theorem dM_count_46 : decode prog_6_method_35_code 46 = .ok (.getfield 72, 3) := by decide +kernel
theorem dM_count_49 : decode prog_6_method_35_code 49 = .ok (.ireturn, 1) := by decide +kernel
theorem dM_count_50 : decode prog_6_method_35_code 50 = .ok (.aload_n 0, 1) := by decide +kernel
theorem dM_count_51 : decode prog_6_method_35_code 51 = .ok (.getfield 105, 3) := by decide +kernel
theorem dM_count_54 : decode prog_6_method_35_code 54 = .ok (.ireturn, 1) := by decide +kernel
theorem dM_count_55 : decode prog_6_method_35_code 55 = .ok (.aload_n 0, 1) := by decide +kernel
theorem dM_count_56 : decode prog_6_method_35_code 56 = .ok (.getfield 85, 3) := by decide +kernel
theorem dM_count_59 : decode prog_6_method_35_code 59 = .ok (.ireturn, 1) := by decide +kernel
theorem dM_count_60 : decode prog_6_method_35_code 60 = .ok (.aload_n 0, 1) := by decide +kernel
theorem dM_count_61 : decode prog_6_method_35_code 61 = .ok (.getfield 88, 3) := by decide +kernel
theorem dM_count_64 : decode prog_6_method_35_code 64 = .ok (.ireturn, 1) := by decide +kernel
theorem dM_count_65 : decode prog_6_method_35_code 65 = .ok (.iconst (-1), 1) := by decide +kernel
theorem dM_count_66 : decode prog_6_method_35_code 66 = .ok (.ireturn, 1) := by decide +kernel
def y_m_look : MethodName := ⟨"FragileRulesModel", "look", "()I"⟩
theorem dM_look_0 : decode prog_6_method_17_code 0 = .ok (.aload_n 0, 1) := by decide +kernel
theorem dM_look_1 : decode prog_6_method_17_code 1 = .ok (.getfield 108, 3) := by decide +kernel
theorem dM_look_4 : decode prog_6_method_17_code 4 = .ok (.aload_n 0, 1) := by decide +kernel
theorem dM_look_5 : decode prog_6_method_17_code 5 = .ok (.getfield 105, 3) := by decide +kernel
theorem dM_look_8 : decode prog_6_method_17_code 8 = .ok (.if_icmp .ge 15, 3) := by decide +kernel
theorem dM_look_11 : decode prog_6_method_17_code 11 = .ok (.aload_n 0, 1) := by decide +kernel
theorem dM_look_12 : decode prog_6_method_17_code 12 = .ok (.getfield 34, 3) := by decide +kernel
theorem dM_look_15 : decode prog_6_method_17_code 15 = .ok (.aload_n 0, 1) := by decide +kernel
theorem dM_look_16 : decode prog_6_method_17_code 16 = .ok (.getfield 108, 3) := by decide +kernel
theorem dM_look_19 : decode prog_6_method_17_code 19 = .ok (.iaload, 1) := by decide +kernel
theorem dM_look_20 : decode prog_6_method_17_code 20 = .ok (.goto 4, 3) := by decide +kernel
theorem dM_look_23 : decode prog_6_method_17_code 23 = .ok (.iconst (-1), 1) := by decide +kernel
theorem dM_look_24 : decode prog_6_method_17_code 24 = .ok (.ireturn, 1) := by decide +kernel
def y_m_fail : MethodName := ⟨"FragileRulesModel", "fail", "()V"⟩
theorem dM_fail_0 : decode prog_6_method_18_code 0 = .ok (.aload_n 0, 1) := by decide +kernel
theorem dM_fail_1 : decode prog_6_method_18_code 1 = .ok (.getfield 111, 3) := by decide +kernel
theorem dM_fail_4 : decode prog_6_method_18_code 4 = .ok (.ifCond .ge 11, 3) := by decide +kernel
theorem dM_fail_7 : decode prog_6_method_18_code 7 = .ok (.aload_n 0, 1) := by decide +kernel
theorem dM_fail_8 : decode prog_6_method_18_code 8 = .ok (.aload_n 0, 1) := by decide +kernel
theorem dM_fail_9 : decode prog_6_method_18_code 9 = .ok (.getfield 108, 3) := by decide +kernel
theorem dM_fail_12 : decode prog_6_method_18_code 12 = .ok (.putfield 111, 3) := by decide +kernel
theorem dM_fail_15 : decode prog_6_method_18_code 15 = .ok (.return_, 1) := by decide +kernel
def y_m_take : MethodName := ⟨"FragileRulesModel", "take", "(I)V"⟩
theorem dM_take_0 : decode prog_6_method_19_code 0 = .ok (.aload_n 0, 1) := by decide +kernel
theorem dM_take_1 : decode prog_6_method_19_code 1 = .ok (.getfield 111, 3) := by decide +kernel
theorem dM_take_4 : decode prog_6_method_19_code 4 = .ok (.ifCond .lt 4, 3) := by decide +kernel
theorem dM_take_7 : decode prog_6_method_19_code 7 = .ok (.return_, 1) := by decide +kernel
theorem dM_take_8 : decode prog_6_method_19_code 8 = .ok (.aload_n 0, 1) := by decide +kernel
theorem dM_take_9 : decode prog_6_method_19_code 9 = .ok (.invokevirtual 114, 3) := by decide +kernel
theorem dM_take_12 : decode prog_6_method_19_code 12 = .ok (.iload_n 1, 1) := by decide +kernel
theorem dM_take_13 : decode prog_6_method_19_code 13 = .ok (.if_icmp .ne 16, 3) := by decide +kernel
theorem dM_take_16 : decode prog_6_method_19_code 16 = .ok (.aload_n 0, 1) := by decide +kernel
theorem dM_take_17 : decode prog_6_method_19_code 17 = .ok (.dup, 1) := by decide +kernel
theorem dM_take_18 : decode prog_6_method_19_code 18 = .ok (.getfield 108, 3) := by decide +kernel
theorem dM_take_21 : decode prog_6_method_19_code 21 = .ok (.iconst 1, 1) := by decide +kernel
theorem dM_take_22 : decode prog_6_method_19_code 22 = .ok (.iadd, 1) := by decide +kernel
theorem dM_take_23 : decode prog_6_method_19_code 23 = .ok (.putfield 108, 3) := by decide +kernel
theorem dM_take_26 : decode prog_6_method_19_code 26 = .ok (.goto 7, 3) := by decide +kernel
theorem dM_take_29 : decode prog_6_method_19_code 29 = .ok (.aload_n 0, 1) := by decide +kernel
theorem dM_take_30 : decode prog_6_method_19_code 30 = .ok (.invokevirtual 117, 3) := by decide +kernel
theorem dM_take_33 : decode prog_6_method_19_code 33 = .ok (.return_, 1) := by decide +kernel
def y_m_digit : MethodName := ⟨"FragileRulesModel", "digit", "(I)I"⟩
theorem dM_digit_0 : decode prog_6_method_20_code 0 = .ok (.aload_n 0, 1) := by decide +kernel
theorem dM_digit_1 : decode prog_6_method_20_code 1 = .ok (.getfield 111, 3) := by decide +kernel
theorem dM_digit_4 : decode prog_6_method_20_code 4 = .ok (.ifCond .lt 5, 3) := by decide +kernel
theorem dM_digit_7 : decode prog_6_method_20_code 7 = .ok (.iconst (-1), 1) := by decide +kernel
theorem dM_digit_8 : decode prog_6_method_20_code 8 = .ok (.ireturn, 1) := by decide +kernel
theorem dM_digit_9 : decode prog_6_method_20_code 9 = .ok (.aload_n 0, 1) := by decide +kernel
theorem dM_digit_10 : decode prog_6_method_20_code 10 = .ok (.invokevirtual 114, 3) := by decide +kernel
theorem dM_digit_13 : decode prog_6_method_20_code 13 = .ok (.bipush 48, 2) := by decide +kernel
theorem dM_digit_15 : decode prog_6_method_20_code 15 = .ok (.isub, 1) := by decide +kernel
theorem dM_digit_16 : decode prog_6_method_20_code 16 = .ok (.istore_n 2, 1) := by decide +kernel
theorem dM_digit_17 : decode prog_6_method_20_code 17 = .ok (.aload_n 0, 1) := by decide +kernel
theorem dM_digit_18 : decode prog_6_method_20_code 18 = .ok (.invokevirtual 114, 3) := by decide +kernel
theorem dM_digit_21 : decode prog_6_method_20_code 21 = .ok (.iconst (-1), 1) := by decide +kernel
theorem dM_digit_22 : decode prog_6_method_20_code 22 = .ok (.if_icmp .eq 12, 3) := by decide +kernel
theorem dM_digit_25 : decode prog_6_method_20_code 25 = .ok (.iload_n 2, 1) := by decide +kernel
theorem dM_digit_26 : decode prog_6_method_20_code 26 = .ok (.iconst 0, 1) := by decide +kernel
theorem dM_digit_27 : decode prog_6_method_20_code 27 = .ok (.iload_n 1, 1) := by decide +kernel
theorem dM_digit_28 : decode prog_6_method_20_code 28 = .ok (.invokestatic 91, 3) := by decide +kernel
theorem dM_digit_31 : decode prog_6_method_20_code 31 = .ok (.ifCond .ne 9, 3) := by decide +kernel
theorem dM_digit_34 : decode prog_6_method_20_code 34 = .ok (.aload_n 0, 1) := by decide +kernel
theorem dM_digit_35 : decode prog_6_method_20_code 35 = .ok (.invokevirtual 117, 3) := by decide +kernel
theorem dM_digit_38 : decode prog_6_method_20_code 38 = .ok (.iconst (-1), 1) := by decide +kernel
theorem dM_digit_39 : decode prog_6_method_20_code 39 = .ok (.ireturn, 1) := by decide +kernel
theorem dM_digit_40 : decode prog_6_method_20_code 40 = .ok (.aload_n 0, 1) := by decide +kernel
theorem dM_digit_41 : decode prog_6_method_20_code 41 = .ok (.dup, 1) := by decide +kernel
theorem dM_digit_42 : decode prog_6_method_20_code 42 = .ok (.getfield 108, 3) := by decide +kernel
theorem dM_digit_45 : decode prog_6_method_20_code 45 = .ok (.iconst 1, 1) := by decide +kernel
theorem dM_digit_46 : decode prog_6_method_20_code 46 = .ok (.iadd, 1) := by decide +kernel
theorem dM_digit_47 : decode prog_6_method_20_code 47 = .ok (.putfield 108, 3) := by decide +kernel
theorem dM_digit_50 : decode prog_6_method_20_code 50 = .ok (.iload_n 2, 1) := by decide +kernel
theorem dM_digit_51 : decode prog_6_method_20_code 51 = .ok (.ireturn, 1) := by decide +kernel
def y_m_rowOf : MethodName := ⟨"FragileRulesModel", "rowOf", "(I)I"⟩
theorem dM_rowOf_0 : decode prog_6_method_21_code 0 = .ok (.iload_n 0, 1) := by decide +kernel
theorem dM_rowOf_1 : decode prog_6_method_21_code 1 = .ok (.bipush 78, 2) := by decide +kernel
theorem dM_rowOf_3 : decode prog_6_method_21_code 3 = .ok (.if_icmp .ne 7, 3) := by decide +kernel
theorem dM_rowOf_6 : decode prog_6_method_21_code 6 = .ok (.iconst 0, 1) := by decide +kernel
theorem dM_rowOf_7 : decode prog_6_method_21_code 7 = .ok (.goto 34, 3) := by decide +kernel
theorem dM_rowOf_10 : decode prog_6_method_21_code 10 = .ok (.iload_n 0, 1) := by decide +kernel
theorem dM_rowOf_11 : decode prog_6_method_21_code 11 = .ok (.bipush 65, 2) := by decide +kernel
theorem dM_rowOf_13 : decode prog_6_method_21_code 13 = .ok (.if_icmp .ne 7, 3) := by decide +kernel
theorem dM_rowOf_16 : decode prog_6_method_21_code 16 = .ok (.iconst 1, 1) := by decide +kernel
theorem dM_rowOf_17 : decode prog_6_method_21_code 17 = .ok (.goto 24, 3) := by decide +kernel
theorem dM_rowOf_20 : decode prog_6_method_21_code 20 = .ok (.iload_n 0, 1) := by decide +kernel
theorem dM_rowOf_21 : decode prog_6_method_21_code 21 = .ok (.bipush 66, 2) := by decide +kernel
theorem dM_rowOf_23 : decode prog_6_method_21_code 23 = .ok (.if_icmp .ne 7, 3) := by decide +kernel
theorem dM_rowOf_26 : decode prog_6_method_21_code 26 = .ok (.iconst 2, 1) := by decide +kernel
theorem dM_rowOf_27 : decode prog_6_method_21_code 27 = .ok (.goto 14, 3) := by decide +kernel
theorem dM_rowOf_30 : decode prog_6_method_21_code 30 = .ok (.iload_n 0, 1) := by decide +kernel
theorem dM_rowOf_31 : decode prog_6_method_21_code 31 = .ok (.bipush 76, 2) := by decide +kernel
theorem dM_rowOf_33 : decode prog_6_method_21_code 33 = .ok (.if_icmp .ne 7, 3) := by decide +kernel
theorem dM_rowOf_36 : decode prog_6_method_21_code 36 = .ok (.iconst 3, 1) := by decide +kernel
theorem dM_rowOf_37 : decode prog_6_method_21_code 37 = .ok (.goto 4, 3) := by decide +kernel
theorem dM_rowOf_40 : decode prog_6_method_21_code 40 = .ok (.iconst (-1), 1) := by decide +kernel
theorem dM_rowOf_41 : decode prog_6_method_21_code 41 = .ok (.ireturn, 1) := by decide +kernel
def y_m_order : MethodName := ⟨"FragileRulesModel", "order", "(II)I"⟩
theorem dM_order_0 : decode prog_6_method_32_code 0 = .ok (.aload_n 0, 1) := by decide +kernel
theorem dM_order_1 : decode prog_6_method_32_code 1 = .ok (.aload_n 0, 1) := by decide +kernel
theorem dM_order_2 : decode prog_6_method_32_code 2 = .ok (.iload_n 1, 1) := by decide +kernel
theorem dM_order_3 : decode prog_6_method_32_code 3 = .ok (.invokevirtual 145, 3) := by decide +kernel
theorem dM_order_6 : decode prog_6_method_32_code 6 = .ok (.ifCond .ne 7, 3) := by decide +kernel
theorem dM_order_9 : decode prog_6_method_32_code 9 = .ok (.iconst 1, 1) := by decide +kernel
theorem dM_order_10 : decode prog_6_method_32_code 10 = .ok (.goto 20, 3) := by decide +kernel
theorem dM_order_13 : decode prog_6_method_32_code 13 = .ok (.iload_n 2, 1) := by decide +kernel
theorem dM_order_14 : decode prog_6_method_32_code 14 = .ok (.ifCond .lt 11, 3) := by decide +kernel
theorem dM_order_17 : decode prog_6_method_32_code 17 = .ok (.iload_n 2, 1) := by decide +kernel
theorem dM_order_18 : decode prog_6_method_32_code 18 = .ok (.aload_n 0, 1) := by decide +kernel
theorem dM_order_19 : decode prog_6_method_32_code 19 = .ok (.getfield 72, 3) := by decide +kernel
theorem dM_order_22 : decode prog_6_method_32_code 22 = .ok (.if_icmp .lt 7, 3) := by decide +kernel
theorem dM_order_25 : decode prog_6_method_32_code 25 = .ok (.iconst 2, 1) := by decide +kernel
theorem dM_order_26 : decode prog_6_method_32_code 26 = .ok (.goto 4, 3) := by decide +kernel
theorem dM_order_29 : decode prog_6_method_32_code 29 = .ok (.iconst 0, 1) := by decide +kernel
theorem dM_order_30 : decode prog_6_method_32_code 30 = .ok (.putfield 40, 3) := by decide +kernel
theorem dM_order_33 : decode prog_6_method_32_code 33 = .ok (.aload_n 0, 1) := by decide +kernel
theorem dM_order_34 : decode prog_6_method_32_code 34 = .ok (.getfield 40, 3) := by decide +kernel
theorem dM_order_37 : decode prog_6_method_32_code 37 = .ok (.ifCond .eq 5, 3) := by decide +kernel
theorem dM_order_40 : decode prog_6_method_32_code 40 = .ok (.iconst 0, 1) := by decide +kernel
theorem dM_order_41 : decode prog_6_method_32_code 41 = .ok (.ireturn, 1) := by decide +kernel
theorem dM_order_42 : decode prog_6_method_32_code 42 = .ok (.aload_n 0, 1) := by decide +kernel
theorem dM_order_43 : decode prog_6_method_32_code 43 = .ok (.iload_n 1, 1) := by decide +kernel
theorem dM_order_44 : decode prog_6_method_32_code 44 = .ok (.iconst 1, 1) := by decide +kernel
theorem dM_order_45 : decode prog_6_method_32_code 45 = .ok (.isub, 1) := by decide +kernel
theorem dM_order_46 : decode prog_6_method_32_code 46 = .ok (.invokevirtual 148, 3) := by decide +kernel
theorem dM_order_49 : decode prog_6_method_32_code 49 = .ok (.istore_n 3, 1) := by decide +kernel
theorem dM_order_50 : decode prog_6_method_32_code 50 = .ok (.iload_n 3, 1) := by decide +kernel
theorem dM_order_51 : decode prog_6_method_32_code 51 = .ok (.istore 4, 2) := by decide +kernel
theorem dM_order_53 : decode prog_6_method_32_code 53 = .ok (.iload 4, 2) := by decide +kernel
theorem dM_order_55 : decode prog_6_method_32_code 55 = .ok (.iload_n 2, 1) := by decide +kernel
theorem dM_order_56 : decode prog_6_method_32_code 56 = .ok (.if_icmp .ge 25, 3) := by decide +kernel
theorem dM_order_59 : decode prog_6_method_32_code 59 = .ok (.aload_n 0, 1) := by decide +kernel
theorem dM_order_60 : decode prog_6_method_32_code 60 = .ok (.getfield 31, 3) := by decide +kernel
theorem dM_order_63 : decode prog_6_method_32_code 63 = .ok (.iload 4, 2) := by decide +kernel
theorem dM_order_65 : decode prog_6_method_32_code 65 = .ok (.aload_n 0, 1) := by decide +kernel
theorem dM_order_66 : decode prog_6_method_32_code 66 = .ok (.getfield 31, 3) := by decide +kernel
theorem dM_order_69 : decode prog_6_method_32_code 69 = .ok (.iload 4, 2) := by decide +kernel
theorem dM_order_71 : decode prog_6_method_32_code 71 = .ok (.iconst 1, 1) := by decide +kernel
theorem dM_order_72 : decode prog_6_method_32_code 72 = .ok (.iadd, 1) := by decide +kernel
theorem dM_order_73 : decode prog_6_method_32_code 73 = .ok (.iaload, 1) := by decide +kernel
theorem dM_order_74 : decode prog_6_method_32_code 74 = .ok (.iastore, 1) := by decide +kernel
theorem dM_order_75 : decode prog_6_method_32_code 75 = .ok (.iinc 4 1, 3) := by decide +kernel
theorem dM_order_78 : decode prog_6_method_32_code 78 = .ok (.goto (-25), 3) := by decide +kernel
theorem dM_order_81 : decode prog_6_method_32_code 81 = .ok (.iload_n 3, 1) := by decide +kernel
theorem dM_order_82 : decode prog_6_method_32_code 82 = .ok (.istore 4, 2) := by decide +kernel
theorem dM_order_84 : decode prog_6_method_32_code 84 = .ok (.iload 4, 2) := by decide +kernel
theorem dM_order_86 : decode prog_6_method_32_code 86 = .ok (.iload_n 2, 1) := by decide +kernel
theorem dM_order_87 : decode prog_6_method_32_code 87 = .ok (.if_icmp .le 25, 3) := by decide +kernel
theorem dM_order_90 : decode prog_6_method_32_code 90 = .ok (.aload_n 0, 1) := by decide +kernel
theorem dM_order_91 : decode prog_6_method_32_code 91 = .ok (.getfield 31, 3) := by decide +kernel
theorem dM_order_94 : decode prog_6_method_32_code 94 = .ok (.iload 4, 2) := by decide +kernel
theorem dM_order_96 : decode prog_6_method_32_code 96 = .ok (.aload_n 0, 1) := by decide +kernel
theorem dM_order_97 : decode prog_6_method_32_code 97 = .ok (.getfield 31, 3) := by decide +kernel
theorem dM_order_100 : decode prog_6_method_32_code 100 = .ok (.iload 4, 2) := by decide +kernel
theorem dM_order_102 : decode prog_6_method_32_code 102 = .ok (.iconst 1, 1) := by decide +kernel
theorem dM_order_103 : decode prog_6_method_32_code 103 = .ok (.isub, 1) := by decide +kernel
theorem dM_order_104 : decode prog_6_method_32_code 104 = .ok (.iaload, 1) := by decide +kernel
theorem dM_order_105 : decode prog_6_method_32_code 105 = .ok (.iastore, 1) := by decide +kernel
theorem dM_order_106 : decode prog_6_method_32_code 106 = .ok (.iinc 4 (-1), 3) := by decide +kernel
theorem dM_order_109 : decode prog_6_method_32_code 109 = .ok (.goto (-25), 3) := by decide +kernel
theorem dM_order_112 : decode prog_6_method_32_code 112 = .ok (.aload_n 0, 1) := by decide +kernel
theorem dM_order_113 : decode prog_6_method_32_code 113 = .ok (.getfield 31, 3) := by decide +kernel
theorem dM_order_116 : decode prog_6_method_32_code 116 = .ok (.iload_n 2, 1) := by decide +kernel
theorem dM_order_117 : decode prog_6_method_32_code 117 = .ok (.iload_n 1, 1) := by decide +kernel
theorem dM_order_118 : decode prog_6_method_32_code 118 = .ok (.iconst 1, 1) := by decide +kernel
theorem dM_order_119 : decode prog_6_method_32_code 119 = .ok (.isub, 1) := by decide +kernel
theorem dM_order_120 : decode prog_6_method_32_code 120 = .ok (.iastore, 1) := by decide +kernel
theorem dM_order_121 : decode prog_6_method_32_code 121 = .ok (.iload_n 3, 1) := by decide +kernel
theorem dM_order_122 : decode prog_6_method_32_code 122 = .ok (.ireturn, 1) := by decide +kernel
def y_m_line : MethodName := ⟨"FragileRulesModel", "line", "(Z)V"⟩
theorem dM_line_0 : decode prog_6_method_22_code 0 = .ok (.aload_n 0, 1) := by decide +kernel
theorem dM_line_1 : decode prog_6_method_22_code 1 = .ok (.invokevirtual 114, 3) := by decide +kernel
theorem dM_line_4 : decode prog_6_method_22_code 4 = .ok (.invokestatic 120, 3) := by decide +kernel
theorem dM_line_7 : decode prog_6_method_22_code 7 = .ok (.istore_n 2, 1) := by decide +kernel
theorem dM_line_8 : decode prog_6_method_22_code 8 = .ok (.iload_n 2, 1) := by decide +kernel
theorem dM_line_9 : decode prog_6_method_22_code 9 = .ok (.iconst (-1), 1) := by decide +kernel
theorem dM_line_10 : decode prog_6_method_22_code 10 = .ok (.if_icmp .ne 7, 3) := by decide +kernel
theorem dM_line_13 : decode prog_6_method_22_code 13 = .ok (.aload_n 0, 1) := by decide +kernel
theorem dM_line_14 : decode prog_6_method_22_code 14 = .ok (.invokevirtual 117, 3) := by decide +kernel
theorem dM_line_17 : decode prog_6_method_22_code 17 = .ok (.aload_n 0, 1) := by decide +kernel
theorem dM_line_18 : decode prog_6_method_22_code 18 = .ok (.dup, 1) := by decide +kernel
theorem dM_line_19 : decode prog_6_method_22_code 19 = .ok (.getfield 108, 3) := by decide +kernel
theorem dM_line_22 : decode prog_6_method_22_code 22 = .ok (.iconst 1, 1) := by decide +kernel
theorem dM_line_23 : decode prog_6_method_22_code 23 = .ok (.iadd, 1) := by decide +kernel
theorem dM_line_24 : decode prog_6_method_22_code 24 = .ok (.putfield 108, 3) := by decide +kernel
theorem dM_line_27 : decode prog_6_method_22_code 27 = .ok (.aload_n 0, 1) := by decide +kernel
theorem dM_line_28 : decode prog_6_method_22_code 28 = .ok (.bipush 32, 2) := by decide +kernel
theorem dM_line_30 : decode prog_6_method_22_code 30 = .ok (.invokevirtual 124, 3) := by decide +kernel
theorem dM_line_33 : decode prog_6_method_22_code 33 = .ok (.aload_n 0, 1) := by decide +kernel
theorem dM_line_34 : decode prog_6_method_22_code 34 = .ok (.bipush 7, 2) := by decide +kernel
theorem dM_line_36 : decode prog_6_method_22_code 36 = .ok (.invokevirtual 128, 3) := by decide +kernel
theorem dM_line_39 : decode prog_6_method_22_code 39 = .ok (.istore_n 3, 1) := by decide +kernel
theorem dM_line_40 : decode prog_6_method_22_code 40 = .ok (.aload_n 0, 1) := by decide +kernel
theorem dM_line_41 : decode prog_6_method_22_code 41 = .ok (.bipush 32, 2) := by decide +kernel
theorem dM_line_43 : decode prog_6_method_22_code 43 = .ok (.invokevirtual 124, 3) := by decide +kernel
theorem dM_line_46 : decode prog_6_method_22_code 46 = .ok (.aload_n 0, 1) := by decide +kernel
theorem dM_line_47 : decode prog_6_method_22_code 47 = .ok (.iload_n 2, 1) := by decide +kernel
theorem dM_line_48 : decode prog_6_method_22_code 48 = .ok (.iconst 2, 1) := by decide +kernel
theorem dM_line_49 : decode prog_6_method_22_code 49 = .ok (.if_icmp .eq 8, 3) := by decide +kernel
theorem dM_line_52 : decode prog_6_method_22_code 52 = .ok (.iload_n 2, 1) := by decide +kernel
theorem dM_line_53 : decode prog_6_method_22_code 53 = .ok (.iconst 3, 1) := by decide +kernel
theorem dM_line_54 : decode prog_6_method_22_code 54 = .ok (.if_icmp .ne 8, 3) := by decide +kernel
theorem dM_line_57 : decode prog_6_method_22_code 57 = .ok (.bipush 9, 2) := by decide +kernel
theorem dM_line_59 : decode prog_6_method_22_code 59 = .ok (.goto 5, 3) := by decide +kernel
theorem dM_line_62 : decode prog_6_method_22_code 62 = .ok (.bipush 7, 2) := by decide +kernel
theorem dM_line_64 : decode prog_6_method_22_code 64 = .ok (.invokevirtual 128, 3) := by decide +kernel
theorem dM_line_67 : decode prog_6_method_22_code 67 = .ok (.istore 4, 2) := by decide +kernel
theorem dM_line_69 : decode prog_6_method_22_code 69 = .ok (.aload_n 0, 1) := by decide +kernel
theorem dM_line_70 : decode prog_6_method_22_code 70 = .ok (.getfield 111, 3) := by decide +kernel
theorem dM_line_73 : decode prog_6_method_22_code 73 = .ok (.ifCond .ge 41, 3) := by decide +kernel
theorem dM_line_76 : decode prog_6_method_22_code 76 = .ok (.iload_n 2, 1) := by decide +kernel
theorem dM_line_77 : decode prog_6_method_22_code 77 = .ok (.iconst 2, 1) := by decide +kernel
theorem dM_line_78 : decode prog_6_method_22_code 78 = .ok (.if_icmp .ne 36, 3) := by decide +kernel
theorem dM_line_81 : decode prog_6_method_22_code 81 = .ok (.iload 4, 2) := by decide +kernel
theorem dM_line_83 : decode prog_6_method_22_code 83 = .ok (.ifCond .le 31, 3) := by decide +kernel
theorem dM_line_86 : decode prog_6_method_22_code 86 = .ok (.aload_n 0, 1) := by decide +kernel
theorem dM_line_87 : decode prog_6_method_22_code 87 = .ok (.invokevirtual 114, 3) := by decide +kernel
theorem dM_line_90 : decode prog_6_method_22_code 90 = .ok (.bipush 48, 2) := by decide +kernel
theorem dM_line_92 : decode prog_6_method_22_code 92 = .ok (.bipush 57, 2) := by decide +kernel
theorem dM_line_94 : decode prog_6_method_22_code 94 = .ok (.invokestatic 91, 3) := by decide +kernel
theorem dM_line_97 : decode prog_6_method_22_code 97 = .ok (.ifCond .eq 17, 3) := by decide +kernel
theorem dM_line_100 : decode prog_6_method_22_code 100 = .ok (.bipush 10, 2) := by decide +kernel
theorem dM_line_102 : decode prog_6_method_22_code 102 = .ok (.iload 4, 2) := by decide +kernel
theorem dM_line_104 : decode prog_6_method_22_code 104 = .ok (.imul, 1) := by decide +kernel
theorem dM_line_105 : decode prog_6_method_22_code 105 = .ok (.aload_n 0, 1) := by decide +kernel
theorem dM_line_106 : decode prog_6_method_22_code 106 = .ok (.bipush 9, 2) := by decide +kernel
theorem dM_line_108 : decode prog_6_method_22_code 108 = .ok (.invokevirtual 128, 3) := by decide +kernel
theorem dM_line_111 : decode prog_6_method_22_code 111 = .ok (.iadd, 1) := by decide +kernel
theorem dM_line_112 : decode prog_6_method_22_code 112 = .ok (.istore 4, 2) := by decide +kernel
theorem dM_line_114 : decode prog_6_method_22_code 114 = .ok (.aload_n 0, 1) := by decide +kernel
theorem dM_line_115 : decode prog_6_method_22_code 115 = .ok (.bipush 10, 2) := by decide +kernel
theorem dM_line_117 : decode prog_6_method_22_code 117 = .ok (.invokevirtual 124, 3) := by decide +kernel
theorem dM_line_120 : decode prog_6_method_22_code 120 = .ok (.aload_n 0, 1) := by decide +kernel
theorem dM_line_121 : decode prog_6_method_22_code 121 = .ok (.getfield 111, 3) := by decide +kernel
theorem dM_line_124 : decode prog_6_method_22_code 124 = .ok (.ifCond .ge 15, 3) := by decide +kernel
theorem dM_line_127 : decode prog_6_method_22_code 127 = .ok (.iload_n 1, 1) := by decide +kernel
theorem dM_line_128 : decode prog_6_method_22_code 128 = .ok (.ifCond .eq 11, 3) := by decide +kernel
theorem dM_line_131 : decode prog_6_method_22_code 131 = .ok (.aload_n 0, 1) := by decide +kernel
theorem dM_line_132 : decode prog_6_method_22_code 132 = .ok (.iload_n 2, 1) := by decide +kernel
theorem dM_line_133 : decode prog_6_method_22_code 133 = .ok (.iload_n 3, 1) := by decide +kernel
theorem dM_line_134 : decode prog_6_method_22_code 134 = .ok (.iload 4, 2) := by decide +kernel
theorem dM_line_136 : decode prog_6_method_22_code 136 = .ok (.invokevirtual 101, 3) := by decide +kernel
theorem dM_line_139 : decode prog_6_method_22_code 139 = .ok (.return_, 1) := by decide +kernel
def y_m_go : MethodName := ⟨"FragileRulesModel", "go", "(Z)I"⟩
theorem dM_go_0 : decode prog_6_method_23_code 0 = .ok (.aload_n 0, 1) := by decide +kernel
theorem dM_go_1 : decode prog_6_method_23_code 1 = .ok (.iconst 0, 1) := by decide +kernel
theorem dM_go_2 : decode prog_6_method_23_code 2 = .ok (.putfield 108, 3) := by decide +kernel
theorem dM_go_5 : decode prog_6_method_23_code 5 = .ok (.aload_n 0, 1) := by decide +kernel
theorem dM_go_6 : decode prog_6_method_23_code 6 = .ok (.iconst (-1), 1) := by decide +kernel
theorem dM_go_7 : decode prog_6_method_23_code 7 = .ok (.putfield 111, 3) := by decide +kernel
theorem dM_go_10 : decode prog_6_method_23_code 10 = .ok (.iconst 0, 1) := by decide +kernel
theorem dM_go_11 : decode prog_6_method_23_code 11 = .ok (.istore_n 2, 1) := by decide +kernel
theorem dM_go_12 : decode prog_6_method_23_code 12 = .ok (.aload_n 0, 1) := by decide +kernel
theorem dM_go_13 : decode prog_6_method_23_code 13 = .ok (.getfield 111, 3) := by decide +kernel
theorem dM_go_16 : decode prog_6_method_23_code 16 = .ok (.ifCond .ge 25, 3) := by decide +kernel
theorem dM_go_19 : decode prog_6_method_23_code 19 = .ok (.aload_n 0, 1) := by decide +kernel
theorem dM_go_20 : decode prog_6_method_23_code 20 = .ok (.getfield 108, 3) := by decide +kernel
theorem dM_go_23 : decode prog_6_method_23_code 23 = .ok (.aload_n 0, 1) := by decide +kernel
theorem dM_go_24 : decode prog_6_method_23_code 24 = .ok (.getfield 105, 3) := by decide +kernel
theorem dM_go_27 : decode prog_6_method_23_code 27 = .ok (.if_icmp .ge 14, 3) := by decide +kernel
theorem dM_go_30 : decode prog_6_method_23_code 30 = .ok (.aload_n 0, 1) := by decide +kernel
theorem dM_go_31 : decode prog_6_method_23_code 31 = .ok (.iload_n 1, 1) := by decide +kernel
theorem dM_go_32 : decode prog_6_method_23_code 32 = .ok (.invokevirtual 131, 3) := by decide +kernel
theorem dM_go_35 : decode prog_6_method_23_code 35 = .ok (.iinc 2 1, 3) := by decide +kernel
theorem dM_go_38 : decode prog_6_method_23_code 38 = .ok (.goto (-26), 3) := by decide +kernel
theorem dM_go_41 : decode prog_6_method_23_code 41 = .ok (.iload_n 2, 1) := by decide +kernel
theorem dM_go_42 : decode prog_6_method_23_code 42 = .ok (.ireturn, 1) := by decide +kernel
def y_m_read : MethodName := ⟨"FragileRulesModel", "read", "()I"⟩
theorem dM_read_0 : decode prog_6_method_24_code 0 = .ok (.aload_n 0, 1) := by decide +kernel
theorem dM_read_1 : decode prog_6_method_24_code 1 = .ok (.iconst 0, 1) := by decide +kernel
theorem dM_read_2 : decode prog_6_method_24_code 2 = .ok (.putfield 40, 3) := by decide +kernel
theorem dM_read_5 : decode prog_6_method_24_code 5 = .ok (.aload_n 0, 1) := by decide +kernel
theorem dM_read_6 : decode prog_6_method_24_code 6 = .ok (.iconst 0, 1) := by decide +kernel
theorem dM_read_7 : decode prog_6_method_24_code 7 = .ok (.invokevirtual 135, 3) := by decide +kernel
theorem dM_read_10 : decode prog_6_method_24_code 10 = .ok (.istore_n 1, 1) := by decide +kernel
theorem dM_read_11 : decode prog_6_method_24_code 11 = .ok (.aload_n 0, 1) := by decide +kernel
theorem dM_read_12 : decode prog_6_method_24_code 12 = .ok (.getfield 111, 3) := by decide +kernel
theorem dM_read_15 : decode prog_6_method_24_code 15 = .ok (.ifCond .ge 36, 3) := by decide +kernel
theorem dM_read_18 : decode prog_6_method_24_code 18 = .ok (.aload_n 0, 1) := by decide +kernel
theorem dM_read_19 : decode prog_6_method_24_code 19 = .ok (.aload_n 0, 1) := by decide +kernel
theorem dM_read_20 : decode prog_6_method_24_code 20 = .ok (.getfield 72, 3) := by decide +kernel
theorem dM_read_23 : decode prog_6_method_24_code 23 = .ok (.iload_n 1, 1) := by decide +kernel
theorem dM_read_24 : decode prog_6_method_24_code 24 = .ok (.iadd, 1) := by decide +kernel
theorem dM_read_25 : decode prog_6_method_24_code 25 = .ok (.bipush 12, 2) := by decide +kernel
theorem dM_read_27 : decode prog_6_method_24_code 27 = .ok (.if_icmp .le 7, 3) := by decide +kernel
theorem dM_read_30 : decode prog_6_method_24_code 30 = .ok (.iconst 1, 1) := by decide +kernel
theorem dM_read_31 : decode prog_6_method_24_code 31 = .ok (.goto 4, 3) := by decide +kernel
theorem dM_read_34 : decode prog_6_method_24_code 34 = .ok (.iconst 0, 1) := by decide +kernel
theorem dM_read_35 : decode prog_6_method_24_code 35 = .ok (.putfield 40, 3) := by decide +kernel
theorem dM_read_38 : decode prog_6_method_24_code 38 = .ok (.aload_n 0, 1) := by decide +kernel
theorem dM_read_39 : decode prog_6_method_24_code 39 = .ok (.getfield 40, 3) := by decide +kernel
theorem dM_read_42 : decode prog_6_method_24_code 42 = .ok (.ifCond .ne 9, 3) := by decide +kernel
theorem dM_read_45 : decode prog_6_method_24_code 45 = .ok (.aload_n 0, 1) := by decide +kernel
theorem dM_read_46 : decode prog_6_method_24_code 46 = .ok (.iconst 1, 1) := by decide +kernel
theorem dM_read_47 : decode prog_6_method_24_code 47 = .ok (.invokevirtual 135, 3) := by decide +kernel
theorem dM_read_50 : decode prog_6_method_24_code 50 = .ok (.pop, 1) := by decide +kernel
theorem dM_read_51 : decode prog_6_method_24_code 51 = .ok (.aload_n 0, 1) := by decide +kernel
theorem dM_read_52 : decode prog_6_method_24_code 52 = .ok (.iconst 0, 1) := by decide +kernel
theorem dM_read_53 : decode prog_6_method_24_code 53 = .ok (.putfield 105, 3) := by decide +kernel
theorem dM_read_56 : decode prog_6_method_24_code 56 = .ok (.aload_n 0, 1) := by decide +kernel
theorem dM_read_57 : decode prog_6_method_24_code 57 = .ok (.getfield 40, 3) := by decide +kernel
theorem dM_read_60 : decode prog_6_method_24_code 60 = .ok (.ifCond .eq 7, 3) := by decide +kernel
theorem dM_read_63 : decode prog_6_method_24_code 63 = .ok (.iconst 0, 1) := by decide +kernel
theorem dM_read_64 : decode prog_6_method_24_code 64 = .ok (.goto 23, 3) := by decide +kernel
theorem dM_read_67 : decode prog_6_method_24_code 67 = .ok (.aload_n 0, 1) := by decide +kernel
theorem dM_read_68 : decode prog_6_method_24_code 68 = .ok (.getfield 111, 3) := by decide +kernel
theorem dM_read_71 : decode prog_6_method_24_code 71 = .ok (.ifCond .lt 12, 3) := by decide +kernel
theorem dM_read_74 : decode prog_6_method_24_code 74 = .ok (.iconst (-1), 1) := by decide +kernel
theorem dM_read_75 : decode prog_6_method_24_code 75 = .ok (.aload_n 0, 1) := by decide +kernel
theorem dM_read_76 : decode prog_6_method_24_code 76 = .ok (.getfield 111, 3) := by decide +kernel
theorem dM_read_79 : decode prog_6_method_24_code 79 = .ok (.isub, 1) := by decide +kernel
theorem dM_read_80 : decode prog_6_method_24_code 80 = .ok (.goto 7, 3) := by decide +kernel
theorem dM_read_83 : decode prog_6_method_24_code 83 = .ok (.aload_n 0, 1) := by decide +kernel
theorem dM_read_84 : decode prog_6_method_24_code 84 = .ok (.getfield 72, 3) := by decide +kernel
theorem dM_read_87 : decode prog_6_method_24_code 87 = .ok (.ireturn, 1) := by decide +kernel
theorem fl_M_40 : Cond.fieldLink "FragileRulesModel" 40 "FragileRulesModel" "thrown" "I" ∈ fr_tbl := fr_in 477 (by decide +kernel) rfl
theorem fl_M_44 : Cond.fieldLink "FragileRulesModel" 44 "FragileRulesModel" "units" "I" ∈ fr_tbl := fr_in 472 (by decide +kernel) rfl
theorem fl_M_19 : Cond.fieldLink "FragileRulesModel" 19 "FragileRulesModel" "row" "[I" ∈ fr_tbl := fr_in 481 (by decide +kernel) rfl
theorem fl_M_47 : Cond.fieldLink "FragileRulesModel" 47 "FragileRulesModel" "question" "I" ∈ fr_tbl := fr_in 489 (by decide +kernel) rfl
theorem fl_M_22 : Cond.fieldLink "FragileRulesModel" 22 "FragileRulesModel" "first" "[I" ∈ fr_tbl := fr_in 482 (by decide +kernel) rfl
theorem fl_M_25 : Cond.fieldLink "FragileRulesModel" 25 "FragileRulesModel" "second" "[I" ∈ fr_tbl := fr_in 483 (by decide +kernel) rfl
theorem fl_M_7 : Cond.fieldLink "FragileRulesModel" 7 "FragileRulesModel" "kind" "[I" ∈ fr_tbl := fr_in 478 (by decide +kernel) rfl
theorem fl_M_50 : Cond.fieldLink "FragileRulesModel" 50 "FragileRulesModel" "below" "I" ∈ fr_tbl := fr_in 490 (by decide +kernel) rfl
theorem fl_M_53 : Cond.fieldLink "FragileRulesModel" 53 "FragileRulesModel" "above" "I" ∈ fr_tbl := fr_in 491 (by decide +kernel) rfl
theorem fl_M_16 : Cond.fieldLink "FragileRulesModel" 16 "FragileRulesModel" "marks" "[I" ∈ fr_tbl := fr_in 480 (by decide +kernel) rfl
theorem fl_M_56 : Cond.fieldLink "FragileRulesModel" 56 "FragileRulesModel" "place" "I" ∈ fr_tbl := fr_in 492 (by decide +kernel) rfl
theorem fl_M_13 : Cond.fieldLink "FragileRulesModel" 13 "FragileRulesModel" "weight" "[I" ∈ fr_tbl := fr_in 479 (by decide +kernel) rfl
theorem fl_M_59 : Cond.fieldLink "FragileRulesModel" 59 "FragileRulesModel" "mark" "I" ∈ fr_tbl := fr_in 493 (by decide +kernel) rfl
theorem fl_M_62 : Cond.fieldLink "FragileRulesModel" 62 "FragileRulesModel" "had" "I" ∈ fr_tbl := fr_in 494 (by decide +kernel) rfl
theorem ml_M_65 : Cond.methodLink "FragileRulesModel" 65 ⟨"FragileRulesModel", "ownRefuses", "(I)Z"⟩ ∈ fr_tbl := fr_in 571 (by decide +kernel) rfl
theorem mi_m_ownRefuses : Cond.instanceMethod ⟨"FragileRulesModel", "ownRefuses", "(I)Z"⟩ ∈ fr_tbl := fr_in 573 (by decide +kernel) rfl
theorem msel_m_ownRefuses : Cond.selects "FragileRulesModel" ⟨"FragileRulesModel", "ownRefuses", "(I)Z"⟩ ⟨"FragileRulesModel", "ownRefuses", "(I)Z"⟩ ∈ fr_tbl := fr_in 12 (by decide +kernel) rfl
theorem mini_M : Cond.initialized "FragileRulesModel" ∈ fr_tbl := fr_in 29 (by decide +kernel) rfl
theorem mc_m_ownRefuses : Cond.code ⟨"FragileRulesModel", "ownRefuses", "(I)Z"⟩ prog_6_method_7_code 3 (some FieldType.boolean) ∈ fr_tbl := fr_in 574 (by decide +kernel) rfl
theorem fl_M_72 : Cond.fieldLink "FragileRulesModel" 72 "FragileRulesModel" "rules" "I" ∈ fr_tbl := fr_in 473 (by decide +kernel) rfl
theorem fl_M_31 : Cond.fieldLink "FragileRulesModel" 31 "FragileRulesModel" "order" "[I" ∈ fr_tbl := fr_in 485 (by decide +kernel) rfl
theorem ml_M_75 : Cond.methodLink "FragileRulesModel" 75 ⟨"FragileRulesModel", "concerns", "(I)Z"⟩ ∈ fr_tbl := fr_in 563 (by decide +kernel) rfl
theorem mi_m_concerns : Cond.instanceMethod ⟨"FragileRulesModel", "concerns", "(I)Z"⟩ ∈ fr_tbl := fr_in 565 (by decide +kernel) rfl
theorem msel_m_concerns : Cond.selects "FragileRulesModel" ⟨"FragileRulesModel", "concerns", "(I)Z"⟩ ⟨"FragileRulesModel", "concerns", "(I)Z"⟩ ∈ fr_tbl := fr_in 10 (by decide +kernel) rfl
theorem mc_m_concerns : Cond.code ⟨"FragileRulesModel", "concerns", "(I)Z"⟩ prog_6_method_6_code 2 (some FieldType.boolean) ∈ fr_tbl := fr_in 566 (by decide +kernel) rfl
theorem fl_M_37 : Cond.fieldLink "FragileRulesModel" 37 "FragileRulesModel" "asked" "[I" ∈ fr_tbl := fr_in 487 (by decide +kernel) rfl
theorem fl_M_69 : Cond.fieldLink "FragileRulesModel" 69 "FragileRulesModel" "askedMany" "I" ∈ fr_tbl := fr_in 488 (by decide +kernel) rfl
theorem ml_M_78 : Cond.methodLink "FragileRulesModel" 78 ⟨"FragileRulesModel", "refuses", "(I)Z"⟩ ∈ fr_tbl := fr_in 567 (by decide +kernel) rfl
theorem mi_m_refuses : Cond.instanceMethod ⟨"FragileRulesModel", "refuses", "(I)Z"⟩ ∈ fr_tbl := fr_in 569 (by decide +kernel) rfl
theorem msel_m_refuses : Cond.selects "FragileRulesModel" ⟨"FragileRulesModel", "refuses", "(I)Z"⟩ ⟨"FragileRulesModel", "refuses", "(I)Z"⟩ ∈ fr_tbl := fr_in 11 (by decide +kernel) rfl
theorem mc_m_refuses : Cond.code ⟨"FragileRulesModel", "refuses", "(I)Z"⟩ prog_6_method_8_code 4 (some FieldType.boolean) ∈ fr_tbl := fr_in 570 (by decide +kernel) rfl
theorem fl_M_28 : Cond.fieldLink "FragileRulesModel" 28 "FragileRulesModel" "refused" "[I" ∈ fr_tbl := fr_in 484 (by decide +kernel) rfl
theorem ml_M_81 : Cond.methodLink "FragileRulesModel" 81 ⟨"FragileRulesModel", "ask", "()I"⟩ ∈ fr_tbl := fr_in 559 (by decide +kernel) rfl
theorem mi_m_ask : Cond.instanceMethod ⟨"FragileRulesModel", "ask", "()I"⟩ ∈ fr_tbl := fr_in 561 (by decide +kernel) rfl
theorem msel_m_ask : Cond.selects "FragileRulesModel" ⟨"FragileRulesModel", "ask", "()I"⟩ ⟨"FragileRulesModel", "ask", "()I"⟩ ∈ fr_tbl := fr_in 9 (by decide +kernel) rfl
theorem mc_m_ask : Cond.code ⟨"FragileRulesModel", "ask", "()I"⟩ prog_6_method_9_code 3 (some FieldType.int) ∈ fr_tbl := fr_in 562 (by decide +kernel) rfl
theorem fl_M_85 : Cond.fieldLink "FragileRulesModel" 85 "FragileRulesModel" "verdicts" "I" ∈ fr_tbl := fr_in 475 (by decide +kernel) rfl
theorem fl_M_88 : Cond.fieldLink "FragileRulesModel" 88 "FragileRulesModel" "refusals" "I" ∈ fr_tbl := fr_in 476 (by decide +kernel) rfl
theorem ml_M_91 : Cond.methodLink "FragileRulesModel" 91 ⟨"FragileRulesModel", "within", "(III)Z"⟩ ∈ fr_tbl := fr_in 556 (by decide +kernel) rfl
theorem mst_m_within : Cond.static ⟨"FragileRulesModel", "within", "(III)Z"⟩ ∈ fr_tbl := fr_in 557 (by decide +kernel) rfl
theorem mc_m_within : Cond.code ⟨"FragileRulesModel", "within", "(III)Z"⟩ prog_6_method_3_code 3 (some FieldType.boolean) ∈ fr_tbl := fr_in 558 (by decide +kernel) rfl
theorem ml_M_95 : Cond.methodLink "FragileRulesModel" 95 ⟨"FragileRulesModel", "isMark", "(I)Z"⟩ ∈ fr_tbl := fr_in 582 (by decide +kernel) rfl
theorem mst_m_isMark : Cond.static ⟨"FragileRulesModel", "isMark", "(I)Z"⟩ ∈ fr_tbl := fr_in 583 (by decide +kernel) rfl
theorem mc_m_isMark : Cond.code ⟨"FragileRulesModel", "isMark", "(I)Z"⟩ prog_6_method_5_code 1 (some FieldType.boolean) ∈ fr_tbl := fr_in 584 (by decide +kernel) rfl
theorem ml_M_98 : Cond.methodLink "FragileRulesModel" 98 ⟨"FragileRulesModel", "isRule", "(III)Z"⟩ ∈ fr_tbl := fr_in 579 (by decide +kernel) rfl
theorem mst_m_isRule : Cond.static ⟨"FragileRulesModel", "isRule", "(III)Z"⟩ ∈ fr_tbl := fr_in 580 (by decide +kernel) rfl
theorem mc_m_isRule : Cond.code ⟨"FragileRulesModel", "isRule", "(III)Z"⟩ prog_6_method_13_code 4 (some FieldType.boolean) ∈ fr_tbl := fr_in 581 (by decide +kernel) rfl
theorem ml_M_101 : Cond.methodLink "FragileRulesModel" 101 ⟨"FragileRulesModel", "add", "(III)V"⟩ ∈ fr_tbl := fr_in 585 (by decide +kernel) rfl
theorem mi_m_add : Cond.instanceMethod ⟨"FragileRulesModel", "add", "(III)V"⟩ ∈ fr_tbl := fr_in 587 (by decide +kernel) rfl
theorem msel_m_add : Cond.selects "FragileRulesModel" ⟨"FragileRulesModel", "add", "(III)V"⟩ ⟨"FragileRulesModel", "add", "(III)V"⟩ ∈ fr_tbl := fr_in 13 (by decide +kernel) rfl
theorem mc_m_add : Cond.code ⟨"FragileRulesModel", "add", "(III)V"⟩ prog_6_method_12_code 4 (none : Option Jvm.ClassFile.FieldType) ∈ fr_tbl := fr_in 588 (by decide +kernel) rfl
theorem fl_M_105 : Cond.fieldLink "FragileRulesModel" 105 "FragileRulesModel" "signs" "I" ∈ fr_tbl := fr_in 474 (by decide +kernel) rfl
theorem fl_M_34 : Cond.fieldLink "FragileRulesModel" 34 "FragileRulesModel" "text" "[I" ∈ fr_tbl := fr_in 486 (by decide +kernel) rfl
theorem ml_M_139 : Cond.methodLink "FragileRulesModel" 139 ⟨"FragileRulesModel", "isUnit", "(I)Z"⟩ ∈ fr_tbl := fr_in 632 (by decide +kernel) rfl
theorem mi_m_isUnit : Cond.instanceMethod ⟨"FragileRulesModel", "isUnit", "(I)Z"⟩ ∈ fr_tbl := fr_in 634 (by decide +kernel) rfl
theorem msel_m_isUnit : Cond.selects "FragileRulesModel" ⟨"FragileRulesModel", "isUnit", "(I)Z"⟩ ⟨"FragileRulesModel", "isUnit", "(I)Z"⟩ ∈ fr_tbl := fr_in 20 (by decide +kernel) rfl
theorem mc_m_isUnit : Cond.code ⟨"FragileRulesModel", "isUnit", "(I)Z"⟩ prog_6_method_4_code 2 (some FieldType.boolean) ∈ fr_tbl := fr_in 635 (by decide +kernel) rfl
theorem ml_M_142 : Cond.methodLink "FragileRulesModel" 142 ⟨"FragileRulesModel", "verdict", "()I"⟩ ∈ fr_tbl := fr_in 636 (by decide +kernel) rfl
theorem mi_m_verdict : Cond.instanceMethod ⟨"FragileRulesModel", "verdict", "()I"⟩ ∈ fr_tbl := fr_in 638 (by decide +kernel) rfl
theorem msel_m_verdict : Cond.selects "FragileRulesModel" ⟨"FragileRulesModel", "verdict", "()I"⟩ ⟨"FragileRulesModel", "verdict", "()I"⟩ ∈ fr_tbl := fr_in 21 (by decide +kernel) rfl
theorem mc_m_verdict : Cond.code ⟨"FragileRulesModel", "verdict", "()I"⟩ prog_6_method_10_code 2 (some FieldType.int) ∈ fr_tbl := fr_in 639 (by decide +kernel) rfl
theorem ml_M_145 : Cond.methodLink "FragileRulesModel" 145 ⟨"FragileRulesModel", "isNumber", "(I)Z"⟩ ∈ fr_tbl := fr_in 660 (by decide +kernel) rfl
theorem mi_m_isNumber : Cond.instanceMethod ⟨"FragileRulesModel", "isNumber", "(I)Z"⟩ ∈ fr_tbl := fr_in 662 (by decide +kernel) rfl
theorem msel_m_isNumber : Cond.selects "FragileRulesModel" ⟨"FragileRulesModel", "isNumber", "(I)Z"⟩ ⟨"FragileRulesModel", "isNumber", "(I)Z"⟩ ∈ fr_tbl := fr_in 22 (by decide +kernel) rfl
theorem mc_m_isNumber : Cond.code ⟨"FragileRulesModel", "isNumber", "(I)Z"⟩ prog_6_method_31_code 2 (some FieldType.boolean) ∈ fr_tbl := fr_in 663 (by decide +kernel) rfl
theorem ml_M_148 : Cond.methodLink "FragileRulesModel" 148 ⟨"FragileRulesModel", "placeOf", "(I)I"⟩ ∈ fr_tbl := fr_in 664 (by decide +kernel) rfl
theorem mi_m_placeOf : Cond.instanceMethod ⟨"FragileRulesModel", "placeOf", "(I)I"⟩ ∈ fr_tbl := fr_in 666 (by decide +kernel) rfl
theorem msel_m_placeOf : Cond.selects "FragileRulesModel" ⟨"FragileRulesModel", "placeOf", "(I)I"⟩ ⟨"FragileRulesModel", "placeOf", "(I)I"⟩ ∈ fr_tbl := fr_in 23 (by decide +kernel) rfl
theorem mc_m_placeOf : Cond.code ⟨"FragileRulesModel", "placeOf", "(I)I"⟩ prog_6_method_30_code 3 (some FieldType.int) ∈ fr_tbl := fr_in 667 (by decide +kernel) rfl
theorem fl_M_108 : Cond.fieldLink "FragileRulesModel" 108 "FragileRulesModel" "p" "I" ∈ fr_tbl := fr_in 495 (by decide +kernel) rfl
theorem fl_M_111 : Cond.fieldLink "FragileRulesModel" 111 "FragileRulesModel" "bad" "I" ∈ fr_tbl := fr_in 496 (by decide +kernel) rfl
theorem ml_M_114 : Cond.methodLink "FragileRulesModel" 114 ⟨"FragileRulesModel", "look", "()I"⟩ ∈ fr_tbl := fr_in 609 (by decide +kernel) rfl
theorem mi_m_look : Cond.instanceMethod ⟨"FragileRulesModel", "look", "()I"⟩ ∈ fr_tbl := fr_in 611 (by decide +kernel) rfl
theorem msel_m_look : Cond.selects "FragileRulesModel" ⟨"FragileRulesModel", "look", "()I"⟩ ⟨"FragileRulesModel", "look", "()I"⟩ ∈ fr_tbl := fr_in 16 (by decide +kernel) rfl
theorem mc_m_look : Cond.code ⟨"FragileRulesModel", "look", "()I"⟩ prog_6_method_17_code 1 (some FieldType.int) ∈ fr_tbl := fr_in 612 (by decide +kernel) rfl
theorem ml_M_117 : Cond.methodLink "FragileRulesModel" 117 ⟨"FragileRulesModel", "fail", "()V"⟩ ∈ fr_tbl := fr_in 616 (by decide +kernel) rfl
theorem mi_m_fail : Cond.instanceMethod ⟨"FragileRulesModel", "fail", "()V"⟩ ∈ fr_tbl := fr_in 618 (by decide +kernel) rfl
theorem msel_m_fail : Cond.selects "FragileRulesModel" ⟨"FragileRulesModel", "fail", "()V"⟩ ⟨"FragileRulesModel", "fail", "()V"⟩ ∈ fr_tbl := fr_in 17 (by decide +kernel) rfl
theorem mc_m_fail : Cond.code ⟨"FragileRulesModel", "fail", "()V"⟩ prog_6_method_18_code 1 (none : Option Jvm.ClassFile.FieldType) ∈ fr_tbl := fr_in 619 (by decide +kernel) rfl
theorem ml_M_124 : Cond.methodLink "FragileRulesModel" 124 ⟨"FragileRulesModel", "take", "(I)V"⟩ ∈ fr_tbl := fr_in 620 (by decide +kernel) rfl
theorem mi_m_take : Cond.instanceMethod ⟨"FragileRulesModel", "take", "(I)V"⟩ ∈ fr_tbl := fr_in 622 (by decide +kernel) rfl
theorem msel_m_take : Cond.selects "FragileRulesModel" ⟨"FragileRulesModel", "take", "(I)V"⟩ ⟨"FragileRulesModel", "take", "(I)V"⟩ ∈ fr_tbl := fr_in 18 (by decide +kernel) rfl
theorem mc_m_take : Cond.code ⟨"FragileRulesModel", "take", "(I)V"⟩ prog_6_method_19_code 2 (none : Option Jvm.ClassFile.FieldType) ∈ fr_tbl := fr_in 623 (by decide +kernel) rfl
theorem ml_M_128 : Cond.methodLink "FragileRulesModel" 128 ⟨"FragileRulesModel", "digit", "(I)I"⟩ ∈ fr_tbl := fr_in 624 (by decide +kernel) rfl
theorem mi_m_digit : Cond.instanceMethod ⟨"FragileRulesModel", "digit", "(I)I"⟩ ∈ fr_tbl := fr_in 626 (by decide +kernel) rfl
theorem msel_m_digit : Cond.selects "FragileRulesModel" ⟨"FragileRulesModel", "digit", "(I)I"⟩ ⟨"FragileRulesModel", "digit", "(I)I"⟩ ∈ fr_tbl := fr_in 19 (by decide +kernel) rfl
theorem mc_m_digit : Cond.code ⟨"FragileRulesModel", "digit", "(I)I"⟩ prog_6_method_20_code 3 (some FieldType.int) ∈ fr_tbl := fr_in 627 (by decide +kernel) rfl
theorem ml_M_120 : Cond.methodLink "FragileRulesModel" 120 ⟨"FragileRulesModel", "rowOf", "(I)I"⟩ ∈ fr_tbl := fr_in 613 (by decide +kernel) rfl
theorem mst_m_rowOf : Cond.static ⟨"FragileRulesModel", "rowOf", "(I)I"⟩ ∈ fr_tbl := fr_in 614 (by decide +kernel) rfl
theorem mc_m_rowOf : Cond.code ⟨"FragileRulesModel", "rowOf", "(I)I"⟩ prog_6_method_21_code 1 (some FieldType.int) ∈ fr_tbl := fr_in 615 (by decide +kernel) rfl
theorem ml_M_131 : Cond.methodLink "FragileRulesModel" 131 ⟨"FragileRulesModel", "line", "(Z)V"⟩ ∈ fr_tbl := fr_in 605 (by decide +kernel) rfl
theorem mi_m_line : Cond.instanceMethod ⟨"FragileRulesModel", "line", "(Z)V"⟩ ∈ fr_tbl := fr_in 607 (by decide +kernel) rfl
theorem msel_m_line : Cond.selects "FragileRulesModel" ⟨"FragileRulesModel", "line", "(Z)V"⟩ ⟨"FragileRulesModel", "line", "(Z)V"⟩ ∈ fr_tbl := fr_in 15 (by decide +kernel) rfl
theorem mc_m_line : Cond.code ⟨"FragileRulesModel", "line", "(Z)V"⟩ prog_6_method_22_code 5 (none : Option Jvm.ClassFile.FieldType) ∈ fr_tbl := fr_in 608 (by decide +kernel) rfl
theorem ml_M_135 : Cond.methodLink "FragileRulesModel" 135 ⟨"FragileRulesModel", "go", "(Z)I"⟩ ∈ fr_tbl := fr_in 601 (by decide +kernel) rfl
theorem mi_m_go : Cond.instanceMethod ⟨"FragileRulesModel", "go", "(Z)I"⟩ ∈ fr_tbl := fr_in 603 (by decide +kernel) rfl
theorem msel_m_go : Cond.selects "FragileRulesModel" ⟨"FragileRulesModel", "go", "(Z)I"⟩ ⟨"FragileRulesModel", "go", "(Z)I"⟩ ∈ fr_tbl := fr_in 14 (by decide +kernel) rfl
theorem mc_m_go : Cond.code ⟨"FragileRulesModel", "go", "(Z)I"⟩ prog_6_method_23_code 3 (some FieldType.int) ∈ fr_tbl := fr_in 604 (by decide +kernel) rfl
theorem gf_M_40 {p : Program} {l : Launch} {e : Env} {R : Room} {s : State} {m : MethodId} {args : Array Value} {below : List Frame} {meth : Method} {c : Code} {H : Heap} {locs : List Loc} {cells slots : Nat} {Q : State → Prop} {D : va_G} {A : Nat → Prop} {cc : ByteArray} {nL pc : Nat} {ret : Option FieldType} {hh : List ExceptionTableEntry} {ls : Array Slot} {rest : List Value} {ka : Nat → ClassId} {al : Nat → Nat} {f : Nat → Nat → Int32} {Z : va_W} (C : fr_Cx p s m args meth c "FragileRulesModel" cc nL ret hh fr_tbl fr_nw D vwCl (fr_ty ka) A) (hP : va_P D vwCl (fr_mw ka al f Z) H) (hdg : decode cc pc = .ok (.getfield 40, 3)) (kk : W p l e R s m args below meth c H locs cells slots Q (F0 m (pc + 3) ls (.int (f 0 5) :: rest))) : W p l e R s m args below meth c H locs cells slots Q (F0 m pc ls (.ref (al 0) :: rest)) :=
  va_get (D := D) (ci := 4) (v := .int (f 0 5)) (C := "FragileRulesModel") (T := TXM) (N := 25) C.1 C.2.1 C.2.2.2.2.1 iXM C.2.2.2.1 C.2.2.2.2.2.1 hP 0 rfl rfl 5 (by decide) (C.2.2.2.2.1 _ fl_M_40) (fun _ h9 => h9) rfl hdg kk
theorem gf_M_44 {p : Program} {l : Launch} {e : Env} {R : Room} {s : State} {m : MethodId} {args : Array Value} {below : List Frame} {meth : Method} {c : Code} {H : Heap} {locs : List Loc} {cells slots : Nat} {Q : State → Prop} {D : va_G} {A : Nat → Prop} {cc : ByteArray} {nL pc : Nat} {ret : Option FieldType} {hh : List ExceptionTableEntry} {ls : Array Slot} {rest : List Value} {ka : Nat → ClassId} {al : Nat → Nat} {f : Nat → Nat → Int32} {Z : va_W} (C : fr_Cx p s m args meth c "FragileRulesModel" cc nL ret hh fr_tbl fr_nw D vwCl (fr_ty ka) A) (hP : va_P D vwCl (fr_mw ka al f Z) H) (hdg : decode cc pc = .ok (.getfield 44, 3)) (kk : W p l e R s m args below meth c H locs cells slots Q (F0 m (pc + 3) ls (.int (f 0 0) :: rest))) : W p l e R s m args below meth c H locs cells slots Q (F0 m pc ls (.ref (al 0) :: rest)) :=
  va_get (D := D) (ci := 4) (v := .int (f 0 0)) (C := "FragileRulesModel") (T := TXM) (N := 25) C.1 C.2.1 C.2.2.2.2.1 iXM C.2.2.2.1 C.2.2.2.2.2.1 hP 0 rfl rfl 0 (by decide) (C.2.2.2.2.1 _ fl_M_44) (fun _ h9 => h9) rfl hdg kk
theorem gf_M_19 {p : Program} {l : Launch} {e : Env} {R : Room} {s : State} {m : MethodId} {args : Array Value} {below : List Frame} {meth : Method} {c : Code} {H : Heap} {locs : List Loc} {cells slots : Nat} {Q : State → Prop} {D : va_G} {A : Nat → Prop} {cc : ByteArray} {nL pc : Nat} {ret : Option FieldType} {hh : List ExceptionTableEntry} {ls : Array Slot} {rest : List Value} {ka : Nat → ClassId} {al : Nat → Nat} {f : Nat → Nat → Int32} {Z : va_W} (C : fr_Cx p s m args meth c "FragileRulesModel" cc nL ret hh fr_tbl fr_nw D vwCl (fr_ty ka) A) (hP : va_P D vwCl (fr_mw ka al f Z) H) (hdg : decode cc pc = .ok (.getfield 19, 3)) (kk : W p l e R s m args below meth c H locs cells slots Q (F0 m (pc + 3) ls (.ref (al 4) :: rest))) : W p l e R s m args below meth c H locs cells slots Q (F0 m pc ls (.ref (al 0) :: rest)) :=
  va_get (D := D) (ci := 4) (v := .ref (al 4)) (C := "FragileRulesModel") (T := TXM) (N := 25) C.1 C.2.1 C.2.2.2.2.1 iXM C.2.2.2.1 C.2.2.2.2.2.1 hP 0 rfl rfl 9 (by decide) (C.2.2.2.2.1 _ fl_M_19) (fun _ h9 => h9) rfl hdg kk
theorem mald_4 {p : Program} {l : Launch} {e : Env} {R : Room} {s : State} {m : MethodId} {args : Array Value} {below : List Frame} {meth : Method} {c : Code} {H : Heap} {locs : List Loc} {cells slots : Nat} {Q : State → Prop} {D : va_G} {A : Nat → Prop} {cc : ByteArray} {nL pc : Nat} {ret : Option FieldType} {hh : List ExceptionTableEntry} {ls : Array Slot} {rest : List Value} {ka : Nat → ClassId} {al : Nat → Nat} {f : Nat → Nat → Int32} {Z : va_W} {own : String} {x : Int32} (C : fr_Cx p s m args meth c own cc nL ret hh fr_tbl fr_nw D vwCl (fr_ty ka) A) (hP : va_P D vwCl (fr_mw ka al f Z) H) (hin : vp_in x 12) (hdg : decode cc pc = .ok (.iaload, 1)) (kk : W p l e R s m args below meth c H locs cells slots Q (F0 m (pc + 1) ls (.int (f 4 x.toNatClampNeg) :: rest))) : W p l e R s m args below meth c H locs cells slots Q (F0 m pc ls (.int x :: .ref (al 4) :: rest)) :=
  va_iald (D := D) C.1 C.2.1 C.2.2.2.2.2.1 hP 4 2 (f := fun j => f 4 j) rfl rfl hin hdg kk
theorem gf_M_47 {p : Program} {l : Launch} {e : Env} {R : Room} {s : State} {m : MethodId} {args : Array Value} {below : List Frame} {meth : Method} {c : Code} {H : Heap} {locs : List Loc} {cells slots : Nat} {Q : State → Prop} {D : va_G} {A : Nat → Prop} {cc : ByteArray} {nL pc : Nat} {ret : Option FieldType} {hh : List ExceptionTableEntry} {ls : Array Slot} {rest : List Value} {ka : Nat → ClassId} {al : Nat → Nat} {f : Nat → Nat → Int32} {Z : va_W} (C : fr_Cx p s m args meth c "FragileRulesModel" cc nL ret hh fr_tbl fr_nw D vwCl (fr_ty ka) A) (hP : va_P D vwCl (fr_mw ka al f Z) H) (hdg : decode cc pc = .ok (.getfield 47, 3)) (kk : W p l e R s m args below meth c H locs cells slots Q (F0 m (pc + 3) ls (.int (f 0 7) :: rest))) : W p l e R s m args below meth c H locs cells slots Q (F0 m pc ls (.ref (al 0) :: rest)) :=
  va_get (D := D) (ci := 4) (v := .int (f 0 7)) (C := "FragileRulesModel") (T := TXM) (N := 25) C.1 C.2.1 C.2.2.2.2.1 iXM C.2.2.2.1 C.2.2.2.2.2.1 hP 0 rfl rfl 17 (by decide) (C.2.2.2.2.1 _ fl_M_47) (fun _ h9 => h9) rfl hdg kk
theorem gf_M_22 {p : Program} {l : Launch} {e : Env} {R : Room} {s : State} {m : MethodId} {args : Array Value} {below : List Frame} {meth : Method} {c : Code} {H : Heap} {locs : List Loc} {cells slots : Nat} {Q : State → Prop} {D : va_G} {A : Nat → Prop} {cc : ByteArray} {nL pc : Nat} {ret : Option FieldType} {hh : List ExceptionTableEntry} {ls : Array Slot} {rest : List Value} {ka : Nat → ClassId} {al : Nat → Nat} {f : Nat → Nat → Int32} {Z : va_W} (C : fr_Cx p s m args meth c "FragileRulesModel" cc nL ret hh fr_tbl fr_nw D vwCl (fr_ty ka) A) (hP : va_P D vwCl (fr_mw ka al f Z) H) (hdg : decode cc pc = .ok (.getfield 22, 3)) (kk : W p l e R s m args below meth c H locs cells slots Q (F0 m (pc + 3) ls (.ref (al 5) :: rest))) : W p l e R s m args below meth c H locs cells slots Q (F0 m pc ls (.ref (al 0) :: rest)) :=
  va_get (D := D) (ci := 4) (v := .ref (al 5)) (C := "FragileRulesModel") (T := TXM) (N := 25) C.1 C.2.1 C.2.2.2.2.1 iXM C.2.2.2.1 C.2.2.2.2.2.1 hP 0 rfl rfl 10 (by decide) (C.2.2.2.2.1 _ fl_M_22) (fun _ h9 => h9) rfl hdg kk
theorem mald_5 {p : Program} {l : Launch} {e : Env} {R : Room} {s : State} {m : MethodId} {args : Array Value} {below : List Frame} {meth : Method} {c : Code} {H : Heap} {locs : List Loc} {cells slots : Nat} {Q : State → Prop} {D : va_G} {A : Nat → Prop} {cc : ByteArray} {nL pc : Nat} {ret : Option FieldType} {hh : List ExceptionTableEntry} {ls : Array Slot} {rest : List Value} {ka : Nat → ClassId} {al : Nat → Nat} {f : Nat → Nat → Int32} {Z : va_W} {own : String} {x : Int32} (C : fr_Cx p s m args meth c own cc nL ret hh fr_tbl fr_nw D vwCl (fr_ty ka) A) (hP : va_P D vwCl (fr_mw ka al f Z) H) (hin : vp_in x 12) (hdg : decode cc pc = .ok (.iaload, 1)) (kk : W p l e R s m args below meth c H locs cells slots Q (F0 m (pc + 1) ls (.int (f 5 x.toNatClampNeg) :: rest))) : W p l e R s m args below meth c H locs cells slots Q (F0 m pc ls (.int x :: .ref (al 5) :: rest)) :=
  va_iald (D := D) C.1 C.2.1 C.2.2.2.2.2.1 hP 5 2 (f := fun j => f 5 j) rfl rfl hin hdg kk
theorem gf_M_25 {p : Program} {l : Launch} {e : Env} {R : Room} {s : State} {m : MethodId} {args : Array Value} {below : List Frame} {meth : Method} {c : Code} {H : Heap} {locs : List Loc} {cells slots : Nat} {Q : State → Prop} {D : va_G} {A : Nat → Prop} {cc : ByteArray} {nL pc : Nat} {ret : Option FieldType} {hh : List ExceptionTableEntry} {ls : Array Slot} {rest : List Value} {ka : Nat → ClassId} {al : Nat → Nat} {f : Nat → Nat → Int32} {Z : va_W} (C : fr_Cx p s m args meth c "FragileRulesModel" cc nL ret hh fr_tbl fr_nw D vwCl (fr_ty ka) A) (hP : va_P D vwCl (fr_mw ka al f Z) H) (hdg : decode cc pc = .ok (.getfield 25, 3)) (kk : W p l e R s m args below meth c H locs cells slots Q (F0 m (pc + 3) ls (.ref (al 6) :: rest))) : W p l e R s m args below meth c H locs cells slots Q (F0 m pc ls (.ref (al 0) :: rest)) :=
  va_get (D := D) (ci := 4) (v := .ref (al 6)) (C := "FragileRulesModel") (T := TXM) (N := 25) C.1 C.2.1 C.2.2.2.2.1 iXM C.2.2.2.1 C.2.2.2.2.2.1 hP 0 rfl rfl 11 (by decide) (C.2.2.2.2.1 _ fl_M_25) (fun _ h9 => h9) rfl hdg kk
theorem mald_6 {p : Program} {l : Launch} {e : Env} {R : Room} {s : State} {m : MethodId} {args : Array Value} {below : List Frame} {meth : Method} {c : Code} {H : Heap} {locs : List Loc} {cells slots : Nat} {Q : State → Prop} {D : va_G} {A : Nat → Prop} {cc : ByteArray} {nL pc : Nat} {ret : Option FieldType} {hh : List ExceptionTableEntry} {ls : Array Slot} {rest : List Value} {ka : Nat → ClassId} {al : Nat → Nat} {f : Nat → Nat → Int32} {Z : va_W} {own : String} {x : Int32} (C : fr_Cx p s m args meth c own cc nL ret hh fr_tbl fr_nw D vwCl (fr_ty ka) A) (hP : va_P D vwCl (fr_mw ka al f Z) H) (hin : vp_in x 12) (hdg : decode cc pc = .ok (.iaload, 1)) (kk : W p l e R s m args below meth c H locs cells slots Q (F0 m (pc + 1) ls (.int (f 6 x.toNatClampNeg) :: rest))) : W p l e R s m args below meth c H locs cells slots Q (F0 m pc ls (.int x :: .ref (al 6) :: rest)) :=
  va_iald (D := D) C.1 C.2.1 C.2.2.2.2.2.1 hP 6 2 (f := fun j => f 6 j) rfl rfl hin hdg kk
theorem gf_M_7 {p : Program} {l : Launch} {e : Env} {R : Room} {s : State} {m : MethodId} {args : Array Value} {below : List Frame} {meth : Method} {c : Code} {H : Heap} {locs : List Loc} {cells slots : Nat} {Q : State → Prop} {D : va_G} {A : Nat → Prop} {cc : ByteArray} {nL pc : Nat} {ret : Option FieldType} {hh : List ExceptionTableEntry} {ls : Array Slot} {rest : List Value} {ka : Nat → ClassId} {al : Nat → Nat} {f : Nat → Nat → Int32} {Z : va_W} (C : fr_Cx p s m args meth c "FragileRulesModel" cc nL ret hh fr_tbl fr_nw D vwCl (fr_ty ka) A) (hP : va_P D vwCl (fr_mw ka al f Z) H) (hdg : decode cc pc = .ok (.getfield 7, 3)) (kk : W p l e R s m args below meth c H locs cells slots Q (F0 m (pc + 3) ls (.ref (al 1) :: rest))) : W p l e R s m args below meth c H locs cells slots Q (F0 m pc ls (.ref (al 0) :: rest)) :=
  va_get (D := D) (ci := 4) (v := .ref (al 1)) (C := "FragileRulesModel") (T := TXM) (N := 25) C.1 C.2.1 C.2.2.2.2.1 iXM C.2.2.2.1 C.2.2.2.2.2.1 hP 0 rfl rfl 6 (by decide) (C.2.2.2.2.1 _ fl_M_7) (fun _ h9 => h9) rfl hdg kk
theorem gf_M_50 {p : Program} {l : Launch} {e : Env} {R : Room} {s : State} {m : MethodId} {args : Array Value} {below : List Frame} {meth : Method} {c : Code} {H : Heap} {locs : List Loc} {cells slots : Nat} {Q : State → Prop} {D : va_G} {A : Nat → Prop} {cc : ByteArray} {nL pc : Nat} {ret : Option FieldType} {hh : List ExceptionTableEntry} {ls : Array Slot} {rest : List Value} {ka : Nat → ClassId} {al : Nat → Nat} {f : Nat → Nat → Int32} {Z : va_W} (C : fr_Cx p s m args meth c "FragileRulesModel" cc nL ret hh fr_tbl fr_nw D vwCl (fr_ty ka) A) (hP : va_P D vwCl (fr_mw ka al f Z) H) (hdg : decode cc pc = .ok (.getfield 50, 3)) (kk : W p l e R s m args below meth c H locs cells slots Q (F0 m (pc + 3) ls (.int (f 0 8) :: rest))) : W p l e R s m args below meth c H locs cells slots Q (F0 m pc ls (.ref (al 0) :: rest)) :=
  va_get (D := D) (ci := 4) (v := .int (f 0 8)) (C := "FragileRulesModel") (T := TXM) (N := 25) C.1 C.2.1 C.2.2.2.2.1 iXM C.2.2.2.1 C.2.2.2.2.2.1 hP 0 rfl rfl 18 (by decide) (C.2.2.2.2.1 _ fl_M_50) (fun _ h9 => h9) rfl hdg kk
theorem mald_1 {p : Program} {l : Launch} {e : Env} {R : Room} {s : State} {m : MethodId} {args : Array Value} {below : List Frame} {meth : Method} {c : Code} {H : Heap} {locs : List Loc} {cells slots : Nat} {Q : State → Prop} {D : va_G} {A : Nat → Prop} {cc : ByteArray} {nL pc : Nat} {ret : Option FieldType} {hh : List ExceptionTableEntry} {ls : Array Slot} {rest : List Value} {ka : Nat → ClassId} {al : Nat → Nat} {f : Nat → Nat → Int32} {Z : va_W} {own : String} {x : Int32} (C : fr_Cx p s m args meth c own cc nL ret hh fr_tbl fr_nw D vwCl (fr_ty ka) A) (hP : va_P D vwCl (fr_mw ka al f Z) H) (hin : vp_in x 10) (hdg : decode cc pc = .ok (.iaload, 1)) (kk : W p l e R s m args below meth c H locs cells slots Q (F0 m (pc + 1) ls (.int (f 1 x.toNatClampNeg) :: rest))) : W p l e R s m args below meth c H locs cells slots Q (F0 m pc ls (.int x :: .ref (al 1) :: rest)) :=
  va_iald (D := D) C.1 C.2.1 C.2.2.2.2.2.1 hP 1 2 (f := fun j => f 1 j) rfl rfl hin hdg kk
theorem gf_M_53 {p : Program} {l : Launch} {e : Env} {R : Room} {s : State} {m : MethodId} {args : Array Value} {below : List Frame} {meth : Method} {c : Code} {H : Heap} {locs : List Loc} {cells slots : Nat} {Q : State → Prop} {D : va_G} {A : Nat → Prop} {cc : ByteArray} {nL pc : Nat} {ret : Option FieldType} {hh : List ExceptionTableEntry} {ls : Array Slot} {rest : List Value} {ka : Nat → ClassId} {al : Nat → Nat} {f : Nat → Nat → Int32} {Z : va_W} (C : fr_Cx p s m args meth c "FragileRulesModel" cc nL ret hh fr_tbl fr_nw D vwCl (fr_ty ka) A) (hP : va_P D vwCl (fr_mw ka al f Z) H) (hdg : decode cc pc = .ok (.getfield 53, 3)) (kk : W p l e R s m args below meth c H locs cells slots Q (F0 m (pc + 3) ls (.int (f 0 9) :: rest))) : W p l e R s m args below meth c H locs cells slots Q (F0 m pc ls (.ref (al 0) :: rest)) :=
  va_get (D := D) (ci := 4) (v := .int (f 0 9)) (C := "FragileRulesModel") (T := TXM) (N := 25) C.1 C.2.1 C.2.2.2.2.1 iXM C.2.2.2.1 C.2.2.2.2.2.1 hP 0 rfl rfl 19 (by decide) (C.2.2.2.2.1 _ fl_M_53) (fun _ h9 => h9) rfl hdg kk
theorem gf_M_16 {p : Program} {l : Launch} {e : Env} {R : Room} {s : State} {m : MethodId} {args : Array Value} {below : List Frame} {meth : Method} {c : Code} {H : Heap} {locs : List Loc} {cells slots : Nat} {Q : State → Prop} {D : va_G} {A : Nat → Prop} {cc : ByteArray} {nL pc : Nat} {ret : Option FieldType} {hh : List ExceptionTableEntry} {ls : Array Slot} {rest : List Value} {ka : Nat → ClassId} {al : Nat → Nat} {f : Nat → Nat → Int32} {Z : va_W} (C : fr_Cx p s m args meth c "FragileRulesModel" cc nL ret hh fr_tbl fr_nw D vwCl (fr_ty ka) A) (hP : va_P D vwCl (fr_mw ka al f Z) H) (hdg : decode cc pc = .ok (.getfield 16, 3)) (kk : W p l e R s m args below meth c H locs cells slots Q (F0 m (pc + 3) ls (.ref (al 3) :: rest))) : W p l e R s m args below meth c H locs cells slots Q (F0 m pc ls (.ref (al 0) :: rest)) :=
  va_get (D := D) (ci := 4) (v := .ref (al 3)) (C := "FragileRulesModel") (T := TXM) (N := 25) C.1 C.2.1 C.2.2.2.2.1 iXM C.2.2.2.1 C.2.2.2.2.2.1 hP 0 rfl rfl 8 (by decide) (C.2.2.2.2.1 _ fl_M_16) (fun _ h9 => h9) rfl hdg kk
theorem mald_3 {p : Program} {l : Launch} {e : Env} {R : Room} {s : State} {m : MethodId} {args : Array Value} {below : List Frame} {meth : Method} {c : Code} {H : Heap} {locs : List Loc} {cells slots : Nat} {Q : State → Prop} {D : va_G} {A : Nat → Prop} {cc : ByteArray} {nL pc : Nat} {ret : Option FieldType} {hh : List ExceptionTableEntry} {ls : Array Slot} {rest : List Value} {ka : Nat → ClassId} {al : Nat → Nat} {f : Nat → Nat → Int32} {Z : va_W} {own : String} {x : Int32} (C : fr_Cx p s m args meth c own cc nL ret hh fr_tbl fr_nw D vwCl (fr_ty ka) A) (hP : va_P D vwCl (fr_mw ka al f Z) H) (hin : vp_in x 10) (hdg : decode cc pc = .ok (.iaload, 1)) (kk : W p l e R s m args below meth c H locs cells slots Q (F0 m (pc + 1) ls (.int (f 3 x.toNatClampNeg) :: rest))) : W p l e R s m args below meth c H locs cells slots Q (F0 m pc ls (.int x :: .ref (al 3) :: rest)) :=
  va_iald (D := D) C.1 C.2.1 C.2.2.2.2.2.1 hP 3 2 (f := fun j => f 3 j) rfl rfl hin hdg kk
theorem gf_M_56 {p : Program} {l : Launch} {e : Env} {R : Room} {s : State} {m : MethodId} {args : Array Value} {below : List Frame} {meth : Method} {c : Code} {H : Heap} {locs : List Loc} {cells slots : Nat} {Q : State → Prop} {D : va_G} {A : Nat → Prop} {cc : ByteArray} {nL pc : Nat} {ret : Option FieldType} {hh : List ExceptionTableEntry} {ls : Array Slot} {rest : List Value} {ka : Nat → ClassId} {al : Nat → Nat} {f : Nat → Nat → Int32} {Z : va_W} (C : fr_Cx p s m args meth c "FragileRulesModel" cc nL ret hh fr_tbl fr_nw D vwCl (fr_ty ka) A) (hP : va_P D vwCl (fr_mw ka al f Z) H) (hdg : decode cc pc = .ok (.getfield 56, 3)) (kk : W p l e R s m args below meth c H locs cells slots Q (F0 m (pc + 3) ls (.int (f 0 10) :: rest))) : W p l e R s m args below meth c H locs cells slots Q (F0 m pc ls (.ref (al 0) :: rest)) :=
  va_get (D := D) (ci := 4) (v := .int (f 0 10)) (C := "FragileRulesModel") (T := TXM) (N := 25) C.1 C.2.1 C.2.2.2.2.1 iXM C.2.2.2.1 C.2.2.2.2.2.1 hP 0 rfl rfl 20 (by decide) (C.2.2.2.2.1 _ fl_M_56) (fun _ h9 => h9) rfl hdg kk
theorem gf_M_13 {p : Program} {l : Launch} {e : Env} {R : Room} {s : State} {m : MethodId} {args : Array Value} {below : List Frame} {meth : Method} {c : Code} {H : Heap} {locs : List Loc} {cells slots : Nat} {Q : State → Prop} {D : va_G} {A : Nat → Prop} {cc : ByteArray} {nL pc : Nat} {ret : Option FieldType} {hh : List ExceptionTableEntry} {ls : Array Slot} {rest : List Value} {ka : Nat → ClassId} {al : Nat → Nat} {f : Nat → Nat → Int32} {Z : va_W} (C : fr_Cx p s m args meth c "FragileRulesModel" cc nL ret hh fr_tbl fr_nw D vwCl (fr_ty ka) A) (hP : va_P D vwCl (fr_mw ka al f Z) H) (hdg : decode cc pc = .ok (.getfield 13, 3)) (kk : W p l e R s m args below meth c H locs cells slots Q (F0 m (pc + 3) ls (.ref (al 2) :: rest))) : W p l e R s m args below meth c H locs cells slots Q (F0 m pc ls (.ref (al 0) :: rest)) :=
  va_get (D := D) (ci := 4) (v := .ref (al 2)) (C := "FragileRulesModel") (T := TXM) (N := 25) C.1 C.2.1 C.2.2.2.2.1 iXM C.2.2.2.1 C.2.2.2.2.2.1 hP 0 rfl rfl 7 (by decide) (C.2.2.2.2.1 _ fl_M_13) (fun _ h9 => h9) rfl hdg kk
theorem mald_2 {p : Program} {l : Launch} {e : Env} {R : Room} {s : State} {m : MethodId} {args : Array Value} {below : List Frame} {meth : Method} {c : Code} {H : Heap} {locs : List Loc} {cells slots : Nat} {Q : State → Prop} {D : va_G} {A : Nat → Prop} {cc : ByteArray} {nL pc : Nat} {ret : Option FieldType} {hh : List ExceptionTableEntry} {ls : Array Slot} {rest : List Value} {ka : Nat → ClassId} {al : Nat → Nat} {f : Nat → Nat → Int32} {Z : va_W} {own : String} {x : Int32} (C : fr_Cx p s m args meth c own cc nL ret hh fr_tbl fr_nw D vwCl (fr_ty ka) A) (hP : va_P D vwCl (fr_mw ka al f Z) H) (hin : vp_in x 10) (hdg : decode cc pc = .ok (.iaload, 1)) (kk : W p l e R s m args below meth c H locs cells slots Q (F0 m (pc + 1) ls (.int (f 2 x.toNatClampNeg) :: rest))) : W p l e R s m args below meth c H locs cells slots Q (F0 m pc ls (.int x :: .ref (al 2) :: rest)) :=
  va_iald (D := D) C.1 C.2.1 C.2.2.2.2.2.1 hP 2 2 (f := fun j => f 2 j) rfl rfl hin hdg kk
theorem gf_M_59 {p : Program} {l : Launch} {e : Env} {R : Room} {s : State} {m : MethodId} {args : Array Value} {below : List Frame} {meth : Method} {c : Code} {H : Heap} {locs : List Loc} {cells slots : Nat} {Q : State → Prop} {D : va_G} {A : Nat → Prop} {cc : ByteArray} {nL pc : Nat} {ret : Option FieldType} {hh : List ExceptionTableEntry} {ls : Array Slot} {rest : List Value} {ka : Nat → ClassId} {al : Nat → Nat} {f : Nat → Nat → Int32} {Z : va_W} (C : fr_Cx p s m args meth c "FragileRulesModel" cc nL ret hh fr_tbl fr_nw D vwCl (fr_ty ka) A) (hP : va_P D vwCl (fr_mw ka al f Z) H) (hdg : decode cc pc = .ok (.getfield 59, 3)) (kk : W p l e R s m args below meth c H locs cells slots Q (F0 m (pc + 3) ls (.int (f 0 11) :: rest))) : W p l e R s m args below meth c H locs cells slots Q (F0 m pc ls (.ref (al 0) :: rest)) :=
  va_get (D := D) (ci := 4) (v := .int (f 0 11)) (C := "FragileRulesModel") (T := TXM) (N := 25) C.1 C.2.1 C.2.2.2.2.1 iXM C.2.2.2.1 C.2.2.2.2.2.1 hP 0 rfl rfl 21 (by decide) (C.2.2.2.2.1 _ fl_M_59) (fun _ h9 => h9) rfl hdg kk
theorem gf_M_62 {p : Program} {l : Launch} {e : Env} {R : Room} {s : State} {m : MethodId} {args : Array Value} {below : List Frame} {meth : Method} {c : Code} {H : Heap} {locs : List Loc} {cells slots : Nat} {Q : State → Prop} {D : va_G} {A : Nat → Prop} {cc : ByteArray} {nL pc : Nat} {ret : Option FieldType} {hh : List ExceptionTableEntry} {ls : Array Slot} {rest : List Value} {ka : Nat → ClassId} {al : Nat → Nat} {f : Nat → Nat → Int32} {Z : va_W} (C : fr_Cx p s m args meth c "FragileRulesModel" cc nL ret hh fr_tbl fr_nw D vwCl (fr_ty ka) A) (hP : va_P D vwCl (fr_mw ka al f Z) H) (hdg : decode cc pc = .ok (.getfield 62, 3)) (kk : W p l e R s m args below meth c H locs cells slots Q (F0 m (pc + 3) ls (.int (f 0 12) :: rest))) : W p l e R s m args below meth c H locs cells slots Q (F0 m pc ls (.ref (al 0) :: rest)) :=
  va_get (D := D) (ci := 4) (v := .int (f 0 12)) (C := "FragileRulesModel") (T := TXM) (N := 25) C.1 C.2.1 C.2.2.2.2.1 iXM C.2.2.2.1 C.2.2.2.2.2.1 hP 0 rfl rfl 22 (by decide) (C.2.2.2.2.1 _ fl_M_62) (fun _ h9 => h9) rfl hdg kk
theorem gf_M_72 {p : Program} {l : Launch} {e : Env} {R : Room} {s : State} {m : MethodId} {args : Array Value} {below : List Frame} {meth : Method} {c : Code} {H : Heap} {locs : List Loc} {cells slots : Nat} {Q : State → Prop} {D : va_G} {A : Nat → Prop} {cc : ByteArray} {nL pc : Nat} {ret : Option FieldType} {hh : List ExceptionTableEntry} {ls : Array Slot} {rest : List Value} {ka : Nat → ClassId} {al : Nat → Nat} {f : Nat → Nat → Int32} {Z : va_W} (C : fr_Cx p s m args meth c "FragileRulesModel" cc nL ret hh fr_tbl fr_nw D vwCl (fr_ty ka) A) (hP : va_P D vwCl (fr_mw ka al f Z) H) (hdg : decode cc pc = .ok (.getfield 72, 3)) (kk : W p l e R s m args below meth c H locs cells slots Q (F0 m (pc + 3) ls (.int (f 0 1) :: rest))) : W p l e R s m args below meth c H locs cells slots Q (F0 m pc ls (.ref (al 0) :: rest)) :=
  va_get (D := D) (ci := 4) (v := .int (f 0 1)) (C := "FragileRulesModel") (T := TXM) (N := 25) C.1 C.2.1 C.2.2.2.2.1 iXM C.2.2.2.1 C.2.2.2.2.2.1 hP 0 rfl rfl 1 (by decide) (C.2.2.2.2.1 _ fl_M_72) (fun _ h9 => h9) rfl hdg kk
theorem gf_M_31 {p : Program} {l : Launch} {e : Env} {R : Room} {s : State} {m : MethodId} {args : Array Value} {below : List Frame} {meth : Method} {c : Code} {H : Heap} {locs : List Loc} {cells slots : Nat} {Q : State → Prop} {D : va_G} {A : Nat → Prop} {cc : ByteArray} {nL pc : Nat} {ret : Option FieldType} {hh : List ExceptionTableEntry} {ls : Array Slot} {rest : List Value} {ka : Nat → ClassId} {al : Nat → Nat} {f : Nat → Nat → Int32} {Z : va_W} (C : fr_Cx p s m args meth c "FragileRulesModel" cc nL ret hh fr_tbl fr_nw D vwCl (fr_ty ka) A) (hP : va_P D vwCl (fr_mw ka al f Z) H) (hdg : decode cc pc = .ok (.getfield 31, 3)) (kk : W p l e R s m args below meth c H locs cells slots Q (F0 m (pc + 3) ls (.ref (al 8) :: rest))) : W p l e R s m args below meth c H locs cells slots Q (F0 m pc ls (.ref (al 0) :: rest)) :=
  va_get (D := D) (ci := 4) (v := .ref (al 8)) (C := "FragileRulesModel") (T := TXM) (N := 25) C.1 C.2.1 C.2.2.2.2.1 iXM C.2.2.2.1 C.2.2.2.2.2.1 hP 0 rfl rfl 13 (by decide) (C.2.2.2.2.1 _ fl_M_31) (fun _ h9 => h9) rfl hdg kk
theorem mald_8 {p : Program} {l : Launch} {e : Env} {R : Room} {s : State} {m : MethodId} {args : Array Value} {below : List Frame} {meth : Method} {c : Code} {H : Heap} {locs : List Loc} {cells slots : Nat} {Q : State → Prop} {D : va_G} {A : Nat → Prop} {cc : ByteArray} {nL pc : Nat} {ret : Option FieldType} {hh : List ExceptionTableEntry} {ls : Array Slot} {rest : List Value} {ka : Nat → ClassId} {al : Nat → Nat} {f : Nat → Nat → Int32} {Z : va_W} {own : String} {x : Int32} (C : fr_Cx p s m args meth c own cc nL ret hh fr_tbl fr_nw D vwCl (fr_ty ka) A) (hP : va_P D vwCl (fr_mw ka al f Z) H) (hin : vp_in x 12) (hdg : decode cc pc = .ok (.iaload, 1)) (kk : W p l e R s m args below meth c H locs cells slots Q (F0 m (pc + 1) ls (.int (f 8 x.toNatClampNeg) :: rest))) : W p l e R s m args below meth c H locs cells slots Q (F0 m pc ls (.int x :: .ref (al 8) :: rest)) :=
  va_iald (D := D) C.1 C.2.1 C.2.2.2.2.2.1 hP 8 2 (f := fun j => f 8 j) rfl rfl hin hdg kk
theorem gf_M_37 {p : Program} {l : Launch} {e : Env} {R : Room} {s : State} {m : MethodId} {args : Array Value} {below : List Frame} {meth : Method} {c : Code} {H : Heap} {locs : List Loc} {cells slots : Nat} {Q : State → Prop} {D : va_G} {A : Nat → Prop} {cc : ByteArray} {nL pc : Nat} {ret : Option FieldType} {hh : List ExceptionTableEntry} {ls : Array Slot} {rest : List Value} {ka : Nat → ClassId} {al : Nat → Nat} {f : Nat → Nat → Int32} {Z : va_W} (C : fr_Cx p s m args meth c "FragileRulesModel" cc nL ret hh fr_tbl fr_nw D vwCl (fr_ty ka) A) (hP : va_P D vwCl (fr_mw ka al f Z) H) (hdg : decode cc pc = .ok (.getfield 37, 3)) (kk : W p l e R s m args below meth c H locs cells slots Q (F0 m (pc + 3) ls (.ref (al 10) :: rest))) : W p l e R s m args below meth c H locs cells slots Q (F0 m pc ls (.ref (al 0) :: rest)) :=
  va_get (D := D) (ci := 4) (v := .ref (al 10)) (C := "FragileRulesModel") (T := TXM) (N := 25) C.1 C.2.1 C.2.2.2.2.1 iXM C.2.2.2.1 C.2.2.2.2.2.1 hP 0 rfl rfl 15 (by decide) (C.2.2.2.2.1 _ fl_M_37) (fun _ h9 => h9) rfl hdg kk
theorem gf_M_69 {p : Program} {l : Launch} {e : Env} {R : Room} {s : State} {m : MethodId} {args : Array Value} {below : List Frame} {meth : Method} {c : Code} {H : Heap} {locs : List Loc} {cells slots : Nat} {Q : State → Prop} {D : va_G} {A : Nat → Prop} {cc : ByteArray} {nL pc : Nat} {ret : Option FieldType} {hh : List ExceptionTableEntry} {ls : Array Slot} {rest : List Value} {ka : Nat → ClassId} {al : Nat → Nat} {f : Nat → Nat → Int32} {Z : va_W} (C : fr_Cx p s m args meth c "FragileRulesModel" cc nL ret hh fr_tbl fr_nw D vwCl (fr_ty ka) A) (hP : va_P D vwCl (fr_mw ka al f Z) H) (hdg : decode cc pc = .ok (.getfield 69, 3)) (kk : W p l e R s m args below meth c H locs cells slots Q (F0 m (pc + 3) ls (.int (f 0 6) :: rest))) : W p l e R s m args below meth c H locs cells slots Q (F0 m pc ls (.ref (al 0) :: rest)) :=
  va_get (D := D) (ci := 4) (v := .int (f 0 6)) (C := "FragileRulesModel") (T := TXM) (N := 25) C.1 C.2.1 C.2.2.2.2.1 iXM C.2.2.2.1 C.2.2.2.2.2.1 hP 0 rfl rfl 16 (by decide) (C.2.2.2.2.1 _ fl_M_69) (fun _ h9 => h9) rfl hdg kk
theorem msa_10 {ka : Nat → ClassId} {al : Nat → Nat} {f : Nat → Nat → Int32} {Z : va_W} {v : Int32} {k : Nat} : (fr_mw ka al f Z).set 10 (al 10, .inl (ka 2, 12, .inl (upd (fun j => f 10 j) k v))) = fr_mw ka al (fr_up f 10 k v) Z := by
  have ha : upd (fun j => f 10 j) k v = (fun j => fr_up f 10 k v 10 j) := by funext j; simp [upd, fr_up]
  rw [ha]
  simp [fr_mw, fr_mo, fr_ia, fr_up]
theorem mast_10 {p : Program} {l : Launch} {e : Env} {R : Room} {s : State} {m : MethodId} {args : Array Value} {below : List Frame} {meth : Method} {c : Code} {H : Heap} {locs : List Loc} {cells slots : Nat} {Q : State → Prop} {D : va_G} {A : Nat → Prop} {cc : ByteArray} {nL pc : Nat} {ret : Option FieldType} {hh : List ExceptionTableEntry} {ls : Array Slot} {rest : List Value} {ka : Nat → ClassId} {al : Nat → Nat} {f : Nat → Nat → Int32} {Z : va_W} {own : String} {x v : Int32} (C : fr_Cx p s m args meth c own cc nL ret hh fr_tbl fr_nw D vwCl (fr_ty ka) A) (hP : va_P D vwCl (fr_mw ka al f Z) H) (hD : va_D A (fr_mw ka al f Z)) (hS : va_S A s.heap H locs) (hin : vp_in x 12) (hdg : decode cc pc = .ok (.iastore, 1)) (kk : ∀ (H : Heap) (locs : List Loc), va_P D vwCl (fr_mw ka al (fr_up f 10 x.toNatClampNeg v) Z) H → va_D A (fr_mw ka al (fr_up f 10 x.toNatClampNeg v) Z) → va_S A s.heap H locs → W p l e R s m args below meth c H locs cells slots Q (F0 m (pc + 1) ls rest)) : W p l e R s m args below meth c H locs cells slots Q (F0 m pc ls (.int v :: .int x :: .ref (al 10) :: rest)) := by
  refine va_iast (D := D) C.1 C.2.1 C.2.2.2.2.2.1 hP hD hS 10 2 (f := fun j => f 10 j) rfl rfl hin hdg (fun H1 locs1 hP1 hD1 hS1 => ?_)
  rw [msa_10] at hP1 hD1
  exact kk H1 locs1 hP1 hD1 hS1
theorem msw_0_6 {ka : Nat → ClassId} {al : Nat → Nat} {f : Nat → Nat → Int32} {Z : va_W} {v : Int32} : (fr_mw ka al f Z).set 0 (al 0, .inr (4, ([.int (f 0 0), .int (f 0 1), .int (f 0 2), .int (f 0 3), .int (f 0 4), .int (f 0 5), .ref (al 1), .ref (al 2), .ref (al 3), .ref (al 4), .ref (al 5), .ref (al 6), .ref (al 7), .ref (al 8), .ref (al 9), .ref (al 10), .int (f 0 6), .int (f 0 7), .int (f 0 8), .int (f 0 9), .int (f 0 10), .int (f 0 11), .int (f 0 12), .int (f 0 13), .int (f 0 14)] : List Value).set 16 (.int v))) = fr_mw ka al (fr_up f 0 6 v) Z := by
  simp [fr_mw, fr_mo, fr_ia, fr_up]
theorem pf_M_69 {p : Program} {l : Launch} {e : Env} {R : Room} {s : State} {m : MethodId} {args : Array Value} {below : List Frame} {meth : Method} {c : Code} {H : Heap} {locs : List Loc} {cells slots : Nat} {Q : State → Prop} {D : va_G} {A : Nat → Prop} {cc : ByteArray} {nL pc : Nat} {ret : Option FieldType} {hh : List ExceptionTableEntry} {ls : Array Slot} {rest : List Value} {ka : Nat → ClassId} {al : Nat → Nat} {f : Nat → Nat → Int32} {Z : va_W} {v : Int32} (C : fr_Cx p s m args meth c "FragileRulesModel" cc nL ret hh fr_tbl fr_nw D vwCl (fr_ty ka) A) (hP : va_P D vwCl (fr_mw ka al f Z) H) (hD : va_D A (fr_mw ka al f Z)) (hS : va_S A s.heap H locs) (hdg : decode cc pc = .ok (.putfield 69, 3)) (kk : ∀ (H : Heap) (locs : List Loc), va_P D vwCl (fr_mw ka al (fr_up f 0 6 v) Z) H → va_D A (fr_mw ka al (fr_up f 0 6 v) Z) → va_S A s.heap H locs → W p l e R s m args below meth c H locs cells slots Q (F0 m (pc + 3) ls rest)) : W p l e R s m args below meth c H locs cells slots Q (F0 m pc ls (.int v :: .ref (al 0) :: rest)) := by
  refine va_put (D := D) (ci := 4) (v := .int v) (ty := .int) (C := "FragileRulesModel") (T := TXM) (N := 25) C.1 C.2.1 C.2.2.2.2.1 iXM tyXM tokXM nmXM C.2.2.2.1 C.2.2.2.2.2.1 hP hD hS 0 rfl rfl 16 (by decide) (C.2.2.2.2.1 _ fl_M_69) (fun _ h9 => h9) rfl (by decide +kernel) rfl rfl (Nat.le_of_ble_eq_true rfl) hdg (fun H1 locs1 hP1 hD1 hS1 => ?_)
  rw [msw_0_6] at hP1 hD1
  exact kk H1 locs1 hP1 hD1 hS1
theorem gf_M_28 {p : Program} {l : Launch} {e : Env} {R : Room} {s : State} {m : MethodId} {args : Array Value} {below : List Frame} {meth : Method} {c : Code} {H : Heap} {locs : List Loc} {cells slots : Nat} {Q : State → Prop} {D : va_G} {A : Nat → Prop} {cc : ByteArray} {nL pc : Nat} {ret : Option FieldType} {hh : List ExceptionTableEntry} {ls : Array Slot} {rest : List Value} {ka : Nat → ClassId} {al : Nat → Nat} {f : Nat → Nat → Int32} {Z : va_W} (C : fr_Cx p s m args meth c "FragileRulesModel" cc nL ret hh fr_tbl fr_nw D vwCl (fr_ty ka) A) (hP : va_P D vwCl (fr_mw ka al f Z) H) (hdg : decode cc pc = .ok (.getfield 28, 3)) (kk : W p l e R s m args below meth c H locs cells slots Q (F0 m (pc + 3) ls (.ref (al 7) :: rest))) : W p l e R s m args below meth c H locs cells slots Q (F0 m pc ls (.ref (al 0) :: rest)) :=
  va_get (D := D) (ci := 4) (v := .ref (al 7)) (C := "FragileRulesModel") (T := TXM) (N := 25) C.1 C.2.1 C.2.2.2.2.1 iXM C.2.2.2.1 C.2.2.2.2.2.1 hP 0 rfl rfl 12 (by decide) (C.2.2.2.2.1 _ fl_M_28) (fun _ h9 => h9) rfl hdg kk
theorem mald_7 {p : Program} {l : Launch} {e : Env} {R : Room} {s : State} {m : MethodId} {args : Array Value} {below : List Frame} {meth : Method} {c : Code} {H : Heap} {locs : List Loc} {cells slots : Nat} {Q : State → Prop} {D : va_G} {A : Nat → Prop} {cc : ByteArray} {nL pc : Nat} {ret : Option FieldType} {hh : List ExceptionTableEntry} {ls : Array Slot} {rest : List Value} {ka : Nat → ClassId} {al : Nat → Nat} {f : Nat → Nat → Int32} {Z : va_W} {own : String} {x : Int32} (C : fr_Cx p s m args meth c own cc nL ret hh fr_tbl fr_nw D vwCl (fr_ty ka) A) (hP : va_P D vwCl (fr_mw ka al f Z) H) (hin : vp_in x 12) (hdg : decode cc pc = .ok (.iaload, 1)) (kk : W p l e R s m args below meth c H locs cells slots Q (F0 m (pc + 1) ls (.int (f 7 x.toNatClampNeg) :: rest))) : W p l e R s m args below meth c H locs cells slots Q (F0 m pc ls (.int x :: .ref (al 7) :: rest)) :=
  va_iald (D := D) C.1 C.2.1 C.2.2.2.2.2.1 hP 7 2 (f := fun j => f 7 j) rfl rfl hin hdg kk
theorem msa_7 {ka : Nat → ClassId} {al : Nat → Nat} {f : Nat → Nat → Int32} {Z : va_W} {v : Int32} {k : Nat} : (fr_mw ka al f Z).set 7 (al 7, .inl (ka 2, 12, .inl (upd (fun j => f 7 j) k v))) = fr_mw ka al (fr_up f 7 k v) Z := by
  have ha : upd (fun j => f 7 j) k v = (fun j => fr_up f 7 k v 7 j) := by funext j; simp [upd, fr_up]
  rw [ha]
  simp [fr_mw, fr_mo, fr_ia, fr_up]
theorem mast_7 {p : Program} {l : Launch} {e : Env} {R : Room} {s : State} {m : MethodId} {args : Array Value} {below : List Frame} {meth : Method} {c : Code} {H : Heap} {locs : List Loc} {cells slots : Nat} {Q : State → Prop} {D : va_G} {A : Nat → Prop} {cc : ByteArray} {nL pc : Nat} {ret : Option FieldType} {hh : List ExceptionTableEntry} {ls : Array Slot} {rest : List Value} {ka : Nat → ClassId} {al : Nat → Nat} {f : Nat → Nat → Int32} {Z : va_W} {own : String} {x v : Int32} (C : fr_Cx p s m args meth c own cc nL ret hh fr_tbl fr_nw D vwCl (fr_ty ka) A) (hP : va_P D vwCl (fr_mw ka al f Z) H) (hD : va_D A (fr_mw ka al f Z)) (hS : va_S A s.heap H locs) (hin : vp_in x 12) (hdg : decode cc pc = .ok (.iastore, 1)) (kk : ∀ (H : Heap) (locs : List Loc), va_P D vwCl (fr_mw ka al (fr_up f 7 x.toNatClampNeg v) Z) H → va_D A (fr_mw ka al (fr_up f 7 x.toNatClampNeg v) Z) → va_S A s.heap H locs → W p l e R s m args below meth c H locs cells slots Q (F0 m (pc + 1) ls rest)) : W p l e R s m args below meth c H locs cells slots Q (F0 m pc ls (.int v :: .int x :: .ref (al 7) :: rest)) := by
  refine va_iast (D := D) C.1 C.2.1 C.2.2.2.2.2.1 hP hD hS 7 2 (f := fun j => f 7 j) rfl rfl hin hdg (fun H1 locs1 hP1 hD1 hS1 => ?_)
  rw [msa_7] at hP1 hD1
  exact kk H1 locs1 hP1 hD1 hS1
theorem gf_M_85 {p : Program} {l : Launch} {e : Env} {R : Room} {s : State} {m : MethodId} {args : Array Value} {below : List Frame} {meth : Method} {c : Code} {H : Heap} {locs : List Loc} {cells slots : Nat} {Q : State → Prop} {D : va_G} {A : Nat → Prop} {cc : ByteArray} {nL pc : Nat} {ret : Option FieldType} {hh : List ExceptionTableEntry} {ls : Array Slot} {rest : List Value} {ka : Nat → ClassId} {al : Nat → Nat} {f : Nat → Nat → Int32} {Z : va_W} (C : fr_Cx p s m args meth c "FragileRulesModel" cc nL ret hh fr_tbl fr_nw D vwCl (fr_ty ka) A) (hP : va_P D vwCl (fr_mw ka al f Z) H) (hdg : decode cc pc = .ok (.getfield 85, 3)) (kk : W p l e R s m args below meth c H locs cells slots Q (F0 m (pc + 3) ls (.int (f 0 3) :: rest))) : W p l e R s m args below meth c H locs cells slots Q (F0 m pc ls (.ref (al 0) :: rest)) :=
  va_get (D := D) (ci := 4) (v := .int (f 0 3)) (C := "FragileRulesModel") (T := TXM) (N := 25) C.1 C.2.1 C.2.2.2.2.1 iXM C.2.2.2.1 C.2.2.2.2.2.1 hP 0 rfl rfl 3 (by decide) (C.2.2.2.2.1 _ fl_M_85) (fun _ h9 => h9) rfl hdg kk
theorem msw_0_3 {ka : Nat → ClassId} {al : Nat → Nat} {f : Nat → Nat → Int32} {Z : va_W} {v : Int32} : (fr_mw ka al f Z).set 0 (al 0, .inr (4, ([.int (f 0 0), .int (f 0 1), .int (f 0 2), .int (f 0 3), .int (f 0 4), .int (f 0 5), .ref (al 1), .ref (al 2), .ref (al 3), .ref (al 4), .ref (al 5), .ref (al 6), .ref (al 7), .ref (al 8), .ref (al 9), .ref (al 10), .int (f 0 6), .int (f 0 7), .int (f 0 8), .int (f 0 9), .int (f 0 10), .int (f 0 11), .int (f 0 12), .int (f 0 13), .int (f 0 14)] : List Value).set 3 (.int v))) = fr_mw ka al (fr_up f 0 3 v) Z := by
  simp [fr_mw, fr_mo, fr_ia, fr_up]
theorem pf_M_85 {p : Program} {l : Launch} {e : Env} {R : Room} {s : State} {m : MethodId} {args : Array Value} {below : List Frame} {meth : Method} {c : Code} {H : Heap} {locs : List Loc} {cells slots : Nat} {Q : State → Prop} {D : va_G} {A : Nat → Prop} {cc : ByteArray} {nL pc : Nat} {ret : Option FieldType} {hh : List ExceptionTableEntry} {ls : Array Slot} {rest : List Value} {ka : Nat → ClassId} {al : Nat → Nat} {f : Nat → Nat → Int32} {Z : va_W} {v : Int32} (C : fr_Cx p s m args meth c "FragileRulesModel" cc nL ret hh fr_tbl fr_nw D vwCl (fr_ty ka) A) (hP : va_P D vwCl (fr_mw ka al f Z) H) (hD : va_D A (fr_mw ka al f Z)) (hS : va_S A s.heap H locs) (hdg : decode cc pc = .ok (.putfield 85, 3)) (kk : ∀ (H : Heap) (locs : List Loc), va_P D vwCl (fr_mw ka al (fr_up f 0 3 v) Z) H → va_D A (fr_mw ka al (fr_up f 0 3 v) Z) → va_S A s.heap H locs → W p l e R s m args below meth c H locs cells slots Q (F0 m (pc + 3) ls rest)) : W p l e R s m args below meth c H locs cells slots Q (F0 m pc ls (.int v :: .ref (al 0) :: rest)) := by
  refine va_put (D := D) (ci := 4) (v := .int v) (ty := .int) (C := "FragileRulesModel") (T := TXM) (N := 25) C.1 C.2.1 C.2.2.2.2.1 iXM tyXM tokXM nmXM C.2.2.2.1 C.2.2.2.2.2.1 hP hD hS 0 rfl rfl 3 (by decide) (C.2.2.2.2.1 _ fl_M_85) (fun _ h9 => h9) rfl (by decide +kernel) rfl rfl (Nat.le_of_ble_eq_true rfl) hdg (fun H1 locs1 hP1 hD1 hS1 => ?_)
  rw [msw_0_3] at hP1 hD1
  exact kk H1 locs1 hP1 hD1 hS1
theorem gf_M_88 {p : Program} {l : Launch} {e : Env} {R : Room} {s : State} {m : MethodId} {args : Array Value} {below : List Frame} {meth : Method} {c : Code} {H : Heap} {locs : List Loc} {cells slots : Nat} {Q : State → Prop} {D : va_G} {A : Nat → Prop} {cc : ByteArray} {nL pc : Nat} {ret : Option FieldType} {hh : List ExceptionTableEntry} {ls : Array Slot} {rest : List Value} {ka : Nat → ClassId} {al : Nat → Nat} {f : Nat → Nat → Int32} {Z : va_W} (C : fr_Cx p s m args meth c "FragileRulesModel" cc nL ret hh fr_tbl fr_nw D vwCl (fr_ty ka) A) (hP : va_P D vwCl (fr_mw ka al f Z) H) (hdg : decode cc pc = .ok (.getfield 88, 3)) (kk : W p l e R s m args below meth c H locs cells slots Q (F0 m (pc + 3) ls (.int (f 0 4) :: rest))) : W p l e R s m args below meth c H locs cells slots Q (F0 m pc ls (.ref (al 0) :: rest)) :=
  va_get (D := D) (ci := 4) (v := .int (f 0 4)) (C := "FragileRulesModel") (T := TXM) (N := 25) C.1 C.2.1 C.2.2.2.2.1 iXM C.2.2.2.1 C.2.2.2.2.2.1 hP 0 rfl rfl 4 (by decide) (C.2.2.2.2.1 _ fl_M_88) (fun _ h9 => h9) rfl hdg kk
theorem msw_0_4 {ka : Nat → ClassId} {al : Nat → Nat} {f : Nat → Nat → Int32} {Z : va_W} {v : Int32} : (fr_mw ka al f Z).set 0 (al 0, .inr (4, ([.int (f 0 0), .int (f 0 1), .int (f 0 2), .int (f 0 3), .int (f 0 4), .int (f 0 5), .ref (al 1), .ref (al 2), .ref (al 3), .ref (al 4), .ref (al 5), .ref (al 6), .ref (al 7), .ref (al 8), .ref (al 9), .ref (al 10), .int (f 0 6), .int (f 0 7), .int (f 0 8), .int (f 0 9), .int (f 0 10), .int (f 0 11), .int (f 0 12), .int (f 0 13), .int (f 0 14)] : List Value).set 4 (.int v))) = fr_mw ka al (fr_up f 0 4 v) Z := by
  simp [fr_mw, fr_mo, fr_ia, fr_up]
theorem pf_M_88 {p : Program} {l : Launch} {e : Env} {R : Room} {s : State} {m : MethodId} {args : Array Value} {below : List Frame} {meth : Method} {c : Code} {H : Heap} {locs : List Loc} {cells slots : Nat} {Q : State → Prop} {D : va_G} {A : Nat → Prop} {cc : ByteArray} {nL pc : Nat} {ret : Option FieldType} {hh : List ExceptionTableEntry} {ls : Array Slot} {rest : List Value} {ka : Nat → ClassId} {al : Nat → Nat} {f : Nat → Nat → Int32} {Z : va_W} {v : Int32} (C : fr_Cx p s m args meth c "FragileRulesModel" cc nL ret hh fr_tbl fr_nw D vwCl (fr_ty ka) A) (hP : va_P D vwCl (fr_mw ka al f Z) H) (hD : va_D A (fr_mw ka al f Z)) (hS : va_S A s.heap H locs) (hdg : decode cc pc = .ok (.putfield 88, 3)) (kk : ∀ (H : Heap) (locs : List Loc), va_P D vwCl (fr_mw ka al (fr_up f 0 4 v) Z) H → va_D A (fr_mw ka al (fr_up f 0 4 v) Z) → va_S A s.heap H locs → W p l e R s m args below meth c H locs cells slots Q (F0 m (pc + 3) ls rest)) : W p l e R s m args below meth c H locs cells slots Q (F0 m pc ls (.int v :: .ref (al 0) :: rest)) := by
  refine va_put (D := D) (ci := 4) (v := .int v) (ty := .int) (C := "FragileRulesModel") (T := TXM) (N := 25) C.1 C.2.1 C.2.2.2.2.1 iXM tyXM tokXM nmXM C.2.2.2.1 C.2.2.2.2.2.1 hP hD hS 0 rfl rfl 4 (by decide) (C.2.2.2.2.1 _ fl_M_88) (fun _ h9 => h9) rfl (by decide +kernel) rfl rfl (Nat.le_of_ble_eq_true rfl) hdg (fun H1 locs1 hP1 hD1 hS1 => ?_)
  rw [msw_0_4] at hP1 hD1
  exact kk H1 locs1 hP1 hD1 hS1
theorem msa_1 {ka : Nat → ClassId} {al : Nat → Nat} {f : Nat → Nat → Int32} {Z : va_W} {v : Int32} {k : Nat} : (fr_mw ka al f Z).set 1 (al 1, .inl (ka 2, 10, .inl (upd (fun j => f 1 j) k v))) = fr_mw ka al (fr_up f 1 k v) Z := by
  have ha : upd (fun j => f 1 j) k v = (fun j => fr_up f 1 k v 1 j) := by funext j; simp [upd, fr_up]
  rw [ha]
  simp [fr_mw, fr_mo, fr_ia, fr_up]
theorem mast_1 {p : Program} {l : Launch} {e : Env} {R : Room} {s : State} {m : MethodId} {args : Array Value} {below : List Frame} {meth : Method} {c : Code} {H : Heap} {locs : List Loc} {cells slots : Nat} {Q : State → Prop} {D : va_G} {A : Nat → Prop} {cc : ByteArray} {nL pc : Nat} {ret : Option FieldType} {hh : List ExceptionTableEntry} {ls : Array Slot} {rest : List Value} {ka : Nat → ClassId} {al : Nat → Nat} {f : Nat → Nat → Int32} {Z : va_W} {own : String} {x v : Int32} (C : fr_Cx p s m args meth c own cc nL ret hh fr_tbl fr_nw D vwCl (fr_ty ka) A) (hP : va_P D vwCl (fr_mw ka al f Z) H) (hD : va_D A (fr_mw ka al f Z)) (hS : va_S A s.heap H locs) (hin : vp_in x 10) (hdg : decode cc pc = .ok (.iastore, 1)) (kk : ∀ (H : Heap) (locs : List Loc), va_P D vwCl (fr_mw ka al (fr_up f 1 x.toNatClampNeg v) Z) H → va_D A (fr_mw ka al (fr_up f 1 x.toNatClampNeg v) Z) → va_S A s.heap H locs → W p l e R s m args below meth c H locs cells slots Q (F0 m (pc + 1) ls rest)) : W p l e R s m args below meth c H locs cells slots Q (F0 m pc ls (.int v :: .int x :: .ref (al 1) :: rest)) := by
  refine va_iast (D := D) C.1 C.2.1 C.2.2.2.2.2.1 hP hD hS 1 2 (f := fun j => f 1 j) rfl rfl hin hdg (fun H1 locs1 hP1 hD1 hS1 => ?_)
  rw [msa_1] at hP1 hD1
  exact kk H1 locs1 hP1 hD1 hS1
theorem msa_2 {ka : Nat → ClassId} {al : Nat → Nat} {f : Nat → Nat → Int32} {Z : va_W} {v : Int32} {k : Nat} : (fr_mw ka al f Z).set 2 (al 2, .inl (ka 2, 10, .inl (upd (fun j => f 2 j) k v))) = fr_mw ka al (fr_up f 2 k v) Z := by
  have ha : upd (fun j => f 2 j) k v = (fun j => fr_up f 2 k v 2 j) := by funext j; simp [upd, fr_up]
  rw [ha]
  simp [fr_mw, fr_mo, fr_ia, fr_up]
theorem mast_2 {p : Program} {l : Launch} {e : Env} {R : Room} {s : State} {m : MethodId} {args : Array Value} {below : List Frame} {meth : Method} {c : Code} {H : Heap} {locs : List Loc} {cells slots : Nat} {Q : State → Prop} {D : va_G} {A : Nat → Prop} {cc : ByteArray} {nL pc : Nat} {ret : Option FieldType} {hh : List ExceptionTableEntry} {ls : Array Slot} {rest : List Value} {ka : Nat → ClassId} {al : Nat → Nat} {f : Nat → Nat → Int32} {Z : va_W} {own : String} {x v : Int32} (C : fr_Cx p s m args meth c own cc nL ret hh fr_tbl fr_nw D vwCl (fr_ty ka) A) (hP : va_P D vwCl (fr_mw ka al f Z) H) (hD : va_D A (fr_mw ka al f Z)) (hS : va_S A s.heap H locs) (hin : vp_in x 10) (hdg : decode cc pc = .ok (.iastore, 1)) (kk : ∀ (H : Heap) (locs : List Loc), va_P D vwCl (fr_mw ka al (fr_up f 2 x.toNatClampNeg v) Z) H → va_D A (fr_mw ka al (fr_up f 2 x.toNatClampNeg v) Z) → va_S A s.heap H locs → W p l e R s m args below meth c H locs cells slots Q (F0 m (pc + 1) ls rest)) : W p l e R s m args below meth c H locs cells slots Q (F0 m pc ls (.int v :: .int x :: .ref (al 2) :: rest)) := by
  refine va_iast (D := D) C.1 C.2.1 C.2.2.2.2.2.1 hP hD hS 2 2 (f := fun j => f 2 j) rfl rfl hin hdg (fun H1 locs1 hP1 hD1 hS1 => ?_)
  rw [msa_2] at hP1 hD1
  exact kk H1 locs1 hP1 hD1 hS1
theorem msa_3 {ka : Nat → ClassId} {al : Nat → Nat} {f : Nat → Nat → Int32} {Z : va_W} {v : Int32} {k : Nat} : (fr_mw ka al f Z).set 3 (al 3, .inl (ka 2, 10, .inl (upd (fun j => f 3 j) k v))) = fr_mw ka al (fr_up f 3 k v) Z := by
  have ha : upd (fun j => f 3 j) k v = (fun j => fr_up f 3 k v 3 j) := by funext j; simp [upd, fr_up]
  rw [ha]
  simp [fr_mw, fr_mo, fr_ia, fr_up]
theorem mast_3 {p : Program} {l : Launch} {e : Env} {R : Room} {s : State} {m : MethodId} {args : Array Value} {below : List Frame} {meth : Method} {c : Code} {H : Heap} {locs : List Loc} {cells slots : Nat} {Q : State → Prop} {D : va_G} {A : Nat → Prop} {cc : ByteArray} {nL pc : Nat} {ret : Option FieldType} {hh : List ExceptionTableEntry} {ls : Array Slot} {rest : List Value} {ka : Nat → ClassId} {al : Nat → Nat} {f : Nat → Nat → Int32} {Z : va_W} {own : String} {x v : Int32} (C : fr_Cx p s m args meth c own cc nL ret hh fr_tbl fr_nw D vwCl (fr_ty ka) A) (hP : va_P D vwCl (fr_mw ka al f Z) H) (hD : va_D A (fr_mw ka al f Z)) (hS : va_S A s.heap H locs) (hin : vp_in x 10) (hdg : decode cc pc = .ok (.iastore, 1)) (kk : ∀ (H : Heap) (locs : List Loc), va_P D vwCl (fr_mw ka al (fr_up f 3 x.toNatClampNeg v) Z) H → va_D A (fr_mw ka al (fr_up f 3 x.toNatClampNeg v) Z) → va_S A s.heap H locs → W p l e R s m args below meth c H locs cells slots Q (F0 m (pc + 1) ls rest)) : W p l e R s m args below meth c H locs cells slots Q (F0 m pc ls (.int v :: .int x :: .ref (al 3) :: rest)) := by
  refine va_iast (D := D) C.1 C.2.1 C.2.2.2.2.2.1 hP hD hS 3 2 (f := fun j => f 3 j) rfl rfl hin hdg (fun H1 locs1 hP1 hD1 hS1 => ?_)
  rw [msa_3] at hP1 hD1
  exact kk H1 locs1 hP1 hD1 hS1
theorem msw_0_0 {ka : Nat → ClassId} {al : Nat → Nat} {f : Nat → Nat → Int32} {Z : va_W} {v : Int32} : (fr_mw ka al f Z).set 0 (al 0, .inr (4, ([.int (f 0 0), .int (f 0 1), .int (f 0 2), .int (f 0 3), .int (f 0 4), .int (f 0 5), .ref (al 1), .ref (al 2), .ref (al 3), .ref (al 4), .ref (al 5), .ref (al 6), .ref (al 7), .ref (al 8), .ref (al 9), .ref (al 10), .int (f 0 6), .int (f 0 7), .int (f 0 8), .int (f 0 9), .int (f 0 10), .int (f 0 11), .int (f 0 12), .int (f 0 13), .int (f 0 14)] : List Value).set 0 (.int v))) = fr_mw ka al (fr_up f 0 0 v) Z := by
  simp [fr_mw, fr_mo, fr_ia, fr_up]
theorem pf_M_44 {p : Program} {l : Launch} {e : Env} {R : Room} {s : State} {m : MethodId} {args : Array Value} {below : List Frame} {meth : Method} {c : Code} {H : Heap} {locs : List Loc} {cells slots : Nat} {Q : State → Prop} {D : va_G} {A : Nat → Prop} {cc : ByteArray} {nL pc : Nat} {ret : Option FieldType} {hh : List ExceptionTableEntry} {ls : Array Slot} {rest : List Value} {ka : Nat → ClassId} {al : Nat → Nat} {f : Nat → Nat → Int32} {Z : va_W} {v : Int32} (C : fr_Cx p s m args meth c "FragileRulesModel" cc nL ret hh fr_tbl fr_nw D vwCl (fr_ty ka) A) (hP : va_P D vwCl (fr_mw ka al f Z) H) (hD : va_D A (fr_mw ka al f Z)) (hS : va_S A s.heap H locs) (hdg : decode cc pc = .ok (.putfield 44, 3)) (kk : ∀ (H : Heap) (locs : List Loc), va_P D vwCl (fr_mw ka al (fr_up f 0 0 v) Z) H → va_D A (fr_mw ka al (fr_up f 0 0 v) Z) → va_S A s.heap H locs → W p l e R s m args below meth c H locs cells slots Q (F0 m (pc + 3) ls rest)) : W p l e R s m args below meth c H locs cells slots Q (F0 m pc ls (.int v :: .ref (al 0) :: rest)) := by
  refine va_put (D := D) (ci := 4) (v := .int v) (ty := .int) (C := "FragileRulesModel") (T := TXM) (N := 25) C.1 C.2.1 C.2.2.2.2.1 iXM tyXM tokXM nmXM C.2.2.2.1 C.2.2.2.2.2.1 hP hD hS 0 rfl rfl 0 (by decide) (C.2.2.2.2.1 _ fl_M_44) (fun _ h9 => h9) rfl (by decide +kernel) rfl rfl (Nat.le_of_ble_eq_true rfl) hdg (fun H1 locs1 hP1 hD1 hS1 => ?_)
  rw [msw_0_0] at hP1 hD1
  exact kk H1 locs1 hP1 hD1 hS1
theorem msw_0_11 {ka : Nat → ClassId} {al : Nat → Nat} {f : Nat → Nat → Int32} {Z : va_W} {v : Int32} : (fr_mw ka al f Z).set 0 (al 0, .inr (4, ([.int (f 0 0), .int (f 0 1), .int (f 0 2), .int (f 0 3), .int (f 0 4), .int (f 0 5), .ref (al 1), .ref (al 2), .ref (al 3), .ref (al 4), .ref (al 5), .ref (al 6), .ref (al 7), .ref (al 8), .ref (al 9), .ref (al 10), .int (f 0 6), .int (f 0 7), .int (f 0 8), .int (f 0 9), .int (f 0 10), .int (f 0 11), .int (f 0 12), .int (f 0 13), .int (f 0 14)] : List Value).set 21 (.int v))) = fr_mw ka al (fr_up f 0 11 v) Z := by
  simp [fr_mw, fr_mo, fr_ia, fr_up]
theorem pf_M_59 {p : Program} {l : Launch} {e : Env} {R : Room} {s : State} {m : MethodId} {args : Array Value} {below : List Frame} {meth : Method} {c : Code} {H : Heap} {locs : List Loc} {cells slots : Nat} {Q : State → Prop} {D : va_G} {A : Nat → Prop} {cc : ByteArray} {nL pc : Nat} {ret : Option FieldType} {hh : List ExceptionTableEntry} {ls : Array Slot} {rest : List Value} {ka : Nat → ClassId} {al : Nat → Nat} {f : Nat → Nat → Int32} {Z : va_W} {v : Int32} (C : fr_Cx p s m args meth c "FragileRulesModel" cc nL ret hh fr_tbl fr_nw D vwCl (fr_ty ka) A) (hP : va_P D vwCl (fr_mw ka al f Z) H) (hD : va_D A (fr_mw ka al f Z)) (hS : va_S A s.heap H locs) (hdg : decode cc pc = .ok (.putfield 59, 3)) (kk : ∀ (H : Heap) (locs : List Loc), va_P D vwCl (fr_mw ka al (fr_up f 0 11 v) Z) H → va_D A (fr_mw ka al (fr_up f 0 11 v) Z) → va_S A s.heap H locs → W p l e R s m args below meth c H locs cells slots Q (F0 m (pc + 3) ls rest)) : W p l e R s m args below meth c H locs cells slots Q (F0 m pc ls (.int v :: .ref (al 0) :: rest)) := by
  refine va_put (D := D) (ci := 4) (v := .int v) (ty := .int) (C := "FragileRulesModel") (T := TXM) (N := 25) C.1 C.2.1 C.2.2.2.2.1 iXM tyXM tokXM nmXM C.2.2.2.1 C.2.2.2.2.2.1 hP hD hS 0 rfl rfl 21 (by decide) (C.2.2.2.2.1 _ fl_M_59) (fun _ h9 => h9) rfl (by decide +kernel) rfl rfl (Nat.le_of_ble_eq_true rfl) hdg (fun H1 locs1 hP1 hD1 hS1 => ?_)
  rw [msw_0_11] at hP1 hD1
  exact kk H1 locs1 hP1 hD1 hS1
theorem msw_0_5 {ka : Nat → ClassId} {al : Nat → Nat} {f : Nat → Nat → Int32} {Z : va_W} {v : Int32} : (fr_mw ka al f Z).set 0 (al 0, .inr (4, ([.int (f 0 0), .int (f 0 1), .int (f 0 2), .int (f 0 3), .int (f 0 4), .int (f 0 5), .ref (al 1), .ref (al 2), .ref (al 3), .ref (al 4), .ref (al 5), .ref (al 6), .ref (al 7), .ref (al 8), .ref (al 9), .ref (al 10), .int (f 0 6), .int (f 0 7), .int (f 0 8), .int (f 0 9), .int (f 0 10), .int (f 0 11), .int (f 0 12), .int (f 0 13), .int (f 0 14)] : List Value).set 5 (.int v))) = fr_mw ka al (fr_up f 0 5 v) Z := by
  simp [fr_mw, fr_mo, fr_ia, fr_up]
theorem pf_M_40 {p : Program} {l : Launch} {e : Env} {R : Room} {s : State} {m : MethodId} {args : Array Value} {below : List Frame} {meth : Method} {c : Code} {H : Heap} {locs : List Loc} {cells slots : Nat} {Q : State → Prop} {D : va_G} {A : Nat → Prop} {cc : ByteArray} {nL pc : Nat} {ret : Option FieldType} {hh : List ExceptionTableEntry} {ls : Array Slot} {rest : List Value} {ka : Nat → ClassId} {al : Nat → Nat} {f : Nat → Nat → Int32} {Z : va_W} {v : Int32} (C : fr_Cx p s m args meth c "FragileRulesModel" cc nL ret hh fr_tbl fr_nw D vwCl (fr_ty ka) A) (hP : va_P D vwCl (fr_mw ka al f Z) H) (hD : va_D A (fr_mw ka al f Z)) (hS : va_S A s.heap H locs) (hdg : decode cc pc = .ok (.putfield 40, 3)) (kk : ∀ (H : Heap) (locs : List Loc), va_P D vwCl (fr_mw ka al (fr_up f 0 5 v) Z) H → va_D A (fr_mw ka al (fr_up f 0 5 v) Z) → va_S A s.heap H locs → W p l e R s m args below meth c H locs cells slots Q (F0 m (pc + 3) ls rest)) : W p l e R s m args below meth c H locs cells slots Q (F0 m pc ls (.int v :: .ref (al 0) :: rest)) := by
  refine va_put (D := D) (ci := 4) (v := .int v) (ty := .int) (C := "FragileRulesModel") (T := TXM) (N := 25) C.1 C.2.1 C.2.2.2.2.1 iXM tyXM tokXM nmXM C.2.2.2.1 C.2.2.2.2.2.1 hP hD hS 0 rfl rfl 5 (by decide) (C.2.2.2.2.1 _ fl_M_40) (fun _ h9 => h9) rfl (by decide +kernel) rfl rfl (Nat.le_of_ble_eq_true rfl) hdg (fun H1 locs1 hP1 hD1 hS1 => ?_)
  rw [msw_0_5] at hP1 hD1
  exact kk H1 locs1 hP1 hD1 hS1
theorem msw_0_7 {ka : Nat → ClassId} {al : Nat → Nat} {f : Nat → Nat → Int32} {Z : va_W} {v : Int32} : (fr_mw ka al f Z).set 0 (al 0, .inr (4, ([.int (f 0 0), .int (f 0 1), .int (f 0 2), .int (f 0 3), .int (f 0 4), .int (f 0 5), .ref (al 1), .ref (al 2), .ref (al 3), .ref (al 4), .ref (al 5), .ref (al 6), .ref (al 7), .ref (al 8), .ref (al 9), .ref (al 10), .int (f 0 6), .int (f 0 7), .int (f 0 8), .int (f 0 9), .int (f 0 10), .int (f 0 11), .int (f 0 12), .int (f 0 13), .int (f 0 14)] : List Value).set 17 (.int v))) = fr_mw ka al (fr_up f 0 7 v) Z := by
  simp [fr_mw, fr_mo, fr_ia, fr_up]
theorem pf_M_47 {p : Program} {l : Launch} {e : Env} {R : Room} {s : State} {m : MethodId} {args : Array Value} {below : List Frame} {meth : Method} {c : Code} {H : Heap} {locs : List Loc} {cells slots : Nat} {Q : State → Prop} {D : va_G} {A : Nat → Prop} {cc : ByteArray} {nL pc : Nat} {ret : Option FieldType} {hh : List ExceptionTableEntry} {ls : Array Slot} {rest : List Value} {ka : Nat → ClassId} {al : Nat → Nat} {f : Nat → Nat → Int32} {Z : va_W} {v : Int32} (C : fr_Cx p s m args meth c "FragileRulesModel" cc nL ret hh fr_tbl fr_nw D vwCl (fr_ty ka) A) (hP : va_P D vwCl (fr_mw ka al f Z) H) (hD : va_D A (fr_mw ka al f Z)) (hS : va_S A s.heap H locs) (hdg : decode cc pc = .ok (.putfield 47, 3)) (kk : ∀ (H : Heap) (locs : List Loc), va_P D vwCl (fr_mw ka al (fr_up f 0 7 v) Z) H → va_D A (fr_mw ka al (fr_up f 0 7 v) Z) → va_S A s.heap H locs → W p l e R s m args below meth c H locs cells slots Q (F0 m (pc + 3) ls rest)) : W p l e R s m args below meth c H locs cells slots Q (F0 m pc ls (.int v :: .ref (al 0) :: rest)) := by
  refine va_put (D := D) (ci := 4) (v := .int v) (ty := .int) (C := "FragileRulesModel") (T := TXM) (N := 25) C.1 C.2.1 C.2.2.2.2.1 iXM tyXM tokXM nmXM C.2.2.2.1 C.2.2.2.2.2.1 hP hD hS 0 rfl rfl 17 (by decide) (C.2.2.2.2.1 _ fl_M_47) (fun _ h9 => h9) rfl (by decide +kernel) rfl rfl (Nat.le_of_ble_eq_true rfl) hdg (fun H1 locs1 hP1 hD1 hS1 => ?_)
  rw [msw_0_7] at hP1 hD1
  exact kk H1 locs1 hP1 hD1 hS1
theorem msw_0_12 {ka : Nat → ClassId} {al : Nat → Nat} {f : Nat → Nat → Int32} {Z : va_W} {v : Int32} : (fr_mw ka al f Z).set 0 (al 0, .inr (4, ([.int (f 0 0), .int (f 0 1), .int (f 0 2), .int (f 0 3), .int (f 0 4), .int (f 0 5), .ref (al 1), .ref (al 2), .ref (al 3), .ref (al 4), .ref (al 5), .ref (al 6), .ref (al 7), .ref (al 8), .ref (al 9), .ref (al 10), .int (f 0 6), .int (f 0 7), .int (f 0 8), .int (f 0 9), .int (f 0 10), .int (f 0 11), .int (f 0 12), .int (f 0 13), .int (f 0 14)] : List Value).set 22 (.int v))) = fr_mw ka al (fr_up f 0 12 v) Z := by
  simp [fr_mw, fr_mo, fr_ia, fr_up]
theorem pf_M_62 {p : Program} {l : Launch} {e : Env} {R : Room} {s : State} {m : MethodId} {args : Array Value} {below : List Frame} {meth : Method} {c : Code} {H : Heap} {locs : List Loc} {cells slots : Nat} {Q : State → Prop} {D : va_G} {A : Nat → Prop} {cc : ByteArray} {nL pc : Nat} {ret : Option FieldType} {hh : List ExceptionTableEntry} {ls : Array Slot} {rest : List Value} {ka : Nat → ClassId} {al : Nat → Nat} {f : Nat → Nat → Int32} {Z : va_W} {v : Int32} (C : fr_Cx p s m args meth c "FragileRulesModel" cc nL ret hh fr_tbl fr_nw D vwCl (fr_ty ka) A) (hP : va_P D vwCl (fr_mw ka al f Z) H) (hD : va_D A (fr_mw ka al f Z)) (hS : va_S A s.heap H locs) (hdg : decode cc pc = .ok (.putfield 62, 3)) (kk : ∀ (H : Heap) (locs : List Loc), va_P D vwCl (fr_mw ka al (fr_up f 0 12 v) Z) H → va_D A (fr_mw ka al (fr_up f 0 12 v) Z) → va_S A s.heap H locs → W p l e R s m args below meth c H locs cells slots Q (F0 m (pc + 3) ls rest)) : W p l e R s m args below meth c H locs cells slots Q (F0 m pc ls (.int v :: .ref (al 0) :: rest)) := by
  refine va_put (D := D) (ci := 4) (v := .int v) (ty := .int) (C := "FragileRulesModel") (T := TXM) (N := 25) C.1 C.2.1 C.2.2.2.2.1 iXM tyXM tokXM nmXM C.2.2.2.1 C.2.2.2.2.2.1 hP hD hS 0 rfl rfl 22 (by decide) (C.2.2.2.2.1 _ fl_M_62) (fun _ h9 => h9) rfl (by decide +kernel) rfl rfl (Nat.le_of_ble_eq_true rfl) hdg (fun H1 locs1 hP1 hD1 hS1 => ?_)
  rw [msw_0_12] at hP1 hD1
  exact kk H1 locs1 hP1 hD1 hS1
theorem msa_4 {ka : Nat → ClassId} {al : Nat → Nat} {f : Nat → Nat → Int32} {Z : va_W} {v : Int32} {k : Nat} : (fr_mw ka al f Z).set 4 (al 4, .inl (ka 2, 12, .inl (upd (fun j => f 4 j) k v))) = fr_mw ka al (fr_up f 4 k v) Z := by
  have ha : upd (fun j => f 4 j) k v = (fun j => fr_up f 4 k v 4 j) := by funext j; simp [upd, fr_up]
  rw [ha]
  simp [fr_mw, fr_mo, fr_ia, fr_up]
theorem mast_4 {p : Program} {l : Launch} {e : Env} {R : Room} {s : State} {m : MethodId} {args : Array Value} {below : List Frame} {meth : Method} {c : Code} {H : Heap} {locs : List Loc} {cells slots : Nat} {Q : State → Prop} {D : va_G} {A : Nat → Prop} {cc : ByteArray} {nL pc : Nat} {ret : Option FieldType} {hh : List ExceptionTableEntry} {ls : Array Slot} {rest : List Value} {ka : Nat → ClassId} {al : Nat → Nat} {f : Nat → Nat → Int32} {Z : va_W} {own : String} {x v : Int32} (C : fr_Cx p s m args meth c own cc nL ret hh fr_tbl fr_nw D vwCl (fr_ty ka) A) (hP : va_P D vwCl (fr_mw ka al f Z) H) (hD : va_D A (fr_mw ka al f Z)) (hS : va_S A s.heap H locs) (hin : vp_in x 12) (hdg : decode cc pc = .ok (.iastore, 1)) (kk : ∀ (H : Heap) (locs : List Loc), va_P D vwCl (fr_mw ka al (fr_up f 4 x.toNatClampNeg v) Z) H → va_D A (fr_mw ka al (fr_up f 4 x.toNatClampNeg v) Z) → va_S A s.heap H locs → W p l e R s m args below meth c H locs cells slots Q (F0 m (pc + 1) ls rest)) : W p l e R s m args below meth c H locs cells slots Q (F0 m pc ls (.int v :: .int x :: .ref (al 4) :: rest)) := by
  refine va_iast (D := D) C.1 C.2.1 C.2.2.2.2.2.1 hP hD hS 4 2 (f := fun j => f 4 j) rfl rfl hin hdg (fun H1 locs1 hP1 hD1 hS1 => ?_)
  rw [msa_4] at hP1 hD1
  exact kk H1 locs1 hP1 hD1 hS1
theorem msa_5 {ka : Nat → ClassId} {al : Nat → Nat} {f : Nat → Nat → Int32} {Z : va_W} {v : Int32} {k : Nat} : (fr_mw ka al f Z).set 5 (al 5, .inl (ka 2, 12, .inl (upd (fun j => f 5 j) k v))) = fr_mw ka al (fr_up f 5 k v) Z := by
  have ha : upd (fun j => f 5 j) k v = (fun j => fr_up f 5 k v 5 j) := by funext j; simp [upd, fr_up]
  rw [ha]
  simp [fr_mw, fr_mo, fr_ia, fr_up]
theorem mast_5 {p : Program} {l : Launch} {e : Env} {R : Room} {s : State} {m : MethodId} {args : Array Value} {below : List Frame} {meth : Method} {c : Code} {H : Heap} {locs : List Loc} {cells slots : Nat} {Q : State → Prop} {D : va_G} {A : Nat → Prop} {cc : ByteArray} {nL pc : Nat} {ret : Option FieldType} {hh : List ExceptionTableEntry} {ls : Array Slot} {rest : List Value} {ka : Nat → ClassId} {al : Nat → Nat} {f : Nat → Nat → Int32} {Z : va_W} {own : String} {x v : Int32} (C : fr_Cx p s m args meth c own cc nL ret hh fr_tbl fr_nw D vwCl (fr_ty ka) A) (hP : va_P D vwCl (fr_mw ka al f Z) H) (hD : va_D A (fr_mw ka al f Z)) (hS : va_S A s.heap H locs) (hin : vp_in x 12) (hdg : decode cc pc = .ok (.iastore, 1)) (kk : ∀ (H : Heap) (locs : List Loc), va_P D vwCl (fr_mw ka al (fr_up f 5 x.toNatClampNeg v) Z) H → va_D A (fr_mw ka al (fr_up f 5 x.toNatClampNeg v) Z) → va_S A s.heap H locs → W p l e R s m args below meth c H locs cells slots Q (F0 m (pc + 1) ls rest)) : W p l e R s m args below meth c H locs cells slots Q (F0 m pc ls (.int v :: .int x :: .ref (al 5) :: rest)) := by
  refine va_iast (D := D) C.1 C.2.1 C.2.2.2.2.2.1 hP hD hS 5 2 (f := fun j => f 5 j) rfl rfl hin hdg (fun H1 locs1 hP1 hD1 hS1 => ?_)
  rw [msa_5] at hP1 hD1
  exact kk H1 locs1 hP1 hD1 hS1
theorem msa_6 {ka : Nat → ClassId} {al : Nat → Nat} {f : Nat → Nat → Int32} {Z : va_W} {v : Int32} {k : Nat} : (fr_mw ka al f Z).set 6 (al 6, .inl (ka 2, 12, .inl (upd (fun j => f 6 j) k v))) = fr_mw ka al (fr_up f 6 k v) Z := by
  have ha : upd (fun j => f 6 j) k v = (fun j => fr_up f 6 k v 6 j) := by funext j; simp [upd, fr_up]
  rw [ha]
  simp [fr_mw, fr_mo, fr_ia, fr_up]
theorem mast_6 {p : Program} {l : Launch} {e : Env} {R : Room} {s : State} {m : MethodId} {args : Array Value} {below : List Frame} {meth : Method} {c : Code} {H : Heap} {locs : List Loc} {cells slots : Nat} {Q : State → Prop} {D : va_G} {A : Nat → Prop} {cc : ByteArray} {nL pc : Nat} {ret : Option FieldType} {hh : List ExceptionTableEntry} {ls : Array Slot} {rest : List Value} {ka : Nat → ClassId} {al : Nat → Nat} {f : Nat → Nat → Int32} {Z : va_W} {own : String} {x v : Int32} (C : fr_Cx p s m args meth c own cc nL ret hh fr_tbl fr_nw D vwCl (fr_ty ka) A) (hP : va_P D vwCl (fr_mw ka al f Z) H) (hD : va_D A (fr_mw ka al f Z)) (hS : va_S A s.heap H locs) (hin : vp_in x 12) (hdg : decode cc pc = .ok (.iastore, 1)) (kk : ∀ (H : Heap) (locs : List Loc), va_P D vwCl (fr_mw ka al (fr_up f 6 x.toNatClampNeg v) Z) H → va_D A (fr_mw ka al (fr_up f 6 x.toNatClampNeg v) Z) → va_S A s.heap H locs → W p l e R s m args below meth c H locs cells slots Q (F0 m (pc + 1) ls rest)) : W p l e R s m args below meth c H locs cells slots Q (F0 m pc ls (.int v :: .int x :: .ref (al 6) :: rest)) := by
  refine va_iast (D := D) C.1 C.2.1 C.2.2.2.2.2.1 hP hD hS 6 2 (f := fun j => f 6 j) rfl rfl hin hdg (fun H1 locs1 hP1 hD1 hS1 => ?_)
  rw [msa_6] at hP1 hD1
  exact kk H1 locs1 hP1 hD1 hS1
theorem msa_8 {ka : Nat → ClassId} {al : Nat → Nat} {f : Nat → Nat → Int32} {Z : va_W} {v : Int32} {k : Nat} : (fr_mw ka al f Z).set 8 (al 8, .inl (ka 2, 12, .inl (upd (fun j => f 8 j) k v))) = fr_mw ka al (fr_up f 8 k v) Z := by
  have ha : upd (fun j => f 8 j) k v = (fun j => fr_up f 8 k v 8 j) := by funext j; simp [upd, fr_up]
  rw [ha]
  simp [fr_mw, fr_mo, fr_ia, fr_up]
theorem mast_8 {p : Program} {l : Launch} {e : Env} {R : Room} {s : State} {m : MethodId} {args : Array Value} {below : List Frame} {meth : Method} {c : Code} {H : Heap} {locs : List Loc} {cells slots : Nat} {Q : State → Prop} {D : va_G} {A : Nat → Prop} {cc : ByteArray} {nL pc : Nat} {ret : Option FieldType} {hh : List ExceptionTableEntry} {ls : Array Slot} {rest : List Value} {ka : Nat → ClassId} {al : Nat → Nat} {f : Nat → Nat → Int32} {Z : va_W} {own : String} {x v : Int32} (C : fr_Cx p s m args meth c own cc nL ret hh fr_tbl fr_nw D vwCl (fr_ty ka) A) (hP : va_P D vwCl (fr_mw ka al f Z) H) (hD : va_D A (fr_mw ka al f Z)) (hS : va_S A s.heap H locs) (hin : vp_in x 12) (hdg : decode cc pc = .ok (.iastore, 1)) (kk : ∀ (H : Heap) (locs : List Loc), va_P D vwCl (fr_mw ka al (fr_up f 8 x.toNatClampNeg v) Z) H → va_D A (fr_mw ka al (fr_up f 8 x.toNatClampNeg v) Z) → va_S A s.heap H locs → W p l e R s m args below meth c H locs cells slots Q (F0 m (pc + 1) ls rest)) : W p l e R s m args below meth c H locs cells slots Q (F0 m pc ls (.int v :: .int x :: .ref (al 8) :: rest)) := by
  refine va_iast (D := D) C.1 C.2.1 C.2.2.2.2.2.1 hP hD hS 8 2 (f := fun j => f 8 j) rfl rfl hin hdg (fun H1 locs1 hP1 hD1 hS1 => ?_)
  rw [msa_8] at hP1 hD1
  exact kk H1 locs1 hP1 hD1 hS1
theorem msw_0_1 {ka : Nat → ClassId} {al : Nat → Nat} {f : Nat → Nat → Int32} {Z : va_W} {v : Int32} : (fr_mw ka al f Z).set 0 (al 0, .inr (4, ([.int (f 0 0), .int (f 0 1), .int (f 0 2), .int (f 0 3), .int (f 0 4), .int (f 0 5), .ref (al 1), .ref (al 2), .ref (al 3), .ref (al 4), .ref (al 5), .ref (al 6), .ref (al 7), .ref (al 8), .ref (al 9), .ref (al 10), .int (f 0 6), .int (f 0 7), .int (f 0 8), .int (f 0 9), .int (f 0 10), .int (f 0 11), .int (f 0 12), .int (f 0 13), .int (f 0 14)] : List Value).set 1 (.int v))) = fr_mw ka al (fr_up f 0 1 v) Z := by
  simp [fr_mw, fr_mo, fr_ia, fr_up]
theorem pf_M_72 {p : Program} {l : Launch} {e : Env} {R : Room} {s : State} {m : MethodId} {args : Array Value} {below : List Frame} {meth : Method} {c : Code} {H : Heap} {locs : List Loc} {cells slots : Nat} {Q : State → Prop} {D : va_G} {A : Nat → Prop} {cc : ByteArray} {nL pc : Nat} {ret : Option FieldType} {hh : List ExceptionTableEntry} {ls : Array Slot} {rest : List Value} {ka : Nat → ClassId} {al : Nat → Nat} {f : Nat → Nat → Int32} {Z : va_W} {v : Int32} (C : fr_Cx p s m args meth c "FragileRulesModel" cc nL ret hh fr_tbl fr_nw D vwCl (fr_ty ka) A) (hP : va_P D vwCl (fr_mw ka al f Z) H) (hD : va_D A (fr_mw ka al f Z)) (hS : va_S A s.heap H locs) (hdg : decode cc pc = .ok (.putfield 72, 3)) (kk : ∀ (H : Heap) (locs : List Loc), va_P D vwCl (fr_mw ka al (fr_up f 0 1 v) Z) H → va_D A (fr_mw ka al (fr_up f 0 1 v) Z) → va_S A s.heap H locs → W p l e R s m args below meth c H locs cells slots Q (F0 m (pc + 3) ls rest)) : W p l e R s m args below meth c H locs cells slots Q (F0 m pc ls (.int v :: .ref (al 0) :: rest)) := by
  refine va_put (D := D) (ci := 4) (v := .int v) (ty := .int) (C := "FragileRulesModel") (T := TXM) (N := 25) C.1 C.2.1 C.2.2.2.2.1 iXM tyXM tokXM nmXM C.2.2.2.1 C.2.2.2.2.2.1 hP hD hS 0 rfl rfl 1 (by decide) (C.2.2.2.2.1 _ fl_M_72) (fun _ h9 => h9) rfl (by decide +kernel) rfl rfl (Nat.le_of_ble_eq_true rfl) hdg (fun H1 locs1 hP1 hD1 hS1 => ?_)
  rw [msw_0_1] at hP1 hD1
  exact kk H1 locs1 hP1 hD1 hS1
theorem gf_M_105 {p : Program} {l : Launch} {e : Env} {R : Room} {s : State} {m : MethodId} {args : Array Value} {below : List Frame} {meth : Method} {c : Code} {H : Heap} {locs : List Loc} {cells slots : Nat} {Q : State → Prop} {D : va_G} {A : Nat → Prop} {cc : ByteArray} {nL pc : Nat} {ret : Option FieldType} {hh : List ExceptionTableEntry} {ls : Array Slot} {rest : List Value} {ka : Nat → ClassId} {al : Nat → Nat} {f : Nat → Nat → Int32} {Z : va_W} (C : fr_Cx p s m args meth c "FragileRulesModel" cc nL ret hh fr_tbl fr_nw D vwCl (fr_ty ka) A) (hP : va_P D vwCl (fr_mw ka al f Z) H) (hdg : decode cc pc = .ok (.getfield 105, 3)) (kk : W p l e R s m args below meth c H locs cells slots Q (F0 m (pc + 3) ls (.int (f 0 2) :: rest))) : W p l e R s m args below meth c H locs cells slots Q (F0 m pc ls (.ref (al 0) :: rest)) :=
  va_get (D := D) (ci := 4) (v := .int (f 0 2)) (C := "FragileRulesModel") (T := TXM) (N := 25) C.1 C.2.1 C.2.2.2.2.1 iXM C.2.2.2.1 C.2.2.2.2.2.1 hP 0 rfl rfl 2 (by decide) (C.2.2.2.2.1 _ fl_M_105) (fun _ h9 => h9) rfl hdg kk
theorem gf_M_34 {p : Program} {l : Launch} {e : Env} {R : Room} {s : State} {m : MethodId} {args : Array Value} {below : List Frame} {meth : Method} {c : Code} {H : Heap} {locs : List Loc} {cells slots : Nat} {Q : State → Prop} {D : va_G} {A : Nat → Prop} {cc : ByteArray} {nL pc : Nat} {ret : Option FieldType} {hh : List ExceptionTableEntry} {ls : Array Slot} {rest : List Value} {ka : Nat → ClassId} {al : Nat → Nat} {f : Nat → Nat → Int32} {Z : va_W} (C : fr_Cx p s m args meth c "FragileRulesModel" cc nL ret hh fr_tbl fr_nw D vwCl (fr_ty ka) A) (hP : va_P D vwCl (fr_mw ka al f Z) H) (hdg : decode cc pc = .ok (.getfield 34, 3)) (kk : W p l e R s m args below meth c H locs cells slots Q (F0 m (pc + 3) ls (.ref (al 9) :: rest))) : W p l e R s m args below meth c H locs cells slots Q (F0 m pc ls (.ref (al 0) :: rest)) :=
  va_get (D := D) (ci := 4) (v := .ref (al 9)) (C := "FragileRulesModel") (T := TXM) (N := 25) C.1 C.2.1 C.2.2.2.2.1 iXM C.2.2.2.1 C.2.2.2.2.2.1 hP 0 rfl rfl 14 (by decide) (C.2.2.2.2.1 _ fl_M_34) (fun _ h9 => h9) rfl hdg kk
theorem msa_9 {ka : Nat → ClassId} {al : Nat → Nat} {f : Nat → Nat → Int32} {Z : va_W} {v : Int32} {k : Nat} : (fr_mw ka al f Z).set 9 (al 9, .inl (ka 2, 200, .inl (upd (fun j => f 9 j) k v))) = fr_mw ka al (fr_up f 9 k v) Z := by
  have ha : upd (fun j => f 9 j) k v = (fun j => fr_up f 9 k v 9 j) := by funext j; simp [upd, fr_up]
  rw [ha]
  simp [fr_mw, fr_mo, fr_ia, fr_up]
theorem mast_9 {p : Program} {l : Launch} {e : Env} {R : Room} {s : State} {m : MethodId} {args : Array Value} {below : List Frame} {meth : Method} {c : Code} {H : Heap} {locs : List Loc} {cells slots : Nat} {Q : State → Prop} {D : va_G} {A : Nat → Prop} {cc : ByteArray} {nL pc : Nat} {ret : Option FieldType} {hh : List ExceptionTableEntry} {ls : Array Slot} {rest : List Value} {ka : Nat → ClassId} {al : Nat → Nat} {f : Nat → Nat → Int32} {Z : va_W} {own : String} {x v : Int32} (C : fr_Cx p s m args meth c own cc nL ret hh fr_tbl fr_nw D vwCl (fr_ty ka) A) (hP : va_P D vwCl (fr_mw ka al f Z) H) (hD : va_D A (fr_mw ka al f Z)) (hS : va_S A s.heap H locs) (hin : vp_in x 200) (hdg : decode cc pc = .ok (.iastore, 1)) (kk : ∀ (H : Heap) (locs : List Loc), va_P D vwCl (fr_mw ka al (fr_up f 9 x.toNatClampNeg v) Z) H → va_D A (fr_mw ka al (fr_up f 9 x.toNatClampNeg v) Z) → va_S A s.heap H locs → W p l e R s m args below meth c H locs cells slots Q (F0 m (pc + 1) ls rest)) : W p l e R s m args below meth c H locs cells slots Q (F0 m pc ls (.int v :: .int x :: .ref (al 9) :: rest)) := by
  refine va_iast (D := D) C.1 C.2.1 C.2.2.2.2.2.1 hP hD hS 9 2 (f := fun j => f 9 j) rfl rfl hin hdg (fun H1 locs1 hP1 hD1 hS1 => ?_)
  rw [msa_9] at hP1 hD1
  exact kk H1 locs1 hP1 hD1 hS1
theorem msw_0_2 {ka : Nat → ClassId} {al : Nat → Nat} {f : Nat → Nat → Int32} {Z : va_W} {v : Int32} : (fr_mw ka al f Z).set 0 (al 0, .inr (4, ([.int (f 0 0), .int (f 0 1), .int (f 0 2), .int (f 0 3), .int (f 0 4), .int (f 0 5), .ref (al 1), .ref (al 2), .ref (al 3), .ref (al 4), .ref (al 5), .ref (al 6), .ref (al 7), .ref (al 8), .ref (al 9), .ref (al 10), .int (f 0 6), .int (f 0 7), .int (f 0 8), .int (f 0 9), .int (f 0 10), .int (f 0 11), .int (f 0 12), .int (f 0 13), .int (f 0 14)] : List Value).set 2 (.int v))) = fr_mw ka al (fr_up f 0 2 v) Z := by
  simp [fr_mw, fr_mo, fr_ia, fr_up]
theorem pf_M_105 {p : Program} {l : Launch} {e : Env} {R : Room} {s : State} {m : MethodId} {args : Array Value} {below : List Frame} {meth : Method} {c : Code} {H : Heap} {locs : List Loc} {cells slots : Nat} {Q : State → Prop} {D : va_G} {A : Nat → Prop} {cc : ByteArray} {nL pc : Nat} {ret : Option FieldType} {hh : List ExceptionTableEntry} {ls : Array Slot} {rest : List Value} {ka : Nat → ClassId} {al : Nat → Nat} {f : Nat → Nat → Int32} {Z : va_W} {v : Int32} (C : fr_Cx p s m args meth c "FragileRulesModel" cc nL ret hh fr_tbl fr_nw D vwCl (fr_ty ka) A) (hP : va_P D vwCl (fr_mw ka al f Z) H) (hD : va_D A (fr_mw ka al f Z)) (hS : va_S A s.heap H locs) (hdg : decode cc pc = .ok (.putfield 105, 3)) (kk : ∀ (H : Heap) (locs : List Loc), va_P D vwCl (fr_mw ka al (fr_up f 0 2 v) Z) H → va_D A (fr_mw ka al (fr_up f 0 2 v) Z) → va_S A s.heap H locs → W p l e R s m args below meth c H locs cells slots Q (F0 m (pc + 3) ls rest)) : W p l e R s m args below meth c H locs cells slots Q (F0 m pc ls (.int v :: .ref (al 0) :: rest)) := by
  refine va_put (D := D) (ci := 4) (v := .int v) (ty := .int) (C := "FragileRulesModel") (T := TXM) (N := 25) C.1 C.2.1 C.2.2.2.2.1 iXM tyXM tokXM nmXM C.2.2.2.1 C.2.2.2.2.2.1 hP hD hS 0 rfl rfl 2 (by decide) (C.2.2.2.2.1 _ fl_M_105) (fun _ h9 => h9) rfl (by decide +kernel) rfl rfl (Nat.le_of_ble_eq_true rfl) hdg (fun H1 locs1 hP1 hD1 hS1 => ?_)
  rw [msw_0_2] at hP1 hD1
  exact kk H1 locs1 hP1 hD1 hS1
theorem msw_0_8 {ka : Nat → ClassId} {al : Nat → Nat} {f : Nat → Nat → Int32} {Z : va_W} {v : Int32} : (fr_mw ka al f Z).set 0 (al 0, .inr (4, ([.int (f 0 0), .int (f 0 1), .int (f 0 2), .int (f 0 3), .int (f 0 4), .int (f 0 5), .ref (al 1), .ref (al 2), .ref (al 3), .ref (al 4), .ref (al 5), .ref (al 6), .ref (al 7), .ref (al 8), .ref (al 9), .ref (al 10), .int (f 0 6), .int (f 0 7), .int (f 0 8), .int (f 0 9), .int (f 0 10), .int (f 0 11), .int (f 0 12), .int (f 0 13), .int (f 0 14)] : List Value).set 18 (.int v))) = fr_mw ka al (fr_up f 0 8 v) Z := by
  simp [fr_mw, fr_mo, fr_ia, fr_up]
theorem pf_M_50 {p : Program} {l : Launch} {e : Env} {R : Room} {s : State} {m : MethodId} {args : Array Value} {below : List Frame} {meth : Method} {c : Code} {H : Heap} {locs : List Loc} {cells slots : Nat} {Q : State → Prop} {D : va_G} {A : Nat → Prop} {cc : ByteArray} {nL pc : Nat} {ret : Option FieldType} {hh : List ExceptionTableEntry} {ls : Array Slot} {rest : List Value} {ka : Nat → ClassId} {al : Nat → Nat} {f : Nat → Nat → Int32} {Z : va_W} {v : Int32} (C : fr_Cx p s m args meth c "FragileRulesModel" cc nL ret hh fr_tbl fr_nw D vwCl (fr_ty ka) A) (hP : va_P D vwCl (fr_mw ka al f Z) H) (hD : va_D A (fr_mw ka al f Z)) (hS : va_S A s.heap H locs) (hdg : decode cc pc = .ok (.putfield 50, 3)) (kk : ∀ (H : Heap) (locs : List Loc), va_P D vwCl (fr_mw ka al (fr_up f 0 8 v) Z) H → va_D A (fr_mw ka al (fr_up f 0 8 v) Z) → va_S A s.heap H locs → W p l e R s m args below meth c H locs cells slots Q (F0 m (pc + 3) ls rest)) : W p l e R s m args below meth c H locs cells slots Q (F0 m pc ls (.int v :: .ref (al 0) :: rest)) := by
  refine va_put (D := D) (ci := 4) (v := .int v) (ty := .int) (C := "FragileRulesModel") (T := TXM) (N := 25) C.1 C.2.1 C.2.2.2.2.1 iXM tyXM tokXM nmXM C.2.2.2.1 C.2.2.2.2.2.1 hP hD hS 0 rfl rfl 18 (by decide) (C.2.2.2.2.1 _ fl_M_50) (fun _ h9 => h9) rfl (by decide +kernel) rfl rfl (Nat.le_of_ble_eq_true rfl) hdg (fun H1 locs1 hP1 hD1 hS1 => ?_)
  rw [msw_0_8] at hP1 hD1
  exact kk H1 locs1 hP1 hD1 hS1
theorem msw_0_9 {ka : Nat → ClassId} {al : Nat → Nat} {f : Nat → Nat → Int32} {Z : va_W} {v : Int32} : (fr_mw ka al f Z).set 0 (al 0, .inr (4, ([.int (f 0 0), .int (f 0 1), .int (f 0 2), .int (f 0 3), .int (f 0 4), .int (f 0 5), .ref (al 1), .ref (al 2), .ref (al 3), .ref (al 4), .ref (al 5), .ref (al 6), .ref (al 7), .ref (al 8), .ref (al 9), .ref (al 10), .int (f 0 6), .int (f 0 7), .int (f 0 8), .int (f 0 9), .int (f 0 10), .int (f 0 11), .int (f 0 12), .int (f 0 13), .int (f 0 14)] : List Value).set 19 (.int v))) = fr_mw ka al (fr_up f 0 9 v) Z := by
  simp [fr_mw, fr_mo, fr_ia, fr_up]
theorem pf_M_53 {p : Program} {l : Launch} {e : Env} {R : Room} {s : State} {m : MethodId} {args : Array Value} {below : List Frame} {meth : Method} {c : Code} {H : Heap} {locs : List Loc} {cells slots : Nat} {Q : State → Prop} {D : va_G} {A : Nat → Prop} {cc : ByteArray} {nL pc : Nat} {ret : Option FieldType} {hh : List ExceptionTableEntry} {ls : Array Slot} {rest : List Value} {ka : Nat → ClassId} {al : Nat → Nat} {f : Nat → Nat → Int32} {Z : va_W} {v : Int32} (C : fr_Cx p s m args meth c "FragileRulesModel" cc nL ret hh fr_tbl fr_nw D vwCl (fr_ty ka) A) (hP : va_P D vwCl (fr_mw ka al f Z) H) (hD : va_D A (fr_mw ka al f Z)) (hS : va_S A s.heap H locs) (hdg : decode cc pc = .ok (.putfield 53, 3)) (kk : ∀ (H : Heap) (locs : List Loc), va_P D vwCl (fr_mw ka al (fr_up f 0 9 v) Z) H → va_D A (fr_mw ka al (fr_up f 0 9 v) Z) → va_S A s.heap H locs → W p l e R s m args below meth c H locs cells slots Q (F0 m (pc + 3) ls rest)) : W p l e R s m args below meth c H locs cells slots Q (F0 m pc ls (.int v :: .ref (al 0) :: rest)) := by
  refine va_put (D := D) (ci := 4) (v := .int v) (ty := .int) (C := "FragileRulesModel") (T := TXM) (N := 25) C.1 C.2.1 C.2.2.2.2.1 iXM tyXM tokXM nmXM C.2.2.2.1 C.2.2.2.2.2.1 hP hD hS 0 rfl rfl 19 (by decide) (C.2.2.2.2.1 _ fl_M_53) (fun _ h9 => h9) rfl (by decide +kernel) rfl rfl (Nat.le_of_ble_eq_true rfl) hdg (fun H1 locs1 hP1 hD1 hS1 => ?_)
  rw [msw_0_9] at hP1 hD1
  exact kk H1 locs1 hP1 hD1 hS1
theorem msw_0_10 {ka : Nat → ClassId} {al : Nat → Nat} {f : Nat → Nat → Int32} {Z : va_W} {v : Int32} : (fr_mw ka al f Z).set 0 (al 0, .inr (4, ([.int (f 0 0), .int (f 0 1), .int (f 0 2), .int (f 0 3), .int (f 0 4), .int (f 0 5), .ref (al 1), .ref (al 2), .ref (al 3), .ref (al 4), .ref (al 5), .ref (al 6), .ref (al 7), .ref (al 8), .ref (al 9), .ref (al 10), .int (f 0 6), .int (f 0 7), .int (f 0 8), .int (f 0 9), .int (f 0 10), .int (f 0 11), .int (f 0 12), .int (f 0 13), .int (f 0 14)] : List Value).set 20 (.int v))) = fr_mw ka al (fr_up f 0 10 v) Z := by
  simp [fr_mw, fr_mo, fr_ia, fr_up]
theorem pf_M_56 {p : Program} {l : Launch} {e : Env} {R : Room} {s : State} {m : MethodId} {args : Array Value} {below : List Frame} {meth : Method} {c : Code} {H : Heap} {locs : List Loc} {cells slots : Nat} {Q : State → Prop} {D : va_G} {A : Nat → Prop} {cc : ByteArray} {nL pc : Nat} {ret : Option FieldType} {hh : List ExceptionTableEntry} {ls : Array Slot} {rest : List Value} {ka : Nat → ClassId} {al : Nat → Nat} {f : Nat → Nat → Int32} {Z : va_W} {v : Int32} (C : fr_Cx p s m args meth c "FragileRulesModel" cc nL ret hh fr_tbl fr_nw D vwCl (fr_ty ka) A) (hP : va_P D vwCl (fr_mw ka al f Z) H) (hD : va_D A (fr_mw ka al f Z)) (hS : va_S A s.heap H locs) (hdg : decode cc pc = .ok (.putfield 56, 3)) (kk : ∀ (H : Heap) (locs : List Loc), va_P D vwCl (fr_mw ka al (fr_up f 0 10 v) Z) H → va_D A (fr_mw ka al (fr_up f 0 10 v) Z) → va_S A s.heap H locs → W p l e R s m args below meth c H locs cells slots Q (F0 m (pc + 3) ls rest)) : W p l e R s m args below meth c H locs cells slots Q (F0 m pc ls (.int v :: .ref (al 0) :: rest)) := by
  refine va_put (D := D) (ci := 4) (v := .int v) (ty := .int) (C := "FragileRulesModel") (T := TXM) (N := 25) C.1 C.2.1 C.2.2.2.2.1 iXM tyXM tokXM nmXM C.2.2.2.1 C.2.2.2.2.2.1 hP hD hS 0 rfl rfl 20 (by decide) (C.2.2.2.2.1 _ fl_M_56) (fun _ h9 => h9) rfl (by decide +kernel) rfl rfl (Nat.le_of_ble_eq_true rfl) hdg (fun H1 locs1 hP1 hD1 hS1 => ?_)
  rw [msw_0_10] at hP1 hD1
  exact kk H1 locs1 hP1 hD1 hS1
theorem mald_10 {p : Program} {l : Launch} {e : Env} {R : Room} {s : State} {m : MethodId} {args : Array Value} {below : List Frame} {meth : Method} {c : Code} {H : Heap} {locs : List Loc} {cells slots : Nat} {Q : State → Prop} {D : va_G} {A : Nat → Prop} {cc : ByteArray} {nL pc : Nat} {ret : Option FieldType} {hh : List ExceptionTableEntry} {ls : Array Slot} {rest : List Value} {ka : Nat → ClassId} {al : Nat → Nat} {f : Nat → Nat → Int32} {Z : va_W} {own : String} {x : Int32} (C : fr_Cx p s m args meth c own cc nL ret hh fr_tbl fr_nw D vwCl (fr_ty ka) A) (hP : va_P D vwCl (fr_mw ka al f Z) H) (hin : vp_in x 12) (hdg : decode cc pc = .ok (.iaload, 1)) (kk : W p l e R s m args below meth c H locs cells slots Q (F0 m (pc + 1) ls (.int (f 10 x.toNatClampNeg) :: rest))) : W p l e R s m args below meth c H locs cells slots Q (F0 m pc ls (.int x :: .ref (al 10) :: rest)) :=
  va_iald (D := D) C.1 C.2.1 C.2.2.2.2.2.1 hP 10 2 (f := fun j => f 10 j) rfl rfl hin hdg kk
theorem gf_M_108 {p : Program} {l : Launch} {e : Env} {R : Room} {s : State} {m : MethodId} {args : Array Value} {below : List Frame} {meth : Method} {c : Code} {H : Heap} {locs : List Loc} {cells slots : Nat} {Q : State → Prop} {D : va_G} {A : Nat → Prop} {cc : ByteArray} {nL pc : Nat} {ret : Option FieldType} {hh : List ExceptionTableEntry} {ls : Array Slot} {rest : List Value} {ka : Nat → ClassId} {al : Nat → Nat} {f : Nat → Nat → Int32} {Z : va_W} (C : fr_Cx p s m args meth c "FragileRulesModel" cc nL ret hh fr_tbl fr_nw D vwCl (fr_ty ka) A) (hP : va_P D vwCl (fr_mw ka al f Z) H) (hdg : decode cc pc = .ok (.getfield 108, 3)) (kk : W p l e R s m args below meth c H locs cells slots Q (F0 m (pc + 3) ls (.int (f 0 13) :: rest))) : W p l e R s m args below meth c H locs cells slots Q (F0 m pc ls (.ref (al 0) :: rest)) :=
  va_get (D := D) (ci := 4) (v := .int (f 0 13)) (C := "FragileRulesModel") (T := TXM) (N := 25) C.1 C.2.1 C.2.2.2.2.1 iXM C.2.2.2.1 C.2.2.2.2.2.1 hP 0 rfl rfl 23 (by decide) (C.2.2.2.2.1 _ fl_M_108) (fun _ h9 => h9) rfl hdg kk
theorem mald_9 {p : Program} {l : Launch} {e : Env} {R : Room} {s : State} {m : MethodId} {args : Array Value} {below : List Frame} {meth : Method} {c : Code} {H : Heap} {locs : List Loc} {cells slots : Nat} {Q : State → Prop} {D : va_G} {A : Nat → Prop} {cc : ByteArray} {nL pc : Nat} {ret : Option FieldType} {hh : List ExceptionTableEntry} {ls : Array Slot} {rest : List Value} {ka : Nat → ClassId} {al : Nat → Nat} {f : Nat → Nat → Int32} {Z : va_W} {own : String} {x : Int32} (C : fr_Cx p s m args meth c own cc nL ret hh fr_tbl fr_nw D vwCl (fr_ty ka) A) (hP : va_P D vwCl (fr_mw ka al f Z) H) (hin : vp_in x 200) (hdg : decode cc pc = .ok (.iaload, 1)) (kk : W p l e R s m args below meth c H locs cells slots Q (F0 m (pc + 1) ls (.int (f 9 x.toNatClampNeg) :: rest))) : W p l e R s m args below meth c H locs cells slots Q (F0 m pc ls (.int x :: .ref (al 9) :: rest)) :=
  va_iald (D := D) C.1 C.2.1 C.2.2.2.2.2.1 hP 9 2 (f := fun j => f 9 j) rfl rfl hin hdg kk
theorem gf_M_111 {p : Program} {l : Launch} {e : Env} {R : Room} {s : State} {m : MethodId} {args : Array Value} {below : List Frame} {meth : Method} {c : Code} {H : Heap} {locs : List Loc} {cells slots : Nat} {Q : State → Prop} {D : va_G} {A : Nat → Prop} {cc : ByteArray} {nL pc : Nat} {ret : Option FieldType} {hh : List ExceptionTableEntry} {ls : Array Slot} {rest : List Value} {ka : Nat → ClassId} {al : Nat → Nat} {f : Nat → Nat → Int32} {Z : va_W} (C : fr_Cx p s m args meth c "FragileRulesModel" cc nL ret hh fr_tbl fr_nw D vwCl (fr_ty ka) A) (hP : va_P D vwCl (fr_mw ka al f Z) H) (hdg : decode cc pc = .ok (.getfield 111, 3)) (kk : W p l e R s m args below meth c H locs cells slots Q (F0 m (pc + 3) ls (.int (f 0 14) :: rest))) : W p l e R s m args below meth c H locs cells slots Q (F0 m pc ls (.ref (al 0) :: rest)) :=
  va_get (D := D) (ci := 4) (v := .int (f 0 14)) (C := "FragileRulesModel") (T := TXM) (N := 25) C.1 C.2.1 C.2.2.2.2.1 iXM C.2.2.2.1 C.2.2.2.2.2.1 hP 0 rfl rfl 24 (by decide) (C.2.2.2.2.1 _ fl_M_111) (fun _ h9 => h9) rfl hdg kk
theorem msw_0_14 {ka : Nat → ClassId} {al : Nat → Nat} {f : Nat → Nat → Int32} {Z : va_W} {v : Int32} : (fr_mw ka al f Z).set 0 (al 0, .inr (4, ([.int (f 0 0), .int (f 0 1), .int (f 0 2), .int (f 0 3), .int (f 0 4), .int (f 0 5), .ref (al 1), .ref (al 2), .ref (al 3), .ref (al 4), .ref (al 5), .ref (al 6), .ref (al 7), .ref (al 8), .ref (al 9), .ref (al 10), .int (f 0 6), .int (f 0 7), .int (f 0 8), .int (f 0 9), .int (f 0 10), .int (f 0 11), .int (f 0 12), .int (f 0 13), .int (f 0 14)] : List Value).set 24 (.int v))) = fr_mw ka al (fr_up f 0 14 v) Z := by
  simp [fr_mw, fr_mo, fr_ia, fr_up]
theorem pf_M_111 {p : Program} {l : Launch} {e : Env} {R : Room} {s : State} {m : MethodId} {args : Array Value} {below : List Frame} {meth : Method} {c : Code} {H : Heap} {locs : List Loc} {cells slots : Nat} {Q : State → Prop} {D : va_G} {A : Nat → Prop} {cc : ByteArray} {nL pc : Nat} {ret : Option FieldType} {hh : List ExceptionTableEntry} {ls : Array Slot} {rest : List Value} {ka : Nat → ClassId} {al : Nat → Nat} {f : Nat → Nat → Int32} {Z : va_W} {v : Int32} (C : fr_Cx p s m args meth c "FragileRulesModel" cc nL ret hh fr_tbl fr_nw D vwCl (fr_ty ka) A) (hP : va_P D vwCl (fr_mw ka al f Z) H) (hD : va_D A (fr_mw ka al f Z)) (hS : va_S A s.heap H locs) (hdg : decode cc pc = .ok (.putfield 111, 3)) (kk : ∀ (H : Heap) (locs : List Loc), va_P D vwCl (fr_mw ka al (fr_up f 0 14 v) Z) H → va_D A (fr_mw ka al (fr_up f 0 14 v) Z) → va_S A s.heap H locs → W p l e R s m args below meth c H locs cells slots Q (F0 m (pc + 3) ls rest)) : W p l e R s m args below meth c H locs cells slots Q (F0 m pc ls (.int v :: .ref (al 0) :: rest)) := by
  refine va_put (D := D) (ci := 4) (v := .int v) (ty := .int) (C := "FragileRulesModel") (T := TXM) (N := 25) C.1 C.2.1 C.2.2.2.2.1 iXM tyXM tokXM nmXM C.2.2.2.1 C.2.2.2.2.2.1 hP hD hS 0 rfl rfl 24 (by decide) (C.2.2.2.2.1 _ fl_M_111) (fun _ h9 => h9) rfl (by decide +kernel) rfl rfl (Nat.le_of_ble_eq_true rfl) hdg (fun H1 locs1 hP1 hD1 hS1 => ?_)
  rw [msw_0_14] at hP1 hD1
  exact kk H1 locs1 hP1 hD1 hS1
theorem msw_0_13 {ka : Nat → ClassId} {al : Nat → Nat} {f : Nat → Nat → Int32} {Z : va_W} {v : Int32} : (fr_mw ka al f Z).set 0 (al 0, .inr (4, ([.int (f 0 0), .int (f 0 1), .int (f 0 2), .int (f 0 3), .int (f 0 4), .int (f 0 5), .ref (al 1), .ref (al 2), .ref (al 3), .ref (al 4), .ref (al 5), .ref (al 6), .ref (al 7), .ref (al 8), .ref (al 9), .ref (al 10), .int (f 0 6), .int (f 0 7), .int (f 0 8), .int (f 0 9), .int (f 0 10), .int (f 0 11), .int (f 0 12), .int (f 0 13), .int (f 0 14)] : List Value).set 23 (.int v))) = fr_mw ka al (fr_up f 0 13 v) Z := by
  simp [fr_mw, fr_mo, fr_ia, fr_up]
theorem pf_M_108 {p : Program} {l : Launch} {e : Env} {R : Room} {s : State} {m : MethodId} {args : Array Value} {below : List Frame} {meth : Method} {c : Code} {H : Heap} {locs : List Loc} {cells slots : Nat} {Q : State → Prop} {D : va_G} {A : Nat → Prop} {cc : ByteArray} {nL pc : Nat} {ret : Option FieldType} {hh : List ExceptionTableEntry} {ls : Array Slot} {rest : List Value} {ka : Nat → ClassId} {al : Nat → Nat} {f : Nat → Nat → Int32} {Z : va_W} {v : Int32} (C : fr_Cx p s m args meth c "FragileRulesModel" cc nL ret hh fr_tbl fr_nw D vwCl (fr_ty ka) A) (hP : va_P D vwCl (fr_mw ka al f Z) H) (hD : va_D A (fr_mw ka al f Z)) (hS : va_S A s.heap H locs) (hdg : decode cc pc = .ok (.putfield 108, 3)) (kk : ∀ (H : Heap) (locs : List Loc), va_P D vwCl (fr_mw ka al (fr_up f 0 13 v) Z) H → va_D A (fr_mw ka al (fr_up f 0 13 v) Z) → va_S A s.heap H locs → W p l e R s m args below meth c H locs cells slots Q (F0 m (pc + 3) ls rest)) : W p l e R s m args below meth c H locs cells slots Q (F0 m pc ls (.int v :: .ref (al 0) :: rest)) := by
  refine va_put (D := D) (ci := 4) (v := .int v) (ty := .int) (C := "FragileRulesModel") (T := TXM) (N := 25) C.1 C.2.1 C.2.2.2.2.1 iXM tyXM tokXM nmXM C.2.2.2.1 C.2.2.2.2.2.1 hP hD hS 0 rfl rfl 23 (by decide) (C.2.2.2.2.1 _ fl_M_108) (fun _ h9 => h9) rfl (by decide +kernel) rfl rfl (Nat.le_of_ble_eq_true rfl) hdg (fun H1 locs1 hP1 hD1 hS1 => ?_)
  rw [msw_0_13] at hP1 hD1
  exact kk H1 locs1 hP1 hD1 hS1
