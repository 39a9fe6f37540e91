theorem dW_law_0 : decode code 0 = .ok (.new 8, 3) := by decide +kernel
theorem dW_law_3 : decode code 3 = .ok (.dup, 1) := by decide +kernel
theorem dW_law_4 : decode code 4 = .ok (.invokespecial 59, 3) := by decide +kernel
theorem dW_law_7 : decode code 7 = .ok (.astore_n 1, 1) := by decide +kernel
theorem dW_law_8 : decode code 8 = .ok (.new 60, 3) := by decide +kernel
theorem dW_law_11 : decode code 11 = .ok (.dup, 1) := by decide +kernel
theorem dW_law_12 : decode code 12 = .ok (.invokespecial 62, 3) := by decide +kernel
theorem dW_law_15 : decode code 15 = .ok (.astore_n 2, 1) := by decide +kernel
theorem dW_law_16 : decode code 16 = .ok (.iconst 1, 1) := by decide +kernel
theorem dW_law_17 : decode code 17 = .ok (.newarray .long, 2) := by decide +kernel
theorem dW_law_19 : decode code 19 = .ok (.astore_n 3, 1) := by decide +kernel
theorem dW_law_20 : decode code 20 = .ok (.iconst 0, 1) := by decide +kernel
theorem dW_law_21 : decode code 21 = .ok (.istore 4, 2) := by decide +kernel
theorem dW_law_23 : decode code 23 = .ok (.iload 4, 2) := by decide +kernel
theorem dW_law_25 : decode code 25 = .ok (.aload_n 0, 1) := by decide +kernel
theorem dW_law_26 : decode code 26 = .ok (.arraylength, 1) := by decide +kernel
theorem dW_law_27 : decode code 27 = .ok (.iconst 4, 1) := by decide +kernel
theorem dW_law_28 : decode code 28 = .ok (.isub, 1) := by decide +kernel
theorem dW_law_29 : decode code 29 = .ok (.if_icmp .gt 935, 3) := by decide +kernel
theorem dW_law_32 : decode code 32 = .ok (.aload_n 0, 1) := by decide +kernel
theorem dW_law_33 : decode code 33 = .ok (.iload 4, 2) := by decide +kernel
theorem dW_law_35 : decode code 35 = .ok (.iaload, 1) := by decide +kernel
theorem dW_law_36 : decode code 36 = .ok (.bipush 15, 2) := by decide +kernel
theorem dW_law_38 : decode code 38 = .ok (.iand, 1) := by decide +kernel
theorem dW_law_39 : decode code 39 = .ok (.tableswitch 919 0 13 #[69, 149, 229, 313, 349, 393, 473, 541, 609, 634, 690, 758, 826, 894], 69) := by decide +kernel
theorem dW_law_108 : decode code 108 = .ok (.aload_n 1, 1) := by decide +kernel
theorem dW_law_109 : decode code 109 = .ok (.aload_n 0, 1) := by decide +kernel
theorem dW_law_110 : decode code 110 = .ok (.iload 4, 2) := by decide +kernel
theorem dW_law_112 : decode code 112 = .ok (.iconst 1, 1) := by decide +kernel
theorem dW_law_113 : decode code 113 = .ok (.iadd, 1) := by decide +kernel
theorem dW_law_114 : decode code 114 = .ok (.iaload, 1) := by decide +kernel
theorem dW_law_115 : decode code 115 = .ok (.aload_n 0, 1) := by decide +kernel
theorem dW_law_116 : decode code 116 = .ok (.iload 4, 2) := by decide +kernel
theorem dW_law_118 : decode code 118 = .ok (.iconst 2, 1) := by decide +kernel
theorem dW_law_119 : decode code 119 = .ok (.iadd, 1) := by decide +kernel
theorem dW_law_120 : decode code 120 = .ok (.iaload, 1) := by decide +kernel
theorem dW_law_121 : decode code 121 = .ok (.aload_n 0, 1) := by decide +kernel
theorem dW_law_122 : decode code 122 = .ok (.iload 4, 2) := by decide +kernel
theorem dW_law_124 : decode code 124 = .ok (.iconst 3, 1) := by decide +kernel
theorem dW_law_125 : decode code 125 = .ok (.iadd, 1) := by decide +kernel
theorem dW_law_126 : decode code 126 = .ok (.iaload, 1) := by decide +kernel
theorem dW_law_127 : decode code 127 = .ok (.aload_n 3, 1) := by decide +kernel
theorem dW_law_128 : decode code 128 = .ok (.invokestatic 63, 3) := by decide +kernel
theorem dW_law_131 : decode code 131 = .ok (.istore 5, 2) := by decide +kernel
theorem dW_law_133 : decode code 133 = .ok (.aload_n 2, 1) := by decide +kernel
theorem dW_law_134 : decode code 134 = .ok (.aload_n 0, 1) := by decide +kernel
theorem dW_law_135 : decode code 135 = .ok (.iload 4, 2) := by decide +kernel
theorem dW_law_137 : decode code 137 = .ok (.iconst 1, 1) := by decide +kernel
theorem dW_law_138 : decode code 138 = .ok (.iadd, 1) := by decide +kernel
theorem dW_law_139 : decode code 139 = .ok (.iaload, 1) := by decide +kernel
theorem dW_law_140 : decode code 140 = .ok (.aload_n 0, 1) := by decide +kernel
theorem dW_law_141 : decode code 141 = .ok (.iload 4, 2) := by decide +kernel
theorem dW_law_143 : decode code 143 = .ok (.iconst 2, 1) := by decide +kernel
theorem dW_law_144 : decode code 144 = .ok (.iadd, 1) := by decide +kernel
theorem dW_law_145 : decode code 145 = .ok (.iaload, 1) := by decide +kernel
theorem dW_law_146 : decode code 146 = .ok (.aload_n 0, 1) := by decide +kernel
theorem dW_law_147 : decode code 147 = .ok (.iload 4, 2) := by decide +kernel
theorem dW_law_149 : decode code 149 = .ok (.iconst 3, 1) := by decide +kernel
theorem dW_law_150 : decode code 150 = .ok (.iadd, 1) := by decide +kernel
theorem dW_law_151 : decode code 151 = .ok (.iaload, 1) := by decide +kernel
theorem dW_law_152 : decode code 152 = .ok (.invokevirtual 68, 3) := by decide +kernel
theorem dW_law_155 : decode code 155 = .ok (.istore 6, 2) := by decide +kernel
theorem dW_law_157 : decode code 157 = .ok (.aload_n 2, 1) := by decide +kernel
theorem dW_law_158 : decode code 158 = .ok (.invokevirtual 69, 3) := by decide +kernel
theorem dW_law_161 : decode code 161 = .ok (.iload 5, 2) := by decide +kernel
theorem dW_law_163 : decode code 163 = .ok (.if_icmp .eq 5, 3) := by decide +kernel
theorem dW_law_166 : decode code 166 = .ok (.iconst 0, 1) := by decide +kernel
theorem dW_law_167 : decode code 167 = .ok (.ireturn, 1) := by decide +kernel
theorem dW_law_168 : decode code 168 = .ok (.iload 5, 2) := by decide +kernel
theorem dW_law_170 : decode code 170 = .ok (.ifCond .ne 15, 3) := by decide +kernel
theorem dW_law_173 : decode code 173 = .ok (.aload_n 3, 1) := by decide +kernel
theorem dW_law_174 : decode code 174 = .ok (.iconst 0, 1) := by decide +kernel
theorem dW_law_175 : decode code 175 = .ok (.laload, 1) := by decide +kernel
theorem dW_law_176 : decode code 176 = .ok (.iload 6, 2) := by decide +kernel
theorem dW_law_178 : decode code 178 = .ok (.i2l, 1) := by decide +kernel
theorem dW_law_179 : decode code 179 = .ok (.lcmp, 1) := by decide +kernel
theorem dW_law_180 : decode code 180 = .ok (.ifCond .eq 5, 3) := by decide +kernel
theorem dW_law_183 : decode code 183 = .ok (.iconst 0, 1) := by decide +kernel
theorem dW_law_184 : decode code 184 = .ok (.ireturn, 1) := by decide +kernel
theorem dW_law_185 : decode code 185 = .ok (.goto 773, 3) := by decide +kernel
theorem dW_law_188 : decode code 188 = .ok (.aload_n 1, 1) := by decide +kernel
theorem dW_law_189 : decode code 189 = .ok (.aload_n 0, 1) := by decide +kernel
theorem dW_law_190 : decode code 190 = .ok (.iload 4, 2) := by decide +kernel
theorem dW_law_192 : decode code 192 = .ok (.iconst 1, 1) := by decide +kernel
theorem dW_law_193 : decode code 193 = .ok (.iadd, 1) := by decide +kernel
theorem dW_law_194 : decode code 194 = .ok (.iaload, 1) := by decide +kernel
theorem dW_law_195 : decode code 195 = .ok (.aload_n 0, 1) := by decide +kernel
theorem dW_law_196 : decode code 196 = .ok (.iload 4, 2) := by decide +kernel
theorem dW_law_198 : decode code 198 = .ok (.iconst 2, 1) := by decide +kernel
theorem dW_law_199 : decode code 199 = .ok (.iadd, 1) := by decide +kernel
theorem dW_law_200 : decode code 200 = .ok (.iaload, 1) := by decide +kernel
theorem dW_law_201 : decode code 201 = .ok (.aload_n 0, 1) := by decide +kernel
theorem dW_law_202 : decode code 202 = .ok (.iload 4, 2) := by decide +kernel
theorem dW_law_204 : decode code 204 = .ok (.iconst 3, 1) := by decide +kernel
theorem dW_law_205 : decode code 205 = .ok (.iadd, 1) := by decide +kernel
theorem dW_law_206 : decode code 206 = .ok (.iaload, 1) := by decide +kernel
theorem dW_law_207 : decode code 207 = .ok (.aload_n 3, 1) := by decide +kernel
theorem dW_law_208 : decode code 208 = .ok (.invokestatic 72, 3) := by decide +kernel
theorem dW_law_211 : decode code 211 = .ok (.istore 5, 2) := by decide +kernel
theorem dW_law_213 : decode code 213 = .ok (.aload_n 2, 1) := by decide +kernel
theorem dW_law_214 : decode code 214 = .ok (.aload_n 0, 1) := by decide +kernel
theorem dW_law_215 : decode code 215 = .ok (.iload 4, 2) := by decide +kernel
theorem dW_law_217 : decode code 217 = .ok (.iconst 1, 1) := by decide +kernel
theorem dW_law_218 : decode code 218 = .ok (.iadd, 1) := by decide +kernel
theorem dW_law_219 : decode code 219 = .ok (.iaload, 1) := by decide +kernel
theorem dW_law_220 : decode code 220 = .ok (.aload_n 0, 1) := by decide +kernel
theorem dW_law_221 : decode code 221 = .ok (.iload 4, 2) := by decide +kernel
theorem dW_law_223 : decode code 223 = .ok (.iconst 2, 1) := by decide +kernel
theorem dW_law_224 : decode code 224 = .ok (.iadd, 1) := by decide +kernel
theorem dW_law_225 : decode code 225 = .ok (.iaload, 1) := by decide +kernel
theorem dW_law_226 : decode code 226 = .ok (.aload_n 0, 1) := by decide +kernel
theorem dW_law_227 : decode code 227 = .ok (.iload 4, 2) := by decide +kernel
theorem dW_law_229 : decode code 229 = .ok (.iconst 3, 1) := by decide +kernel
theorem dW_law_230 : decode code 230 = .ok (.iadd, 1) := by decide +kernel
theorem dW_law_231 : decode code 231 = .ok (.iaload, 1) := by decide +kernel
theorem dW_law_232 : decode code 232 = .ok (.invokevirtual 74, 3) := by decide +kernel
theorem dW_law_235 : decode code 235 = .ok (.istore 6, 2) := by decide +kernel
theorem dW_law_237 : decode code 237 = .ok (.aload_n 2, 1) := by decide +kernel
theorem dW_law_238 : decode code 238 = .ok (.invokevirtual 69, 3) := by decide +kernel
theorem dW_law_241 : decode code 241 = .ok (.iload 5, 2) := by decide +kernel
