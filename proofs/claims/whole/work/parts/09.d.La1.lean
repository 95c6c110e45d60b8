theorem d_La_law_0 : decode code 0 = .ok (.new 8, 3) := by decide +kernel
theorem d_La_law_3 : decode code 3 = .ok (.dup, 1) := by decide +kernel
theorem d_La_law_4 : decode code 4 = .ok (.aload_n 0, 1) := by decide +kernel
theorem d_La_law_5 : decode code 5 = .ok (.iconst 0, 1) := by decide +kernel
theorem d_La_law_6 : decode code 6 = .ok (.invokestatic 15, 3) := by decide +kernel
theorem d_La_law_9 : decode code 9 = .ok (.invokespecial 21, 3) := by decide +kernel
theorem d_La_law_12 : decode code 12 = .ok (.astore_n 1, 1) := by decide +kernel
theorem d_La_law_13 : decode code 13 = .ok (.new 24, 3) := by decide +kernel
theorem d_La_law_16 : decode code 16 = .ok (.dup, 1) := by decide +kernel
theorem d_La_law_17 : decode code 17 = .ok (.aload_n 0, 1) := by decide +kernel
theorem d_La_law_18 : decode code 18 = .ok (.iconst 0, 1) := by decide +kernel
theorem d_La_law_19 : decode code 19 = .ok (.invokestatic 15, 3) := by decide +kernel
theorem d_La_law_22 : decode code 22 = .ok (.invokespecial 26, 3) := by decide +kernel
theorem d_La_law_25 : decode code 25 = .ok (.astore_n 2, 1) := by decide +kernel
theorem d_La_law_26 : decode code 26 = .ok (.iconst 1, 1) := by decide +kernel
theorem d_La_law_27 : decode code 27 = .ok (.newarray .long, 2) := by decide +kernel
theorem d_La_law_29 : decode code 29 = .ok (.astore_n 3, 1) := by decide +kernel
theorem d_La_law_30 : decode code 30 = .ok (.iconst 1, 1) := by decide +kernel
theorem d_La_law_31 : decode code 31 = .ok (.istore 4, 2) := by decide +kernel
theorem d_La_law_33 : decode code 33 = .ok (.iload 4, 2) := by decide +kernel
theorem d_La_law_35 : decode code 35 = .ok (.aload_n 0, 1) := by decide +kernel
theorem d_La_law_36 : decode code 36 = .ok (.arraylength, 1) := by decide +kernel
theorem d_La_law_37 : decode code 37 = .ok (.bipush 6, 2) := by decide +kernel
theorem d_La_law_39 : decode code 39 = .ok (.isub, 1) := by decide +kernel
theorem d_La_law_40 : decode code 40 = .ok (.if_icmp .gt 774, 3) := by decide +kernel
theorem d_La_law_43 : decode code 43 = .ok (.aload_n 0, 1) := by decide +kernel
theorem d_La_law_44 : decode code 44 = .ok (.iload 4, 2) := by decide +kernel
theorem d_La_law_46 : decode code 46 = .ok (.iaload, 1) := by decide +kernel
theorem d_La_law_47 : decode code 47 = .ok (.bipush 15, 2) := by decide +kernel
theorem d_La_law_49 : decode code 49 = .ok (.iand, 1) := by decide +kernel
theorem d_La_law_50 : decode code 50 = .ok (.tableswitch 758 0 13 #[70, 163, 230, 267, 292, 341, 366, 391, 472, 541, 566, 623, 676, 733], 70) := by decide +kernel
theorem d_La_law_120 : decode code 120 = .ok (.aload_n 1, 1) := by decide +kernel
theorem d_La_law_121 : decode code 121 = .ok (.aload_n 0, 1) := by decide +kernel
theorem d_La_law_122 : decode code 122 = .ok (.iload 4, 2) := by decide +kernel
theorem d_La_law_124 : decode code 124 = .ok (.iconst 1, 1) := by decide +kernel
theorem d_La_law_125 : decode code 125 = .ok (.iadd, 1) := by decide +kernel
theorem d_La_law_126 : decode code 126 = .ok (.iaload, 1) := by decide +kernel
theorem d_La_law_127 : decode code 127 = .ok (.aload_n 0, 1) := by decide +kernel
theorem d_La_law_128 : decode code 128 = .ok (.iload 4, 2) := by decide +kernel
theorem d_La_law_130 : decode code 130 = .ok (.iconst 2, 1) := by decide +kernel
theorem d_La_law_131 : decode code 131 = .ok (.iadd, 1) := by decide +kernel
theorem d_La_law_132 : decode code 132 = .ok (.iaload, 1) := by decide +kernel
theorem d_La_law_133 : decode code 133 = .ok (.aload_n 0, 1) := by decide +kernel
theorem d_La_law_134 : decode code 134 = .ok (.iload 4, 2) := by decide +kernel
theorem d_La_law_136 : decode code 136 = .ok (.iconst 3, 1) := by decide +kernel
theorem d_La_law_137 : decode code 137 = .ok (.iadd, 1) := by decide +kernel
theorem d_La_law_138 : decode code 138 = .ok (.iaload, 1) := by decide +kernel
theorem d_La_law_139 : decode code 139 = .ok (.i2l, 1) := by decide +kernel
theorem d_La_law_140 : decode code 140 = .ok (.bipush 32, 2) := by decide +kernel
theorem d_La_law_142 : decode code 142 = .ok (.lshl, 1) := by decide +kernel
theorem d_La_law_143 : decode code 143 = .ok (.aload_n 0, 1) := by decide +kernel
theorem d_La_law_144 : decode code 144 = .ok (.iload 4, 2) := by decide +kernel
theorem d_La_law_146 : decode code 146 = .ok (.iconst 4, 1) := by decide +kernel
theorem d_La_law_147 : decode code 147 = .ok (.iadd, 1) := by decide +kernel
theorem d_La_law_148 : decode code 148 = .ok (.iaload, 1) := by decide +kernel
theorem d_La_law_149 : decode code 149 = .ok (.i2l, 1) := by decide +kernel
theorem d_La_law_150 : decode code 150 = .ok (.ldc2_w 27, 3) := by decide +kernel
theorem d_La_law_153 : decode code 153 = .ok (.land, 1) := by decide +kernel
theorem d_La_law_154 : decode code 154 = .ok (.lor, 1) := by decide +kernel
theorem d_La_law_155 : decode code 155 = .ok (.aload_n 0, 1) := by decide +kernel
theorem d_La_law_156 : decode code 156 = .ok (.iload 4, 2) := by decide +kernel
theorem d_La_law_158 : decode code 158 = .ok (.iconst 5, 1) := by decide +kernel
theorem d_La_law_159 : decode code 159 = .ok (.iadd, 1) := by decide +kernel
theorem d_La_law_160 : decode code 160 = .ok (.iaload, 1) := by decide +kernel
theorem d_La_law_161 : decode code 161 = .ok (.invokevirtual 29, 3) := by decide +kernel
theorem d_La_law_164 : decode code 164 = .ok (.aload_n 2, 1) := by decide +kernel
theorem d_La_law_165 : decode code 165 = .ok (.aload_n 0, 1) := by decide +kernel
theorem d_La_law_166 : decode code 166 = .ok (.iload 4, 2) := by decide +kernel
theorem d_La_law_168 : decode code 168 = .ok (.iconst 1, 1) := by decide +kernel
theorem d_La_law_169 : decode code 169 = .ok (.iadd, 1) := by decide +kernel
theorem d_La_law_170 : decode code 170 = .ok (.iaload, 1) := by decide +kernel
theorem d_La_law_171 : decode code 171 = .ok (.aload_n 0, 1) := by decide +kernel
theorem d_La_law_172 : decode code 172 = .ok (.iload 4, 2) := by decide +kernel
theorem d_La_law_174 : decode code 174 = .ok (.iconst 2, 1) := by decide +kernel
theorem d_La_law_175 : decode code 175 = .ok (.iadd, 1) := by decide +kernel
theorem d_La_law_176 : decode code 176 = .ok (.iaload, 1) := by decide +kernel
theorem d_La_law_177 : decode code 177 = .ok (.aload_n 0, 1) := by decide +kernel
theorem d_La_law_178 : decode code 178 = .ok (.iload 4, 2) := by decide +kernel
theorem d_La_law_180 : decode code 180 = .ok (.iconst 3, 1) := by decide +kernel
theorem d_La_law_181 : decode code 181 = .ok (.iadd, 1) := by decide +kernel
theorem d_La_law_182 : decode code 182 = .ok (.iaload, 1) := by decide +kernel
theorem d_La_law_183 : decode code 183 = .ok (.i2l, 1) := by decide +kernel
theorem d_La_law_184 : decode code 184 = .ok (.bipush 32, 2) := by decide +kernel
theorem d_La_law_186 : decode code 186 = .ok (.lshl, 1) := by decide +kernel
theorem d_La_law_187 : decode code 187 = .ok (.aload_n 0, 1) := by decide +kernel
theorem d_La_law_188 : decode code 188 = .ok (.iload 4, 2) := by decide +kernel
theorem d_La_law_190 : decode code 190 = .ok (.iconst 4, 1) := by decide +kernel
theorem d_La_law_191 : decode code 191 = .ok (.iadd, 1) := by decide +kernel
theorem d_La_law_192 : decode code 192 = .ok (.iaload, 1) := by decide +kernel
theorem d_La_law_193 : decode code 193 = .ok (.i2l, 1) := by decide +kernel
theorem d_La_law_194 : decode code 194 = .ok (.ldc2_w 27, 3) := by decide +kernel
theorem d_La_law_197 : decode code 197 = .ok (.land, 1) := by decide +kernel
theorem d_La_law_198 : decode code 198 = .ok (.lor, 1) := by decide +kernel
theorem d_La_law_199 : decode code 199 = .ok (.aload_n 0, 1) := by decide +kernel
theorem d_La_law_200 : decode code 200 = .ok (.iload 4, 2) := by decide +kernel
theorem d_La_law_202 : decode code 202 = .ok (.iconst 5, 1) := by decide +kernel
theorem d_La_law_203 : decode code 203 = .ok (.iadd, 1) := by decide +kernel
theorem d_La_law_204 : decode code 204 = .ok (.iaload, 1) := by decide +kernel
theorem d_La_law_205 : decode code 205 = .ok (.invokevirtual 33, 3) := by decide +kernel
theorem d_La_law_208 : decode code 208 = .ok (.if_icmp .eq 600, 3) := by decide +kernel
theorem d_La_law_211 : decode code 211 = .ok (.iconst 0, 1) := by decide +kernel
theorem d_La_law_212 : decode code 212 = .ok (.ireturn, 1) := by decide +kernel
theorem d_La_law_213 : decode code 213 = .ok (.aload_n 1, 1) := by decide +kernel
theorem d_La_law_214 : decode code 214 = .ok (.aload_n 0, 1) := by decide +kernel
theorem d_La_law_215 : decode code 215 = .ok (.iload 4, 2) := by decide +kernel
theorem d_La_law_217 : decode code 217 = .ok (.iconst 1, 1) := by decide +kernel
theorem d_La_law_218 : decode code 218 = .ok (.iadd, 1) := by decide +kernel
theorem d_La_law_219 : decode code 219 = .ok (.iaload, 1) := by decide +kernel
theorem d_La_law_220 : decode code 220 = .ok (.aload_n 0, 1) := by decide +kernel
theorem d_La_law_221 : decode code 221 = .ok (.iload 4, 2) := by decide +kernel
theorem d_La_law_223 : decode code 223 = .ok (.iconst 2, 1) := by decide +kernel
theorem d_La_law_224 : decode code 224 = .ok (.iadd, 1) := by decide +kernel
theorem d_La_law_225 : decode code 225 = .ok (.iaload, 1) := by decide +kernel
theorem d_La_law_226 : decode code 226 = .ok (.aload_n 3, 1) := by decide +kernel
theorem d_La_law_227 : decode code 227 = .ok (.invokestatic 34, 3) := by decide +kernel
theorem d_La_law_230 : decode code 230 = .ok (.istore 5, 2) := by decide +kernel
theorem d_La_law_232 : decode code 232 = .ok (.aload_n 2, 1) := by decide +kernel
theorem d_La_law_233 : decode code 233 = .ok (.aload_n 0, 1) := by decide +kernel
theorem d_La_law_234 : decode code 234 = .ok (.iload 4, 2) := by decide +kernel
theorem d_La_law_236 : decode code 236 = .ok (.iconst 1, 1) := by decide +kernel
theorem d_La_law_237 : decode code 237 = .ok (.iadd, 1) := by decide +kernel
theorem d_La_law_238 : decode code 238 = .ok (.iaload, 1) := by decide +kernel
theorem d_La_law_239 : decode code 239 = .ok (.aload_n 0, 1) := by decide +kernel
theorem d_La_law_240 : decode code 240 = .ok (.iload 4, 2) := by decide +kernel
theorem d_La_law_242 : decode code 242 = .ok (.iconst 2, 1) := by decide +kernel
theorem d_La_law_243 : decode code 243 = .ok (.iadd, 1) := by decide +kernel
theorem d_La_law_244 : decode code 244 = .ok (.iaload, 1) := by decide +kernel
theorem d_La_law_245 : decode code 245 = .ok (.invokevirtual 37, 3) := by decide +kernel
theorem d_La_law_248 : decode code 248 = .ok (.lstore 6, 2) := by decide +kernel
theorem d_La_law_250 : decode code 250 = .ok (.aload_n 2, 1) := by decide +kernel
theorem d_La_law_251 : decode code 251 = .ok (.invokevirtual 38, 3) := by decide +kernel
theorem d_La_law_254 : decode code 254 = .ok (.iload 5, 2) := by decide +kernel
