/-! what stands at each place of the code, by program -/
theorem d_L_law_0 : decode code 0 = .ok (.new 8, 3) := by decide +kernel
theorem d_L_law_3 : decode code 3 = .ok (.dup, 1) := by decide +kernel
theorem d_L_law_4 : decode code 4 = .ok (.aload_n 0, 1) := by decide +kernel
theorem d_L_law_5 : decode code 5 = .ok (.iconst 0, 1) := by decide +kernel
theorem d_L_law_6 : decode code 6 = .ok (.invokestatic 42, 3) := by decide +kernel
theorem d_L_law_9 : decode code 9 = .ok (.aload_n 0, 1) := by decide +kernel
theorem d_L_law_10 : decode code 10 = .ok (.iconst 1, 1) := by decide +kernel
theorem d_L_law_11 : decode code 11 = .ok (.invokestatic 42, 3) := by decide +kernel
theorem d_L_law_14 : decode code 14 = .ok (.invokespecial 48, 3) := by decide +kernel
theorem d_L_law_17 : decode code 17 = .ok (.astore_n 1, 1) := by decide +kernel
theorem d_L_law_18 : decode code 18 = .ok (.new 51, 3) := by decide +kernel
theorem d_L_law_21 : decode code 21 = .ok (.dup, 1) := by decide +kernel
theorem d_L_law_22 : decode code 22 = .ok (.aload_n 0, 1) := by decide +kernel
theorem d_L_law_23 : decode code 23 = .ok (.iconst 0, 1) := by decide +kernel
theorem d_L_law_24 : decode code 24 = .ok (.invokestatic 42, 3) := by decide +kernel
theorem d_L_law_27 : decode code 27 = .ok (.aload_n 0, 1) := by decide +kernel
theorem d_L_law_28 : decode code 28 = .ok (.iconst 1, 1) := by decide +kernel
theorem d_L_law_29 : decode code 29 = .ok (.invokestatic 42, 3) := by decide +kernel
theorem d_L_law_32 : decode code 32 = .ok (.invokespecial 53, 3) := by decide +kernel
theorem d_L_law_35 : decode code 35 = .ok (.astore_n 2, 1) := by decide +kernel
theorem d_L_law_36 : decode code 36 = .ok (.iconst 1, 1) := by decide +kernel
theorem d_L_law_37 : decode code 37 = .ok (.newarray .long, 2) := by decide +kernel
theorem d_L_law_39 : decode code 39 = .ok (.astore_n 3, 1) := by decide +kernel
theorem d_L_law_40 : decode code 40 = .ok (.iconst 2, 1) := by decide +kernel
theorem d_L_law_41 : decode code 41 = .ok (.istore 4, 2) := by decide +kernel
theorem d_L_law_43 : decode code 43 = .ok (.iload 4, 2) := by decide +kernel
theorem d_L_law_45 : decode code 45 = .ok (.aload_n 0, 1) := by decide +kernel
theorem d_L_law_46 : decode code 46 = .ok (.arraylength, 1) := by decide +kernel
theorem d_L_law_47 : decode code 47 = .ok (.iconst 5, 1) := by decide +kernel
theorem d_L_law_48 : decode code 48 = .ok (.isub, 1) := by decide +kernel
theorem d_L_law_49 : decode code 49 = .ok (.if_icmp .gt 730, 3) := by decide +kernel
theorem d_L_law_52 : decode code 52 = .ok (.aload_n 0, 1) := by decide +kernel
theorem d_L_law_53 : decode code 53 = .ok (.iload 4, 2) := by decide +kernel
theorem d_L_law_55 : decode code 55 = .ok (.iaload, 1) := by decide +kernel
theorem d_L_law_56 : decode code 56 = .ok (.bipush 31, 2) := by decide +kernel
theorem d_L_law_58 : decode code 58 = .ok (.iand, 1) := by decide +kernel
theorem d_L_law_59 : decode code 59 = .ok (.tableswitch 714 0 16 #[81, 125, 181, 237, 312, 380, 440, 512, 525, 562, 599, 624, 649, 662, 675, 688, 701], 81) := by decide +kernel
theorem d_L_law_140 : decode code 140 = .ok (.aload_n 1, 1) := by decide +kernel
theorem d_L_law_141 : decode code 141 = .ok (.aload_n 3, 1) := by decide +kernel
theorem d_L_law_142 : decode code 142 = .ok (.invokestatic 54, 3) := by decide +kernel
theorem d_L_law_145 : decode code 145 = .ok (.istore 5, 2) := by decide +kernel
theorem d_L_law_147 : decode code 147 = .ok (.aload_n 2, 1) := by decide +kernel
theorem d_L_law_148 : decode code 148 = .ok (.invokevirtual 57, 3) := by decide +kernel
theorem d_L_law_151 : decode code 151 = .ok (.istore 6, 2) := by decide +kernel
theorem d_L_law_153 : decode code 153 = .ok (.aload_n 2, 1) := by decide +kernel
theorem d_L_law_154 : decode code 154 = .ok (.invokevirtual 58, 3) := by decide +kernel
theorem d_L_law_157 : decode code 157 = .ok (.iload 5, 2) := by decide +kernel
theorem d_L_law_159 : decode code 159 = .ok (.if_icmp .eq 5, 3) := by decide +kernel
theorem d_L_law_162 : decode code 162 = .ok (.iconst 0, 1) := by decide +kernel
theorem d_L_law_163 : decode code 163 = .ok (.ireturn, 1) := by decide +kernel
theorem d_L_law_164 : decode code 164 = .ok (.iload 5, 2) := by decide +kernel
theorem d_L_law_166 : decode code 166 = .ok (.ifCond .ne 15, 3) := by decide +kernel
theorem d_L_law_169 : decode code 169 = .ok (.aload_n 3, 1) := by decide +kernel
theorem d_L_law_170 : decode code 170 = .ok (.iconst 0, 1) := by decide +kernel
theorem d_L_law_171 : decode code 171 = .ok (.laload, 1) := by decide +kernel
theorem d_L_law_172 : decode code 172 = .ok (.iload 6, 2) := by decide +kernel
theorem d_L_law_174 : decode code 174 = .ok (.i2l, 1) := by decide +kernel
theorem d_L_law_175 : decode code 175 = .ok (.lcmp, 1) := by decide +kernel
theorem d_L_law_176 : decode code 176 = .ok (.ifCond .eq 5, 3) := by decide +kernel
theorem d_L_law_179 : decode code 179 = .ok (.iconst 0, 1) := by decide +kernel
theorem d_L_law_180 : decode code 180 = .ok (.ireturn, 1) := by decide +kernel
theorem d_L_law_181 : decode code 181 = .ok (.goto 592, 3) := by decide +kernel
theorem d_L_law_184 : decode code 184 = .ok (.aload_n 1, 1) := by decide +kernel
theorem d_L_law_185 : decode code 185 = .ok (.aload_n 0, 1) := by decide +kernel
theorem d_L_law_186 : decode code 186 = .ok (.iload 4, 2) := by decide +kernel
theorem d_L_law_188 : decode code 188 = .ok (.iconst 1, 1) := by decide +kernel
theorem d_L_law_189 : decode code 189 = .ok (.iadd, 1) := by decide +kernel
theorem d_L_law_190 : decode code 190 = .ok (.iaload, 1) := by decide +kernel
theorem d_L_law_191 : decode code 191 = .ok (.aload_n 3, 1) := by decide +kernel
theorem d_L_law_192 : decode code 192 = .ok (.invokestatic 61, 3) := by decide +kernel
theorem d_L_law_195 : decode code 195 = .ok (.istore 5, 2) := by decide +kernel
theorem d_L_law_197 : decode code 197 = .ok (.aload_n 2, 1) := by decide +kernel
theorem d_L_law_198 : decode code 198 = .ok (.aload_n 0, 1) := by decide +kernel
theorem d_L_law_199 : decode code 199 = .ok (.iload 4, 2) := by decide +kernel
theorem d_L_law_201 : decode code 201 = .ok (.iconst 1, 1) := by decide +kernel
theorem d_L_law_202 : decode code 202 = .ok (.iadd, 1) := by decide +kernel
theorem d_L_law_203 : decode code 203 = .ok (.iaload, 1) := by decide +kernel
theorem d_L_law_204 : decode code 204 = .ok (.invokevirtual 64, 3) := by decide +kernel
theorem d_L_law_207 : decode code 207 = .ok (.istore 6, 2) := by decide +kernel
theorem d_L_law_209 : decode code 209 = .ok (.aload_n 2, 1) := by decide +kernel
theorem d_L_law_210 : decode code 210 = .ok (.invokevirtual 58, 3) := by decide +kernel
theorem d_L_law_213 : decode code 213 = .ok (.iload 5, 2) := by decide +kernel
theorem d_L_law_215 : decode code 215 = .ok (.if_icmp .eq 5, 3) := by decide +kernel
theorem d_L_law_218 : decode code 218 = .ok (.iconst 0, 1) := by decide +kernel
theorem d_L_law_219 : decode code 219 = .ok (.ireturn, 1) := by decide +kernel
theorem d_L_law_220 : decode code 220 = .ok (.iload 5, 2) := by decide +kernel
theorem d_L_law_222 : decode code 222 = .ok (.ifCond .ne 15, 3) := by decide +kernel
theorem d_L_law_225 : decode code 225 = .ok (.aload_n 3, 1) := by decide +kernel
theorem d_L_law_226 : decode code 226 = .ok (.iconst 0, 1) := by decide +kernel
theorem d_L_law_227 : decode code 227 = .ok (.laload, 1) := by decide +kernel
theorem d_L_law_228 : decode code 228 = .ok (.iload 6, 2) := by decide +kernel
theorem d_L_law_230 : decode code 230 = .ok (.i2l, 1) := by decide +kernel
theorem d_L_law_231 : decode code 231 = .ok (.lcmp, 1) := by decide +kernel
theorem d_L_law_232 : decode code 232 = .ok (.ifCond .eq 5, 3) := by decide +kernel
theorem d_L_law_235 : decode code 235 = .ok (.iconst 0, 1) := by decide +kernel
theorem d_L_law_236 : decode code 236 = .ok (.ireturn, 1) := by decide +kernel
theorem d_L_law_237 : decode code 237 = .ok (.goto 536, 3) := by decide +kernel
theorem d_L_law_240 : decode code 240 = .ok (.aload_n 1, 1) := by decide +kernel
theorem d_L_law_241 : decode code 241 = .ok (.aload_n 0, 1) := by decide +kernel
theorem d_L_law_242 : decode code 242 = .ok (.iload 4, 2) := by decide +kernel
theorem d_L_law_244 : decode code 244 = .ok (.iconst 1, 1) := by decide +kernel
theorem d_L_law_245 : decode code 245 = .ok (.iadd, 1) := by decide +kernel
theorem d_L_law_246 : decode code 246 = .ok (.iaload, 1) := by decide +kernel
theorem d_L_law_247 : decode code 247 = .ok (.aload_n 3, 1) := by decide +kernel
theorem d_L_law_248 : decode code 248 = .ok (.invokestatic 65, 3) := by decide +kernel
theorem d_L_law_251 : decode code 251 = .ok (.istore 5, 2) := by decide +kernel
theorem d_L_law_253 : decode code 253 = .ok (.aload_n 2, 1) := by decide +kernel
theorem d_L_law_254 : decode code 254 = .ok (.aload_n 0, 1) := by decide +kernel
theorem d_L_law_255 : decode code 255 = .ok (.iload 4, 2) := by decide +kernel
theorem d_L_law_257 : decode code 257 = .ok (.iconst 1, 1) := by decide +kernel
theorem d_L_law_258 : decode code 258 = .ok (.iadd, 1) := by decide +kernel
theorem d_L_law_259 : decode code 259 = .ok (.iaload, 1) := by decide +kernel
theorem d_L_law_260 : decode code 260 = .ok (.invokevirtual 67, 3) := by decide +kernel
theorem d_L_law_263 : decode code 263 = .ok (.istore 6, 2) := by decide +kernel
theorem d_L_law_265 : decode code 265 = .ok (.aload_n 2, 1) := by decide +kernel
