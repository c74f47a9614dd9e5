theorem dX11_isSome_25 : decode cX11_isSome 25 = .ok (.iload 7, 2) := by decide +kernel
theorem dX11_isSome_27 : decode cX11_isSome 27 = .ok (.iload_n 1, 1) := by decide +kernel
theorem dX11_isSome_28 : decode cX11_isSome 28 = .ok (.if_icmp .lt 58, 3) := by decide +kernel
theorem dX11_isSome_31 : decode cX11_isSome 31 = .ok (.iload 7, 2) := by decide +kernel
theorem dX11_isSome_33 : decode cX11_isSome 33 = .ok (.iload_n 2, 1) := by decide +kernel
theorem dX11_isSome_34 : decode cX11_isSome 34 = .ok (.if_icmp .gt 52, 3) := by decide +kernel
theorem dX11_isSome_37 : decode cX11_isSome 37 = .ok (.iload 7, 2) := by decide +kernel
theorem dX11_isSome_39 : decode cX11_isSome 39 = .ok (.iload_n 3, 1) := by decide +kernel
theorem dX11_isSome_40 : decode cX11_isSome 40 = .ok (.if_icmp .eq 46, 3) := by decide +kernel
theorem dX11_isSome_43 : decode cX11_isSome 43 = .ok (.aload_n 0, 1) := by decide +kernel
theorem dX11_isSome_44 : decode cX11_isSome 44 = .ok (.getfield 33, 3) := by decide +kernel
theorem dX11_isSome_47 : decode cX11_isSome 47 = .ok (.bipush 16, 2) := by decide +kernel
theorem dX11_isSome_49 : decode cX11_isSome 49 = .ok (.iload 6, 2) := by decide +kernel
theorem dX11_isSome_51 : decode cX11_isSome 51 = .ok (.iadd, 1) := by decide +kernel
theorem dX11_isSome_52 : decode cX11_isSome 52 = .ok (.iaload, 1) := by decide +kernel
theorem dX11_isSome_53 : decode cX11_isSome 53 = .ok (.iload 4, 2) := by decide +kernel
theorem dX11_isSome_55 : decode cX11_isSome 55 = .ok (.if_icmp .ne 31, 3) := by decide +kernel
theorem dX11_isSome_58 : decode cX11_isSome 58 = .ok (.aload_n 0, 1) := by decide +kernel
theorem dX11_isSome_59 : decode cX11_isSome 59 = .ok (.getfield 33, 3) := by decide +kernel
theorem dX11_isSome_62 : decode cX11_isSome 62 = .ok (.iconst 0, 1) := by decide +kernel
theorem dX11_isSome_63 : decode cX11_isSome 63 = .ok (.iload 6, 2) := by decide +kernel
theorem dX11_isSome_65 : decode cX11_isSome 65 = .ok (.iadd, 1) := by decide +kernel
theorem dX11_isSome_66 : decode cX11_isSome 66 = .ok (.iaload, 1) := by decide +kernel
theorem dX11_isSome_67 : decode cX11_isSome 67 = .ok (.ifCond .le 19, 3) := by decide +kernel
theorem dX11_isSome_70 : decode cX11_isSome 70 = .ok (.aload_n 0, 1) := by decide +kernel
theorem dX11_isSome_71 : decode cX11_isSome 71 = .ok (.getfield 33, 3) := by decide +kernel
theorem dX11_isSome_74 : decode cX11_isSome 74 = .ok (.iconst 0, 1) := by decide +kernel
theorem dX11_isSome_75 : decode cX11_isSome 75 = .ok (.iload 6, 2) := by decide +kernel
theorem dX11_isSome_77 : decode cX11_isSome 77 = .ok (.iadd, 1) := by decide +kernel
theorem dX11_isSome_78 : decode cX11_isSome 78 = .ok (.iaload, 1) := by decide +kernel
theorem dX11_isSome_79 : decode cX11_isSome 79 = .ok (.iload 5, 2) := by decide +kernel
theorem dX11_isSome_81 : decode cX11_isSome 81 = .ok (.if_icmp .ge 5, 3) := by decide +kernel
theorem dX11_isSome_84 : decode cX11_isSome 84 = .ok (.iconst 1, 1) := by decide +kernel
theorem dX11_isSome_85 : decode cX11_isSome 85 = .ok (.ireturn, 1) := by decide +kernel
theorem dX11_isSome_86 : decode cX11_isSome 86 = .ok (.iinc 6 1, 3) := by decide +kernel
theorem dX11_isSome_89 : decode cX11_isSome 89 = .ok (.goto (-86), 3) := by decide +kernel
theorem dX11_isSome_92 : decode cX11_isSome 92 = .ok (.iconst 0, 1) := by decide +kernel
theorem dX11_isSome_93 : decode cX11_isSome 93 = .ok (.ireturn, 1) := by decide +kernel
theorem dX11_fact_0 : decode cX11_fact 0 = .ok (.iload_n 1, 1) := by decide +kernel
theorem dX11_fact_1 : decode cX11_fact 1 = .ok (.i2l, 1) := by decide +kernel
theorem dX11_fact_2 : decode cX11_fact 2 = .ok (.ldc2_w 172, 3) := by decide +kernel
theorem dX11_fact_5 : decode cX11_fact 5 = .ok (.ldc2_w 174, 3) := by decide +kernel
theorem dX11_fact_8 : decode cX11_fact 8 = .ok (.invokestatic 152, 3) := by decide +kernel
theorem dX11_fact_11 : decode cX11_fact 11 = .ok (.ifCond .eq 11, 3) := by decide +kernel
theorem dX11_fact_14 : decode cX11_fact 14 = .ok (.aload_n 0, 1) := by decide +kernel
theorem dX11_fact_15 : decode cX11_fact 15 = .ok (.iload_n 1, 1) := by decide +kernel
theorem dX11_fact_16 : decode cX11_fact 16 = .ok (.iconst 5, 1) := by decide +kernel
theorem dX11_fact_17 : decode cX11_fact 17 = .ok (.isub, 1) := by decide +kernel
theorem dX11_fact_18 : decode cX11_fact 18 = .ok (.invokevirtual 225, 3) := by decide +kernel
theorem dX11_fact_21 : decode cX11_fact 21 = .ok (.ireturn, 1) := by decide +kernel
theorem dX11_fact_22 : decode cX11_fact 22 = .ok (.aload_n 0, 1) := by decide +kernel
theorem dX11_fact_23 : decode cX11_fact 23 = .ok (.getfield 17, 3) := by decide +kernel
theorem dX11_fact_26 : decode cX11_fact 26 = .ok (.iconst 2, 1) := by decide +kernel
theorem dX11_fact_27 : decode cX11_fact 27 = .ok (.iload_n 3, 1) := by decide +kernel
theorem dX11_fact_28 : decode cX11_fact 28 = .ok (.iadd, 1) := by decide +kernel
theorem dX11_fact_29 : decode cX11_fact 29 = .ok (.iaload, 1) := by decide +kernel
theorem dX11_fact_30 : decode cX11_fact 30 = .ok (.istore 4, 2) := by decide +kernel
theorem dX11_fact_32 : decode cX11_fact 32 = .ok (.iload_n 1, 1) := by decide +kernel
theorem dX11_fact_33 : decode cX11_fact 33 = .ok (.tableswitch 235 4 27 #[160, 235, 235, 235, 235, 235, 235, 235, 235, 235, 235, 235, 235, 235, 235, 235, 235, 235, 111, 129, 148, 179, 198, 217], 111) := by decide +kernel
theorem dX11_fact_144 : decode cX11_fact 144 = .ok (.aload_n 0, 1) := by decide +kernel
theorem dX11_fact_145 : decode cX11_fact 145 = .ok (.getfield 33, 3) := by decide +kernel
theorem dX11_fact_148 : decode cX11_fact 148 = .ok (.iconst 0, 1) := by decide +kernel
theorem dX11_fact_149 : decode cX11_fact 149 = .ok (.iload_n 3, 1) := by decide +kernel
theorem dX11_fact_150 : decode cX11_fact 150 = .ok (.iadd, 1) := by decide +kernel
theorem dX11_fact_151 : decode cX11_fact 151 = .ok (.iaload, 1) := by decide +kernel
theorem dX11_fact_152 : decode cX11_fact 152 = .ok (.iload_n 2, 1) := by decide +kernel
theorem dX11_fact_153 : decode cX11_fact 153 = .ok (.if_icmp .ge 7, 3) := by decide +kernel
theorem dX11_fact_156 : decode cX11_fact 156 = .ok (.iconst 1, 1) := by decide +kernel
theorem dX11_fact_157 : decode cX11_fact 157 = .ok (.goto 4, 3) := by decide +kernel
theorem dX11_fact_160 : decode cX11_fact 160 = .ok (.iconst 0, 1) := by decide +kernel
theorem dX11_fact_161 : decode cX11_fact 161 = .ok (.ireturn, 1) := by decide +kernel
theorem dX11_fact_162 : decode cX11_fact 162 = .ok (.aload_n 0, 1) := by decide +kernel
theorem dX11_fact_163 : decode cX11_fact 163 = .ok (.getfield 33, 3) := by decide +kernel
theorem dX11_fact_166 : decode cX11_fact 166 = .ok (.bipush 8, 2) := by decide +kernel
theorem dX11_fact_168 : decode cX11_fact 168 = .ok (.iload_n 3, 1) := by decide +kernel
theorem dX11_fact_169 : decode cX11_fact 169 = .ok (.iadd, 1) := by decide +kernel
theorem dX11_fact_170 : decode cX11_fact 170 = .ok (.iaload, 1) := by decide +kernel
theorem dX11_fact_171 : decode cX11_fact 171 = .ok (.iload_n 2, 1) := by decide +kernel
theorem dX11_fact_172 : decode cX11_fact 172 = .ok (.if_icmp .lt 7, 3) := by decide +kernel
theorem dX11_fact_175 : decode cX11_fact 175 = .ok (.iconst 1, 1) := by decide +kernel
theorem dX11_fact_176 : decode cX11_fact 176 = .ok (.goto 4, 3) := by decide +kernel
theorem dX11_fact_179 : decode cX11_fact 179 = .ok (.iconst 0, 1) := by decide +kernel
theorem dX11_fact_180 : decode cX11_fact 180 = .ok (.ireturn, 1) := by decide +kernel
theorem dX11_fact_181 : decode cX11_fact 181 = .ok (.iload 4, 2) := by decide +kernel
theorem dX11_fact_183 : decode cX11_fact 183 = .ok (.iload_n 2, 1) := by decide +kernel
theorem dX11_fact_184 : decode cX11_fact 184 = .ok (.if_icmp .ne 7, 3) := by decide +kernel
theorem dX11_fact_187 : decode cX11_fact 187 = .ok (.iconst 1, 1) := by decide +kernel
theorem dX11_fact_188 : decode cX11_fact 188 = .ok (.goto 4, 3) := by decide +kernel
theorem dX11_fact_191 : decode cX11_fact 191 = .ok (.iconst 0, 1) := by decide +kernel
theorem dX11_fact_192 : decode cX11_fact 192 = .ok (.ireturn, 1) := by decide +kernel
theorem dX11_fact_193 : decode cX11_fact 193 = .ok (.aload_n 0, 1) := by decide +kernel
theorem dX11_fact_194 : decode cX11_fact 194 = .ok (.getfield 17, 3) := by decide +kernel
theorem dX11_fact_197 : decode cX11_fact 197 = .ok (.bipush 26, 2) := by decide +kernel
theorem dX11_fact_199 : decode cX11_fact 199 = .ok (.iload_n 3, 1) := by decide +kernel
theorem dX11_fact_200 : decode cX11_fact 200 = .ok (.iadd, 1) := by decide +kernel
theorem dX11_fact_201 : decode cX11_fact 201 = .ok (.iaload, 1) := by decide +kernel
theorem dX11_fact_202 : decode cX11_fact 202 = .ok (.iload_n 2, 1) := by decide +kernel
theorem dX11_fact_203 : decode cX11_fact 203 = .ok (.if_icmp .ne 7, 3) := by decide +kernel
theorem dX11_fact_206 : decode cX11_fact 206 = .ok (.iconst 1, 1) := by decide +kernel
theorem dX11_fact_207 : decode cX11_fact 207 = .ok (.goto 4, 3) := by decide +kernel
theorem dX11_fact_210 : decode cX11_fact 210 = .ok (.iconst 0, 1) := by decide +kernel
theorem dX11_fact_211 : decode cX11_fact 211 = .ok (.ireturn, 1) := by decide +kernel
theorem dX11_fact_212 : decode cX11_fact 212 = .ok (.aload_n 0, 1) := by decide +kernel
theorem dX11_fact_213 : decode cX11_fact 213 = .ok (.iload 4, 2) := by decide +kernel
theorem dX11_fact_215 : decode cX11_fact 215 = .ok (.iload 4, 2) := by decide +kernel
theorem dX11_fact_217 : decode cX11_fact 217 = .ok (.iconst (-1), 1) := by decide +kernel
theorem dX11_fact_218 : decode cX11_fact 218 = .ok (.iconst 2, 1) := by decide +kernel
theorem dX11_fact_219 : decode cX11_fact 219 = .ok (.aload_n 0, 1) := by decide +kernel
theorem dX11_fact_220 : decode cX11_fact 220 = .ok (.getfield 33, 3) := by decide +kernel
theorem dX11_fact_223 : decode cX11_fact 223 = .ok (.iconst 0, 1) := by decide +kernel
theorem dX11_fact_224 : decode cX11_fact 224 = .ok (.iload_n 3, 1) := by decide +kernel
theorem dX11_fact_225 : decode cX11_fact 225 = .ok (.iadd, 1) := by decide +kernel
theorem dX11_fact_226 : decode cX11_fact 226 = .ok (.iaload, 1) := by decide +kernel
theorem dX11_fact_227 : decode cX11_fact 227 = .ok (.invokevirtual 228, 3) := by decide +kernel
theorem dX11_fact_230 : decode cX11_fact 230 = .ok (.ireturn, 1) := by decide +kernel
theorem dX11_fact_231 : decode cX11_fact 231 = .ok (.aload_n 0, 1) := by decide +kernel
theorem dX11_fact_232 : decode cX11_fact 232 = .ok (.iload 4, 2) := by decide +kernel
theorem dX11_fact_234 : decode cX11_fact 234 = .ok (.iconst 1, 1) := by decide +kernel
theorem dX11_fact_235 : decode cX11_fact 235 = .ok (.isub, 1) := by decide +kernel
theorem dX11_fact_236 : decode cX11_fact 236 = .ok (.iload 4, 2) := by decide +kernel
theorem dX11_fact_238 : decode cX11_fact 238 = .ok (.iconst 1, 1) := by decide +kernel
theorem dX11_fact_239 : decode cX11_fact 239 = .ok (.iadd, 1) := by decide +kernel
theorem dX11_fact_240 : decode cX11_fact 240 = .ok (.iload 4, 2) := by decide +kernel
theorem dX11_fact_242 : decode cX11_fact 242 = .ok (.iconst 2, 1) := by decide +kernel
theorem dX11_fact_243 : decode cX11_fact 243 = .ok (.sipush 1000, 3) := by decide +kernel
theorem dX11_fact_246 : decode cX11_fact 246 = .ok (.invokevirtual 228, 3) := by decide +kernel
theorem dX11_fact_249 : decode cX11_fact 249 = .ok (.ireturn, 1) := by decide +kernel
theorem dX11_fact_250 : decode cX11_fact 250 = .ok (.aload_n 0, 1) := by decide +kernel
theorem dX11_fact_251 : decode cX11_fact 251 = .ok (.iconst 0, 1) := by decide +kernel
theorem dX11_fact_252 : decode cX11_fact 252 = .ok (.iconst 3, 1) := by decide +kernel
theorem dX11_fact_253 : decode cX11_fact 253 = .ok (.iload 4, 2) := by decide +kernel
theorem dX11_fact_255 : decode cX11_fact 255 = .ok (.iconst 1, 1) := by decide +kernel
theorem dX11_fact_256 : decode cX11_fact 256 = .ok (.aload_n 0, 1) := by decide +kernel
theorem dX11_fact_257 : decode cX11_fact 257 = .ok (.getfield 33, 3) := by decide +kernel
theorem dX11_fact_260 : decode cX11_fact 260 = .ok (.iconst 0, 1) := by decide +kernel
theorem dX11_fact_261 : decode cX11_fact 261 = .ok (.iload_n 3, 1) := by decide +kernel
theorem dX11_fact_262 : decode cX11_fact 262 = .ok (.iadd, 1) := by decide +kernel
theorem dX11_fact_263 : decode cX11_fact 263 = .ok (.iaload, 1) := by decide +kernel
theorem dX11_fact_264 : decode cX11_fact 264 = .ok (.invokevirtual 228, 3) := by decide +kernel
theorem dX11_fact_267 : decode cX11_fact 267 = .ok (.ireturn, 1) := by decide +kernel
theorem dX11_fact_268 : decode cX11_fact 268 = .ok (.aload_n 0, 1) := by decide +kernel
theorem dX11_fact_269 : decode cX11_fact 269 = .ok (.getfield 33, 3) := by decide +kernel
theorem dX11_fact_272 : decode cX11_fact 272 = .ok (.bipush 32, 2) := by decide +kernel
theorem dX11_fact_274 : decode cX11_fact 274 = .ok (.iaload, 1) := by decide +kernel
theorem dX11_fact_275 : decode cX11_fact 275 = .ok (.ifCond .gt 14, 3) := by decide +kernel
theorem dX11_fact_278 : decode cX11_fact 278 = .ok (.aload_n 0, 1) := by decide +kernel
theorem dX11_fact_279 : decode cX11_fact 279 = .ok (.getfield 33, 3) := by decide +kernel
theorem dX11_fact_282 : decode cX11_fact 282 = .ok (.bipush 33, 2) := by decide +kernel
theorem dX11_fact_284 : decode cX11_fact 284 = .ok (.iaload, 1) := by decide +kernel
theorem dX11_fact_285 : decode cX11_fact 285 = .ok (.iconst 1, 1) := by decide +kernel
theorem dX11_fact_286 : decode cX11_fact 286 = .ok (.if_icmp .ne 7, 3) := by decide +kernel
theorem dX11_fact_289 : decode cX11_fact 289 = .ok (.iconst 1, 1) := by decide +kernel
theorem dX11_fact_290 : decode cX11_fact 290 = .ok (.goto 4, 3) := by decide +kernel
theorem dX11_fact_293 : decode cX11_fact 293 = .ok (.iconst 0, 1) := by decide +kernel
theorem dX11_fact_294 : decode cX11_fact 294 = .ok (.ireturn, 1) := by decide +kernel
theorem dX11_isSo_0 : decode cX11_isSo 0 = .ok (.iconst 0, 1) := by decide +kernel
theorem dX11_isSo_1 : decode cX11_isSo 1 = .ok (.istore_n 3, 1) := by decide +kernel
theorem dX11_isSo_2 : decode cX11_isSo 2 = .ok (.aload_n 0, 1) := by decide +kernel
theorem dX11_isSo_3 : decode cX11_isSo 3 = .ok (.getfield 17, 3) := by decide +kernel
theorem dX11_isSo_6 : decode cX11_isSo 6 = .ok (.bipush 53, 2) := by decide +kernel
theorem dX11_isSo_8 : decode cX11_isSo 8 = .ok (.iload_n 1, 1) := by decide +kernel
theorem dX11_isSo_9 : decode cX11_isSo 9 = .ok (.iadd, 1) := by decide +kernel
theorem dX11_isSo_10 : decode cX11_isSo 10 = .ok (.iaload, 1) := by decide +kernel
theorem dX11_isSo_11 : decode cX11_isSo 11 = .ok (.istore 4, 2) := by decide +kernel
theorem dX11_isSo_13 : decode cX11_isSo 13 = .ok (.iload 4, 2) := by decide +kernel
theorem dX11_isSo_15 : decode cX11_isSo 15 = .ok (.aload_n 0, 1) := by decide +kernel
theorem dX11_isSo_16 : decode cX11_isSo 16 = .ok (.getfield 17, 3) := by decide +kernel
theorem dX11_isSo_19 : decode cX11_isSo 19 = .ok (.bipush 65, 2) := by decide +kernel
theorem dX11_isSo_21 : decode cX11_isSo 21 = .ok (.iload_n 1, 1) := by decide +kernel
theorem dX11_isSo_22 : decode cX11_isSo 22 = .ok (.iadd, 1) := by decide +kernel
theorem dX11_isSo_23 : decode cX11_isSo 23 = .ok (.iaload, 1) := by decide +kernel
theorem dX11_isSo_24 : decode cX11_isSo 24 = .ok (.if_icmp .ge 175, 3) := by decide +kernel
theorem dX11_isSo_27 : decode cX11_isSo 27 = .ok (.aload_n 0, 1) := by decide +kernel
theorem dX11_isSo_28 : decode cX11_isSo 28 = .ok (.getfield 17, 3) := by decide +kernel
theorem dX11_isSo_31 : decode cX11_isSo 31 = .ok (.bipush 77, 2) := by decide +kernel
theorem dX11_isSo_33 : decode cX11_isSo 33 = .ok (.iconst 2, 1) := by decide +kernel
theorem dX11_isSo_34 : decode cX11_isSo 34 = .ok (.iload 4, 2) := by decide +kernel
theorem dX11_isSo_36 : decode cX11_isSo 36 = .ok (.imul, 1) := by decide +kernel
theorem dX11_isSo_37 : decode cX11_isSo 37 = .ok (.iadd, 1) := by decide +kernel
theorem dX11_isSo_38 : decode cX11_isSo 38 = .ok (.iaload, 1) := by decide +kernel
theorem dX11_isSo_39 : decode cX11_isSo 39 = .ok (.istore 5, 2) := by decide +kernel
theorem dX11_isSo_41 : decode cX11_isSo 41 = .ok (.iload 5, 2) := by decide +kernel
theorem dX11_isSo_43 : decode cX11_isSo 43 = .ok (.bipush 21, 2) := by decide +kernel
theorem dX11_isSo_45 : decode cX11_isSo 45 = .ok (.if_icmp .ne 30, 3) := by decide +kernel
theorem dX11_isSo_48 : decode cX11_isSo 48 = .ok (.aload_n 0, 1) := by decide +kernel
theorem dX11_isSo_49 : decode cX11_isSo 49 = .ok (.getfield 39, 3) := by decide +kernel
theorem dX11_isSo_52 : decode cX11_isSo 52 = .ok (.iload_n 3, 1) := by decide +kernel
theorem dX11_isSo_53 : decode cX11_isSo 53 = .ok (.iconst 1, 1) := by decide +kernel
theorem dX11_isSo_54 : decode cX11_isSo 54 = .ok (.isub, 1) := by decide +kernel
theorem dX11_isSo_55 : decode cX11_isSo 55 = .ok (.aload_n 0, 1) := by decide +kernel
theorem dX11_isSo_56 : decode cX11_isSo 56 = .ok (.getfield 39, 3) := by decide +kernel
theorem dX11_isSo_59 : decode cX11_isSo 59 = .ok (.iload_n 3, 1) := by decide +kernel
theorem dX11_isSo_60 : decode cX11_isSo 60 = .ok (.iconst 1, 1) := by decide +kernel
theorem dX11_isSo_61 : decode cX11_isSo 61 = .ok (.isub, 1) := by decide +kernel
theorem dX11_isSo_62 : decode cX11_isSo 62 = .ok (.baload, 1) := by decide +kernel
theorem dX11_isSo_63 : decode cX11_isSo 63 = .ok (.ifCond .ne 7, 3) := by decide +kernel
theorem dX11_isSo_66 : decode cX11_isSo 66 = .ok (.iconst 1, 1) := by decide +kernel
theorem dX11_isSo_67 : decode cX11_isSo 67 = .ok (.goto 4, 3) := by decide +kernel
theorem dX11_isSo_70 : decode cX11_isSo 70 = .ok (.iconst 0, 1) := by decide +kernel
theorem dX11_isSo_71 : decode cX11_isSo 71 = .ok (.bastore, 1) := by decide +kernel
theorem dX11_isSo_72 : decode cX11_isSo 72 = .ok (.goto 121, 3) := by decide +kernel
theorem dX11_isSo_75 : decode cX11_isSo 75 = .ok (.iload 5, 2) := by decide +kernel
theorem dX11_isSo_77 : decode cX11_isSo 77 = .ok (.bipush 20, 2) := by decide +kernel
theorem dX11_isSo_79 : decode cX11_isSo 79 = .ok (.if_icmp .eq 10, 3) := by decide +kernel
theorem dX11_isSo_82 : decode cX11_isSo 82 = .ok (.iload 5, 2) := by decide +kernel
theorem dX11_isSo_84 : decode cX11_isSo 84 = .ok (.bipush 19, 2) := by decide +kernel
theorem dX11_isSo_86 : decode cX11_isSo 86 = .ok (.if_icmp .ne 77, 3) := by decide +kernel
theorem dX11_isSo_89 : decode cX11_isSo 89 = .ok (.iinc 3 (-1), 3) := by decide +kernel
theorem dX11_isSo_92 : decode cX11_isSo 92 = .ok (.aload_n 0, 1) := by decide +kernel
theorem dX11_isSo_93 : decode cX11_isSo 93 = .ok (.getfield 39, 3) := by decide +kernel
theorem dX11_isSo_96 : decode cX11_isSo 96 = .ok (.iload_n 3, 1) := by decide +kernel
theorem dX11_isSo_97 : decode cX11_isSo 97 = .ok (.iconst 1, 1) := by decide +kernel
theorem dX11_isSo_98 : decode cX11_isSo 98 = .ok (.isub, 1) := by decide +kernel
theorem dX11_isSo_99 : decode cX11_isSo 99 = .ok (.iload 5, 2) := by decide +kernel
theorem dX11_isSo_101 : decode cX11_isSo 101 = .ok (.bipush 20, 2) := by decide +kernel
theorem dX11_isSo_103 : decode cX11_isSo 103 = .ok (.if_icmp .ne 31, 3) := by decide +kernel
theorem dX11_isSo_106 : decode cX11_isSo 106 = .ok (.aload_n 0, 1) := by decide +kernel
theorem dX11_isSo_107 : decode cX11_isSo 107 = .ok (.getfield 39, 3) := by decide +kernel
theorem dX11_isSo_110 : decode cX11_isSo 110 = .ok (.iload_n 3, 1) := by decide +kernel
theorem dX11_isSo_111 : decode cX11_isSo 111 = .ok (.iconst 1, 1) := by decide +kernel
theorem dX11_isSo_112 : decode cX11_isSo 112 = .ok (.isub, 1) := by decide +kernel
theorem dX11_isSo_113 : decode cX11_isSo 113 = .ok (.baload, 1) := by decide +kernel
theorem dX11_isSo_114 : decode cX11_isSo 114 = .ok (.ifCond .eq 16, 3) := by decide +kernel
theorem dX11_isSo_117 : decode cX11_isSo 117 = .ok (.aload_n 0, 1) := by decide +kernel
theorem dX11_isSo_118 : decode cX11_isSo 118 = .ok (.getfield 39, 3) := by decide +kernel
theorem dX11_isSo_121 : decode cX11_isSo 121 = .ok (.iload_n 3, 1) := by decide +kernel
theorem dX11_isSo_122 : decode cX11_isSo 122 = .ok (.baload, 1) := by decide +kernel
theorem dX11_isSo_123 : decode cX11_isSo 123 = .ok (.ifCond .eq 7, 3) := by decide +kernel
theorem dX11_isSo_126 : decode cX11_isSo 126 = .ok (.iconst 1, 1) := by decide +kernel
theorem dX11_isSo_127 : decode cX11_isSo 127 = .ok (.goto 32, 3) := by decide +kernel
theorem dX11_isSo_130 : decode cX11_isSo 130 = .ok (.iconst 0, 1) := by decide +kernel
theorem dX11_isSo_131 : decode cX11_isSo 131 = .ok (.goto 28, 3) := by decide +kernel
theorem dX11_isSo_134 : decode cX11_isSo 134 = .ok (.aload_n 0, 1) := by decide +kernel
theorem dX11_isSo_135 : decode cX11_isSo 135 = .ok (.getfield 39, 3) := by decide +kernel
theorem dX11_isSo_138 : decode cX11_isSo 138 = .ok (.iload_n 3, 1) := by decide +kernel
theorem dX11_isSo_139 : decode cX11_isSo 139 = .ok (.iconst 1, 1) := by decide +kernel
theorem dX11_isSo_140 : decode cX11_isSo 140 = .ok (.isub, 1) := by decide +kernel
theorem dX11_isSo_141 : decode cX11_isSo 141 = .ok (.baload, 1) := by decide +kernel
theorem dX11_isSo_142 : decode cX11_isSo 142 = .ok (.ifCond .ne 12, 3) := by decide +kernel
theorem dX11_isSo_145 : decode cX11_isSo 145 = .ok (.aload_n 0, 1) := by decide +kernel
theorem dX11_isSo_146 : decode cX11_isSo 146 = .ok (.getfield 39, 3) := by decide +kernel
theorem dX11_isSo_149 : decode cX11_isSo 149 = .ok (.iload_n 3, 1) := by decide +kernel
theorem dX11_isSo_150 : decode cX11_isSo 150 = .ok (.baload, 1) := by decide +kernel
theorem dX11_isSo_151 : decode cX11_isSo 151 = .ok (.ifCond .eq 7, 3) := by decide +kernel
theorem dX11_isSo_154 : decode cX11_isSo 154 = .ok (.iconst 1, 1) := by decide +kernel
theorem dX11_isSo_155 : decode cX11_isSo 155 = .ok (.goto 4, 3) := by decide +kernel
theorem dX11_isSo_158 : decode cX11_isSo 158 = .ok (.iconst 0, 1) := by decide +kernel
theorem dX11_isSo_159 : decode cX11_isSo 159 = .ok (.bastore, 1) := by decide +kernel
theorem dX11_isSo_160 : decode cX11_isSo 160 = .ok (.goto 33, 3) := by decide +kernel
theorem dX11_isSo_163 : decode cX11_isSo 163 = .ok (.aload_n 0, 1) := by decide +kernel
theorem dX11_isSo_164 : decode cX11_isSo 164 = .ok (.getfield 39, 3) := by decide +kernel
theorem dX11_isSo_167 : decode cX11_isSo 167 = .ok (.iload_n 3, 1) := by decide +kernel
theorem dX11_isSo_168 : decode cX11_isSo 168 = .ok (.aload_n 0, 1) := by decide +kernel
theorem dX11_isSo_169 : decode cX11_isSo 169 = .ok (.iload 5, 2) := by decide +kernel
theorem dX11_isSo_171 : decode cX11_isSo 171 = .ok (.aload_n 0, 1) := by decide +kernel
theorem dX11_isSo_172 : decode cX11_isSo 172 = .ok (.getfield 17, 3) := by decide +kernel
theorem dX11_isSo_175 : decode cX11_isSo 175 = .ok (.bipush 77, 2) := by decide +kernel
theorem dX11_isSo_177 : decode cX11_isSo 177 = .ok (.iconst 2, 1) := by decide +kernel
theorem dX11_isSo_178 : decode cX11_isSo 178 = .ok (.iload 4, 2) := by decide +kernel
theorem dX11_isSo_180 : decode cX11_isSo 180 = .ok (.imul, 1) := by decide +kernel
theorem dX11_isSo_181 : decode cX11_isSo 181 = .ok (.iadd, 1) := by decide +kernel
theorem dX11_isSo_182 : decode cX11_isSo 182 = .ok (.iconst 1, 1) := by decide +kernel
theorem dX11_isSo_183 : decode cX11_isSo 183 = .ok (.iadd, 1) := by decide +kernel
theorem dX11_isSo_184 : decode cX11_isSo 184 = .ok (.iaload, 1) := by decide +kernel
theorem dX11_isSo_185 : decode cX11_isSo 185 = .ok (.iload_n 2, 1) := by decide +kernel
theorem dX11_isSo_186 : decode cX11_isSo 186 = .ok (.invokevirtual 232, 3) := by decide +kernel
theorem dX11_isSo_189 : decode cX11_isSo 189 = .ok (.bastore, 1) := by decide +kernel
theorem dX11_isSo_190 : decode cX11_isSo 190 = .ok (.iinc 3 1, 3) := by decide +kernel
theorem dX11_isSo_193 : decode cX11_isSo 193 = .ok (.iinc 4 1, 3) := by decide +kernel
theorem dX11_isSo_196 : decode cX11_isSo 196 = .ok (.goto (-183), 3) := by decide +kernel
theorem dX11_isSo_199 : decode cX11_isSo 199 = .ok (.aload_n 0, 1) := by decide +kernel
theorem dX11_isSo_200 : decode cX11_isSo 200 = .ok (.getfield 39, 3) := by decide +kernel
theorem dX11_isSo_203 : decode cX11_isSo 203 = .ok (.iconst 0, 1) := by decide +kernel
theorem dX11_isSo_204 : decode cX11_isSo 204 = .ok (.baload, 1) := by decide +kernel
theorem dX11_isSo_205 : decode cX11_isSo 205 = .ok (.ireturn, 1) := by decide +kernel
theorem dX11_stopsBy_0 : decode cX11_stopsBy 0 = .ok (.iconst 0, 1) := by decide +kernel
theorem dX11_stopsBy_1 : decode cX11_stopsBy 1 = .ok (.istore_n 2, 1) := by decide +kernel
theorem dX11_stopsBy_2 : decode cX11_stopsBy 2 = .ok (.iload_n 2, 1) := by decide +kernel
theorem dX11_stopsBy_3 : decode cX11_stopsBy 3 = .ok (.aload_n 0, 1) := by decide +kernel
theorem dX11_stopsBy_4 : decode cX11_stopsBy 4 = .ok (.getfield 17, 3) := by decide +kernel
theorem dX11_stopsBy_7 : decode cX11_stopsBy 7 = .ok (.bipush 40, 2) := by decide +kernel
theorem dX11_stopsBy_9 : decode cX11_stopsBy 9 = .ok (.iaload, 1) := by decide +kernel
theorem dX11_stopsBy_10 : decode cX11_stopsBy 10 = .ok (.if_icmp .ge 36, 3) := by decide +kernel
theorem dX11_stopsBy_13 : decode cX11_stopsBy 13 = .ok (.iload_n 2, 1) := by decide +kernel
theorem dX11_stopsBy_14 : decode cX11_stopsBy 14 = .ok (.aload_n 0, 1) := by decide +kernel
theorem dX11_stopsBy_15 : decode cX11_stopsBy 15 = .ok (.getfield 42, 3) := by decide +kernel
theorem dX11_stopsBy_18 : decode cX11_stopsBy 18 = .ok (.if_icmp .eq 22, 3) := by decide +kernel
theorem dX11_stopsBy_21 : decode cX11_stopsBy 21 = .ok (.aload_n 0, 1) := by decide +kernel
theorem dX11_stopsBy_22 : decode cX11_stopsBy 22 = .ok (.iload_n 2, 1) := by decide +kernel
theorem dX11_stopsBy_23 : decode cX11_stopsBy 23 = .ok (.iload_n 1, 1) := by decide +kernel
theorem dX11_stopsBy_24 : decode cX11_stopsBy 24 = .ok (.invokevirtual 236, 3) := by decide +kernel
theorem dX11_stopsBy_27 : decode cX11_stopsBy 27 = .ok (.ifCond .eq 13, 3) := by decide +kernel
theorem dX11_stopsBy_30 : decode cX11_stopsBy 30 = .ok (.aload_n 0, 1) := by decide +kernel
theorem dX11_stopsBy_31 : decode cX11_stopsBy 31 = .ok (.getfield 17, 3) := by decide +kernel
theorem dX11_stopsBy_34 : decode cX11_stopsBy 34 = .ok (.bipush 41, 2) := by decide +kernel
theorem dX11_stopsBy_36 : decode cX11_stopsBy 36 = .ok (.iload_n 2, 1) := by decide +kernel
theorem dX11_stopsBy_37 : decode cX11_stopsBy 37 = .ok (.iadd, 1) := by decide +kernel
theorem dX11_stopsBy_38 : decode cX11_stopsBy 38 = .ok (.iaload, 1) := by decide +kernel
theorem dX11_stopsBy_39 : decode cX11_stopsBy 39 = .ok (.ireturn, 1) := by decide +kernel
theorem dX11_stopsBy_40 : decode cX11_stopsBy 40 = .ok (.iinc 2 1, 3) := by decide +kernel
theorem dX11_stopsBy_43 : decode cX11_stopsBy 43 = .ok (.goto (-41), 3) := by decide +kernel
theorem dX11_stopsBy_46 : decode cX11_stopsBy 46 = .ok (.iconst 0, 1) := by decide +kernel
theorem dX11_stopsBy_47 : decode cX11_stopsBy 47 = .ok (.ireturn, 1) := by decide +kernel
theorem dX11_canStop_0 : decode cX11_canStop 0 = .ok (.aload_n 0, 1) := by decide +kernel
theorem dX11_canStop_1 : decode cX11_canStop 1 = .ok (.getfield 33, 3) := by decide +kernel
theorem dX11_canStop_4 : decode cX11_canStop 4 = .ok (.bipush 8, 2) := by decide +kernel
theorem dX11_canStop_6 : decode cX11_canStop 6 = .ok (.iload_n 1, 1) := by decide +kernel
theorem dX11_canStop_7 : decode cX11_canStop 7 = .ok (.iadd, 1) := by decide +kernel
theorem dX11_canStop_8 : decode cX11_canStop 8 = .ok (.iaload, 1) := by decide +kernel
theorem dX11_canStop_9 : decode cX11_canStop 9 = .ok (.aload_n 0, 1) := by decide +kernel
theorem dX11_canStop_10 : decode cX11_canStop 10 = .ok (.getfield 33, 3) := by decide +kernel
theorem dX11_canStop_13 : decode cX11_canStop 13 = .ok (.bipush 8, 2) := by decide +kernel
theorem dX11_canStop_15 : decode cX11_canStop 15 = .ok (.iload_n 1, 1) := by decide +kernel
theorem dX11_canStop_16 : decode cX11_canStop 16 = .ok (.iadd, 1) := by decide +kernel
theorem dX11_canStop_17 : decode cX11_canStop 17 = .ok (.iaload, 1) := by decide +kernel
theorem dX11_canStop_18 : decode cX11_canStop 18 = .ok (.iconst 1, 1) := by decide +kernel
theorem dX11_canStop_19 : decode cX11_canStop 19 = .ok (.isub, 1) := by decide +kernel
theorem dX11_canStop_20 : decode cX11_canStop 20 = .ok (.imul, 1) := by decide +kernel
theorem dX11_canStop_21 : decode cX11_canStop 21 = .ok (.iconst 2, 1) := by decide +kernel
theorem dX11_canStop_22 : decode cX11_canStop 22 = .ok (.idiv, 1) := by decide +kernel
theorem dX11_canStop_23 : decode cX11_canStop 23 = .ok (.aload_n 0, 1) := by decide +kernel
theorem dX11_canStop_24 : decode cX11_canStop 24 = .ok (.getfield 33, 3) := by decide +kernel
theorem dX11_canStop_27 : decode cX11_canStop 27 = .ok (.iconst 0, 1) := by decide +kernel
theorem dX11_canStop_28 : decode cX11_canStop 28 = .ok (.iload_n 1, 1) := by decide +kernel
theorem dX11_canStop_29 : decode cX11_canStop 29 = .ok (.iadd, 1) := by decide +kernel
theorem dX11_canStop_30 : decode cX11_canStop 30 = .ok (.iaload, 1) := by decide +kernel
theorem dX11_canStop_31 : decode cX11_canStop 31 = .ok (.aload_n 0, 1) := by decide +kernel
theorem dX11_canStop_32 : decode cX11_canStop 32 = .ok (.getfield 17, 3) := by decide +kernel
theorem dX11_canStop_35 : decode cX11_canStop 35 = .ok (.bipush 35, 2) := by decide +kernel
theorem dX11_canStop_37 : decode cX11_canStop 37 = .ok (.iaload, 1) := by decide +kernel
theorem dX11_canStop_38 : decode cX11_canStop 38 = .ok (.isub, 1) := by decide +kernel
theorem dX11_canStop_39 : decode cX11_canStop 39 = .ok (.if_icmp .gt 7, 3) := by decide +kernel
theorem dX11_canStop_42 : decode cX11_canStop 42 = .ok (.iconst 1, 1) := by decide +kernel
theorem dX11_canStop_43 : decode cX11_canStop 43 = .ok (.goto 4, 3) := by decide +kernel
theorem dX11_canStop_46 : decode cX11_canStop 46 = .ok (.iconst 0, 1) := by decide +kernel
theorem dX11_canStop_47 : decode cX11_canStop 47 = .ok (.ireturn, 1) := by decide +kernel
theorem dX11_chance_0 : decode cX11_chance 0 = .ok (.aload_n 0, 1) := by decide +kernel
theorem dX11_chance_1 : decode cX11_chance 1 = .ok (.iconst 0, 1) := by decide +kernel
theorem dX11_chance_2 : decode cX11_chance 2 = .ok (.putfield 1, 3) := by decide +kernel
theorem dX11_chance_5 : decode cX11_chance 5 = .ok (.aload_n 0, 1) := by decide +kernel
theorem dX11_chance_6 : decode cX11_chance 6 = .ok (.iload_n 1, 1) := by decide +kernel
theorem dX11_chance_7 : decode cX11_chance 7 = .ok (.invokevirtual 210, 3) := by decide +kernel
theorem dX11_chance_10 : decode cX11_chance 10 = .ok (.ifCond .ne 10, 3) := by decide +kernel
theorem dX11_chance_13 : decode cX11_chance 13 = .ok (.aload_n 0, 1) := by decide +kernel
theorem dX11_chance_14 : decode cX11_chance 14 = .ok (.bipush (-2), 2) := by decide +kernel
theorem dX11_chance_16 : decode cX11_chance 16 = .ok (.invokevirtual 89, 3) := by decide +kernel
theorem dX11_chance_19 : decode cX11_chance 19 = .ok (.ireturn, 1) := by decide +kernel
theorem dX11_chance_20 : decode cX11_chance 20 = .ok (.aload_n 0, 1) := by decide +kernel
theorem dX11_chance_21 : decode cX11_chance 21 = .ok (.iconst 0, 1) := by decide +kernel
theorem dX11_chance_22 : decode cX11_chance 22 = .ok (.invokevirtual 240, 3) := by decide +kernel
theorem dX11_chance_25 : decode cX11_chance 25 = .ok (.aload_n 0, 1) := by decide +kernel
theorem dX11_chance_26 : decode cX11_chance 26 = .ok (.iload_n 1, 1) := by decide +kernel
theorem dX11_chance_27 : decode cX11_chance 27 = .ok (.invokevirtual 243, 3) := by decide +kernel
theorem dX11_chance_30 : decode cX11_chance 30 = .ok (.ireturn, 1) := by decide +kernel
theorem dX11_can_0 : decode cX11_can 0 = .ok (.aload_n 0, 1) := by decide +kernel
theorem dX11_can_1 : decode cX11_can 1 = .ok (.iconst 0, 1) := by decide +kernel
theorem dX11_can_2 : decode cX11_can 2 = .ok (.putfield 1, 3) := by decide +kernel
theorem dX11_can_5 : decode cX11_can 5 = .ok (.aload_n 0, 1) := by decide +kernel
theorem dX11_can_6 : decode cX11_can 6 = .ok (.iload_n 1, 1) := by decide +kernel
theorem dX11_can_7 : decode cX11_can 7 = .ok (.invokevirtual 210, 3) := by decide +kernel
theorem dX11_can_10 : decode cX11_can 10 = .ok (.ifCond .ne 10, 3) := by decide +kernel
theorem dX11_can_13 : decode cX11_can 13 = .ok (.aload_n 0, 1) := by decide +kernel
theorem dX11_can_14 : decode cX11_can 14 = .ok (.bipush (-2), 2) := by decide +kernel
theorem dX11_can_16 : decode cX11_can 16 = .ok (.invokevirtual 89, 3) := by decide +kernel
theorem dX11_can_19 : decode cX11_can 19 = .ok (.ireturn, 1) := by decide +kernel
theorem dX11_can_20 : decode cX11_can 20 = .ok (.aload_n 0, 1) := by decide +kernel
theorem dX11_can_21 : decode cX11_can 21 = .ok (.iconst 0, 1) := by decide +kernel
theorem dX11_can_22 : decode cX11_can 22 = .ok (.invokevirtual 240, 3) := by decide +kernel
theorem dX11_can_25 : decode cX11_can 25 = .ok (.aload_n 0, 1) := by decide +kernel
theorem dX11_can_26 : decode cX11_can 26 = .ok (.iload_n 1, 1) := by decide +kernel
theorem dX11_can_27 : decode cX11_can 27 = .ok (.invokevirtual 246, 3) := by decide +kernel
theorem dX11_can_30 : decode cX11_can 30 = .ok (.ifCond .eq 7, 3) := by decide +kernel
theorem dX11_can_33 : decode cX11_can 33 = .ok (.iconst 1, 1) := by decide +kernel
theorem dX11_can_34 : decode cX11_can 34 = .ok (.goto 4, 3) := by decide +kernel
theorem dX11_can_37 : decode cX11_can 37 = .ok (.iconst 0, 1) := by decide +kernel
theorem dX11_can_38 : decode cX11_can 38 = .ok (.ireturn, 1) := by decide +kernel
theorem dX11_decides_0 : decode cX11_decides 0 = .ok (.aload_n 0, 1) := by decide +kernel
theorem dX11_decides_1 : decode cX11_decides 1 = .ok (.getfield 33, 3) := by decide +kernel
theorem dX11_decides_4 : decode cX11_decides 4 = .ok (.bipush 41, 2) := by decide +kernel
theorem dX11_decides_6 : decode cX11_decides 6 = .ok (.iaload, 1) := by decide +kernel
theorem dX11_decides_7 : decode cX11_decides 7 = .ok (.aload_n 0, 1) := by decide +kernel
theorem dX11_decides_8 : decode cX11_decides 8 = .ok (.getfield 17, 3) := by decide +kernel
theorem dX11_decides_11 : decode cX11_decides 11 = .ok (.iconst 1, 1) := by decide +kernel
theorem dX11_decides_12 : decode cX11_decides 12 = .ok (.iaload, 1) := by decide +kernel
theorem dX11_decides_13 : decode cX11_decides 13 = .ok (.if_icmp .ge 173, 3) := by decide +kernel
theorem dX11_decides_16 : decode cX11_decides 16 = .ok (.aload_n 0, 1) := by decide +kernel
theorem dX11_decides_17 : decode cX11_decides 17 = .ok (.getfield 33, 3) := by decide +kernel
theorem dX11_decides_20 : decode cX11_decides 20 = .ok (.bipush 41, 2) := by decide +kernel
theorem dX11_decides_22 : decode cX11_decides 22 = .ok (.iaload, 1) := by decide +kernel
theorem dX11_decides_23 : decode cX11_decides 23 = .ok (.istore_n 2, 1) := by decide +kernel
theorem dX11_decides_24 : decode cX11_decides 24 = .ok (.aload_n 0, 1) := by decide +kernel
theorem dX11_decides_25 : decode cX11_decides 25 = .ok (.getfield 33, 3) := by decide +kernel
theorem dX11_decides_28 : decode cX11_decides 28 = .ok (.bipush 16, 2) := by decide +kernel
theorem dX11_decides_30 : decode cX11_decides 30 = .ok (.iload_n 2, 1) := by decide +kernel
theorem dX11_decides_31 : decode cX11_decides 31 = .ok (.iadd, 1) := by decide +kernel
theorem dX11_decides_32 : decode cX11_decides 32 = .ok (.iaload, 1) := by decide +kernel
theorem dX11_decides_33 : decode cX11_decides 33 = .ok (.ifCond .ne 139, 3) := by decide +kernel
theorem dX11_decides_36 : decode cX11_decides 36 = .ok (.aload_n 0, 1) := by decide +kernel
theorem dX11_decides_37 : decode cX11_decides 37 = .ok (.getfield 33, 3) := by decide +kernel
theorem dX11_decides_40 : decode cX11_decides 40 = .ok (.iconst 0, 1) := by decide +kernel
theorem dX11_decides_41 : decode cX11_decides 41 = .ok (.iload_n 2, 1) := by decide +kernel
theorem dX11_decides_42 : decode cX11_decides 42 = .ok (.iadd, 1) := by decide +kernel
theorem dX11_decides_43 : decode cX11_decides 43 = .ok (.iaload, 1) := by decide +kernel
theorem dX11_decides_44 : decode cX11_decides 44 = .ok (.i2l, 1) := by decide +kernel
theorem dX11_decides_45 : decode cX11_decides 45 = .ok (.lconst 1, 1) := by decide +kernel
theorem dX11_decides_46 : decode cX11_decides 46 = .ok (.aload_n 0, 1) := by decide +kernel
theorem dX11_decides_47 : decode cX11_decides 47 = .ok (.getfield 17, 3) := by decide +kernel
theorem dX11_decides_50 : decode cX11_decides 50 = .ok (.bipush 38, 2) := by decide +kernel
theorem dX11_decides_52 : decode cX11_decides 52 = .ok (.iaload, 1) := by decide +kernel
theorem dX11_decides_53 : decode cX11_decides 53 = .ok (.i2l, 1) := by decide +kernel
theorem dX11_decides_54 : decode cX11_decides 54 = .ok (.invokestatic 152, 3) := by decide +kernel
theorem dX11_decides_57 : decode cX11_decides 57 = .ok (.ifCond .eq 115, 3) := by decide +kernel
theorem dX11_decides_60 : decode cX11_decides 60 = .ok (.aload_n 0, 1) := by decide +kernel
theorem dX11_decides_61 : decode cX11_decides 61 = .ok (.iload_n 2, 1) := by decide +kernel
theorem dX11_decides_62 : decode cX11_decides 62 = .ok (.invokevirtual 246, 3) := by decide +kernel
theorem dX11_decides_65 : decode cX11_decides 65 = .ok (.ifCond .eq 11, 3) := by decide +kernel
theorem dX11_decides_68 : decode cX11_decides 68 = .ok (.aload_n 0, 1) := by decide +kernel
theorem dX11_decides_69 : decode cX11_decides 69 = .ok (.iload_n 2, 1) := by decide +kernel
theorem dX11_decides_70 : decode cX11_decides 70 = .ok (.invokevirtual 243, 3) := by decide +kernel
theorem dX11_decides_73 : decode cX11_decides 73 = .ok (.goto 4, 3) := by decide +kernel
theorem dX11_decides_76 : decode cX11_decides 76 = .ok (.iconst 0, 1) := by decide +kernel
theorem dX11_decides_77 : decode cX11_decides 77 = .ok (.istore_n 3, 1) := by decide +kernel
theorem dX11_decides_78 : decode cX11_decides 78 = .ok (.iload_n 3, 1) := by decide +kernel
theorem dX11_decides_79 : decode cX11_decides 79 = .ok (.ifCond .eq 9, 3) := by decide +kernel
theorem dX11_decides_82 : decode cX11_decides 82 = .ok (.iload_n 3, 1) := by decide +kernel
theorem dX11_decides_83 : decode cX11_decides 83 = .ok (.bipush 100, 2) := by decide +kernel
theorem dX11_decides_85 : decode cX11_decides 85 = .ok (.if_icmp .ne 24, 3) := by decide +kernel
theorem dX11_decides_88 : decode cX11_decides 88 = .ok (.aload_n 0, 1) := by decide +kernel
theorem dX11_decides_89 : decode cX11_decides 89 = .ok (.getfield 33, 3) := by decide +kernel
theorem dX11_decides_92 : decode cX11_decides 92 = .ok (.bipush 16, 2) := by decide +kernel
theorem dX11_decides_94 : decode cX11_decides 94 = .ok (.iload_n 2, 1) := by decide +kernel
theorem dX11_decides_95 : decode cX11_decides 95 = .ok (.iadd, 1) := by decide +kernel
theorem dX11_decides_96 : decode cX11_decides 96 = .ok (.iload_n 3, 1) := by decide +kernel
theorem dX11_decides_97 : decode cX11_decides 97 = .ok (.ifCond .ne 7, 3) := by decide +kernel
theorem dX11_decides_100 : decode cX11_decides 100 = .ok (.iconst 1, 1) := by decide +kernel
theorem dX11_decides_101 : decode cX11_decides 101 = .ok (.goto 4, 3) := by decide +kernel
theorem dX11_decides_104 : decode cX11_decides 104 = .ok (.iconst 2, 1) := by decide +kernel
theorem dX11_decides_105 : decode cX11_decides 105 = .ok (.iastore, 1) := by decide +kernel
theorem dX11_decides_106 : decode cX11_decides 106 = .ok (.goto 66, 3) := by decide +kernel
theorem dX11_decides_109 : decode cX11_decides 109 = .ok (.iload_n 1, 1) := by decide +kernel
theorem dX11_decides_110 : decode cX11_decides 110 = .ok (.ifCond .ne 10, 3) := by decide +kernel
theorem dX11_decides_113 : decode cX11_decides 113 = .ok (.aload_n 0, 1) := by decide +kernel
theorem dX11_decides_114 : decode cX11_decides 114 = .ok (.iload_n 3, 1) := by decide +kernel
theorem dX11_decides_115 : decode cX11_decides 115 = .ok (.putfield 249, 3) := by decide +kernel
theorem dX11_decides_118 : decode cX11_decides 118 = .ok (.iload_n 2, 1) := by decide +kernel
theorem dX11_decides_119 : decode cX11_decides 119 = .ok (.ireturn, 1) := by decide +kernel
theorem dX11_decides_120 : decode cX11_decides 120 = .ok (.aload_n 0, 1) := by decide +kernel
theorem dX11_decides_121 : decode cX11_decides 121 = .ok (.getfield 33, 3) := by decide +kernel
theorem dX11_decides_124 : decode cX11_decides 124 = .ok (.bipush 40, 2) := by decide +kernel
theorem dX11_decides_126 : decode cX11_decides 126 = .ok (.ldc 252, 2) := by decide +kernel
theorem dX11_decides_128 : decode cX11_decides 128 = .ok (.aload_n 0, 1) := by decide +kernel
theorem dX11_decides_129 : decode cX11_decides 129 = .ok (.getfield 33, 3) := by decide +kernel
theorem dX11_decides_132 : decode cX11_decides 132 = .ok (.bipush 40, 2) := by decide +kernel
theorem dX11_decides_134 : decode cX11_decides 134 = .ok (.iaload, 1) := by decide +kernel
theorem dX11_decides_135 : decode cX11_decides 135 = .ok (.imul, 1) := by decide +kernel
theorem dX11_decides_136 : decode cX11_decides 136 = .ok (.sipush 12345, 3) := by decide +kernel
theorem dX11_decides_139 : decode cX11_decides 139 = .ok (.iadd, 1) := by decide +kernel
theorem dX11_decides_140 : decode cX11_decides 140 = .ok (.iastore, 1) := by decide +kernel
theorem dX11_decides_141 : decode cX11_decides 141 = .ok (.aload_n 0, 1) := by decide +kernel
theorem dX11_decides_142 : decode cX11_decides 142 = .ok (.getfield 33, 3) := by decide +kernel
theorem dX11_decides_145 : decode cX11_decides 145 = .ok (.bipush 16, 2) := by decide +kernel
theorem dX11_decides_147 : decode cX11_decides 147 = .ok (.iload_n 2, 1) := by decide +kernel
theorem dX11_decides_148 : decode cX11_decides 148 = .ok (.iadd, 1) := by decide +kernel
theorem dX11_decides_149 : decode cX11_decides 149 = .ok (.aload_n 0, 1) := by decide +kernel
theorem dX11_decides_150 : decode cX11_decides 150 = .ok (.getfield 33, 3) := by decide +kernel
theorem dX11_decides_153 : decode cX11_decides 153 = .ok (.bipush 40, 2) := by decide +kernel
theorem dX11_decides_155 : decode cX11_decides 155 = .ok (.iaload, 1) := by decide +kernel
theorem dX11_decides_156 : decode cX11_decides 156 = .ok (.bipush 16, 2) := by decide +kernel
theorem dX11_decides_158 : decode cX11_decides 158 = .ok (.iushr, 1) := by decide +kernel
theorem dX11_decides_159 : decode cX11_decides 159 = .ok (.bipush 100, 2) := by decide +kernel
theorem dX11_decides_161 : decode cX11_decides 161 = .ok (.irem, 1) := by decide +kernel
theorem dX11_decides_162 : decode cX11_decides 162 = .ok (.iload_n 3, 1) := by decide +kernel
theorem dX11_decides_163 : decode cX11_decides 163 = .ok (.if_icmp .ge 7, 3) := by decide +kernel
theorem dX11_decides_166 : decode cX11_decides 166 = .ok (.iconst 2, 1) := by decide +kernel
theorem dX11_decides_167 : decode cX11_decides 167 = .ok (.goto 4, 3) := by decide +kernel
theorem dX11_decides_170 : decode cX11_decides 170 = .ok (.iconst 1, 1) := by decide +kernel
theorem dX11_decides_171 : decode cX11_decides 171 = .ok (.iastore, 1) := by decide +kernel
theorem dX11_decides_172 : decode cX11_decides 172 = .ok (.aload_n 0, 1) := by decide +kernel
theorem dX11_decides_173 : decode cX11_decides 173 = .ok (.getfield 33, 3) := by decide +kernel
theorem dX11_decides_176 : decode cX11_decides 176 = .ok (.bipush 41, 2) := by decide +kernel
theorem dX11_decides_178 : decode cX11_decides 178 = .ok (.dup2, 1) := by decide +kernel
theorem dX11_decides_179 : decode cX11_decides 179 = .ok (.iaload, 1) := by decide +kernel
theorem dX11_decides_180 : decode cX11_decides 180 = .ok (.iconst 1, 1) := by decide +kernel
theorem dX11_decides_181 : decode cX11_decides 181 = .ok (.iadd, 1) := by decide +kernel
theorem dX11_decides_182 : decode cX11_decides 182 = .ok (.iastore, 1) := by decide +kernel
theorem dX11_decides_183 : decode cX11_decides 183 = .ok (.goto (-183), 3) := by decide +kernel
theorem dX11_decides_186 : decode cX11_decides 186 = .ok (.iconst (-1), 1) := by decide +kernel
theorem dX11_decides_187 : decode cX11_decides 187 = .ok (.ireturn, 1) := by decide +kernel
theorem dX11_isHidden_0 : decode cX11_isHidden 0 = .ok (.iconst 0, 1) := by decide +kernel
theorem dX11_isHidden_1 : decode cX11_isHidden 1 = .ok (.istore_n 2, 1) := by decide +kernel
theorem dX11_isHidden_2 : decode cX11_isHidden 2 = .ok (.iload_n 2, 1) := by decide +kernel
theorem dX11_isHidden_3 : decode cX11_isHidden 3 = .ok (.aload_n 0, 1) := by decide +kernel
theorem dX11_isHidden_4 : decode cX11_isHidden 4 = .ok (.getfield 17, 3) := by decide +kernel
theorem dX11_isHidden_7 : decode cX11_isHidden 7 = .ok (.iconst 1, 1) := by decide +kernel
theorem dX11_isHidden_8 : decode cX11_isHidden 8 = .ok (.iaload, 1) := by decide +kernel
theorem dX11_isHidden_9 : decode cX11_isHidden 9 = .ok (.if_icmp .ge 107, 3) := by decide +kernel
theorem dX11_isHidden_12 : decode cX11_isHidden 12 = .ok (.aload_n 0, 1) := by decide +kernel
theorem dX11_isHidden_13 : decode cX11_isHidden 13 = .ok (.getfield 17, 3) := by decide +kernel
theorem dX11_isHidden_16 : decode cX11_isHidden 16 = .ok (.iconst 2, 1) := by decide +kernel
theorem dX11_isHidden_17 : decode cX11_isHidden 17 = .ok (.iload_n 2, 1) := by decide +kernel
theorem dX11_isHidden_18 : decode cX11_isHidden 18 = .ok (.iadd, 1) := by decide +kernel
theorem dX11_isHidden_19 : decode cX11_isHidden 19 = .ok (.iaload, 1) := by decide +kernel
theorem dX11_isHidden_20 : decode cX11_isHidden 20 = .ok (.aload_n 0, 1) := by decide +kernel
theorem dX11_isHidden_21 : decode cX11_isHidden 21 = .ok (.getfield 17, 3) := by decide +kernel
theorem dX11_isHidden_24 : decode cX11_isHidden 24 = .ok (.iconst 2, 1) := by decide +kernel
theorem dX11_isHidden_25 : decode cX11_isHidden 25 = .ok (.iload_n 1, 1) := by decide +kernel
theorem dX11_isHidden_26 : decode cX11_isHidden 26 = .ok (.iadd, 1) := by decide +kernel
theorem dX11_isHidden_27 : decode cX11_isHidden 27 = .ok (.iaload, 1) := by decide +kernel
theorem dX11_isHidden_28 : decode cX11_isHidden 28 = .ok (.iconst 1, 1) := by decide +kernel
theorem dX11_isHidden_29 : decode cX11_isHidden 29 = .ok (.isub, 1) := by decide +kernel
theorem dX11_isHidden_30 : decode cX11_isHidden 30 = .ok (.if_icmp .ne 80, 3) := by decide +kernel
theorem dX11_isHidden_33 : decode cX11_isHidden 33 = .ok (.aload_n 0, 1) := by decide +kernel
theorem dX11_isHidden_34 : decode cX11_isHidden 34 = .ok (.getfield 17, 3) := by decide +kernel
theorem dX11_isHidden_37 : decode cX11_isHidden 37 = .ok (.bipush 26, 2) := by decide +kernel
theorem dX11_isHidden_39 : decode cX11_isHidden 39 = .ok (.iload_n 2, 1) := by decide +kernel
theorem dX11_isHidden_40 : decode cX11_isHidden 40 = .ok (.iadd, 1) := by decide +kernel
theorem dX11_isHidden_41 : decode cX11_isHidden 41 = .ok (.iaload, 1) := by decide +kernel
theorem dX11_isHidden_42 : decode cX11_isHidden 42 = .ok (.ifCond .le 68, 3) := by decide +kernel
theorem dX11_isHidden_45 : decode cX11_isHidden 45 = .ok (.aload_n 0, 1) := by decide +kernel
theorem dX11_isHidden_46 : decode cX11_isHidden 46 = .ok (.getfield 33, 3) := by decide +kernel
theorem dX11_isHidden_49 : decode cX11_isHidden 49 = .ok (.bipush 16, 2) := by decide +kernel
theorem dX11_isHidden_51 : decode cX11_isHidden 51 = .ok (.iload_n 2, 1) := by decide +kernel
theorem dX11_isHidden_52 : decode cX11_isHidden 52 = .ok (.iadd, 1) := by decide +kernel
theorem dX11_isHidden_53 : decode cX11_isHidden 53 = .ok (.iaload, 1) := by decide +kernel
theorem dX11_isHidden_54 : decode cX11_isHidden 54 = .ok (.iconst 2, 1) := by decide +kernel
theorem dX11_isHidden_55 : decode cX11_isHidden 55 = .ok (.if_icmp .ne 55, 3) := by decide +kernel
theorem dX11_isHidden_58 : decode cX11_isHidden 58 = .ok (.aload_n 0, 1) := by decide +kernel
theorem dX11_isHidden_59 : decode cX11_isHidden 59 = .ok (.getfield 33, 3) := by decide +kernel
theorem dX11_isHidden_62 : decode cX11_isHidden 62 = .ok (.bipush 8, 2) := by decide +kernel
theorem dX11_isHidden_64 : decode cX11_isHidden 64 = .ok (.iload_n 2, 1) := by decide +kernel
theorem dX11_isHidden_65 : decode cX11_isHidden 65 = .ok (.iadd, 1) := by decide +kernel
theorem dX11_isHidden_66 : decode cX11_isHidden 66 = .ok (.iaload, 1) := by decide +kernel
theorem dX11_isHidden_67 : decode cX11_isHidden 67 = .ok (.ifCond .ne 43, 3) := by decide +kernel
theorem dX11_isHidden_70 : decode cX11_isHidden 70 = .ok (.aload_n 0, 1) := by decide +kernel
theorem dX11_isHidden_71 : decode cX11_isHidden 71 = .ok (.getfield 33, 3) := by decide +kernel
theorem dX11_isHidden_74 : decode cX11_isHidden 74 = .ok (.iconst 0, 1) := by decide +kernel
theorem dX11_isHidden_75 : decode cX11_isHidden 75 = .ok (.iload_n 2, 1) := by decide +kernel
theorem dX11_isHidden_76 : decode cX11_isHidden 76 = .ok (.iadd, 1) := by decide +kernel
theorem dX11_isHidden_77 : decode cX11_isHidden 77 = .ok (.iaload, 1) := by decide +kernel
theorem dX11_isHidden_78 : decode cX11_isHidden 78 = .ok (.i2l, 1) := by decide +kernel
theorem dX11_isHidden_79 : decode cX11_isHidden 79 = .ok (.lconst 1, 1) := by decide +kernel
theorem dX11_isHidden_80 : decode cX11_isHidden 80 = .ok (.ldc2_w 213, 3) := by decide +kernel
theorem dX11_isHidden_83 : decode cX11_isHidden 83 = .ok (.invokestatic 152, 3) := by decide +kernel
theorem dX11_isHidden_86 : decode cX11_isHidden 86 = .ok (.ifCond .eq 24, 3) := by decide +kernel
theorem dX11_isHidden_89 : decode cX11_isHidden 89 = .ok (.aload_n 0, 1) := by decide +kernel
theorem dX11_isHidden_90 : decode cX11_isHidden 90 = .ok (.getfield 33, 3) := by decide +kernel
theorem dX11_isHidden_93 : decode cX11_isHidden 93 = .ok (.iconst 0, 1) := by decide +kernel
theorem dX11_isHidden_94 : decode cX11_isHidden 94 = .ok (.iload_n 2, 1) := by decide +kernel
theorem dX11_isHidden_95 : decode cX11_isHidden 95 = .ok (.iadd, 1) := by decide +kernel
theorem dX11_isHidden_96 : decode cX11_isHidden 96 = .ok (.iaload, 1) := by decide +kernel
theorem dX11_isHidden_97 : decode cX11_isHidden 97 = .ok (.aload_n 0, 1) := by decide +kernel
theorem dX11_isHidden_98 : decode cX11_isHidden 98 = .ok (.getfield 33, 3) := by decide +kernel
theorem dX11_isHidden_101 : decode cX11_isHidden 101 = .ok (.iconst 0, 1) := by decide +kernel
theorem dX11_isHidden_102 : decode cX11_isHidden 102 = .ok (.iload_n 1, 1) := by decide +kernel
theorem dX11_isHidden_103 : decode cX11_isHidden 103 = .ok (.iadd, 1) := by decide +kernel
theorem dX11_isHidden_104 : decode cX11_isHidden 104 = .ok (.iaload, 1) := by decide +kernel
theorem dX11_isHidden_105 : decode cX11_isHidden 105 = .ok (.if_icmp .ge 5, 3) := by decide +kernel
theorem dX11_isHidden_108 : decode cX11_isHidden 108 = .ok (.iconst 1, 1) := by decide +kernel
theorem dX11_isHidden_109 : decode cX11_isHidden 109 = .ok (.ireturn, 1) := by decide +kernel
theorem dX11_isHidden_110 : decode cX11_isHidden 110 = .ok (.iinc 2 1, 3) := by decide +kernel
theorem dX11_isHidden_113 : decode cX11_isHidden 113 = .ok (.goto (-111), 3) := by decide +kernel
theorem dX11_isHidden_116 : decode cX11_isHidden 116 = .ok (.iconst 0, 1) := by decide +kernel
theorem dX11_isHidden_117 : decode cX11_isHidden 117 = .ok (.ireturn, 1) := by decide +kernel
theorem dX11_isFree_0 : decode cX11_isFree 0 = .ok (.iconst 0, 1) := by decide +kernel
theorem dX11_isFree_1 : decode cX11_isFree 1 = .ok (.istore_n 2, 1) := by decide +kernel
theorem dX11_isFree_2 : decode cX11_isFree 2 = .ok (.iload_n 2, 1) := by decide +kernel
theorem dX11_isFree_3 : decode cX11_isFree 3 = .ok (.aload_n 0, 1) := by decide +kernel
theorem dX11_isFree_4 : decode cX11_isFree 4 = .ok (.getfield 17, 3) := by decide +kernel
theorem dX11_isFree_7 : decode cX11_isFree 7 = .ok (.iconst 1, 1) := by decide +kernel
theorem dX11_isFree_8 : decode cX11_isFree 8 = .ok (.iaload, 1) := by decide +kernel
theorem dX11_isFree_9 : decode cX11_isFree 9 = .ok (.if_icmp .ge 111, 3) := by decide +kernel
theorem dX11_isFree_12 : decode cX11_isFree 12 = .ok (.aload_n 0, 1) := by decide +kernel
theorem dX11_isFree_13 : decode cX11_isFree 13 = .ok (.getfield 17, 3) := by decide +kernel
theorem dX11_isFree_16 : decode cX11_isFree 16 = .ok (.iconst 2, 1) := by decide +kernel
theorem dX11_isFree_17 : decode cX11_isFree 17 = .ok (.iload_n 2, 1) := by decide +kernel
theorem dX11_isFree_18 : decode cX11_isFree 18 = .ok (.iadd, 1) := by decide +kernel
theorem dX11_isFree_19 : decode cX11_isFree 19 = .ok (.iaload, 1) := by decide +kernel
theorem dX11_isFree_20 : decode cX11_isFree 20 = .ok (.iload_n 1, 1) := by decide +kernel
theorem dX11_isFree_21 : decode cX11_isFree 21 = .ok (.if_icmp .ne 93, 3) := by decide +kernel
theorem dX11_isFree_24 : decode cX11_isFree 24 = .ok (.aload_n 0, 1) := by decide +kernel
theorem dX11_isFree_25 : decode cX11_isFree 25 = .ok (.getfield 33, 3) := by decide +kernel
theorem dX11_isFree_28 : decode cX11_isFree 28 = .ok (.iconst 0, 1) := by decide +kernel
theorem dX11_isFree_29 : decode cX11_isFree 29 = .ok (.iload_n 2, 1) := by decide +kernel
theorem dX11_isFree_30 : decode cX11_isFree 30 = .ok (.iadd, 1) := by decide +kernel
theorem dX11_isFree_31 : decode cX11_isFree 31 = .ok (.iaload, 1) := by decide +kernel
theorem dX11_isFree_32 : decode cX11_isFree 32 = .ok (.ifCond .le 82, 3) := by decide +kernel
theorem dX11_isFree_35 : decode cX11_isFree 35 = .ok (.aload_n 0, 1) := by decide +kernel
theorem dX11_isFree_36 : decode cX11_isFree 36 = .ok (.getfield 33, 3) := by decide +kernel
theorem dX11_isFree_39 : decode cX11_isFree 39 = .ok (.bipush 16, 2) := by decide +kernel
theorem dX11_isFree_41 : decode cX11_isFree 41 = .ok (.iload_n 2, 1) := by decide +kernel
theorem dX11_isFree_42 : decode cX11_isFree 42 = .ok (.iadd, 1) := by decide +kernel
theorem dX11_isFree_43 : decode cX11_isFree 43 = .ok (.iaload, 1) := by decide +kernel
theorem dX11_isFree_44 : decode cX11_isFree 44 = .ok (.iconst 2, 1) := by decide +kernel
theorem dX11_isFree_45 : decode cX11_isFree 45 = .ok (.if_icmp .eq 69, 3) := by decide +kernel
theorem dX11_isFree_48 : decode cX11_isFree 48 = .ok (.aload_n 0, 1) := by decide +kernel
theorem dX11_isFree_49 : decode cX11_isFree 49 = .ok (.getfield 33, 3) := by decide +kernel
theorem dX11_isFree_52 : decode cX11_isFree 52 = .ok (.bipush 24, 2) := by decide +kernel
theorem dX11_isFree_54 : decode cX11_isFree 54 = .ok (.iload_n 2, 1) := by decide +kernel
theorem dX11_isFree_55 : decode cX11_isFree 55 = .ok (.iadd, 1) := by decide +kernel
theorem dX11_isFree_56 : decode cX11_isFree 56 = .ok (.iaload, 1) := by decide +kernel
theorem dX11_isFree_57 : decode cX11_isFree 57 = .ok (.iconst 1, 1) := by decide +kernel
theorem dX11_isFree_58 : decode cX11_isFree 58 = .ok (.if_icmp .eq 56, 3) := by decide +kernel
theorem dX11_isFree_61 : decode cX11_isFree 61 = .ok (.aload_n 0, 1) := by decide +kernel
theorem dX11_isFree_62 : decode cX11_isFree 62 = .ok (.iload_n 2, 1) := by decide +kernel
theorem dX11_isFree_63 : decode cX11_isFree 63 = .ok (.invokevirtual 253, 3) := by decide +kernel
theorem dX11_isFree_66 : decode cX11_isFree 66 = .ok (.ifCond .eq 6, 3) := by decide +kernel
theorem dX11_isFree_69 : decode cX11_isFree 69 = .ok (.goto 45, 3) := by decide +kernel
theorem dX11_isFree_72 : decode cX11_isFree 72 = .ok (.aload_n 0, 1) := by decide +kernel
theorem dX11_isFree_73 : decode cX11_isFree 73 = .ok (.getfield 33, 3) := by decide +kernel
theorem dX11_isFree_76 : decode cX11_isFree 76 = .ok (.iconst 0, 1) := by decide +kernel
theorem dX11_isFree_77 : decode cX11_isFree 77 = .ok (.iload_n 2, 1) := by decide +kernel
theorem dX11_isFree_78 : decode cX11_isFree 78 = .ok (.iadd, 1) := by decide +kernel
theorem dX11_isFree_79 : decode cX11_isFree 79 = .ok (.iaload, 1) := by decide +kernel
theorem dX11_isFree_80 : decode cX11_isFree 80 = .ok (.aload_n 0, 1) := by decide +kernel
theorem dX11_isFree_81 : decode cX11_isFree 81 = .ok (.getfield 33, 3) := by decide +kernel
theorem dX11_isFree_84 : decode cX11_isFree 84 = .ok (.bipush 8, 2) := by decide +kernel
theorem dX11_isFree_86 : decode cX11_isFree 86 = .ok (.iload_n 2, 1) := by decide +kernel
theorem dX11_isFree_87 : decode cX11_isFree 87 = .ok (.iadd, 1) := by decide +kernel
theorem dX11_isFree_88 : decode cX11_isFree 88 = .ok (.iaload, 1) := by decide +kernel
theorem dX11_isFree_89 : decode cX11_isFree 89 = .ok (.iadd, 1) := by decide +kernel
theorem dX11_isFree_90 : decode cX11_isFree 90 = .ok (.iconst 1, 1) := by decide +kernel
theorem dX11_isFree_91 : decode cX11_isFree 91 = .ok (.isub, 1) := by decide +kernel
theorem dX11_isFree_92 : decode cX11_isFree 92 = .ok (.aload_n 0, 1) := by decide +kernel
theorem dX11_isFree_93 : decode cX11_isFree 93 = .ok (.getfield 33, 3) := by decide +kernel
theorem dX11_isFree_96 : decode cX11_isFree 96 = .ok (.bipush 8, 2) := by decide +kernel
theorem dX11_isFree_98 : decode cX11_isFree 98 = .ok (.iload_n 2, 1) := by decide +kernel
theorem dX11_isFree_99 : decode cX11_isFree 99 = .ok (.iadd, 1) := by decide +kernel
theorem dX11_isFree_100 : decode cX11_isFree 100 = .ok (.iaload, 1) := by decide +kernel
theorem dX11_isFree_101 : decode cX11_isFree 101 = .ok (.idiv, 1) := by decide +kernel
theorem dX11_isFree_102 : decode cX11_isFree 102 = .ok (.aload_n 0, 1) := by decide +kernel
theorem dX11_isFree_103 : decode cX11_isFree 103 = .ok (.getfield 17, 3) := by decide +kernel
theorem dX11_isFree_106 : decode cX11_isFree 106 = .ok (.bipush 36, 2) := by decide +kernel
theorem dX11_isFree_108 : decode cX11_isFree 108 = .ok (.iaload, 1) := by decide +kernel
theorem dX11_isFree_109 : decode cX11_isFree 109 = .ok (.if_icmp .gt 5, 3) := by decide +kernel
theorem dX11_isFree_112 : decode cX11_isFree 112 = .ok (.iconst 0, 1) := by decide +kernel
theorem dX11_isFree_113 : decode cX11_isFree 113 = .ok (.ireturn, 1) := by decide +kernel
theorem dX11_isFree_114 : decode cX11_isFree 114 = .ok (.iinc 2 1, 3) := by decide +kernel
theorem dX11_isFree_117 : decode cX11_isFree 117 = .ok (.goto (-115), 3) := by decide +kernel
theorem dX11_isFree_120 : decode cX11_isFree 120 = .ok (.iconst 1, 1) := by decide +kernel
theorem dX11_isFree_121 : decode cX11_isFree 121 = .ok (.ireturn, 1) := by decide +kernel
theorem dX11_goesOn_0 : decode cX11_goesOn 0 = .ok (.aload_n 0, 1) := by decide +kernel
theorem dX11_goesOn_1 : decode cX11_goesOn 1 = .ok (.getfield 33, 3) := by decide +kernel
theorem dX11_goesOn_4 : decode cX11_goesOn 4 = .ok (.iconst 0, 1) := by decide +kernel
theorem dX11_goesOn_5 : decode cX11_goesOn 5 = .ok (.iload_n 1, 1) := by decide +kernel
theorem dX11_goesOn_6 : decode cX11_goesOn 6 = .ok (.iadd, 1) := by decide +kernel
theorem dX11_goesOn_7 : decode cX11_goesOn 7 = .ok (.iaload, 1) := by decide +kernel
theorem dX11_goesOn_8 : decode cX11_goesOn 8 = .ok (.istore_n 2, 1) := by decide +kernel
theorem dX11_goesOn_9 : decode cX11_goesOn 9 = .ok (.aload_n 0, 1) := by decide +kernel
theorem dX11_goesOn_10 : decode cX11_goesOn 10 = .ok (.getfield 33, 3) := by decide +kernel
theorem dX11_goesOn_13 : decode cX11_goesOn 13 = .ok (.bipush 16, 2) := by decide +kernel
theorem dX11_goesOn_15 : decode cX11_goesOn 15 = .ok (.iload_n 1, 1) := by decide +kernel
theorem dX11_goesOn_16 : decode cX11_goesOn 16 = .ok (.iadd, 1) := by decide +kernel
theorem dX11_goesOn_17 : decode cX11_goesOn 17 = .ok (.iaload, 1) := by decide +kernel
theorem dX11_goesOn_18 : decode cX11_goesOn 18 = .ok (.iconst 2, 1) := by decide +kernel
theorem dX11_goesOn_19 : decode cX11_goesOn 19 = .ok (.if_icmp .ne 62, 3) := by decide +kernel
theorem dX11_goesOn_22 : decode cX11_goesOn 22 = .ok (.aload_n 0, 1) := by decide +kernel
theorem dX11_goesOn_23 : decode cX11_goesOn 23 = .ok (.getfield 33, 3) := by decide +kernel
theorem dX11_goesOn_26 : decode cX11_goesOn 26 = .ok (.bipush 8, 2) := by decide +kernel
theorem dX11_goesOn_28 : decode cX11_goesOn 28 = .ok (.iload_n 1, 1) := by decide +kernel
theorem dX11_goesOn_29 : decode cX11_goesOn 29 = .ok (.iadd, 1) := by decide +kernel
theorem dX11_goesOn_30 : decode cX11_goesOn 30 = .ok (.aload_n 0, 1) := by decide +kernel
theorem dX11_goesOn_31 : decode cX11_goesOn 31 = .ok (.getfield 33, 3) := by decide +kernel
theorem dX11_goesOn_34 : decode cX11_goesOn 34 = .ok (.bipush 8, 2) := by decide +kernel
theorem dX11_goesOn_36 : decode cX11_goesOn 36 = .ok (.iload_n 1, 1) := by decide +kernel
theorem dX11_goesOn_37 : decode cX11_goesOn 37 = .ok (.iadd, 1) := by decide +kernel
theorem dX11_goesOn_38 : decode cX11_goesOn 38 = .ok (.iaload, 1) := by decide +kernel
theorem dX11_goesOn_39 : decode cX11_goesOn 39 = .ok (.ifCond .le 17, 3) := by decide +kernel
theorem dX11_goesOn_42 : decode cX11_goesOn 42 = .ok (.aload_n 0, 1) := by decide +kernel
theorem dX11_goesOn_43 : decode cX11_goesOn 43 = .ok (.getfield 33, 3) := by decide +kernel
theorem dX11_goesOn_46 : decode cX11_goesOn 46 = .ok (.bipush 8, 2) := by decide +kernel
theorem dX11_goesOn_48 : decode cX11_goesOn 48 = .ok (.iload_n 1, 1) := by decide +kernel
theorem dX11_goesOn_49 : decode cX11_goesOn 49 = .ok (.iadd, 1) := by decide +kernel
theorem dX11_goesOn_50 : decode cX11_goesOn 50 = .ok (.iaload, 1) := by decide +kernel
theorem dX11_goesOn_51 : decode cX11_goesOn 51 = .ok (.iconst 1, 1) := by decide +kernel
theorem dX11_goesOn_52 : decode cX11_goesOn 52 = .ok (.isub, 1) := by decide +kernel
theorem dX11_goesOn_53 : decode cX11_goesOn 53 = .ok (.goto 4, 3) := by decide +kernel
theorem dX11_goesOn_56 : decode cX11_goesOn 56 = .ok (.iconst 0, 1) := by decide +kernel
theorem dX11_goesOn_57 : decode cX11_goesOn 57 = .ok (.iastore, 1) := by decide +kernel
theorem dX11_goesOn_58 : decode cX11_goesOn 58 = .ok (.aload_n 0, 1) := by decide +kernel
theorem dX11_goesOn_59 : decode cX11_goesOn 59 = .ok (.getfield 33, 3) := by decide +kernel
theorem dX11_goesOn_62 : decode cX11_goesOn 62 = .ok (.iconst 0, 1) := by decide +kernel
theorem dX11_goesOn_63 : decode cX11_goesOn 63 = .ok (.iload_n 1, 1) := by decide +kernel
theorem dX11_goesOn_64 : decode cX11_goesOn 64 = .ok (.iadd, 1) := by decide +kernel
theorem dX11_goesOn_65 : decode cX11_goesOn 65 = .ok (.dup2, 1) := by decide +kernel
theorem dX11_goesOn_66 : decode cX11_goesOn 66 = .ok (.iaload, 1) := by decide +kernel
theorem dX11_goesOn_67 : decode cX11_goesOn 67 = .ok (.aload_n 0, 1) := by decide +kernel
theorem dX11_goesOn_68 : decode cX11_goesOn 68 = .ok (.getfield 33, 3) := by decide +kernel
theorem dX11_goesOn_71 : decode cX11_goesOn 71 = .ok (.bipush 8, 2) := by decide +kernel
theorem dX11_goesOn_73 : decode cX11_goesOn 73 = .ok (.iload_n 1, 1) := by decide +kernel
theorem dX11_goesOn_74 : decode cX11_goesOn 74 = .ok (.iadd, 1) := by decide +kernel
theorem dX11_goesOn_75 : decode cX11_goesOn 75 = .ok (.iaload, 1) := by decide +kernel
theorem dX11_goesOn_76 : decode cX11_goesOn 76 = .ok (.isub, 1) := by decide +kernel
theorem dX11_goesOn_77 : decode cX11_goesOn 77 = .ok (.iastore, 1) := by decide +kernel
theorem dX11_goesOn_78 : decode cX11_goesOn 78 = .ok (.goto 196, 3) := by decide +kernel
theorem dX11_goesOn_81 : decode cX11_goesOn 81 = .ok (.iload_n 2, 1) := by decide +kernel
theorem dX11_goesOn_82 : decode cX11_goesOn 82 = .ok (.aload_n 0, 1) := by decide +kernel
theorem dX11_goesOn_83 : decode cX11_goesOn 83 = .ok (.getfield 33, 3) := by decide +kernel
theorem dX11_goesOn_86 : decode cX11_goesOn 86 = .ok (.bipush 8, 2) := by decide +kernel
theorem dX11_goesOn_88 : decode cX11_goesOn 88 = .ok (.iload_n 1, 1) := by decide +kernel
theorem dX11_goesOn_89 : decode cX11_goesOn 89 = .ok (.iadd, 1) := by decide +kernel
theorem dX11_goesOn_90 : decode cX11_goesOn 90 = .ok (.iaload, 1) := by decide +kernel
theorem dX11_goesOn_91 : decode cX11_goesOn 91 = .ok (.isub, 1) := by decide +kernel
theorem dX11_goesOn_92 : decode cX11_goesOn 92 = .ok (.istore_n 3, 1) := by decide +kernel
theorem dX11_goesOn_93 : decode cX11_goesOn 93 = .ok (.iconst (-1), 1) := by decide +kernel
theorem dX11_goesOn_94 : decode cX11_goesOn 94 = .ok (.istore 4, 2) := by decide +kernel
theorem dX11_goesOn_96 : decode cX11_goesOn 96 = .ok (.iconst 0, 1) := by decide +kernel
theorem dX11_goesOn_97 : decode cX11_goesOn 97 = .ok (.istore 5, 2) := by decide +kernel
theorem dX11_goesOn_99 : decode cX11_goesOn 99 = .ok (.iload 5, 2) := by decide +kernel
theorem dX11_goesOn_101 : decode cX11_goesOn 101 = .ok (.aload_n 0, 1) := by decide +kernel
theorem dX11_goesOn_102 : decode cX11_goesOn 102 = .ok (.getfield 17, 3) := by decide +kernel
theorem dX11_goesOn_105 : decode cX11_goesOn 105 = .ok (.iconst 1, 1) := by decide +kernel
theorem dX11_goesOn_106 : decode cX11_goesOn 106 = .ok (.iaload, 1) := by decide +kernel
theorem dX11_goesOn_107 : decode cX11_goesOn 107 = .ok (.if_icmp .ge 100, 3) := by decide +kernel
theorem dX11_goesOn_110 : decode cX11_goesOn 110 = .ok (.aload_n 0, 1) := by decide +kernel
theorem dX11_goesOn_111 : decode cX11_goesOn 111 = .ok (.getfield 48, 3) := by decide +kernel
theorem dX11_goesOn_114 : decode cX11_goesOn 114 = .ok (.iload 5, 2) := by decide +kernel
theorem dX11_goesOn_116 : decode cX11_goesOn 116 = .ok (.baload, 1) := by decide +kernel
theorem dX11_goesOn_117 : decode cX11_goesOn 117 = .ok (.ifCond .eq 84, 3) := by decide +kernel
theorem dX11_goesOn_120 : decode cX11_goesOn 120 = .ok (.aload_n 0, 1) := by decide +kernel
theorem dX11_goesOn_121 : decode cX11_goesOn 121 = .ok (.getfield 17, 3) := by decide +kernel
theorem dX11_goesOn_124 : decode cX11_goesOn 124 = .ok (.iconst 2, 1) := by decide +kernel
theorem dX11_goesOn_125 : decode cX11_goesOn 125 = .ok (.iload 5, 2) := by decide +kernel
theorem dX11_goesOn_127 : decode cX11_goesOn 127 = .ok (.iadd, 1) := by decide +kernel
theorem dX11_goesOn_128 : decode cX11_goesOn 128 = .ok (.iaload, 1) := by decide +kernel
theorem dX11_goesOn_129 : decode cX11_goesOn 129 = .ok (.aload_n 0, 1) := by decide +kernel
theorem dX11_goesOn_130 : decode cX11_goesOn 130 = .ok (.getfield 17, 3) := by decide +kernel
theorem dX11_goesOn_133 : decode cX11_goesOn 133 = .ok (.iconst 2, 1) := by decide +kernel
theorem dX11_goesOn_134 : decode cX11_goesOn 134 = .ok (.iload_n 1, 1) := by decide +kernel
theorem dX11_goesOn_135 : decode cX11_goesOn 135 = .ok (.iadd, 1) := by decide +kernel
theorem dX11_goesOn_136 : decode cX11_goesOn 136 = .ok (.iaload, 1) := by decide +kernel
theorem dX11_goesOn_137 : decode cX11_goesOn 137 = .ok (.if_icmp .ne 64, 3) := by decide +kernel
theorem dX11_goesOn_140 : decode cX11_goesOn 140 = .ok (.aload_n 0, 1) := by decide +kernel
theorem dX11_goesOn_141 : decode cX11_goesOn 141 = .ok (.getfield 33, 3) := by decide +kernel
theorem dX11_goesOn_144 : decode cX11_goesOn 144 = .ok (.iconst 0, 1) := by decide +kernel
theorem dX11_goesOn_145 : decode cX11_goesOn 145 = .ok (.iload 5, 2) := by decide +kernel
theorem dX11_goesOn_147 : decode cX11_goesOn 147 = .ok (.iadd, 1) := by decide +kernel
theorem dX11_goesOn_148 : decode cX11_goesOn 148 = .ok (.iaload, 1) := by decide +kernel
theorem dX11_goesOn_149 : decode cX11_goesOn 149 = .ok (.ifCond .le 52, 3) := by decide +kernel
theorem dX11_goesOn_152 : decode cX11_goesOn 152 = .ok (.aload_n 0, 1) := by decide +kernel
theorem dX11_goesOn_153 : decode cX11_goesOn 153 = .ok (.getfield 33, 3) := by decide +kernel
theorem dX11_goesOn_156 : decode cX11_goesOn 156 = .ok (.bipush 16, 2) := by decide +kernel
theorem dX11_goesOn_158 : decode cX11_goesOn 158 = .ok (.iload 5, 2) := by decide +kernel
theorem dX11_goesOn_160 : decode cX11_goesOn 160 = .ok (.iadd, 1) := by decide +kernel
theorem dX11_goesOn_161 : decode cX11_goesOn 161 = .ok (.iaload, 1) := by decide +kernel
theorem dX11_goesOn_162 : decode cX11_goesOn 162 = .ok (.iconst 2, 1) := by decide +kernel
theorem dX11_goesOn_163 : decode cX11_goesOn 163 = .ok (.if_icmp .eq 13, 3) := by decide +kernel
theorem dX11_goesOn_166 : decode cX11_goesOn 166 = .ok (.aload_n 0, 1) := by decide +kernel
theorem dX11_goesOn_167 : decode cX11_goesOn 167 = .ok (.getfield 51, 3) := by decide +kernel
theorem dX11_goesOn_170 : decode cX11_goesOn 170 = .ok (.iload 5, 2) := by decide +kernel
theorem dX11_goesOn_172 : decode cX11_goesOn 172 = .ok (.baload, 1) := by decide +kernel
theorem dX11_goesOn_173 : decode cX11_goesOn 173 = .ok (.ifCond .eq 28, 3) := by decide +kernel
theorem dX11_goesOn_176 : decode cX11_goesOn 176 = .ok (.aload_n 0, 1) := by decide +kernel
theorem dX11_goesOn_177 : decode cX11_goesOn 177 = .ok (.getfield 33, 3) := by decide +kernel
theorem dX11_goesOn_180 : decode cX11_goesOn 180 = .ok (.iconst 0, 1) := by decide +kernel
theorem dX11_goesOn_181 : decode cX11_goesOn 181 = .ok (.iload 5, 2) := by decide +kernel
theorem dX11_goesOn_183 : decode cX11_goesOn 183 = .ok (.iadd, 1) := by decide +kernel
theorem dX11_goesOn_184 : decode cX11_goesOn 184 = .ok (.iaload, 1) := by decide +kernel
theorem dX11_goesOn_185 : decode cX11_goesOn 185 = .ok (.iload 4, 2) := by decide +kernel
theorem dX11_goesOn_187 : decode cX11_goesOn 187 = .ok (.if_icmp .le 14, 3) := by decide +kernel
theorem dX11_goesOn_190 : decode cX11_goesOn 190 = .ok (.aload_n 0, 1) := by decide +kernel
theorem dX11_goesOn_191 : decode cX11_goesOn 191 = .ok (.getfield 33, 3) := by decide +kernel
theorem dX11_goesOn_194 : decode cX11_goesOn 194 = .ok (.iconst 0, 1) := by decide +kernel
theorem dX11_goesOn_195 : decode cX11_goesOn 195 = .ok (.iload 5, 2) := by decide +kernel
theorem dX11_goesOn_197 : decode cX11_goesOn 197 = .ok (.iadd, 1) := by decide +kernel
theorem dX11_goesOn_198 : decode cX11_goesOn 198 = .ok (.iaload, 1) := by decide +kernel
theorem dX11_goesOn_199 : decode cX11_goesOn 199 = .ok (.istore 4, 2) := by decide +kernel
theorem dX11_goesOn_201 : decode cX11_goesOn 201 = .ok (.iinc 5 1, 3) := by decide +kernel
theorem dX11_goesOn_204 : decode cX11_goesOn 204 = .ok (.goto (-105), 3) := by decide +kernel
theorem dX11_goesOn_207 : decode cX11_goesOn 207 = .ok (.iload 4, 2) := by decide +kernel
theorem dX11_goesOn_209 : decode cX11_goesOn 209 = .ok (.iconst (-1), 1) := by decide +kernel
theorem dX11_goesOn_210 : decode cX11_goesOn 210 = .ok (.if_icmp .ne 7, 3) := by decide +kernel
theorem dX11_goesOn_213 : decode cX11_goesOn 213 = .ok (.iload_n 3, 1) := by decide +kernel
theorem dX11_goesOn_214 : decode cX11_goesOn 214 = .ok (.goto 7, 3) := by decide +kernel
theorem dX11_goesOn_217 : decode cX11_goesOn 217 = .ok (.iload 4, 2) := by decide +kernel
theorem dX11_goesOn_219 : decode cX11_goesOn 219 = .ok (.iconst 2, 1) := by decide +kernel
theorem dX11_goesOn_220 : decode cX11_goesOn 220 = .ok (.iadd, 1) := by decide +kernel
theorem dX11_goesOn_221 : decode cX11_goesOn 221 = .ok (.istore 5, 2) := by decide +kernel
theorem dX11_goesOn_223 : decode cX11_goesOn 223 = .ok (.iload 5, 2) := by decide +kernel
theorem dX11_goesOn_225 : decode cX11_goesOn 225 = .ok (.iload_n 2, 1) := by decide +kernel
theorem dX11_goesOn_226 : decode cX11_goesOn 226 = .ok (.if_icmp .le 7, 3) := by decide +kernel
theorem dX11_goesOn_229 : decode cX11_goesOn 229 = .ok (.iload_n 2, 1) := by decide +kernel
theorem dX11_goesOn_230 : decode cX11_goesOn 230 = .ok (.goto 5, 3) := by decide +kernel
theorem dX11_goesOn_233 : decode cX11_goesOn 233 = .ok (.iload 5, 2) := by decide +kernel
theorem dX11_goesOn_235 : decode cX11_goesOn 235 = .ok (.istore 5, 2) := by decide +kernel
theorem dX11_goesOn_237 : decode cX11_goesOn 237 = .ok (.aload_n 0, 1) := by decide +kernel
theorem dX11_goesOn_238 : decode cX11_goesOn 238 = .ok (.getfield 51, 3) := by decide +kernel
theorem dX11_goesOn_241 : decode cX11_goesOn 241 = .ok (.iload_n 1, 1) := by decide +kernel
theorem dX11_goesOn_242 : decode cX11_goesOn 242 = .ok (.iload 5, 2) := by decide +kernel
theorem dX11_goesOn_244 : decode cX11_goesOn 244 = .ok (.iload_n 3, 1) := by decide +kernel
theorem dX11_goesOn_245 : decode cX11_goesOn 245 = .ok (.if_icmp .le 7, 3) := by decide +kernel
theorem dX11_goesOn_248 : decode cX11_goesOn 248 = .ok (.iconst 1, 1) := by decide +kernel
theorem dX11_goesOn_249 : decode cX11_goesOn 249 = .ok (.goto 4, 3) := by decide +kernel
theorem dX11_goesOn_252 : decode cX11_goesOn 252 = .ok (.iconst 0, 1) := by decide +kernel
theorem dX11_goesOn_253 : decode cX11_goesOn 253 = .ok (.bastore, 1) := by decide +kernel
theorem dX11_goesOn_254 : decode cX11_goesOn 254 = .ok (.aload_n 0, 1) := by decide +kernel
theorem dX11_goesOn_255 : decode cX11_goesOn 255 = .ok (.getfield 33, 3) := by decide +kernel
theorem dX11_goesOn_258 : decode cX11_goesOn 258 = .ok (.iconst 0, 1) := by decide +kernel
theorem dX11_goesOn_259 : decode cX11_goesOn 259 = .ok (.iload_n 1, 1) := by decide +kernel
theorem dX11_goesOn_260 : decode cX11_goesOn 260 = .ok (.iadd, 1) := by decide +kernel
theorem dX11_goesOn_261 : decode cX11_goesOn 261 = .ok (.iload 5, 2) := by decide +kernel
theorem dX11_goesOn_263 : decode cX11_goesOn 263 = .ok (.iload_n 3, 1) := by decide +kernel
theorem dX11_goesOn_264 : decode cX11_goesOn 264 = .ok (.if_icmp .le 8, 3) := by decide +kernel
theorem dX11_goesOn_267 : decode cX11_goesOn 267 = .ok (.iload 5, 2) := by decide +kernel
theorem dX11_goesOn_269 : decode cX11_goesOn 269 = .ok (.goto 4, 3) := by decide +kernel
theorem dX11_goesOn_272 : decode cX11_goesOn 272 = .ok (.iload_n 3, 1) := by decide +kernel
theorem dX11_goesOn_273 : decode cX11_goesOn 273 = .ok (.iastore, 1) := by decide +kernel
theorem dX11_goesOn_274 : decode cX11_goesOn 274 = .ok (.aload_n 0, 1) := by decide +kernel
theorem dX11_goesOn_275 : decode cX11_goesOn 275 = .ok (.getfield 48, 3) := by decide +kernel
theorem dX11_goesOn_278 : decode cX11_goesOn 278 = .ok (.iload_n 1, 1) := by decide +kernel
theorem dX11_goesOn_279 : decode cX11_goesOn 279 = .ok (.iconst 1, 1) := by decide +kernel
theorem dX11_goesOn_280 : decode cX11_goesOn 280 = .ok (.bastore, 1) := by decide +kernel
theorem dX11_goesOn_281 : decode cX11_goesOn 281 = .ok (.aload_n 0, 1) := by decide +kernel
theorem dX11_goesOn_282 : decode cX11_goesOn 282 = .ok (.getfield 33, 3) := by decide +kernel
theorem dX11_goesOn_285 : decode cX11_goesOn 285 = .ok (.iconst 0, 1) := by decide +kernel
theorem dX11_goesOn_286 : decode cX11_goesOn 286 = .ok (.iload_n 1, 1) := by decide +kernel
theorem dX11_goesOn_287 : decode cX11_goesOn 287 = .ok (.iadd, 1) := by decide +kernel
theorem dX11_goesOn_288 : decode cX11_goesOn 288 = .ok (.iaload, 1) := by decide +kernel
theorem dX11_goesOn_289 : decode cX11_goesOn 289 = .ok (.ifCond .gt 53, 3) := by decide +kernel
theorem dX11_goesOn_292 : decode cX11_goesOn 292 = .ok (.aload_n 0, 1) := by decide +kernel
theorem dX11_goesOn_293 : decode cX11_goesOn 293 = .ok (.getfield 33, 3) := by decide +kernel
theorem dX11_goesOn_296 : decode cX11_goesOn 296 = .ok (.bipush 33, 2) := by decide +kernel
theorem dX11_goesOn_298 : decode cX11_goesOn 298 = .ok (.iaload, 1) := by decide +kernel
theorem dX11_goesOn_299 : decode cX11_goesOn 299 = .ok (.iconst 1, 1) := by decide +kernel
theorem dX11_goesOn_300 : decode cX11_goesOn 300 = .ok (.if_icmp .ne 42, 3) := by decide +kernel
theorem dX11_goesOn_303 : decode cX11_goesOn 303 = .ok (.aload_n 0, 1) := by decide +kernel
theorem dX11_goesOn_304 : decode cX11_goesOn 304 = .ok (.getfield 17, 3) := by decide +kernel
theorem dX11_goesOn_307 : decode cX11_goesOn 307 = .ok (.iconst 2, 1) := by decide +kernel
theorem dX11_goesOn_308 : decode cX11_goesOn 308 = .ok (.iload_n 1, 1) := by decide +kernel
theorem dX11_goesOn_309 : decode cX11_goesOn 309 = .ok (.iadd, 1) := by decide +kernel
theorem dX11_goesOn_310 : decode cX11_goesOn 310 = .ok (.iaload, 1) := by decide +kernel
theorem dX11_goesOn_311 : decode cX11_goesOn 311 = .ok (.aload_n 0, 1) := by decide +kernel
theorem dX11_goesOn_312 : decode cX11_goesOn 312 = .ok (.getfield 33, 3) := by decide +kernel
theorem dX11_goesOn_315 : decode cX11_goesOn 315 = .ok (.bipush 32, 2) := by decide +kernel
theorem dX11_goesOn_317 : decode cX11_goesOn 317 = .ok (.iaload, 1) := by decide +kernel
theorem dX11_goesOn_318 : decode cX11_goesOn 318 = .ok (.if_icmp .ne 24, 3) := by decide +kernel
theorem dX11_goesOn_321 : decode cX11_goesOn 321 = .ok (.aload_n 0, 1) := by decide +kernel
theorem dX11_goesOn_322 : decode cX11_goesOn 322 = .ok (.getfield 256, 3) := by decide +kernel
theorem dX11_goesOn_325 : decode cX11_goesOn 325 = .ok (.iconst (-1), 1) := by decide +kernel
theorem dX11_goesOn_326 : decode cX11_goesOn 326 = .ok (.if_icmp .eq 11, 3) := by decide +kernel
theorem dX11_goesOn_329 : decode cX11_goesOn 329 = .ok (.iload_n 1, 1) := by decide +kernel
theorem dX11_goesOn_330 : decode cX11_goesOn 330 = .ok (.aload_n 0, 1) := by decide +kernel
theorem dX11_goesOn_331 : decode cX11_goesOn 331 = .ok (.getfield 256, 3) := by decide +kernel
theorem dX11_goesOn_334 : decode cX11_goesOn 334 = .ok (.if_icmp .ge 8, 3) := by decide +kernel
theorem dX11_goesOn_337 : decode cX11_goesOn 337 = .ok (.aload_n 0, 1) := by decide +kernel
theorem dX11_goesOn_338 : decode cX11_goesOn 338 = .ok (.iload_n 1, 1) := by decide +kernel
theorem dX11_goesOn_339 : decode cX11_goesOn 339 = .ok (.putfield 256, 3) := by decide +kernel
theorem dX11_goesOn_342 : decode cX11_goesOn 342 = .ok (.return_, 1) := by decide +kernel
theorem dX11_carsGo_0 : decode cX11_carsGo 0 = .ok (.aload_n 0, 1) := by decide +kernel
theorem dX11_carsGo_1 : decode cX11_carsGo 1 = .ok (.iconst (-1), 1) := by decide +kernel
theorem dX11_carsGo_2 : decode cX11_carsGo 2 = .ok (.putfield 256, 3) := by decide +kernel
theorem dX11_carsGo_5 : decode cX11_carsGo 5 = .ok (.iconst 0, 1) := by decide +kernel
theorem dX11_carsGo_6 : decode cX11_carsGo 6 = .ok (.istore_n 1, 1) := by decide +kernel
theorem dX11_carsGo_7 : decode cX11_carsGo 7 = .ok (.iload_n 1, 1) := by decide +kernel
theorem dX11_carsGo_8 : decode cX11_carsGo 8 = .ok (.bipush 8, 2) := by decide +kernel
theorem dX11_carsGo_10 : decode cX11_carsGo 10 = .ok (.if_icmp .ge 23, 3) := by decide +kernel
theorem dX11_carsGo_13 : decode cX11_carsGo 13 = .ok (.aload_n 0, 1) := by decide +kernel
theorem dX11_carsGo_14 : decode cX11_carsGo 14 = .ok (.getfield 48, 3) := by decide +kernel
theorem dX11_carsGo_17 : decode cX11_carsGo 17 = .ok (.iload_n 1, 1) := by decide +kernel
theorem dX11_carsGo_18 : decode cX11_carsGo 18 = .ok (.iconst 0, 1) := by decide +kernel
theorem dX11_carsGo_19 : decode cX11_carsGo 19 = .ok (.bastore, 1) := by decide +kernel
theorem dX11_carsGo_20 : decode cX11_carsGo 20 = .ok (.aload_n 0, 1) := by decide +kernel
theorem dX11_carsGo_21 : decode cX11_carsGo 21 = .ok (.getfield 51, 3) := by decide +kernel
theorem dX11_carsGo_24 : decode cX11_carsGo 24 = .ok (.iload_n 1, 1) := by decide +kernel
theorem dX11_carsGo_25 : decode cX11_carsGo 25 = .ok (.iconst 0, 1) := by decide +kernel
theorem dX11_carsGo_26 : decode cX11_carsGo 26 = .ok (.bastore, 1) := by decide +kernel
theorem dX11_carsGo_27 : decode cX11_carsGo 27 = .ok (.iinc 1 1, 3) := by decide +kernel
theorem dX11_carsGo_30 : decode cX11_carsGo 30 = .ok (.goto (-23), 3) := by decide +kernel
theorem dX11_carsGo_33 : decode cX11_carsGo 33 = .ok (.iconst 0, 1) := by decide +kernel
theorem dX11_carsGo_34 : decode cX11_carsGo 34 = .ok (.istore_n 1, 1) := by decide +kernel
theorem dX11_carsGo_35 : decode cX11_carsGo 35 = .ok (.iload_n 1, 1) := by decide +kernel
theorem dX11_carsGo_36 : decode cX11_carsGo 36 = .ok (.aload_n 0, 1) := by decide +kernel
theorem dX11_carsGo_37 : decode cX11_carsGo 37 = .ok (.getfield 17, 3) := by decide +kernel
theorem dX11_carsGo_40 : decode cX11_carsGo 40 = .ok (.iconst 0, 1) := by decide +kernel
theorem dX11_carsGo_41 : decode cX11_carsGo 41 = .ok (.iaload, 1) := by decide +kernel
theorem dX11_carsGo_42 : decode cX11_carsGo 42 = .ok (.if_icmp .ge 123, 3) := by decide +kernel
theorem dX11_carsGo_45 : decode cX11_carsGo 45 = .ok (.iconst 1, 1) := by decide +kernel
theorem dX11_carsGo_46 : decode cX11_carsGo 46 = .ok (.istore_n 2, 1) := by decide +kernel
theorem dX11_carsGo_47 : decode cX11_carsGo 47 = .ok (.iload_n 2, 1) := by decide +kernel
theorem dX11_carsGo_48 : decode cX11_carsGo 48 = .ok (.ifCond .eq 111, 3) := by decide +kernel
theorem dX11_carsGo_51 : decode cX11_carsGo 51 = .ok (.iconst (-1), 1) := by decide +kernel
theorem dX11_carsGo_52 : decode cX11_carsGo 52 = .ok (.istore_n 3, 1) := by decide +kernel
theorem dX11_carsGo_53 : decode cX11_carsGo 53 = .ok (.iconst 0, 1) := by decide +kernel
theorem dX11_carsGo_54 : decode cX11_carsGo 54 = .ok (.istore 4, 2) := by decide +kernel
theorem dX11_carsGo_56 : decode cX11_carsGo 56 = .ok (.iload 4, 2) := by decide +kernel
theorem dX11_carsGo_58 : decode cX11_carsGo 58 = .ok (.aload_n 0, 1) := by decide +kernel
theorem dX11_carsGo_59 : decode cX11_carsGo 59 = .ok (.getfield 17, 3) := by decide +kernel
theorem dX11_carsGo_62 : decode cX11_carsGo 62 = .ok (.iconst 1, 1) := by decide +kernel
theorem dX11_carsGo_63 : decode cX11_carsGo 63 = .ok (.iaload, 1) := by decide +kernel
theorem dX11_carsGo_64 : decode cX11_carsGo 64 = .ok (.if_icmp .ge 72, 3) := by decide +kernel
theorem dX11_carsGo_67 : decode cX11_carsGo 67 = .ok (.aload_n 0, 1) := by decide +kernel
theorem dX11_carsGo_68 : decode cX11_carsGo 68 = .ok (.getfield 17, 3) := by decide +kernel
theorem dX11_carsGo_71 : decode cX11_carsGo 71 = .ok (.iconst 2, 1) := by decide +kernel
theorem dX11_carsGo_72 : decode cX11_carsGo 72 = .ok (.iload 4, 2) := by decide +kernel
theorem dX11_carsGo_74 : decode cX11_carsGo 74 = .ok (.iadd, 1) := by decide +kernel
theorem dX11_carsGo_75 : decode cX11_carsGo 75 = .ok (.iaload, 1) := by decide +kernel
theorem dX11_carsGo_76 : decode cX11_carsGo 76 = .ok (.iload_n 1, 1) := by decide +kernel
theorem dX11_carsGo_77 : decode cX11_carsGo 77 = .ok (.if_icmp .ne 53, 3) := by decide +kernel
theorem dX11_carsGo_80 : decode cX11_carsGo 80 = .ok (.aload_n 0, 1) := by decide +kernel
theorem dX11_carsGo_81 : decode cX11_carsGo 81 = .ok (.getfield 48, 3) := by decide +kernel
theorem dX11_carsGo_84 : decode cX11_carsGo 84 = .ok (.iload 4, 2) := by decide +kernel
theorem dX11_carsGo_86 : decode cX11_carsGo 86 = .ok (.baload, 1) := by decide +kernel
theorem dX11_carsGo_87 : decode cX11_carsGo 87 = .ok (.ifCond .ne 43, 3) := by decide +kernel
theorem dX11_carsGo_90 : decode cX11_carsGo 90 = .ok (.aload_n 0, 1) := by decide +kernel
theorem dX11_carsGo_91 : decode cX11_carsGo 91 = .ok (.getfield 33, 3) := by decide +kernel
theorem dX11_carsGo_94 : decode cX11_carsGo 94 = .ok (.iconst 0, 1) := by decide +kernel
theorem dX11_carsGo_95 : decode cX11_carsGo 95 = .ok (.iload 4, 2) := by decide +kernel
theorem dX11_carsGo_97 : decode cX11_carsGo 97 = .ok (.iadd, 1) := by decide +kernel
theorem dX11_carsGo_98 : decode cX11_carsGo 98 = .ok (.iaload, 1) := by decide +kernel
theorem dX11_carsGo_99 : decode cX11_carsGo 99 = .ok (.ifCond .le 31, 3) := by decide +kernel
theorem dX11_carsGo_102 : decode cX11_carsGo 102 = .ok (.iload_n 3, 1) := by decide +kernel
theorem dX11_carsGo_103 : decode cX11_carsGo 103 = .ok (.iconst (-1), 1) := by decide +kernel
theorem dX11_carsGo_104 : decode cX11_carsGo 104 = .ok (.if_icmp .eq 23, 3) := by decide +kernel
theorem dX11_carsGo_107 : decode cX11_carsGo 107 = .ok (.aload_n 0, 1) := by decide +kernel
theorem dX11_carsGo_108 : decode cX11_carsGo 108 = .ok (.getfield 33, 3) := by decide +kernel
theorem dX11_carsGo_111 : decode cX11_carsGo 111 = .ok (.iconst 0, 1) := by decide +kernel
theorem dX11_carsGo_112 : decode cX11_carsGo 112 = .ok (.iload 4, 2) := by decide +kernel
theorem dX11_carsGo_114 : decode cX11_carsGo 114 = .ok (.iadd, 1) := by decide +kernel
theorem dX11_carsGo_115 : decode cX11_carsGo 115 = .ok (.iaload, 1) := by decide +kernel
theorem dX11_carsGo_116 : decode cX11_carsGo 116 = .ok (.aload_n 0, 1) := by decide +kernel
theorem dX11_carsGo_117 : decode cX11_carsGo 117 = .ok (.getfield 33, 3) := by decide +kernel
theorem dX11_carsGo_120 : decode cX11_carsGo 120 = .ok (.iconst 0, 1) := by decide +kernel
theorem dX11_carsGo_121 : decode cX11_carsGo 121 = .ok (.iload_n 3, 1) := by decide +kernel
theorem dX11_carsGo_122 : decode cX11_carsGo 122 = .ok (.iadd, 1) := by decide +kernel
theorem dX11_carsGo_123 : decode cX11_carsGo 123 = .ok (.iaload, 1) := by decide +kernel
theorem dX11_carsGo_124 : decode cX11_carsGo 124 = .ok (.if_icmp .ge 6, 3) := by decide +kernel
theorem dX11_carsGo_127 : decode cX11_carsGo 127 = .ok (.iload 4, 2) := by decide +kernel
theorem dX11_carsGo_129 : decode cX11_carsGo 129 = .ok (.istore_n 3, 1) := by decide +kernel
theorem dX11_carsGo_130 : decode cX11_carsGo 130 = .ok (.iinc 4 1, 3) := by decide +kernel
theorem dX11_carsGo_133 : decode cX11_carsGo 133 = .ok (.goto (-77), 3) := by decide +kernel
theorem dX11_carsGo_136 : decode cX11_carsGo 136 = .ok (.iload_n 3, 1) := by decide +kernel
theorem dX11_carsGo_137 : decode cX11_carsGo 137 = .ok (.iconst (-1), 1) := by decide +kernel
theorem dX11_carsGo_138 : decode cX11_carsGo 138 = .ok (.if_icmp .eq 7, 3) := by decide +kernel
theorem dX11_carsGo_141 : decode cX11_carsGo 141 = .ok (.iconst 1, 1) := by decide +kernel
theorem dX11_carsGo_142 : decode cX11_carsGo 142 = .ok (.goto 4, 3) := by decide +kernel
theorem dX11_carsGo_145 : decode cX11_carsGo 145 = .ok (.iconst 0, 1) := by decide +kernel
theorem dX11_carsGo_146 : decode cX11_carsGo 146 = .ok (.istore_n 2, 1) := by decide +kernel
theorem dX11_carsGo_147 : decode cX11_carsGo 147 = .ok (.iload_n 2, 1) := by decide +kernel
theorem dX11_carsGo_148 : decode cX11_carsGo 148 = .ok (.ifCond .eq 8, 3) := by decide +kernel
theorem dX11_carsGo_151 : decode cX11_carsGo 151 = .ok (.aload_n 0, 1) := by decide +kernel
theorem dX11_carsGo_152 : decode cX11_carsGo 152 = .ok (.iload_n 3, 1) := by decide +kernel
theorem dX11_carsGo_153 : decode cX11_carsGo 153 = .ok (.invokevirtual 259, 3) := by decide +kernel
theorem dX11_carsGo_156 : decode cX11_carsGo 156 = .ok (.goto (-109), 3) := by decide +kernel
theorem dX11_carsGo_159 : decode cX11_carsGo 159 = .ok (.iinc 1 1, 3) := by decide +kernel
theorem dX11_carsGo_162 : decode cX11_carsGo 162 = .ok (.goto (-127), 3) := by decide +kernel
theorem dX11_carsGo_165 : decode cX11_carsGo 165 = .ok (.iconst 0, 1) := by decide +kernel
theorem dX11_carsGo_166 : decode cX11_carsGo 166 = .ok (.istore_n 1, 1) := by decide +kernel
theorem dX11_carsGo_167 : decode cX11_carsGo 167 = .ok (.iload_n 1, 1) := by decide +kernel
theorem dX11_carsGo_168 : decode cX11_carsGo 168 = .ok (.bipush 8, 2) := by decide +kernel
theorem dX11_carsGo_170 : decode cX11_carsGo 170 = .ok (.if_icmp .ge 32, 3) := by decide +kernel
theorem dX11_carsGo_173 : decode cX11_carsGo 173 = .ok (.aload_n 0, 1) := by decide +kernel
theorem dX11_carsGo_174 : decode cX11_carsGo 174 = .ok (.getfield 33, 3) := by decide +kernel
theorem dX11_carsGo_177 : decode cX11_carsGo 177 = .ok (.bipush 24, 2) := by decide +kernel
theorem dX11_carsGo_179 : decode cX11_carsGo 179 = .ok (.iload_n 1, 1) := by decide +kernel
theorem dX11_carsGo_180 : decode cX11_carsGo 180 = .ok (.iadd, 1) := by decide +kernel
theorem dX11_carsGo_181 : decode cX11_carsGo 181 = .ok (.aload_n 0, 1) := by decide +kernel
theorem dX11_carsGo_182 : decode cX11_carsGo 182 = .ok (.getfield 51, 3) := by decide +kernel
theorem dX11_carsGo_185 : decode cX11_carsGo 185 = .ok (.iload_n 1, 1) := by decide +kernel
theorem dX11_carsGo_186 : decode cX11_carsGo 186 = .ok (.baload, 1) := by decide +kernel
theorem dX11_carsGo_187 : decode cX11_carsGo 187 = .ok (.ifCond .eq 7, 3) := by decide +kernel
theorem dX11_carsGo_190 : decode cX11_carsGo 190 = .ok (.iconst 1, 1) := by decide +kernel
theorem dX11_carsGo_191 : decode cX11_carsGo 191 = .ok (.goto 4, 3) := by decide +kernel
theorem dX11_carsGo_194 : decode cX11_carsGo 194 = .ok (.iconst 0, 1) := by decide +kernel
theorem dX11_carsGo_195 : decode cX11_carsGo 195 = .ok (.iastore, 1) := by decide +kernel
theorem dX11_carsGo_196 : decode cX11_carsGo 196 = .ok (.iinc 1 1, 3) := by decide +kernel
theorem dX11_carsGo_199 : decode cX11_carsGo 199 = .ok (.goto (-32), 3) := by decide +kernel
theorem dX11_carsGo_202 : decode cX11_carsGo 202 = .ok (.return_, 1) := by decide +kernel
theorem dX11_ticks_0 : decode cX11_ticks 0 = .ok (.aload_n 0, 1) := by decide +kernel
theorem dX11_ticks_1 : decode cX11_ticks 1 = .ok (.getfield 33, 3) := by decide +kernel
theorem dX11_ticks_4 : decode cX11_ticks 4 = .ok (.bipush 33, 2) := by decide +kernel
theorem dX11_ticks_6 : decode cX11_ticks 6 = .ok (.iaload, 1) := by decide +kernel
theorem dX11_ticks_7 : decode cX11_ticks 7 = .ok (.ifCond .ne 60, 3) := by decide +kernel
theorem dX11_ticks_10 : decode cX11_ticks 10 = .ok (.aload_n 0, 1) := by decide +kernel
theorem dX11_ticks_11 : decode cX11_ticks 11 = .ok (.aload_n 0, 1) := by decide +kernel
theorem dX11_ticks_12 : decode cX11_ticks 12 = .ok (.getfield 33, 3) := by decide +kernel
theorem dX11_ticks_15 : decode cX11_ticks 15 = .ok (.bipush 32, 2) := by decide +kernel
theorem dX11_ticks_17 : decode cX11_ticks 17 = .ok (.iaload, 1) := by decide +kernel
theorem dX11_ticks_18 : decode cX11_ticks 18 = .ok (.invokevirtual 262, 3) := by decide +kernel
theorem dX11_ticks_21 : decode cX11_ticks 21 = .ok (.ifCond .ne 30, 3) := by decide +kernel
theorem dX11_ticks_24 : decode cX11_ticks 24 = .ok (.aload_n 0, 1) := by decide +kernel
theorem dX11_ticks_25 : decode cX11_ticks 25 = .ok (.getfield 33, 3) := by decide +kernel
theorem dX11_ticks_28 : decode cX11_ticks 28 = .ok (.bipush 32, 2) := by decide +kernel
theorem dX11_ticks_30 : decode cX11_ticks 30 = .ok (.iaload, 1) := by decide +kernel
theorem dX11_ticks_31 : decode cX11_ticks 31 = .ok (.ifCond .ne 36, 3) := by decide +kernel
theorem dX11_ticks_34 : decode cX11_ticks 34 = .ok (.aload_n 0, 1) := by decide +kernel
theorem dX11_ticks_35 : decode cX11_ticks 35 = .ok (.getfield 33, 3) := by decide +kernel
theorem dX11_ticks_38 : decode cX11_ticks 38 = .ok (.bipush 35, 2) := by decide +kernel
theorem dX11_ticks_40 : decode cX11_ticks 40 = .ok (.iaload, 1) := by decide +kernel
theorem dX11_ticks_41 : decode cX11_ticks 41 = .ok (.aload_n 0, 1) := by decide +kernel
theorem dX11_ticks_42 : decode cX11_ticks 42 = .ok (.getfield 17, 3) := by decide +kernel
theorem dX11_ticks_45 : decode cX11_ticks 45 = .ok (.bipush 37, 2) := by decide +kernel
theorem dX11_ticks_47 : decode cX11_ticks 47 = .ok (.iaload, 1) := by decide +kernel
theorem dX11_ticks_48 : decode cX11_ticks 48 = .ok (.if_icmp .lt 19, 3) := by decide +kernel
theorem dX11_ticks_51 : decode cX11_ticks 51 = .ok (.aload_n 0, 1) := by decide +kernel
theorem dX11_ticks_52 : decode cX11_ticks 52 = .ok (.getfield 33, 3) := by decide +kernel
theorem dX11_ticks_55 : decode cX11_ticks 55 = .ok (.bipush 33, 2) := by decide +kernel
theorem dX11_ticks_57 : decode cX11_ticks 57 = .ok (.iconst 1, 1) := by decide +kernel
theorem dX11_ticks_58 : decode cX11_ticks 58 = .ok (.iastore, 1) := by decide +kernel
theorem dX11_ticks_59 : decode cX11_ticks 59 = .ok (.aload_n 0, 1) := by decide +kernel
theorem dX11_ticks_60 : decode cX11_ticks 60 = .ok (.getfield 33, 3) := by decide +kernel
theorem dX11_ticks_63 : decode cX11_ticks 63 = .ok (.bipush 34, 2) := by decide +kernel
theorem dX11_ticks_65 : decode cX11_ticks 65 = .ok (.iconst 0, 1) := by decide +kernel
theorem dX11_ticks_66 : decode cX11_ticks 66 = .ok (.iastore, 1) := by decide +kernel
theorem dX11_ticks_67 : decode cX11_ticks 67 = .ok (.aload_n 0, 1) := by decide +kernel
theorem dX11_ticks_68 : decode cX11_ticks 68 = .ok (.invokevirtual 265, 3) := by decide +kernel
theorem dX11_ticks_71 : decode cX11_ticks 71 = .ok (.aload_n 0, 1) := by decide +kernel
theorem dX11_ticks_72 : decode cX11_ticks 72 = .ok (.getfield 256, 3) := by decide +kernel
theorem dX11_ticks_75 : decode cX11_ticks 75 = .ok (.iconst (-1), 1) := by decide +kernel
theorem dX11_ticks_76 : decode cX11_ticks 76 = .ok (.if_icmp .eq 71, 3) := by decide +kernel
theorem dX11_ticks_79 : decode cX11_ticks 79 = .ok (.aload_n 0, 1) := by decide +kernel
theorem dX11_ticks_80 : decode cX11_ticks 80 = .ok (.getfield 33, 3) := by decide +kernel
theorem dX11_ticks_83 : decode cX11_ticks 83 = .ok (.bipush 37, 2) := by decide +kernel
theorem dX11_ticks_85 : decode cX11_ticks 85 = .ok (.iconst 2, 1) := by decide +kernel
theorem dX11_ticks_86 : decode cX11_ticks 86 = .ok (.iastore, 1) := by decide +kernel
theorem dX11_ticks_87 : decode cX11_ticks 87 = .ok (.aload_n 0, 1) := by decide +kernel
theorem dX11_ticks_88 : decode cX11_ticks 88 = .ok (.getfield 33, 3) := by decide +kernel
theorem dX11_ticks_91 : decode cX11_ticks 91 = .ok (.bipush 39, 2) := by decide +kernel
theorem dX11_ticks_93 : decode cX11_ticks 93 = .ok (.aload_n 0, 1) := by decide +kernel
theorem dX11_ticks_94 : decode cX11_ticks 94 = .ok (.getfield 256, 3) := by decide +kernel
theorem dX11_ticks_97 : decode cX11_ticks 97 = .ok (.iastore, 1) := by decide +kernel
theorem dX11_ticks_98 : decode cX11_ticks 98 = .ok (.aload_n 0, 1) := by decide +kernel
theorem dX11_ticks_99 : decode cX11_ticks 99 = .ok (.getfield 33, 3) := by decide +kernel
theorem dX11_ticks_102 : decode cX11_ticks 102 = .ok (.bipush 38, 2) := by decide +kernel
theorem dX11_ticks_104 : decode cX11_ticks 104 = .ok (.aload_n 0, 1) := by decide +kernel
theorem dX11_ticks_105 : decode cX11_ticks 105 = .ok (.getfield 33, 3) := by decide +kernel
theorem dX11_ticks_108 : decode cX11_ticks 108 = .ok (.bipush 8, 2) := by decide +kernel
theorem dX11_ticks_110 : decode cX11_ticks 110 = .ok (.aload_n 0, 1) := by decide +kernel
theorem dX11_ticks_111 : decode cX11_ticks 111 = .ok (.getfield 256, 3) := by decide +kernel
theorem dX11_ticks_114 : decode cX11_ticks 114 = .ok (.iadd, 1) := by decide +kernel
theorem dX11_ticks_115 : decode cX11_ticks 115 = .ok (.iaload, 1) := by decide +kernel
theorem dX11_ticks_116 : decode cX11_ticks 116 = .ok (.aload_n 0, 1) := by decide +kernel
theorem dX11_ticks_117 : decode cX11_ticks 117 = .ok (.getfield 33, 3) := by decide +kernel
theorem dX11_ticks_120 : decode cX11_ticks 120 = .ok (.bipush 8, 2) := by decide +kernel
theorem dX11_ticks_122 : decode cX11_ticks 122 = .ok (.aload_n 0, 1) := by decide +kernel
theorem dX11_ticks_123 : decode cX11_ticks 123 = .ok (.getfield 256, 3) := by decide +kernel
theorem dX11_ticks_126 : decode cX11_ticks 126 = .ok (.iadd, 1) := by decide +kernel
theorem dX11_ticks_127 : decode cX11_ticks 127 = .ok (.iaload, 1) := by decide +kernel
theorem dX11_ticks_128 : decode cX11_ticks 128 = .ok (.imul, 1) := by decide +kernel
theorem dX11_ticks_129 : decode cX11_ticks 129 = .ok (.aload_n 0, 1) := by decide +kernel
theorem dX11_ticks_130 : decode cX11_ticks 130 = .ok (.iconst 0, 1) := by decide +kernel
theorem dX11_ticks_131 : decode cX11_ticks 131 = .ok (.invokevirtual 225, 3) := by decide +kernel
theorem dX11_ticks_134 : decode cX11_ticks 134 = .ok (.ifCond .eq 7, 3) := by decide +kernel
theorem dX11_ticks_137 : decode cX11_ticks 137 = .ok (.iconst 2, 1) := by decide +kernel
theorem dX11_ticks_138 : decode cX11_ticks 138 = .ok (.goto 4, 3) := by decide +kernel
theorem dX11_ticks_141 : decode cX11_ticks 141 = .ok (.iconst 1, 1) := by decide +kernel
theorem dX11_ticks_142 : decode cX11_ticks 142 = .ok (.imul, 1) := by decide +kernel
theorem dX11_ticks_143 : decode cX11_ticks 143 = .ok (.iastore, 1) := by decide +kernel
theorem dX11_ticks_144 : decode cX11_ticks 144 = .ok (.goto 95, 3) := by decide +kernel
theorem dX11_ticks_147 : decode cX11_ticks 147 = .ok (.aload_n 0, 1) := by decide +kernel
theorem dX11_ticks_148 : decode cX11_ticks 148 = .ok (.getfield 33, 3) := by decide +kernel
theorem dX11_ticks_151 : decode cX11_ticks 151 = .ok (.bipush 33, 2) := by decide +kernel
theorem dX11_ticks_153 : decode cX11_ticks 153 = .ok (.iaload, 1) := by decide +kernel
theorem dX11_ticks_154 : decode cX11_ticks 154 = .ok (.iconst 1, 1) := by decide +kernel
theorem dX11_ticks_155 : decode cX11_ticks 155 = .ok (.if_icmp .ne 84, 3) := by decide +kernel
theorem dX11_ticks_158 : decode cX11_ticks 158 = .ok (.aload_n 0, 1) := by decide +kernel
theorem dX11_ticks_159 : decode cX11_ticks 159 = .ok (.getfield 33, 3) := by decide +kernel
theorem dX11_ticks_162 : decode cX11_ticks 162 = .ok (.bipush 34, 2) := by decide +kernel
theorem dX11_ticks_164 : decode cX11_ticks 164 = .ok (.dup2, 1) := by decide +kernel
theorem dX11_ticks_165 : decode cX11_ticks 165 = .ok (.iaload, 1) := by decide +kernel
theorem dX11_ticks_166 : decode cX11_ticks 166 = .ok (.iconst 1, 1) := by decide +kernel
theorem dX11_ticks_167 : decode cX11_ticks 167 = .ok (.iadd, 1) := by decide +kernel
theorem dX11_ticks_168 : decode cX11_ticks 168 = .ok (.iastore, 1) := by decide +kernel
theorem dX11_ticks_169 : decode cX11_ticks 169 = .ok (.aload_n 0, 1) := by decide +kernel
theorem dX11_ticks_170 : decode cX11_ticks 170 = .ok (.getfield 33, 3) := by decide +kernel
theorem dX11_ticks_173 : decode cX11_ticks 173 = .ok (.bipush 34, 2) := by decide +kernel
theorem dX11_ticks_175 : decode cX11_ticks 175 = .ok (.iaload, 1) := by decide +kernel
theorem dX11_ticks_176 : decode cX11_ticks 176 = .ok (.aload_n 0, 1) := by decide +kernel
theorem dX11_ticks_177 : decode cX11_ticks 177 = .ok (.iconst 0, 1) := by decide +kernel
theorem dX11_ticks_178 : decode cX11_ticks 178 = .ok (.invokevirtual 225, 3) := by decide +kernel
theorem dX11_ticks_181 : decode cX11_ticks 181 = .ok (.ifCond .eq 7, 3) := by decide +kernel
theorem dX11_ticks_184 : decode cX11_ticks 184 = .ok (.iconst 2, 1) := by decide +kernel
theorem dX11_ticks_185 : decode cX11_ticks 185 = .ok (.goto 4, 3) := by decide +kernel
theorem dX11_ticks_188 : decode cX11_ticks 188 = .ok (.iconst 1, 1) := by decide +kernel
theorem dX11_ticks_189 : decode cX11_ticks 189 = .ok (.if_icmp .lt 50, 3) := by decide +kernel
theorem dX11_ticks_192 : decode cX11_ticks 192 = .ok (.aload_n 0, 1) := by decide +kernel
theorem dX11_ticks_193 : decode cX11_ticks 193 = .ok (.getfield 33, 3) := by decide +kernel
theorem dX11_ticks_196 : decode cX11_ticks 196 = .ok (.bipush 33, 2) := by decide +kernel
theorem dX11_ticks_198 : decode cX11_ticks 198 = .ok (.iconst 0, 1) := by decide +kernel
theorem dX11_ticks_199 : decode cX11_ticks 199 = .ok (.iastore, 1) := by decide +kernel
theorem dX11_ticks_200 : decode cX11_ticks 200 = .ok (.aload_n 0, 1) := by decide +kernel
theorem dX11_ticks_201 : decode cX11_ticks 201 = .ok (.getfield 33, 3) := by decide +kernel
theorem dX11_ticks_204 : decode cX11_ticks 204 = .ok (.bipush 32, 2) := by decide +kernel
theorem dX11_ticks_206 : decode cX11_ticks 206 = .ok (.dup2, 1) := by decide +kernel
theorem dX11_ticks_207 : decode cX11_ticks 207 = .ok (.iaload, 1) := by decide +kernel
theorem dX11_ticks_208 : decode cX11_ticks 208 = .ok (.iconst 1, 1) := by decide +kernel
theorem dX11_ticks_209 : decode cX11_ticks 209 = .ok (.iadd, 1) := by decide +kernel
theorem dX11_ticks_210 : decode cX11_ticks 210 = .ok (.iastore, 1) := by decide +kernel
theorem dX11_ticks_211 : decode cX11_ticks 211 = .ok (.aload_n 0, 1) := by decide +kernel
theorem dX11_ticks_212 : decode cX11_ticks 212 = .ok (.getfield 33, 3) := by decide +kernel
theorem dX11_ticks_215 : decode cX11_ticks 215 = .ok (.bipush 37, 2) := by decide +kernel
theorem dX11_ticks_217 : decode cX11_ticks 217 = .ok (.aload_n 0, 1) := by decide +kernel
theorem dX11_ticks_218 : decode cX11_ticks 218 = .ok (.getfield 33, 3) := by decide +kernel
theorem dX11_ticks_221 : decode cX11_ticks 221 = .ok (.bipush 32, 2) := by decide +kernel
theorem dX11_ticks_223 : decode cX11_ticks 223 = .ok (.iaload, 1) := by decide +kernel
theorem dX11_ticks_224 : decode cX11_ticks 224 = .ok (.aload_n 0, 1) := by decide +kernel
theorem dX11_ticks_225 : decode cX11_ticks 225 = .ok (.getfield 17, 3) := by decide +kernel
theorem dX11_ticks_228 : decode cX11_ticks 228 = .ok (.iconst 0, 1) := by decide +kernel
theorem dX11_ticks_229 : decode cX11_ticks 229 = .ok (.iaload, 1) := by decide +kernel
theorem dX11_ticks_230 : decode cX11_ticks 230 = .ok (.if_icmp .ne 7, 3) := by decide +kernel
theorem dX11_ticks_233 : decode cX11_ticks 233 = .ok (.iconst 1, 1) := by decide +kernel
theorem dX11_ticks_234 : decode cX11_ticks 234 = .ok (.goto 4, 3) := by decide +kernel
theorem dX11_ticks_237 : decode cX11_ticks 237 = .ok (.iconst 0, 1) := by decide +kernel
theorem dX11_ticks_238 : decode cX11_ticks 238 = .ok (.iastore, 1) := by decide +kernel
theorem dX11_ticks_239 : decode cX11_ticks 239 = .ok (.aload_n 0, 1) := by decide +kernel
theorem dX11_ticks_240 : decode cX11_ticks 240 = .ok (.getfield 33, 3) := by decide +kernel
theorem dX11_ticks_243 : decode cX11_ticks 243 = .ok (.bipush 35, 2) := by decide +kernel
theorem dX11_ticks_245 : decode cX11_ticks 245 = .ok (.dup2, 1) := by decide +kernel
theorem dX11_ticks_246 : decode cX11_ticks 246 = .ok (.iaload, 1) := by decide +kernel
theorem dX11_ticks_247 : decode cX11_ticks 247 = .ok (.aload_n 0, 1) := by decide +kernel
theorem dX11_ticks_248 : decode cX11_ticks 248 = .ok (.getfield 33, 3) := by decide +kernel
theorem dX11_ticks_251 : decode cX11_ticks 251 = .ok (.bipush 33, 2) := by decide +kernel
theorem dX11_ticks_253 : decode cX11_ticks 253 = .ok (.iaload, 1) := by decide +kernel
theorem dX11_ticks_254 : decode cX11_ticks 254 = .ok (.ifCond .ne 17, 3) := by decide +kernel
theorem dX11_ticks_257 : decode cX11_ticks 257 = .ok (.aload_n 0, 1) := by decide +kernel
theorem dX11_ticks_258 : decode cX11_ticks 258 = .ok (.getfield 33, 3) := by decide +kernel
theorem dX11_ticks_261 : decode cX11_ticks 261 = .ok (.bipush 32, 2) := by decide +kernel
theorem dX11_ticks_263 : decode cX11_ticks 263 = .ok (.iaload, 1) := by decide +kernel
theorem dX11_ticks_264 : decode cX11_ticks 264 = .ok (.ifCond .ne 7, 3) := by decide +kernel
theorem dX11_ticks_267 : decode cX11_ticks 267 = .ok (.iconst 1, 1) := by decide +kernel
theorem dX11_ticks_268 : decode cX11_ticks 268 = .ok (.goto 4, 3) := by decide +kernel
theorem dX11_ticks_271 : decode cX11_ticks 271 = .ok (.iconst 0, 1) := by decide +kernel
theorem dX11_ticks_272 : decode cX11_ticks 272 = .ok (.iadd, 1) := by decide +kernel
theorem dX11_ticks_273 : decode cX11_ticks 273 = .ok (.iastore, 1) := by decide +kernel
theorem dX11_ticks_274 : decode cX11_ticks 274 = .ok (.aload_n 0, 1) := by decide +kernel
theorem dX11_ticks_275 : decode cX11_ticks 275 = .ok (.getfield 33, 3) := by decide +kernel
theorem dX11_ticks_278 : decode cX11_ticks 278 = .ok (.bipush 36, 2) := by decide +kernel
theorem dX11_ticks_280 : decode cX11_ticks 280 = .ok (.dup2, 1) := by decide +kernel
theorem dX11_ticks_281 : decode cX11_ticks 281 = .ok (.iaload, 1) := by decide +kernel
theorem dX11_ticks_282 : decode cX11_ticks 282 = .ok (.iconst 1, 1) := by decide +kernel
theorem dX11_ticks_283 : decode cX11_ticks 283 = .ok (.iadd, 1) := by decide +kernel
theorem dX11_ticks_284 : decode cX11_ticks 284 = .ok (.iastore, 1) := by decide +kernel
theorem dX11_ticks_285 : decode cX11_ticks 285 = .ok (.aload_n 0, 1) := by decide +kernel
theorem dX11_ticks_286 : decode cX11_ticks 286 = .ok (.getfield 33, 3) := by decide +kernel
theorem dX11_ticks_289 : decode cX11_ticks 289 = .ok (.bipush 37, 2) := by decide +kernel
theorem dX11_ticks_291 : decode cX11_ticks 291 = .ok (.iaload, 1) := by decide +kernel
theorem dX11_ticks_292 : decode cX11_ticks 292 = .ok (.ifCond .ne 23, 3) := by decide +kernel
theorem dX11_ticks_295 : decode cX11_ticks 295 = .ok (.aload_n 0, 1) := by decide +kernel
theorem dX11_ticks_296 : decode cX11_ticks 296 = .ok (.getfield 33, 3) := by decide +kernel
theorem dX11_ticks_299 : decode cX11_ticks 299 = .ok (.bipush 36, 2) := by decide +kernel
theorem dX11_ticks_301 : decode cX11_ticks 301 = .ok (.iaload, 1) := by decide +kernel
theorem dX11_ticks_302 : decode cX11_ticks 302 = .ok (.bipush 99, 2) := by decide +kernel
theorem dX11_ticks_304 : decode cX11_ticks 304 = .ok (.if_icmp .ne 11, 3) := by decide +kernel
theorem dX11_ticks_307 : decode cX11_ticks 307 = .ok (.aload_n 0, 1) := by decide +kernel
theorem dX11_ticks_308 : decode cX11_ticks 308 = .ok (.getfield 33, 3) := by decide +kernel
theorem dX11_ticks_311 : decode cX11_ticks 311 = .ok (.bipush 37, 2) := by decide +kernel
theorem dX11_ticks_313 : decode cX11_ticks 313 = .ok (.iconst 3, 1) := by decide +kernel
theorem dX11_ticks_314 : decode cX11_ticks 314 = .ok (.iastore, 1) := by decide +kernel
theorem dX11_ticks_315 : decode cX11_ticks 315 = .ok (.aload_n 0, 1) := by decide +kernel
theorem dX11_ticks_316 : decode cX11_ticks 316 = .ok (.getfield 33, 3) := by decide +kernel
theorem dX11_ticks_319 : decode cX11_ticks 319 = .ok (.bipush 41, 2) := by decide +kernel
theorem dX11_ticks_321 : decode cX11_ticks 321 = .ok (.iconst 0, 1) := by decide +kernel
theorem dX11_ticks_322 : decode cX11_ticks 322 = .ok (.iastore, 1) := by decide +kernel
theorem dX11_ticks_323 : decode cX11_ticks 323 = .ok (.return_, 1) := by decide +kernel
theorem dX11_runs_0 : decode cX11_runs 0 = .ok (.aload_n 0, 1) := by decide +kernel
theorem dX11_runs_1 : decode cX11_runs 1 = .ok (.iload_n 1, 1) := by decide +kernel
theorem dX11_runs_2 : decode cX11_runs 2 = .ok (.invokevirtual 240, 3) := by decide +kernel
theorem dX11_runs_5 : decode cX11_runs 5 = .ok (.aload_n 0, 1) := by decide +kernel
theorem dX11_runs_6 : decode cX11_runs 6 = .ok (.getfield 33, 3) := by decide +kernel
theorem dX11_runs_9 : decode cX11_runs 9 = .ok (.bipush 37, 2) := by decide +kernel
theorem dX11_runs_11 : decode cX11_runs 11 = .ok (.iaload, 1) := by decide +kernel
theorem dX11_runs_12 : decode cX11_runs 12 = .ok (.ifCond .ne 27, 3) := by decide +kernel
theorem dX11_runs_15 : decode cX11_runs 15 = .ok (.aload_n 0, 1) := by decide +kernel
theorem dX11_runs_16 : decode cX11_runs 16 = .ok (.getfield 33, 3) := by decide +kernel
theorem dX11_runs_19 : decode cX11_runs 19 = .ok (.bipush 36, 2) := by decide +kernel
theorem dX11_runs_21 : decode cX11_runs 21 = .ok (.iaload, 1) := by decide +kernel
theorem dX11_runs_22 : decode cX11_runs 22 = .ok (.iload_n 2, 1) := by decide +kernel
theorem dX11_runs_23 : decode cX11_runs 23 = .ok (.if_icmp .ge 16, 3) := by decide +kernel
theorem dX11_runs_26 : decode cX11_runs 26 = .ok (.aload_n 0, 1) := by decide +kernel
theorem dX11_runs_27 : decode cX11_runs 27 = .ok (.iconst 1, 1) := by decide +kernel
theorem dX11_runs_28 : decode cX11_runs 28 = .ok (.invokevirtual 268, 3) := by decide +kernel
theorem dX11_runs_31 : decode cX11_runs 31 = .ok (.pop, 1) := by decide +kernel
theorem dX11_runs_32 : decode cX11_runs 32 = .ok (.aload_n 0, 1) := by decide +kernel
theorem dX11_runs_33 : decode cX11_runs 33 = .ok (.invokevirtual 272, 3) := by decide +kernel
theorem dX11_runs_36 : decode cX11_runs 36 = .ok (.goto (-31), 3) := by decide +kernel
theorem dX11_runs_39 : decode cX11_runs 39 = .ok (.return_, 1) := by decide +kernel
theorem dX11_stopped_0 : decode cX11_stopped 0 = .ok (.iconst 0, 1) := by decide +kernel
theorem dX11_stopped_1 : decode cX11_stopped 1 = .ok (.istore_n 1, 1) := by decide +kernel
theorem dX11_stopped_2 : decode cX11_stopped 2 = .ok (.iconst 0, 1) := by decide +kernel
theorem dX11_stopped_3 : decode cX11_stopped 3 = .ok (.istore_n 2, 1) := by decide +kernel
theorem dX11_stopped_4 : decode cX11_stopped 4 = .ok (.iload_n 2, 1) := by decide +kernel
theorem dX11_stopped_5 : decode cX11_stopped 5 = .ok (.aload_n 0, 1) := by decide +kernel
theorem dX11_stopped_6 : decode cX11_stopped 6 = .ok (.getfield 17, 3) := by decide +kernel
theorem dX11_stopped_9 : decode cX11_stopped 9 = .ok (.iconst 1, 1) := by decide +kernel
theorem dX11_stopped_10 : decode cX11_stopped 10 = .ok (.iaload, 1) := by decide +kernel
theorem dX11_stopped_11 : decode cX11_stopped 11 = .ok (.if_icmp .ge 32, 3) := by decide +kernel
theorem dX11_stopped_14 : decode cX11_stopped 14 = .ok (.iload_n 1, 1) := by decide +kernel
theorem dX11_stopped_15 : decode cX11_stopped 15 = .ok (.aload_n 0, 1) := by decide +kernel
theorem dX11_stopped_16 : decode cX11_stopped 16 = .ok (.getfield 33, 3) := by decide +kernel
theorem dX11_stopped_19 : decode cX11_stopped 19 = .ok (.bipush 16, 2) := by decide +kernel
theorem dX11_stopped_21 : decode cX11_stopped 21 = .ok (.iload_n 2, 1) := by decide +kernel
theorem dX11_stopped_22 : decode cX11_stopped 22 = .ok (.iadd, 1) := by decide +kernel
theorem dX11_stopped_23 : decode cX11_stopped 23 = .ok (.iaload, 1) := by decide +kernel
theorem dX11_stopped_24 : decode cX11_stopped 24 = .ok (.iconst 2, 1) := by decide +kernel
theorem dX11_stopped_25 : decode cX11_stopped 25 = .ok (.if_icmp .ne 9, 3) := by decide +kernel
theorem dX11_stopped_28 : decode cX11_stopped 28 = .ok (.iconst 1, 1) := by decide +kernel
theorem dX11_stopped_29 : decode cX11_stopped 29 = .ok (.iload_n 2, 1) := by decide +kernel
theorem dX11_stopped_30 : decode cX11_stopped 30 = .ok (.ishl, 1) := by decide +kernel
theorem dX11_stopped_31 : decode cX11_stopped 31 = .ok (.goto 4, 3) := by decide +kernel
theorem dX11_stopped_34 : decode cX11_stopped 34 = .ok (.iconst 0, 1) := by decide +kernel
theorem dX11_stopped_35 : decode cX11_stopped 35 = .ok (.ior, 1) := by decide +kernel
theorem dX11_stopped_36 : decode cX11_stopped 36 = .ok (.istore_n 1, 1) := by decide +kernel
theorem dX11_stopped_37 : decode cX11_stopped 37 = .ok (.iinc 2 1, 3) := by decide +kernel
theorem dX11_stopped_40 : decode cX11_stopped 40 = .ok (.goto (-36), 3) := by decide +kernel
theorem dX11_stopped_43 : decode cX11_stopped 43 = .ok (.iload_n 1, 1) := by decide +kernel
theorem dX11_stopped_44 : decode cX11_stopped 44 = .ok (.ireturn, 1) := by decide +kernel
theorem dX11_run_0 : decode cX11_run 0 = .ok (.aload_n 0, 1) := by decide +kernel
theorem dX11_run_1 : decode cX11_run 1 = .ok (.iconst 0, 1) := by decide +kernel
theorem dX11_run_2 : decode cX11_run 2 = .ok (.putfield 1, 3) := by decide +kernel
theorem dX11_run_5 : decode cX11_run 5 = .ok (.iload_n 2, 1) := by decide +kernel
theorem dX11_run_6 : decode cX11_run 6 = .ok (.i2l, 1) := by decide +kernel
theorem dX11_run_7 : decode cX11_run 7 = .ok (.lconst 0, 1) := by decide +kernel
theorem dX11_run_8 : decode cX11_run 8 = .ok (.ldc2_w 172, 3) := by decide +kernel
theorem dX11_run_11 : decode cX11_run 11 = .ok (.invokestatic 152, 3) := by decide +kernel
theorem dX11_run_14 : decode cX11_run 14 = .ok (.ifCond .ne 10, 3) := by decide +kernel
theorem dX11_run_17 : decode cX11_run 17 = .ok (.aload_n 0, 1) := by decide +kernel
theorem dX11_run_18 : decode cX11_run 18 = .ok (.bipush (-2), 2) := by decide +kernel
theorem dX11_run_20 : decode cX11_run 20 = .ok (.invokevirtual 89, 3) := by decide +kernel
theorem dX11_run_23 : decode cX11_run 23 = .ok (.ireturn, 1) := by decide +kernel
theorem dX11_run_24 : decode cX11_run 24 = .ok (.aload_n 0, 1) := by decide +kernel
theorem dX11_run_25 : decode cX11_run 25 = .ok (.iload_n 1, 1) := by decide +kernel
theorem dX11_run_26 : decode cX11_run 26 = .ok (.bipush 99, 2) := by decide +kernel
theorem dX11_run_28 : decode cX11_run 28 = .ok (.invokevirtual 275, 3) := by decide +kernel
theorem dX11_run_31 : decode cX11_run 31 = .ok (.iload_n 2, 1) := by decide +kernel
theorem dX11_run_32 : decode cX11_run 32 = .ok (.tableswitch 73 0 4 #[36, 44, 52, 60, 68], 36) := by decide +kernel
theorem dX11_run_68 : decode cX11_run 68 = .ok (.aload_n 0, 1) := by decide +kernel
theorem dX11_run_69 : decode cX11_run 69 = .ok (.getfield 33, 3) := by decide +kernel
theorem dX11_run_72 : decode cX11_run 72 = .ok (.bipush 37, 2) := by decide +kernel
theorem dX11_run_74 : decode cX11_run 74 = .ok (.iaload, 1) := by decide +kernel
theorem dX11_run_75 : decode cX11_run 75 = .ok (.ireturn, 1) := by decide +kernel
theorem dX11_run_76 : decode cX11_run 76 = .ok (.aload_n 0, 1) := by decide +kernel
theorem dX11_run_77 : decode cX11_run 77 = .ok (.getfield 33, 3) := by decide +kernel
theorem dX11_run_80 : decode cX11_run 80 = .ok (.bipush 36, 2) := by decide +kernel
theorem dX11_run_82 : decode cX11_run 82 = .ok (.iaload, 1) := by decide +kernel
theorem dX11_run_83 : decode cX11_run 83 = .ok (.ireturn, 1) := by decide +kernel
theorem dX11_run_84 : decode cX11_run 84 = .ok (.aload_n 0, 1) := by decide +kernel
theorem dX11_run_85 : decode cX11_run 85 = .ok (.getfield 33, 3) := by decide +kernel
theorem dX11_run_88 : decode cX11_run 88 = .ok (.bipush 38, 2) := by decide +kernel
theorem dX11_run_90 : decode cX11_run 90 = .ok (.iaload, 1) := by decide +kernel
theorem dX11_run_91 : decode cX11_run 91 = .ok (.ireturn, 1) := by decide +kernel
theorem dX11_run_92 : decode cX11_run 92 = .ok (.aload_n 0, 1) := by decide +kernel
theorem dX11_run_93 : decode cX11_run 93 = .ok (.getfield 33, 3) := by decide +kernel
theorem dX11_run_96 : decode cX11_run 96 = .ok (.bipush 39, 2) := by decide +kernel
theorem dX11_run_98 : decode cX11_run 98 = .ok (.iaload, 1) := by decide +kernel
theorem dX11_run_99 : decode cX11_run 99 = .ok (.ireturn, 1) := by decide +kernel
theorem dX11_run_100 : decode cX11_run 100 = .ok (.aload_n 0, 1) := by decide +kernel
theorem dX11_run_101 : decode cX11_run 101 = .ok (.invokevirtual 278, 3) := by decide +kernel
theorem dX11_run_104 : decode cX11_run 104 = .ok (.ireturn, 1) := by decide +kernel
theorem dX11_run_105 : decode cX11_run 105 = .ok (.aload_n 0, 1) := by decide +kernel
theorem dX11_run_106 : decode cX11_run 106 = .ok (.getfield 33, 3) := by decide +kernel
theorem dX11_run_109 : decode cX11_run 109 = .ok (.bipush 35, 2) := by decide +kernel
theorem dX11_run_111 : decode cX11_run 111 = .ok (.iaload, 1) := by decide +kernel
theorem dX11_run_112 : decode cX11_run 112 = .ok (.ireturn, 1) := by decide +kernel
theorem dX11_watch_0 : decode cX11_watch 0 = .ok (.aload_n 0, 1) := by decide +kernel
theorem dX11_watch_1 : decode cX11_watch 1 = .ok (.iconst 0, 1) := by decide +kernel
theorem dX11_watch_2 : decode cX11_watch 2 = .ok (.putfield 1, 3) := by decide +kernel
theorem dX11_watch_5 : decode cX11_watch 5 = .ok (.aload_n 0, 1) := by decide +kernel
theorem dX11_watch_6 : decode cX11_watch 6 = .ok (.iload_n 3, 1) := by decide +kernel
theorem dX11_watch_7 : decode cX11_watch 7 = .ok (.invokevirtual 210, 3) := by decide +kernel
theorem dX11_watch_10 : decode cX11_watch 10 = .ok (.ifCond .eq 28, 3) := by decide +kernel
theorem dX11_watch_13 : decode cX11_watch 13 = .ok (.iload_n 2, 1) := by decide +kernel
theorem dX11_watch_14 : decode cX11_watch 14 = .ok (.i2l, 1) := by decide +kernel
theorem dX11_watch_15 : decode cX11_watch 15 = .ok (.lconst 0, 1) := by decide +kernel
theorem dX11_watch_16 : decode cX11_watch 16 = .ok (.ldc2_w 281, 3) := by decide +kernel
theorem dX11_watch_19 : decode cX11_watch 19 = .ok (.invokestatic 152, 3) := by decide +kernel
theorem dX11_watch_22 : decode cX11_watch 22 = .ok (.ifCond .eq 16, 3) := by decide +kernel
theorem dX11_watch_25 : decode cX11_watch 25 = .ok (.iload 4, 2) := by decide +kernel
theorem dX11_watch_27 : decode cX11_watch 27 = .ok (.i2l, 1) := by decide +kernel
theorem dX11_watch_28 : decode cX11_watch 28 = .ok (.lconst 0, 1) := by decide +kernel
theorem dX11_watch_29 : decode cX11_watch 29 = .ok (.ldc2_w 213, 3) := by decide +kernel
theorem dX11_watch_32 : decode cX11_watch 32 = .ok (.invokestatic 152, 3) := by decide +kernel
theorem dX11_watch_35 : decode cX11_watch 35 = .ok (.ifCond .ne 11, 3) := by decide +kernel
theorem dX11_watch_38 : decode cX11_watch 38 = .ok (.aload_n 0, 1) := by decide +kernel
theorem dX11_watch_39 : decode cX11_watch 39 = .ok (.sipush (-1000), 3) := by decide +kernel
theorem dX11_watch_42 : decode cX11_watch 42 = .ok (.invokevirtual 283, 3) := by decide +kernel
theorem dX11_watch_45 : decode cX11_watch 45 = .ok (.ireturn, 1) := by decide +kernel
theorem dX11_watch_46 : decode cX11_watch 46 = .ok (.aload_n 0, 1) := by decide +kernel
theorem dX11_watch_47 : decode cX11_watch 47 = .ok (.iload_n 1, 1) := by decide +kernel
theorem dX11_watch_48 : decode cX11_watch 48 = .ok (.iload_n 2, 1) := by decide +kernel
theorem dX11_watch_49 : decode cX11_watch 49 = .ok (.invokevirtual 275, 3) := by decide +kernel
theorem dX11_watch_52 : decode cX11_watch 52 = .ok (.aload_n 0, 1) := by decide +kernel
theorem dX11_watch_53 : decode cX11_watch 53 = .ok (.getfield 33, 3) := by decide +kernel
theorem dX11_watch_56 : decode cX11_watch 56 = .ok (.iconst 0, 1) := by decide +kernel
theorem dX11_watch_57 : decode cX11_watch 57 = .ok (.bipush 8, 2) := by decide +kernel
theorem dX11_watch_59 : decode cX11_watch 59 = .ok (.iload 4, 2) := by decide +kernel
theorem dX11_watch_61 : decode cX11_watch 61 = .ok (.imul, 1) := by decide +kernel
theorem dX11_watch_62 : decode cX11_watch 62 = .ok (.iadd, 1) := by decide +kernel
theorem dX11_watch_63 : decode cX11_watch 63 = .ok (.iload_n 3, 1) := by decide +kernel
theorem dX11_watch_64 : decode cX11_watch 64 = .ok (.iadd, 1) := by decide +kernel
theorem dX11_watch_65 : decode cX11_watch 65 = .ok (.iaload, 1) := by decide +kernel
theorem dX11_watch_66 : decode cX11_watch 66 = .ok (.ireturn, 1) := by decide +kernel
theorem dX11_stands_0 : decode cX11_stands 0 = .ok (.aload_n 0, 1) := by decide +kernel
theorem dX11_stands_1 : decode cX11_stands 1 = .ok (.iconst 0, 1) := by decide +kernel
theorem dX11_stands_2 : decode cX11_stands 2 = .ok (.putfield 1, 3) := by decide +kernel
theorem dX11_stands_5 : decode cX11_stands 5 = .ok (.iload_n 2, 1) := by decide +kernel
theorem dX11_stands_6 : decode cX11_stands 6 = .ok (.i2l, 1) := by decide +kernel
theorem dX11_stands_7 : decode cX11_stands 7 = .ok (.lconst 0, 1) := by decide +kernel
theorem dX11_stands_8 : decode cX11_stands 8 = .ok (.ldc2_w 281, 3) := by decide +kernel
theorem dX11_stands_11 : decode cX11_stands 11 = .ok (.invokestatic 152, 3) := by decide +kernel
theorem dX11_stands_14 : decode cX11_stands 14 = .ok (.ifCond .ne 10, 3) := by decide +kernel
theorem dX11_stands_17 : decode cX11_stands 17 = .ok (.aload_n 0, 1) := by decide +kernel
theorem dX11_stands_18 : decode cX11_stands 18 = .ok (.bipush (-3), 2) := by decide +kernel
theorem dX11_stands_20 : decode cX11_stands 20 = .ok (.invokevirtual 89, 3) := by decide +kernel
theorem dX11_stands_23 : decode cX11_stands 23 = .ok (.ireturn, 1) := by decide +kernel
theorem dX11_stands_24 : decode cX11_stands 24 = .ok (.aload_n 0, 1) := by decide +kernel
theorem dX11_stands_25 : decode cX11_stands 25 = .ok (.iload_n 1, 1) := by decide +kernel
theorem dX11_stands_26 : decode cX11_stands 26 = .ok (.iload_n 2, 1) := by decide +kernel
theorem dX11_stands_27 : decode cX11_stands 27 = .ok (.invokevirtual 275, 3) := by decide +kernel
theorem dX11_stands_30 : decode cX11_stands 30 = .ok (.bipush 10, 2) := by decide +kernel
theorem dX11_stands_32 : decode cX11_stands 32 = .ok (.aload_n 0, 1) := by decide +kernel
theorem dX11_stands_33 : decode cX11_stands 33 = .ok (.getfield 33, 3) := by decide +kernel
theorem dX11_stands_36 : decode cX11_stands 36 = .ok (.bipush 32, 2) := by decide +kernel
theorem dX11_stands_38 : decode cX11_stands 38 = .ok (.iaload, 1) := by decide +kernel
theorem dX11_stands_39 : decode cX11_stands 39 = .ok (.imul, 1) := by decide +kernel
theorem dX11_stands_40 : decode cX11_stands 40 = .ok (.aload_n 0, 1) := by decide +kernel
theorem dX11_stands_41 : decode cX11_stands 41 = .ok (.getfield 33, 3) := by decide +kernel
theorem dX11_stands_44 : decode cX11_stands 44 = .ok (.bipush 33, 2) := by decide +kernel
theorem dX11_stands_46 : decode cX11_stands 46 = .ok (.iaload, 1) := by decide +kernel
theorem dX11_stands_47 : decode cX11_stands 47 = .ok (.iadd, 1) := by decide +kernel
theorem dX11_stands_48 : decode cX11_stands 48 = .ok (.ireturn, 1) := by decide +kernel
theorem dX11_tries_0 : decode cX11_tries 0 = .ok (.aload_n 0, 1) := by decide +kernel
theorem dX11_tries_1 : decode cX11_tries 1 = .ok (.iconst 0, 1) := by decide +kernel
theorem dX11_tries_2 : decode cX11_tries 2 = .ok (.putfield 1, 3) := by decide +kernel
theorem dX11_tries_5 : decode cX11_tries 5 = .ok (.iload_n 3, 1) := by decide +kernel
theorem dX11_tries_6 : decode cX11_tries 6 = .ok (.i2l, 1) := by decide +kernel
theorem dX11_tries_7 : decode cX11_tries 7 = .ok (.lconst 1, 1) := by decide +kernel
theorem dX11_tries_8 : decode cX11_tries 8 = .ok (.ldc2_w 172, 3) := by decide +kernel
theorem dX11_tries_11 : decode cX11_tries 11 = .ok (.invokestatic 152, 3) := by decide +kernel
theorem dX11_tries_14 : decode cX11_tries 14 = .ok (.ifCond .ne 10, 3) := by decide +kernel
theorem dX11_tries_17 : decode cX11_tries 17 = .ok (.aload_n 0, 1) := by decide +kernel
theorem dX11_tries_18 : decode cX11_tries 18 = .ok (.bipush (-2), 2) := by decide +kernel
theorem dX11_tries_20 : decode cX11_tries 20 = .ok (.invokevirtual 89, 3) := by decide +kernel
theorem dX11_tries_23 : decode cX11_tries 23 = .ok (.ireturn, 1) := by decide +kernel
theorem dX11_tries_24 : decode cX11_tries 24 = .ok (.iload_n 2, 1) := by decide +kernel
theorem dX11_tries_25 : decode cX11_tries 25 = .ok (.i2l, 1) := by decide +kernel
theorem dX11_tries_26 : decode cX11_tries 26 = .ok (.lconst 1, 1) := by decide +kernel
theorem dX11_tries_27 : decode cX11_tries 27 = .ok (.ldc2_w 221, 3) := by decide +kernel
theorem dX11_tries_30 : decode cX11_tries 30 = .ok (.invokestatic 152, 3) := by decide +kernel
theorem dX11_tries_33 : decode cX11_tries 33 = .ok (.ifCond .ne 10, 3) := by decide +kernel
theorem dX11_tries_36 : decode cX11_tries 36 = .ok (.aload_n 0, 1) := by decide +kernel
theorem dX11_tries_37 : decode cX11_tries 37 = .ok (.bipush (-3), 2) := by decide +kernel
theorem dX11_tries_39 : decode cX11_tries 39 = .ok (.invokevirtual 89, 3) := by decide +kernel
theorem dX11_tries_42 : decode cX11_tries 42 = .ok (.ireturn, 1) := by decide +kernel
theorem dX11_tries_43 : decode cX11_tries 43 = .ok (.iconst 0, 1) := by decide +kernel
theorem dX11_tries_44 : decode cX11_tries 44 = .ok (.istore 4, 2) := by decide +kernel
theorem dX11_tries_46 : decode cX11_tries 46 = .ok (.iconst 0, 1) := by decide +kernel
theorem dX11_tries_47 : decode cX11_tries 47 = .ok (.istore 5, 2) := by decide +kernel
theorem dX11_tries_49 : decode cX11_tries 49 = .ok (.iload 5, 2) := by decide +kernel
theorem dX11_tries_51 : decode cX11_tries 51 = .ok (.iload_n 2, 1) := by decide +kernel
theorem dX11_tries_52 : decode cX11_tries 52 = .ok (.if_icmp .ge 70, 3) := by decide +kernel
theorem dX11_tries_55 : decode cX11_tries 55 = .ok (.aload_n 0, 1) := by decide +kernel
theorem dX11_tries_56 : decode cX11_tries 56 = .ok (.iload_n 1, 1) := by decide +kernel
theorem dX11_tries_57 : decode cX11_tries 57 = .ok (.iload 5, 2) := by decide +kernel
theorem dX11_tries_59 : decode cX11_tries 59 = .ok (.iadd, 1) := by decide +kernel
theorem dX11_tries_60 : decode cX11_tries 60 = .ok (.bipush 99, 2) := by decide +kernel
theorem dX11_tries_62 : decode cX11_tries 62 = .ok (.invokevirtual 275, 3) := by decide +kernel
theorem dX11_tries_65 : decode cX11_tries 65 = .ok (.iload 4, 2) := by decide +kernel
theorem dX11_tries_67 : decode cX11_tries 67 = .ok (.iload_n 3, 1) := by decide +kernel
theorem dX11_tries_68 : decode cX11_tries 68 = .ok (.iconst 4, 1) := by decide +kernel
theorem dX11_tries_69 : decode cX11_tries 69 = .ok (.if_icmp .ne 13, 3) := by decide +kernel
theorem dX11_tries_72 : decode cX11_tries 72 = .ok (.aload_n 0, 1) := by decide +kernel
theorem dX11_tries_73 : decode cX11_tries 73 = .ok (.getfield 33, 3) := by decide +kernel
theorem dX11_tries_76 : decode cX11_tries 76 = .ok (.bipush 38, 2) := by decide +kernel
theorem dX11_tries_78 : decode cX11_tries 78 = .ok (.iaload, 1) := by decide +kernel
theorem dX11_tries_79 : decode cX11_tries 79 = .ok (.goto 34, 3) := by decide +kernel
theorem dX11_tries_82 : decode cX11_tries 82 = .ok (.iload_n 3, 1) := by decide +kernel
theorem dX11_tries_83 : decode cX11_tries 83 = .ok (.iconst 5, 1) := by decide +kernel
theorem dX11_tries_84 : decode cX11_tries 84 = .ok (.if_icmp .ne 13, 3) := by decide +kernel
theorem dX11_tries_87 : decode cX11_tries 87 = .ok (.aload_n 0, 1) := by decide +kernel
theorem dX11_tries_88 : decode cX11_tries 88 = .ok (.getfield 33, 3) := by decide +kernel
theorem dX11_tries_91 : decode cX11_tries 91 = .ok (.bipush 36, 2) := by decide +kernel
theorem dX11_tries_93 : decode cX11_tries 93 = .ok (.iaload, 1) := by decide +kernel
theorem dX11_tries_94 : decode cX11_tries 94 = .ok (.goto 19, 3) := by decide +kernel
theorem dX11_tries_97 : decode cX11_tries 97 = .ok (.aload_n 0, 1) := by decide +kernel
theorem dX11_tries_98 : decode cX11_tries 98 = .ok (.getfield 33, 3) := by decide +kernel
theorem dX11_tries_101 : decode cX11_tries 101 = .ok (.bipush 37, 2) := by decide +kernel
theorem dX11_tries_103 : decode cX11_tries 103 = .ok (.iaload, 1) := by decide +kernel
theorem dX11_tries_104 : decode cX11_tries 104 = .ok (.iload_n 3, 1) := by decide +kernel
theorem dX11_tries_105 : decode cX11_tries 105 = .ok (.if_icmp .ne 7, 3) := by decide +kernel
theorem dX11_tries_108 : decode cX11_tries 108 = .ok (.iconst 1, 1) := by decide +kernel
theorem dX11_tries_109 : decode cX11_tries 109 = .ok (.goto 4, 3) := by decide +kernel
theorem dX11_tries_112 : decode cX11_tries 112 = .ok (.iconst 0, 1) := by decide +kernel
theorem dX11_tries_113 : decode cX11_tries 113 = .ok (.iadd, 1) := by decide +kernel
theorem dX11_tries_114 : decode cX11_tries 114 = .ok (.istore 4, 2) := by decide +kernel
theorem dX11_tries_116 : decode cX11_tries 116 = .ok (.iinc 5 1, 3) := by decide +kernel
theorem dX11_tries_119 : decode cX11_tries 119 = .ok (.goto (-70), 3) := by decide +kernel
theorem dX11_tries_122 : decode cX11_tries 122 = .ok (.iload 4, 2) := by decide +kernel
theorem dX11_tries_124 : decode cX11_tries 124 = .ok (.ireturn, 1) := by decide +kernel
theorem dX11_allParts_0 : decode cX11_allParts 0 = .ok (.lconst 1, 1) := by decide +kernel
theorem dX11_allParts_1 : decode cX11_allParts 1 = .ok (.lstore_n 1, 1) := by decide +kernel
theorem dX11_allParts_2 : decode cX11_allParts 2 = .ok (.iconst 0, 1) := by decide +kernel
theorem dX11_allParts_3 : decode cX11_allParts 3 = .ok (.istore_n 3, 1) := by decide +kernel
theorem dX11_allParts_4 : decode cX11_allParts 4 = .ok (.iload_n 3, 1) := by decide +kernel
theorem dX11_allParts_5 : decode cX11_allParts 5 = .ok (.aload_n 0, 1) := by decide +kernel
theorem dX11_allParts_6 : decode cX11_allParts 6 = .ok (.getfield 17, 3) := by decide +kernel
theorem dX11_allParts_9 : decode cX11_allParts 9 = .ok (.iconst 1, 1) := by decide +kernel
theorem dX11_allParts_10 : decode cX11_allParts 10 = .ok (.iaload, 1) := by decide +kernel
theorem dX11_allParts_11 : decode cX11_allParts 11 = .ok (.if_icmp .ge 15, 3) := by decide +kernel
theorem dX11_allParts_14 : decode cX11_allParts 14 = .ok (.lload_n 1, 1) := by decide +kernel
theorem dX11_allParts_15 : decode cX11_allParts 15 = .ok (.ldc2_w 286, 3) := by decide +kernel
theorem dX11_allParts_18 : decode cX11_allParts 18 = .ok (.lmul, 1) := by decide +kernel
theorem dX11_allParts_19 : decode cX11_allParts 19 = .ok (.lstore_n 1, 1) := by decide +kernel
theorem dX11_allParts_20 : decode cX11_allParts 20 = .ok (.iinc 3 1, 3) := by decide +kernel
theorem dX11_allParts_23 : decode cX11_allParts 23 = .ok (.goto (-19), 3) := by decide +kernel
theorem dX11_allParts_26 : decode cX11_allParts 26 = .ok (.lload_n 1, 1) := by decide +kernel
theorem dX11_allParts_27 : decode cX11_allParts 27 = .ok (.lreturn, 1) := by decide +kernel
theorem dX11_branches_0 : decode cX11_branches 0 = .ok (.iconst (-1), 1) := by decide +kernel
theorem dX11_branches_1 : decode cX11_branches 1 = .ok (.istore 4, 2) := by decide +kernel
theorem dX11_branches_3 : decode cX11_branches 3 = .ok (.aload_n 0, 1) := by decide +kernel
theorem dX11_branches_4 : decode cX11_branches 4 = .ok (.getfield 33, 3) := by decide +kernel
theorem dX11_branches_7 : decode cX11_branches 7 = .ok (.bipush 37, 2) := by decide +kernel
theorem dX11_branches_9 : decode cX11_branches 9 = .ok (.iaload, 1) := by decide +kernel
theorem dX11_branches_10 : decode cX11_branches 10 = .ok (.ifCond .ne 29, 3) := by decide +kernel
theorem dX11_branches_13 : decode cX11_branches 13 = .ok (.iload 4, 2) := by decide +kernel
theorem dX11_branches_15 : decode cX11_branches 15 = .ok (.iconst (-1), 1) := by decide +kernel
theorem dX11_branches_16 : decode cX11_branches 16 = .ok (.if_icmp .ne 23, 3) := by decide +kernel
theorem dX11_branches_19 : decode cX11_branches 19 = .ok (.aload_n 0, 1) := by decide +kernel
theorem dX11_branches_20 : decode cX11_branches 20 = .ok (.iconst 0, 1) := by decide +kernel
theorem dX11_branches_21 : decode cX11_branches 21 = .ok (.invokevirtual 268, 3) := by decide +kernel
theorem dX11_branches_24 : decode cX11_branches 24 = .ok (.istore 4, 2) := by decide +kernel
theorem dX11_branches_26 : decode cX11_branches 26 = .ok (.iload 4, 2) := by decide +kernel
theorem dX11_branches_28 : decode cX11_branches 28 = .ok (.iconst (-1), 1) := by decide +kernel
theorem dX11_branches_29 : decode cX11_branches 29 = .ok (.if_icmp .ne (-26), 3) := by decide +kernel
theorem dX11_branches_32 : decode cX11_branches 32 = .ok (.aload_n 0, 1) := by decide +kernel
theorem dX11_branches_33 : decode cX11_branches 33 = .ok (.invokevirtual 272, 3) := by decide +kernel
theorem dX11_branches_36 : decode cX11_branches 36 = .ok (.goto (-33), 3) := by decide +kernel
theorem dX11_branches_39 : decode cX11_branches 39 = .ok (.aload_n 0, 1) := by decide +kernel
theorem dX11_branches_40 : decode cX11_branches 40 = .ok (.getfield 33, 3) := by decide +kernel
theorem dX11_branches_43 : decode cX11_branches 43 = .ok (.bipush 37, 2) := by decide +kernel
theorem dX11_branches_45 : decode cX11_branches 45 = .ok (.iaload, 1) := by decide +kernel
theorem dX11_branches_46 : decode cX11_branches 46 = .ok (.ifCond .eq 136, 3) := by decide +kernel
theorem dX11_branches_49 : decode cX11_branches 49 = .ok (.aload_n 0, 1) := by decide +kernel
theorem dX11_branches_50 : decode cX11_branches 50 = .ok (.getfield 54, 3) := by decide +kernel
theorem dX11_branches_53 : decode cX11_branches 53 = .ok (.aload_n 0, 1) := by decide +kernel
theorem dX11_branches_54 : decode cX11_branches 54 = .ok (.getfield 33, 3) := by decide +kernel
theorem dX11_branches_57 : decode cX11_branches 57 = .ok (.bipush 37, 2) := by decide +kernel
theorem dX11_branches_59 : decode cX11_branches 59 = .ok (.iaload, 1) := by decide +kernel
theorem dX11_branches_60 : decode cX11_branches 60 = .ok (.iconst 1, 1) := by decide +kernel
theorem dX11_branches_61 : decode cX11_branches 61 = .ok (.isub, 1) := by decide +kernel
theorem dX11_branches_62 : decode cX11_branches 62 = .ok (.dup2, 1) := by decide +kernel
theorem dX11_branches_63 : decode cX11_branches 63 = .ok (.laload, 1) := by decide +kernel
theorem dX11_branches_64 : decode cX11_branches 64 = .ok (.lload_n 2, 1) := by decide +kernel
theorem dX11_branches_65 : decode cX11_branches 65 = .ok (.ladd, 1) := by decide +kernel
theorem dX11_branches_66 : decode cX11_branches 66 = .ok (.lastore, 1) := by decide +kernel
theorem dX11_branches_67 : decode cX11_branches 67 = .ok (.aload_n 0, 1) := by decide +kernel
theorem dX11_branches_68 : decode cX11_branches 68 = .ok (.getfield 54, 3) := by decide +kernel
theorem dX11_branches_71 : decode cX11_branches 71 = .ok (.iconst 3, 1) := by decide +kernel
theorem dX11_branches_72 : decode cX11_branches 72 = .ok (.dup2, 1) := by decide +kernel
theorem dX11_branches_73 : decode cX11_branches 73 = .ok (.laload, 1) := by decide +kernel
theorem dX11_branches_74 : decode cX11_branches 74 = .ok (.lload_n 2, 1) := by decide +kernel
theorem dX11_branches_75 : decode cX11_branches 75 = .ok (.aload_n 0, 1) := by decide +kernel
theorem dX11_branches_76 : decode cX11_branches 76 = .ok (.getfield 33, 3) := by decide +kernel
theorem dX11_branches_79 : decode cX11_branches 79 = .ok (.bipush 36, 2) := by decide +kernel
theorem dX11_branches_81 : decode cX11_branches 81 = .ok (.iaload, 1) := by decide +kernel
theorem dX11_branches_82 : decode cX11_branches 82 = .ok (.i2l, 1) := by decide +kernel
theorem dX11_branches_83 : decode cX11_branches 83 = .ok (.lmul, 1) := by decide +kernel
theorem dX11_branches_84 : decode cX11_branches 84 = .ok (.ladd, 1) := by decide +kernel
theorem dX11_branches_85 : decode cX11_branches 85 = .ok (.lastore, 1) := by decide +kernel
theorem dX11_branches_86 : decode cX11_branches 86 = .ok (.aload_n 0, 1) := by decide +kernel
theorem dX11_branches_87 : decode cX11_branches 87 = .ok (.getfield 54, 3) := by decide +kernel
theorem dX11_branches_90 : decode cX11_branches 90 = .ok (.iconst 4, 1) := by decide +kernel
theorem dX11_branches_91 : decode cX11_branches 91 = .ok (.dup2, 1) := by decide +kernel
theorem dX11_branches_92 : decode cX11_branches 92 = .ok (.laload, 1) := by decide +kernel
theorem dX11_branches_93 : decode cX11_branches 93 = .ok (.lload_n 2, 1) := by decide +kernel
theorem dX11_branches_94 : decode cX11_branches 94 = .ok (.aload_n 0, 1) := by decide +kernel
theorem dX11_branches_95 : decode cX11_branches 95 = .ok (.getfield 33, 3) := by decide +kernel
theorem dX11_branches_98 : decode cX11_branches 98 = .ok (.bipush 38, 2) := by decide +kernel
theorem dX11_branches_100 : decode cX11_branches 100 = .ok (.iaload, 1) := by decide +kernel
theorem dX11_branches_101 : decode cX11_branches 101 = .ok (.i2l, 1) := by decide +kernel
theorem dX11_branches_102 : decode cX11_branches 102 = .ok (.lmul, 1) := by decide +kernel
theorem dX11_branches_103 : decode cX11_branches 103 = .ok (.ladd, 1) := by decide +kernel
theorem dX11_branches_104 : decode cX11_branches 104 = .ok (.lastore, 1) := by decide +kernel
theorem dX11_branches_105 : decode cX11_branches 105 = .ok (.aload_n 0, 1) := by decide +kernel
theorem dX11_branches_106 : decode cX11_branches 106 = .ok (.getfield 33, 3) := by decide +kernel
theorem dX11_branches_109 : decode cX11_branches 109 = .ok (.bipush 39, 2) := by decide +kernel
theorem dX11_branches_111 : decode cX11_branches 111 = .ok (.iaload, 1) := by decide +kernel
theorem dX11_branches_112 : decode cX11_branches 112 = .ok (.iconst (-1), 1) := by decide +kernel
theorem dX11_branches_113 : decode cX11_branches 113 = .ok (.if_icmp .eq 19, 3) := by decide +kernel
theorem dX11_branches_116 : decode cX11_branches 116 = .ok (.aload_n 0, 1) := by decide +kernel
theorem dX11_branches_117 : decode cX11_branches 117 = .ok (.getfield 58, 3) := by decide +kernel
theorem dX11_branches_120 : decode cX11_branches 120 = .ok (.aload_n 0, 1) := by decide +kernel
theorem dX11_branches_121 : decode cX11_branches 121 = .ok (.getfield 33, 3) := by decide +kernel
theorem dX11_branches_124 : decode cX11_branches 124 = .ok (.bipush 39, 2) := by decide +kernel
theorem dX11_branches_126 : decode cX11_branches 126 = .ok (.iaload, 1) := by decide +kernel
theorem dX11_branches_127 : decode cX11_branches 127 = .ok (.dup2, 1) := by decide +kernel
theorem dX11_branches_128 : decode cX11_branches 128 = .ok (.laload, 1) := by decide +kernel
theorem dX11_branches_129 : decode cX11_branches 129 = .ok (.lload_n 2, 1) := by decide +kernel
theorem dX11_branches_130 : decode cX11_branches 130 = .ok (.ladd, 1) := by decide +kernel
theorem dX11_branches_131 : decode cX11_branches 131 = .ok (.lastore, 1) := by decide +kernel
theorem dX11_branches_132 : decode cX11_branches 132 = .ok (.iconst 0, 1) := by decide +kernel
theorem dX11_branches_133 : decode cX11_branches 133 = .ok (.istore 5, 2) := by decide +kernel
theorem dX11_branches_135 : decode cX11_branches 135 = .ok (.iload 5, 2) := by decide +kernel
theorem dX11_branches_137 : decode cX11_branches 137 = .ok (.aload_n 0, 1) := by decide +kernel
theorem dX11_branches_138 : decode cX11_branches 138 = .ok (.getfield 17, 3) := by decide +kernel
theorem dX11_branches_141 : decode cX11_branches 141 = .ok (.iconst 1, 1) := by decide +kernel
theorem dX11_branches_142 : decode cX11_branches 142 = .ok (.iaload, 1) := by decide +kernel
theorem dX11_branches_143 : decode cX11_branches 143 = .ok (.if_icmp .ge 38, 3) := by decide +kernel
theorem dX11_branches_146 : decode cX11_branches 146 = .ok (.aload_n 0, 1) := by decide +kernel
theorem dX11_branches_147 : decode cX11_branches 147 = .ok (.getfield 61, 3) := by decide +kernel
theorem dX11_branches_150 : decode cX11_branches 150 = .ok (.iload 5, 2) := by decide +kernel
theorem dX11_branches_152 : decode cX11_branches 152 = .ok (.dup2, 1) := by decide +kernel
theorem dX11_branches_153 : decode cX11_branches 153 = .ok (.laload, 1) := by decide +kernel
theorem dX11_branches_154 : decode cX11_branches 154 = .ok (.aload_n 0, 1) := by decide +kernel
theorem dX11_branches_155 : decode cX11_branches 155 = .ok (.getfield 33, 3) := by decide +kernel
theorem dX11_branches_158 : decode cX11_branches 158 = .ok (.bipush 16, 2) := by decide +kernel
theorem dX11_branches_160 : decode cX11_branches 160 = .ok (.iload 5, 2) := by decide +kernel
theorem dX11_branches_162 : decode cX11_branches 162 = .ok (.iadd, 1) := by decide +kernel
theorem dX11_branches_163 : decode cX11_branches 163 = .ok (.iaload, 1) := by decide +kernel
theorem dX11_branches_164 : decode cX11_branches 164 = .ok (.iconst 2, 1) := by decide +kernel
theorem dX11_branches_165 : decode cX11_branches 165 = .ok (.if_icmp .ne 7, 3) := by decide +kernel
theorem dX11_branches_168 : decode cX11_branches 168 = .ok (.lload_n 2, 1) := by decide +kernel
theorem dX11_branches_169 : decode cX11_branches 169 = .ok (.goto 4, 3) := by decide +kernel
theorem dX11_branches_172 : decode cX11_branches 172 = .ok (.lconst 0, 1) := by decide +kernel
theorem dX11_branches_173 : decode cX11_branches 173 = .ok (.ladd, 1) := by decide +kernel
theorem dX11_branches_174 : decode cX11_branches 174 = .ok (.lastore, 1) := by decide +kernel
theorem dX11_branches_175 : decode cX11_branches 175 = .ok (.iinc 5 1, 3) := by decide +kernel
theorem dX11_branches_178 : decode cX11_branches 178 = .ok (.goto (-43), 3) := by decide +kernel
theorem dX11_branches_181 : decode cX11_branches 181 = .ok (.return_, 1) := by decide +kernel
theorem dX11_branches_182 : decode cX11_branches 182 = .ok (.aload_n 0, 1) := by decide +kernel
theorem dX11_branches_183 : decode cX11_branches 183 = .ok (.getfield 249, 3) := by decide +kernel
theorem dX11_branches_186 : decode cX11_branches 186 = .ok (.istore 5, 2) := by decide +kernel
theorem dX11_branches_188 : decode cX11_branches 188 = .ok (.iconst 0, 1) := by decide +kernel
theorem dX11_branches_189 : decode cX11_branches 189 = .ok (.istore 6, 2) := by decide +kernel
theorem dX11_branches_191 : decode cX11_branches 191 = .ok (.iload 6, 2) := by decide +kernel
theorem dX11_branches_193 : decode cX11_branches 193 = .ok (.bipush 42, 2) := by decide +kernel
theorem dX11_branches_195 : decode cX11_branches 195 = .ok (.if_icmp .ge 28, 3) := by decide +kernel
theorem dX11_branches_198 : decode cX11_branches 198 = .ok (.aload_n 0, 1) := by decide +kernel
theorem dX11_branches_199 : decode cX11_branches 199 = .ok (.getfield 36, 3) := by decide +kernel
theorem dX11_branches_202 : decode cX11_branches 202 = .ok (.bipush 42, 2) := by decide +kernel
theorem dX11_branches_204 : decode cX11_branches 204 = .ok (.iload_n 1, 1) := by decide +kernel
theorem dX11_branches_205 : decode cX11_branches 205 = .ok (.imul, 1) := by decide +kernel
theorem dX11_branches_206 : decode cX11_branches 206 = .ok (.iload 6, 2) := by decide +kernel
theorem dX11_branches_208 : decode cX11_branches 208 = .ok (.iadd, 1) := by decide +kernel
theorem dX11_branches_209 : decode cX11_branches 209 = .ok (.aload_n 0, 1) := by decide +kernel
theorem dX11_branches_210 : decode cX11_branches 210 = .ok (.getfield 33, 3) := by decide +kernel
theorem dX11_branches_213 : decode cX11_branches 213 = .ok (.iload 6, 2) := by decide +kernel
theorem dX11_branches_215 : decode cX11_branches 215 = .ok (.iaload, 1) := by decide +kernel
theorem dX11_branches_216 : decode cX11_branches 216 = .ok (.iastore, 1) := by decide +kernel
theorem dX11_branches_217 : decode cX11_branches 217 = .ok (.iinc 6 1, 3) := by decide +kernel
theorem dX11_branches_220 : decode cX11_branches 220 = .ok (.goto (-29), 3) := by decide +kernel
theorem dX11_branches_223 : decode cX11_branches 223 = .ok (.aload_n 0, 1) := by decide +kernel
theorem dX11_branches_224 : decode cX11_branches 224 = .ok (.getfield 33, 3) := by decide +kernel
theorem dX11_branches_227 : decode cX11_branches 227 = .ok (.bipush 16, 2) := by decide +kernel
theorem dX11_branches_229 : decode cX11_branches 229 = .ok (.iload 4, 2) := by decide +kernel
theorem dX11_branches_231 : decode cX11_branches 231 = .ok (.iadd, 1) := by decide +kernel
theorem dX11_branches_232 : decode cX11_branches 232 = .ok (.iconst 2, 1) := by decide +kernel
theorem dX11_branches_233 : decode cX11_branches 233 = .ok (.iastore, 1) := by decide +kernel
theorem dX11_branches_234 : decode cX11_branches 234 = .ok (.aload_n 0, 1) := by decide +kernel
theorem dX11_branches_235 : decode cX11_branches 235 = .ok (.iload_n 1, 1) := by decide +kernel
theorem dX11_branches_236 : decode cX11_branches 236 = .ok (.iconst 1, 1) := by decide +kernel
theorem dX11_branches_237 : decode cX11_branches 237 = .ok (.iadd, 1) := by decide +kernel
theorem dX11_branches_238 : decode cX11_branches 238 = .ok (.lload_n 2, 1) := by decide +kernel
theorem dX11_branches_239 : decode cX11_branches 239 = .ok (.ldc2_w 286, 3) := by decide +kernel
theorem dX11_branches_242 : decode cX11_branches 242 = .ok (.ldiv, 1) := by decide +kernel
theorem dX11_branches_243 : decode cX11_branches 243 = .ok (.iload 5, 2) := by decide +kernel
theorem dX11_branches_245 : decode cX11_branches 245 = .ok (.i2l, 1) := by decide +kernel
theorem dX11_branches_246 : decode cX11_branches 246 = .ok (.lmul, 1) := by decide +kernel
theorem dX11_branches_247 : decode cX11_branches 247 = .ok (.invokevirtual 288, 3) := by decide +kernel
theorem dX11_branches_250 : decode cX11_branches 250 = .ok (.iconst 0, 1) := by decide +kernel
theorem dX11_branches_251 : decode cX11_branches 251 = .ok (.istore 6, 2) := by decide +kernel
theorem dX11_branches_253 : decode cX11_branches 253 = .ok (.iload 6, 2) := by decide +kernel
theorem dX11_branches_255 : decode cX11_branches 255 = .ok (.bipush 42, 2) := by decide +kernel
theorem dX11_branches_257 : decode cX11_branches 257 = .ok (.if_icmp .ge 28, 3) := by decide +kernel
theorem dX11_branches_260 : decode cX11_branches 260 = .ok (.aload_n 0, 1) := by decide +kernel
theorem dX11_branches_261 : decode cX11_branches 261 = .ok (.getfield 33, 3) := by decide +kernel
theorem dX11_branches_264 : decode cX11_branches 264 = .ok (.iload 6, 2) := by decide +kernel
theorem dX11_branches_266 : decode cX11_branches 266 = .ok (.aload_n 0, 1) := by decide +kernel
theorem dX11_branches_267 : decode cX11_branches 267 = .ok (.getfield 36, 3) := by decide +kernel
theorem dX11_branches_270 : decode cX11_branches 270 = .ok (.bipush 42, 2) := by decide +kernel
theorem dX11_branches_272 : decode cX11_branches 272 = .ok (.iload_n 1, 1) := by decide +kernel
theorem dX11_branches_273 : decode cX11_branches 273 = .ok (.imul, 1) := by decide +kernel
theorem dX11_branches_274 : decode cX11_branches 274 = .ok (.iload 6, 2) := by decide +kernel
theorem dX11_branches_276 : decode cX11_branches 276 = .ok (.iadd, 1) := by decide +kernel
theorem dX11_branches_277 : decode cX11_branches 277 = .ok (.iaload, 1) := by decide +kernel
theorem dX11_branches_278 : decode cX11_branches 278 = .ok (.iastore, 1) := by decide +kernel
theorem dX11_branches_279 : decode cX11_branches 279 = .ok (.iinc 6 1, 3) := by decide +kernel
theorem dX11_branches_282 : decode cX11_branches 282 = .ok (.goto (-29), 3) := by decide +kernel
theorem dX11_branches_285 : decode cX11_branches 285 = .ok (.aload_n 0, 1) := by decide +kernel
theorem dX11_branches_286 : decode cX11_branches 286 = .ok (.getfield 33, 3) := by decide +kernel
theorem dX11_branches_289 : decode cX11_branches 289 = .ok (.bipush 16, 2) := by decide +kernel
theorem dX11_branches_291 : decode cX11_branches 291 = .ok (.iload 4, 2) := by decide +kernel
theorem dX11_branches_293 : decode cX11_branches 293 = .ok (.iadd, 1) := by decide +kernel
theorem dX11_branches_294 : decode cX11_branches 294 = .ok (.iconst 1, 1) := by decide +kernel
theorem dX11_branches_295 : decode cX11_branches 295 = .ok (.iastore, 1) := by decide +kernel
theorem dX11_branches_296 : decode cX11_branches 296 = .ok (.aload_n 0, 1) := by decide +kernel
theorem dX11_branches_297 : decode cX11_branches 297 = .ok (.iload_n 1, 1) := by decide +kernel
theorem dX11_branches_298 : decode cX11_branches 298 = .ok (.iconst 1, 1) := by decide +kernel
theorem dX11_branches_299 : decode cX11_branches 299 = .ok (.iadd, 1) := by decide +kernel
theorem dX11_branches_300 : decode cX11_branches 300 = .ok (.lload_n 2, 1) := by decide +kernel
theorem dX11_branches_301 : decode cX11_branches 301 = .ok (.ldc2_w 286, 3) := by decide +kernel
theorem dX11_branches_304 : decode cX11_branches 304 = .ok (.ldiv, 1) := by decide +kernel
theorem dX11_branches_305 : decode cX11_branches 305 = .ok (.bipush 100, 2) := by decide +kernel
theorem dX11_branches_307 : decode cX11_branches 307 = .ok (.iload 5, 2) := by decide +kernel
theorem dX11_branches_309 : decode cX11_branches 309 = .ok (.isub, 1) := by decide +kernel
theorem dX11_branches_310 : decode cX11_branches 310 = .ok (.i2l, 1) := by decide +kernel
theorem dX11_branches_311 : decode cX11_branches 311 = .ok (.lmul, 1) := by decide +kernel
theorem dX11_branches_312 : decode cX11_branches 312 = .ok (.invokevirtual 288, 3) := by decide +kernel
theorem dX11_branches_315 : decode cX11_branches 315 = .ok (.return_, 1) := by decide +kernel
theorem dX11_worksOdds_0 : decode cX11_worksOdds 0 = .ok (.iconst 0, 1) := by decide +kernel
theorem dX11_worksOdds_1 : decode cX11_worksOdds 1 = .ok (.istore_n 1, 1) := by decide +kernel
theorem dX11_worksOdds_2 : decode cX11_worksOdds 2 = .ok (.iload_n 1, 1) := by decide +kernel
theorem dX11_worksOdds_3 : decode cX11_worksOdds 3 = .ok (.iconst 5, 1) := by decide +kernel
theorem dX11_worksOdds_4 : decode cX11_worksOdds 4 = .ok (.if_icmp .ge 16, 3) := by decide +kernel
theorem dX11_worksOdds_7 : decode cX11_worksOdds 7 = .ok (.aload_n 0, 1) := by decide +kernel
theorem dX11_worksOdds_8 : decode cX11_worksOdds 8 = .ok (.getfield 54, 3) := by decide +kernel
theorem dX11_worksOdds_11 : decode cX11_worksOdds 11 = .ok (.iload_n 1, 1) := by decide +kernel
theorem dX11_worksOdds_12 : decode cX11_worksOdds 12 = .ok (.lconst 0, 1) := by decide +kernel
theorem dX11_worksOdds_13 : decode cX11_worksOdds 13 = .ok (.lastore, 1) := by decide +kernel
theorem dX11_worksOdds_14 : decode cX11_worksOdds 14 = .ok (.iinc 1 1, 3) := by decide +kernel
theorem dX11_worksOdds_17 : decode cX11_worksOdds 17 = .ok (.goto (-15), 3) := by decide +kernel
theorem dX11_worksOdds_20 : decode cX11_worksOdds 20 = .ok (.iconst 0, 1) := by decide +kernel
theorem dX11_worksOdds_21 : decode cX11_worksOdds 21 = .ok (.istore_n 1, 1) := by decide +kernel
theorem dX11_worksOdds_22 : decode cX11_worksOdds 22 = .ok (.iload_n 1, 1) := by decide +kernel
theorem dX11_worksOdds_23 : decode cX11_worksOdds 23 = .ok (.bipush 8, 2) := by decide +kernel
theorem dX11_worksOdds_25 : decode cX11_worksOdds 25 = .ok (.if_icmp .ge 23, 3) := by decide +kernel
theorem dX11_worksOdds_28 : decode cX11_worksOdds 28 = .ok (.aload_n 0, 1) := by decide +kernel
theorem dX11_worksOdds_29 : decode cX11_worksOdds 29 = .ok (.getfield 58, 3) := by decide +kernel
theorem dX11_worksOdds_32 : decode cX11_worksOdds 32 = .ok (.iload_n 1, 1) := by decide +kernel
theorem dX11_worksOdds_33 : decode cX11_worksOdds 33 = .ok (.lconst 0, 1) := by decide +kernel
theorem dX11_worksOdds_34 : decode cX11_worksOdds 34 = .ok (.lastore, 1) := by decide +kernel
theorem dX11_worksOdds_35 : decode cX11_worksOdds 35 = .ok (.aload_n 0, 1) := by decide +kernel
theorem dX11_worksOdds_36 : decode cX11_worksOdds 36 = .ok (.getfield 61, 3) := by decide +kernel
theorem dX11_worksOdds_39 : decode cX11_worksOdds 39 = .ok (.iload_n 1, 1) := by decide +kernel
theorem dX11_worksOdds_40 : decode cX11_worksOdds 40 = .ok (.lconst 0, 1) := by decide +kernel
theorem dX11_worksOdds_41 : decode cX11_worksOdds 41 = .ok (.lastore, 1) := by decide +kernel
theorem dX11_worksOdds_42 : decode cX11_worksOdds 42 = .ok (.iinc 1 1, 3) := by decide +kernel
theorem dX11_worksOdds_45 : decode cX11_worksOdds 45 = .ok (.goto (-23), 3) := by decide +kernel
theorem dX11_worksOdds_48 : decode cX11_worksOdds 48 = .ok (.aload_n 0, 1) := by decide +kernel
theorem dX11_worksOdds_49 : decode cX11_worksOdds 49 = .ok (.iconst 0, 1) := by decide +kernel
theorem dX11_worksOdds_50 : decode cX11_worksOdds 50 = .ok (.invokevirtual 240, 3) := by decide +kernel
theorem dX11_worksOdds_53 : decode cX11_worksOdds 53 = .ok (.aload_n 0, 1) := by decide +kernel
theorem dX11_worksOdds_54 : decode cX11_worksOdds 54 = .ok (.iconst 0, 1) := by decide +kernel
theorem dX11_worksOdds_55 : decode cX11_worksOdds 55 = .ok (.aload_n 0, 1) := by decide +kernel
theorem dX11_worksOdds_56 : decode cX11_worksOdds 56 = .ok (.invokevirtual 292, 3) := by decide +kernel
theorem dX11_worksOdds_59 : decode cX11_worksOdds 59 = .ok (.invokevirtual 288, 3) := by decide +kernel
theorem dX11_worksOdds_62 : decode cX11_worksOdds 62 = .ok (.return_, 1) := by decide +kernel
theorem dX11_odds_0 : decode cX11_odds 0 = .ok (.aload_n 0, 1) := by decide +kernel
theorem dX11_odds_1 : decode cX11_odds 1 = .ok (.iconst 0, 1) := by decide +kernel
theorem dX11_odds_2 : decode cX11_odds 2 = .ok (.putfield 1, 3) := by decide +kernel
theorem dX11_odds_5 : decode cX11_odds 5 = .ok (.iload_n 1, 1) := by decide +kernel
theorem dX11_odds_6 : decode cX11_odds 6 = .ok (.i2l, 1) := by decide +kernel
theorem dX11_odds_7 : decode cX11_odds 7 = .ok (.lconst 0, 1) := by decide +kernel
theorem dX11_odds_8 : decode cX11_odds 8 = .ok (.ldc2_w 172, 3) := by decide +kernel
theorem dX11_odds_11 : decode cX11_odds 11 = .ok (.invokestatic 152, 3) := by decide +kernel
theorem dX11_odds_14 : decode cX11_odds 14 = .ok (.ifCond .ne 11, 3) := by decide +kernel
theorem dX11_odds_17 : decode cX11_odds 17 = .ok (.aload_n 0, 1) := by decide +kernel
theorem dX11_odds_18 : decode cX11_odds 18 = .ok (.bipush (-2), 2) := by decide +kernel
theorem dX11_odds_20 : decode cX11_odds 20 = .ok (.invokevirtual 89, 3) := by decide +kernel
theorem dX11_odds_23 : decode cX11_odds 23 = .ok (.i2l, 1) := by decide +kernel
theorem dX11_odds_24 : decode cX11_odds 24 = .ok (.lreturn, 1) := by decide +kernel
theorem dX11_odds_25 : decode cX11_odds 25 = .ok (.aload_n 0, 1) := by decide +kernel
theorem dX11_odds_26 : decode cX11_odds 26 = .ok (.invokevirtual 296, 3) := by decide +kernel
theorem dX11_odds_29 : decode cX11_odds 29 = .ok (.iload_n 1, 1) := by decide +kernel
theorem dX11_odds_30 : decode cX11_odds 30 = .ok (.iconst 5, 1) := by decide +kernel
theorem dX11_odds_31 : decode cX11_odds 31 = .ok (.if_icmp .ne 10, 3) := by decide +kernel
theorem dX11_odds_34 : decode cX11_odds 34 = .ok (.aload_n 0, 1) := by decide +kernel
theorem dX11_odds_35 : decode cX11_odds 35 = .ok (.invokevirtual 292, 3) := by decide +kernel
theorem dX11_odds_38 : decode cX11_odds 38 = .ok (.goto 9, 3) := by decide +kernel
theorem dX11_odds_41 : decode cX11_odds 41 = .ok (.aload_n 0, 1) := by decide +kernel
theorem dX11_odds_42 : decode cX11_odds 42 = .ok (.getfield 54, 3) := by decide +kernel
theorem dX11_odds_45 : decode cX11_odds 45 = .ok (.iload_n 1, 1) := by decide +kernel
theorem dX11_odds_46 : decode cX11_odds 46 = .ok (.laload, 1) := by decide +kernel
theorem dX11_odds_47 : decode cX11_odds 47 = .ok (.lreturn, 1) := by decide +kernel
theorem dX11_overIf_0 : decode cX11_overIf 0 = .ok (.aload_n 0, 1) := by decide +kernel
theorem dX11_overIf_1 : decode cX11_overIf 1 = .ok (.getfield 17, 3) := by decide +kernel
theorem dX11_overIf_4 : decode cX11_overIf 4 = .ok (.bipush 34, 2) := by decide +kernel
theorem dX11_overIf_6 : decode cX11_overIf 6 = .ok (.iaload, 1) := by decide +kernel
theorem dX11_overIf_7 : decode cX11_overIf 7 = .ok (.istore_n 2, 1) := by decide +kernel
theorem dX11_overIf_8 : decode cX11_overIf 8 = .ok (.aload_n 0, 1) := by decide +kernel
theorem dX11_overIf_9 : decode cX11_overIf 9 = .ok (.getfield 17, 3) := by decide +kernel
theorem dX11_overIf_12 : decode cX11_overIf 12 = .ok (.bipush 34, 2) := by decide +kernel
theorem dX11_overIf_14 : decode cX11_overIf 14 = .ok (.dup2, 1) := by decide +kernel
theorem dX11_overIf_15 : decode cX11_overIf 15 = .ok (.iaload, 1) := by decide +kernel
theorem dX11_overIf_16 : decode cX11_overIf 16 = .ok (.iload_n 1, 1) := by decide +kernel
theorem dX11_overIf_17 : decode cX11_overIf 17 = .ok (.ixor, 1) := by decide +kernel
theorem dX11_overIf_18 : decode cX11_overIf 18 = .ok (.iastore, 1) := by decide +kernel
theorem dX11_overIf_19 : decode cX11_overIf 19 = .ok (.aload_n 0, 1) := by decide +kernel
theorem dX11_overIf_20 : decode cX11_overIf 20 = .ok (.invokevirtual 296, 3) := by decide +kernel
theorem dX11_overIf_23 : decode cX11_overIf 23 = .ok (.aload_n 0, 1) := by decide +kernel
theorem dX11_overIf_24 : decode cX11_overIf 24 = .ok (.getfield 17, 3) := by decide +kernel
theorem dX11_overIf_27 : decode cX11_overIf 27 = .ok (.bipush 34, 2) := by decide +kernel
theorem dX11_overIf_29 : decode cX11_overIf 29 = .ok (.iload_n 2, 1) := by decide +kernel
theorem dX11_overIf_30 : decode cX11_overIf 30 = .ok (.iastore, 1) := by decide +kernel
theorem dX11_overIf_31 : decode cX11_overIf 31 = .ok (.aload_n 0, 1) := by decide +kernel
theorem dX11_overIf_32 : decode cX11_overIf 32 = .ok (.getfield 54, 3) := by decide +kernel
theorem dX11_overIf_35 : decode cX11_overIf 35 = .ok (.iconst 0, 1) := by decide +kernel
theorem dX11_overIf_36 : decode cX11_overIf 36 = .ok (.laload, 1) := by decide +kernel
theorem dX11_overIf_37 : decode cX11_overIf 37 = .ok (.lreturn, 1) := by decide +kernel
theorem dX11_helps_0 : decode cX11_helps 0 = .ok (.aload_n 0, 1) := by decide +kernel
theorem dX11_helps_1 : decode cX11_helps 1 = .ok (.iconst 0, 1) := by decide +kernel
theorem dX11_helps_2 : decode cX11_helps 2 = .ok (.putfield 1, 3) := by decide +kernel
theorem dX11_helps_5 : decode cX11_helps 5 = .ok (.iload_n 1, 1) := by decide +kernel
theorem dX11_helps_6 : decode cX11_helps 6 = .ok (.i2l, 1) := by decide +kernel
theorem dX11_helps_7 : decode cX11_helps 7 = .ok (.lconst 0, 1) := by decide +kernel
theorem dX11_helps_8 : decode cX11_helps 8 = .ok (.ldc2_w 215, 3) := by decide +kernel
theorem dX11_helps_11 : decode cX11_helps 11 = .ok (.invokestatic 152, 3) := by decide +kernel
theorem dX11_helps_14 : decode cX11_helps 14 = .ok (.ifCond .ne 11, 3) := by decide +kernel
theorem dX11_helps_17 : decode cX11_helps 17 = .ok (.aload_n 0, 1) := by decide +kernel
theorem dX11_helps_18 : decode cX11_helps 18 = .ok (.bipush (-2), 2) := by decide +kernel
theorem dX11_helps_20 : decode cX11_helps 20 = .ok (.invokevirtual 89, 3) := by decide +kernel
theorem dX11_helps_23 : decode cX11_helps 23 = .ok (.i2l, 1) := by decide +kernel
theorem dX11_helps_24 : decode cX11_helps 24 = .ok (.lreturn, 1) := by decide +kernel
theorem dX11_helps_25 : decode cX11_helps 25 = .ok (.aload_n 0, 1) := by decide +kernel
theorem dX11_helps_26 : decode cX11_helps 26 = .ok (.iconst 1, 1) := by decide +kernel
theorem dX11_helps_27 : decode cX11_helps 27 = .ok (.iload_n 1, 1) := by decide +kernel
theorem dX11_helps_28 : decode cX11_helps 28 = .ok (.ishl, 1) := by decide +kernel
theorem dX11_helps_29 : decode cX11_helps 29 = .ok (.invokevirtual 299, 3) := by decide +kernel
theorem dX11_helps_32 : decode cX11_helps 32 = .ok (.lstore_n 2, 1) := by decide +kernel
theorem dX11_helps_33 : decode cX11_helps 33 = .ok (.lload_n 2, 1) := by decide +kernel
theorem dX11_helps_34 : decode cX11_helps 34 = .ok (.aload_n 0, 1) := by decide +kernel
theorem dX11_helps_35 : decode cX11_helps 35 = .ok (.iconst 0, 1) := by decide +kernel
theorem dX11_helps_36 : decode cX11_helps 36 = .ok (.invokevirtual 299, 3) := by decide +kernel
theorem dX11_helps_39 : decode cX11_helps 39 = .ok (.lsub, 1) := by decide +kernel
theorem dX11_helps_40 : decode cX11_helps 40 = .ok (.lreturn, 1) := by decide +kernel
theorem dX11_bitsOf_0 : decode cX11_bitsOf 0 = .ok (.iconst 0, 1) := by decide +kernel
theorem dX11_bitsOf_1 : decode cX11_bitsOf 1 = .ok (.istore_n 1, 1) := by decide +kernel
theorem dX11_bitsOf_2 : decode cX11_bitsOf 2 = .ok (.iconst 0, 1) := by decide +kernel
theorem dX11_bitsOf_3 : decode cX11_bitsOf 3 = .ok (.istore_n 2, 1) := by decide +kernel
theorem dX11_bitsOf_4 : decode cX11_bitsOf 4 = .ok (.iload_n 2, 1) := by decide +kernel
theorem dX11_bitsOf_5 : decode cX11_bitsOf 5 = .ok (.bipush 8, 2) := by decide +kernel
theorem dX11_bitsOf_7 : decode cX11_bitsOf 7 = .ok (.if_icmp .ge 17, 3) := by decide +kernel
theorem dX11_bitsOf_10 : decode cX11_bitsOf 10 = .ok (.iload_n 1, 1) := by decide +kernel
theorem dX11_bitsOf_11 : decode cX11_bitsOf 11 = .ok (.iload_n 0, 1) := by decide +kernel
theorem dX11_bitsOf_12 : decode cX11_bitsOf 12 = .ok (.iload_n 2, 1) := by decide +kernel
theorem dX11_bitsOf_13 : decode cX11_bitsOf 13 = .ok (.ishr, 1) := by decide +kernel
theorem dX11_bitsOf_14 : decode cX11_bitsOf 14 = .ok (.iconst 1, 1) := by decide +kernel
theorem dX11_bitsOf_15 : decode cX11_bitsOf 15 = .ok (.iand, 1) := by decide +kernel
theorem dX11_bitsOf_16 : decode cX11_bitsOf 16 = .ok (.iadd, 1) := by decide +kernel
theorem dX11_bitsOf_17 : decode cX11_bitsOf 17 = .ok (.istore_n 1, 1) := by decide +kernel
theorem dX11_bitsOf_18 : decode cX11_bitsOf 18 = .ok (.iinc 2 1, 3) := by decide +kernel
theorem dX11_bitsOf_21 : decode cX11_bitsOf 21 = .ok (.goto (-17), 3) := by decide +kernel
theorem dX11_bitsOf_24 : decode cX11_bitsOf 24 = .ok (.iload_n 1, 1) := by decide +kernel
theorem dX11_bitsOf_25 : decode cX11_bitsOf 25 = .ok (.ireturn, 1) := by decide +kernel
theorem dX11_best_0 : decode cX11_best 0 = .ok (.aload_n 0, 1) := by decide +kernel
theorem dX11_best_1 : decode cX11_best 1 = .ok (.iconst 0, 1) := by decide +kernel
theorem dX11_best_2 : decode cX11_best 2 = .ok (.putfield 1, 3) := by decide +kernel
theorem dX11_best_5 : decode cX11_best 5 = .ok (.iload_n 1, 1) := by decide +kernel
theorem dX11_best_6 : decode cX11_best 6 = .ok (.i2l, 1) := by decide +kernel
theorem dX11_best_7 : decode cX11_best 7 = .ok (.lconst 0, 1) := by decide +kernel
theorem dX11_best_8 : decode cX11_best 8 = .ok (.ldc2_w 213, 3) := by decide +kernel
theorem dX11_best_11 : decode cX11_best 11 = .ok (.invokestatic 152, 3) := by decide +kernel
theorem dX11_best_14 : decode cX11_best 14 = .ok (.ifCond .ne 10, 3) := by decide +kernel
theorem dX11_best_17 : decode cX11_best 17 = .ok (.aload_n 0, 1) := by decide +kernel
theorem dX11_best_18 : decode cX11_best 18 = .ok (.bipush (-3), 2) := by decide +kernel
theorem dX11_best_20 : decode cX11_best 20 = .ok (.invokevirtual 89, 3) := by decide +kernel
theorem dX11_best_23 : decode cX11_best 23 = .ok (.ireturn, 1) := by decide +kernel
theorem dX11_best_24 : decode cX11_best 24 = .ok (.iconst (-1), 1) := by decide +kernel
theorem dX11_best_25 : decode cX11_best 25 = .ok (.istore_n 2, 1) := by decide +kernel
theorem dX11_best_26 : decode cX11_best 26 = .ok (.lconst 0, 1) := by decide +kernel
theorem dX11_best_27 : decode cX11_best 27 = .ok (.lstore_n 3, 1) := by decide +kernel
theorem dX11_best_28 : decode cX11_best 28 = .ok (.iconst 0, 1) := by decide +kernel
theorem dX11_best_29 : decode cX11_best 29 = .ok (.istore 5, 2) := by decide +kernel
theorem dX11_best_31 : decode cX11_best 31 = .ok (.iload 5, 2) := by decide +kernel
theorem dX11_best_33 : decode cX11_best 33 = .ok (.sipush 256, 3) := by decide +kernel
theorem dX11_best_36 : decode cX11_best 36 = .ok (.if_icmp .ge 50, 3) := by decide +kernel
theorem dX11_best_39 : decode cX11_best 39 = .ok (.iload 5, 2) := by decide +kernel
theorem dX11_best_41 : decode cX11_best 41 = .ok (.invokestatic 303, 3) := by decide +kernel
theorem dX11_best_44 : decode cX11_best 44 = .ok (.iload_n 1, 1) := by decide +kernel
theorem dX11_best_45 : decode cX11_best 45 = .ok (.if_icmp .eq 6, 3) := by decide +kernel
theorem dX11_best_48 : decode cX11_best 48 = .ok (.goto 32, 3) := by decide +kernel
theorem dX11_best_51 : decode cX11_best 51 = .ok (.aload_n 0, 1) := by decide +kernel
theorem dX11_best_52 : decode cX11_best 52 = .ok (.iload 5, 2) := by decide +kernel
theorem dX11_best_54 : decode cX11_best 54 = .ok (.invokevirtual 299, 3) := by decide +kernel
theorem dX11_best_57 : decode cX11_best 57 = .ok (.lstore 6, 2) := by decide +kernel
theorem dX11_best_59 : decode cX11_best 59 = .ok (.iload_n 2, 1) := by decide +kernel
theorem dX11_best_60 : decode cX11_best 60 = .ok (.iconst (-1), 1) := by decide +kernel
theorem dX11_best_61 : decode cX11_best 61 = .ok (.if_icmp .eq 13, 3) := by decide +kernel
theorem dX11_best_64 : decode cX11_best 64 = .ok (.lload 6, 2) := by decide +kernel
theorem dX11_best_66 : decode cX11_best 66 = .ok (.lload_n 3, 1) := by decide +kernel
theorem dX11_best_67 : decode cX11_best 67 = .ok (.lcmp, 1) := by decide +kernel
theorem dX11_best_68 : decode cX11_best 68 = .ok (.ifCond .gt 6, 3) := by decide +kernel
theorem dX11_best_71 : decode cX11_best 71 = .ok (.goto 9, 3) := by decide +kernel
theorem dX11_best_74 : decode cX11_best 74 = .ok (.iload 5, 2) := by decide +kernel
theorem dX11_best_76 : decode cX11_best 76 = .ok (.istore_n 2, 1) := by decide +kernel
theorem dX11_best_77 : decode cX11_best 77 = .ok (.lload 6, 2) := by decide +kernel
theorem dX11_best_79 : decode cX11_best 79 = .ok (.lstore_n 3, 1) := by decide +kernel
theorem dX11_best_80 : decode cX11_best 80 = .ok (.iinc 5 1, 3) := by decide +kernel
theorem dX11_best_83 : decode cX11_best 83 = .ok (.goto (-52), 3) := by decide +kernel
theorem dX11_best_86 : decode cX11_best 86 = .ok (.iload_n 2, 1) := by decide +kernel
theorem dX11_best_87 : decode cX11_best 87 = .ok (.ireturn, 1) := by decide +kernel
theorem dX11_back_0 : decode cX11_back 0 = .ok (.aload_n 0, 1) := by decide +kernel
theorem dX11_back_1 : decode cX11_back 1 = .ok (.iconst 0, 1) := by decide +kernel
theorem dX11_back_2 : decode cX11_back 2 = .ok (.putfield 1, 3) := by decide +kernel
theorem dX11_back_5 : decode cX11_back 5 = .ok (.iload_n 1, 1) := by decide +kernel
theorem dX11_back_6 : decode cX11_back 6 = .ok (.i2l, 1) := by decide +kernel
theorem dX11_back_7 : decode cX11_back 7 = .ok (.lconst 0, 1) := by decide +kernel
theorem dX11_back_8 : decode cX11_back 8 = .ok (.ldc2_w 306, 3) := by decide +kernel
theorem dX11_back_11 : decode cX11_back 11 = .ok (.invokestatic 152, 3) := by decide +kernel
theorem dX11_back_14 : decode cX11_back 14 = .ok (.ifCond .ne 10, 3) := by decide +kernel
theorem dX11_back_17 : decode cX11_back 17 = .ok (.aload_n 0, 1) := by decide +kernel
theorem dX11_back_18 : decode cX11_back 18 = .ok (.bipush (-3), 2) := by decide +kernel
theorem dX11_back_20 : decode cX11_back 20 = .ok (.invokevirtual 89, 3) := by decide +kernel
theorem dX11_back_23 : decode cX11_back 23 = .ok (.ireturn, 1) := by decide +kernel
theorem dX11_back_24 : decode cX11_back 24 = .ok (.aload_n 0, 1) := by decide +kernel
theorem dX11_back_25 : decode cX11_back 25 = .ok (.getfield 17, 3) := by decide +kernel
theorem dX11_back_28 : decode cX11_back 28 = .ok (.bipush 35, 2) := by decide +kernel
theorem dX11_back_30 : decode cX11_back 30 = .ok (.iaload, 1) := by decide +kernel
theorem dX11_back_31 : decode cX11_back 31 = .ok (.istore_n 2, 1) := by decide +kernel
theorem dX11_back_32 : decode cX11_back 32 = .ok (.iconst (-1), 1) := by decide +kernel
theorem dX11_back_33 : decode cX11_back 33 = .ok (.istore_n 3, 1) := by decide +kernel
theorem dX11_back_34 : decode cX11_back 34 = .ok (.iconst 0, 1) := by decide +kernel
theorem dX11_back_35 : decode cX11_back 35 = .ok (.istore 4, 2) := by decide +kernel
theorem dX11_back_37 : decode cX11_back 37 = .ok (.iload 4, 2) := by decide +kernel
theorem dX11_back_39 : decode cX11_back 39 = .ok (.bipush 30, 2) := by decide +kernel
theorem dX11_back_41 : decode cX11_back 41 = .ok (.if_icmp .gt 107, 3) := by decide +kernel
theorem dX11_back_44 : decode cX11_back 44 = .ok (.iload_n 3, 1) := by decide +kernel
theorem dX11_back_45 : decode cX11_back 45 = .ok (.iconst (-1), 1) := by decide +kernel
theorem dX11_back_46 : decode cX11_back 46 = .ok (.if_icmp .ne 102, 3) := by decide +kernel
theorem dX11_back_49 : decode cX11_back 49 = .ok (.aload_n 0, 1) := by decide +kernel
theorem dX11_back_50 : decode cX11_back 50 = .ok (.getfield 17, 3) := by decide +kernel
theorem dX11_back_53 : decode cX11_back 53 = .ok (.bipush 35, 2) := by decide +kernel
theorem dX11_back_55 : decode cX11_back 55 = .ok (.iload 4, 2) := by decide +kernel
theorem dX11_back_57 : decode cX11_back 57 = .ok (.iastore, 1) := by decide +kernel
theorem dX11_back_58 : decode cX11_back 58 = .ok (.aload_n 0, 1) := by decide +kernel
theorem dX11_back_59 : decode cX11_back 59 = .ok (.invokevirtual 296, 3) := by decide +kernel
theorem dX11_back_62 : decode cX11_back 62 = .ok (.aload_n 0, 1) := by decide +kernel
theorem dX11_back_63 : decode cX11_back 63 = .ok (.invokevirtual 292, 3) := by decide +kernel
theorem dX11_back_66 : decode cX11_back 66 = .ok (.lstore 5, 2) := by decide +kernel
theorem dX11_back_68 : decode cX11_back 68 = .ok (.lload 5, 2) := by decide +kernel
theorem dX11_back_70 : decode cX11_back 70 = .ok (.ldc2_w 306, 3) := by decide +kernel
theorem dX11_back_73 : decode cX11_back 73 = .ok (.lcmp, 1) := by decide +kernel
theorem dX11_back_74 : decode cX11_back 74 = .ok (.ifCond .ge 30, 3) := by decide +kernel
theorem dX11_back_77 : decode cX11_back 77 = .ok (.aload_n 0, 1) := by decide +kernel
theorem dX11_back_78 : decode cX11_back 78 = .ok (.getfield 54, 3) := by decide +kernel
theorem dX11_back_81 : decode cX11_back 81 = .ok (.iconst 1, 1) := by decide +kernel
theorem dX11_back_82 : decode cX11_back 82 = .ok (.laload, 1) := by decide +kernel
theorem dX11_back_83 : decode cX11_back 83 = .ok (.ldc2_w 306, 3) := by decide +kernel
theorem dX11_back_86 : decode cX11_back 86 = .ok (.lmul, 1) := by decide +kernel
theorem dX11_back_87 : decode cX11_back 87 = .ok (.iload_n 1, 1) := by decide +kernel
theorem dX11_back_88 : decode cX11_back 88 = .ok (.i2l, 1) := by decide +kernel
theorem dX11_back_89 : decode cX11_back 89 = .ok (.lload 5, 2) := by decide +kernel
theorem dX11_back_91 : decode cX11_back 91 = .ok (.lmul, 1) := by decide +kernel
theorem dX11_back_92 : decode cX11_back 92 = .ok (.lcmp, 1) := by decide +kernel
theorem dX11_back_93 : decode cX11_back 93 = .ok (.ifCond .gt 7, 3) := by decide +kernel
theorem dX11_back_96 : decode cX11_back 96 = .ok (.iconst 1, 1) := by decide +kernel
theorem dX11_back_97 : decode cX11_back 97 = .ok (.goto 31, 3) := by decide +kernel
theorem dX11_back_100 : decode cX11_back 100 = .ok (.iconst 0, 1) := by decide +kernel
theorem dX11_back_101 : decode cX11_back 101 = .ok (.goto 27, 3) := by decide +kernel
theorem dX11_back_104 : decode cX11_back 104 = .ok (.aload_n 0, 1) := by decide +kernel
theorem dX11_back_105 : decode cX11_back 105 = .ok (.getfield 54, 3) := by decide +kernel
theorem dX11_back_108 : decode cX11_back 108 = .ok (.iconst 1, 1) := by decide +kernel
theorem dX11_back_109 : decode cX11_back 109 = .ok (.laload, 1) := by decide +kernel
theorem dX11_back_110 : decode cX11_back 110 = .ok (.iload_n 1, 1) := by decide +kernel
theorem dX11_back_111 : decode cX11_back 111 = .ok (.i2l, 1) := by decide +kernel
theorem dX11_back_112 : decode cX11_back 112 = .ok (.lload 5, 2) := by decide +kernel
theorem dX11_back_114 : decode cX11_back 114 = .ok (.ldc2_w 306, 3) := by decide +kernel
theorem dX11_back_117 : decode cX11_back 117 = .ok (.ldiv, 1) := by decide +kernel
theorem dX11_back_118 : decode cX11_back 118 = .ok (.lmul, 1) := by decide +kernel
theorem dX11_back_119 : decode cX11_back 119 = .ok (.lcmp, 1) := by decide +kernel
theorem dX11_back_120 : decode cX11_back 120 = .ok (.ifCond .gt 7, 3) := by decide +kernel
theorem dX11_back_123 : decode cX11_back 123 = .ok (.iconst 1, 1) := by decide +kernel
theorem dX11_back_124 : decode cX11_back 124 = .ok (.goto 4, 3) := by decide +kernel
theorem dX11_back_127 : decode cX11_back 127 = .ok (.iconst 0, 1) := by decide +kernel
theorem dX11_back_128 : decode cX11_back 128 = .ok (.istore 7, 2) := by decide +kernel
theorem dX11_back_130 : decode cX11_back 130 = .ok (.iload 7, 2) := by decide +kernel
theorem dX11_back_132 : decode cX11_back 132 = .ok (.ifCond .eq 8, 3) := by decide +kernel
theorem dX11_back_135 : decode cX11_back 135 = .ok (.iload 4, 2) := by decide +kernel
theorem dX11_back_137 : decode cX11_back 137 = .ok (.goto 4, 3) := by decide +kernel
theorem dX11_back_140 : decode cX11_back 140 = .ok (.iconst (-1), 1) := by decide +kernel
theorem dX11_back_141 : decode cX11_back 141 = .ok (.istore_n 3, 1) := by decide +kernel
theorem dX11_back_142 : decode cX11_back 142 = .ok (.iinc 4 1, 3) := by decide +kernel
theorem dX11_back_145 : decode cX11_back 145 = .ok (.goto (-108), 3) := by decide +kernel
theorem dX11_back_148 : decode cX11_back 148 = .ok (.aload_n 0, 1) := by decide +kernel
theorem dX11_back_149 : decode cX11_back 149 = .ok (.getfield 17, 3) := by decide +kernel
theorem dX11_back_152 : decode cX11_back 152 = .ok (.bipush 35, 2) := by decide +kernel
theorem dX11_back_154 : decode cX11_back 154 = .ok (.iload_n 2, 1) := by decide +kernel
theorem dX11_back_155 : decode cX11_back 155 = .ok (.iastore, 1) := by decide +kernel
theorem dX11_back_156 : decode cX11_back 156 = .ok (.iload_n 3, 1) := by decide +kernel
theorem dX11_back_157 : decode cX11_back 157 = .ok (.ireturn, 1) := by decide +kernel
theorem dX11_wise_0 : decode cX11_wise 0 = .ok (.aload_n 0, 1) := by decide +kernel
theorem dX11_wise_1 : decode cX11_wise 1 = .ok (.iconst 0, 1) := by decide +kernel
theorem dX11_wise_2 : decode cX11_wise 2 = .ok (.putfield 1, 3) := by decide +kernel
theorem dX11_wise_5 : decode cX11_wise 5 = .ok (.iload_n 1, 1) := by decide +kernel
theorem dX11_wise_6 : decode cX11_wise 6 = .ok (.i2l, 1) := by decide +kernel
theorem dX11_wise_7 : decode cX11_wise 7 = .ok (.lconst 0, 1) := by decide +kernel
theorem dX11_wise_8 : decode cX11_wise 8 = .ok (.lconst 1, 1) := by decide +kernel
theorem dX11_wise_9 : decode cX11_wise 9 = .ok (.invokestatic 152, 3) := by decide +kernel
theorem dX11_wise_12 : decode cX11_wise 12 = .ok (.ifCond .ne 10, 3) := by decide +kernel
theorem dX11_wise_15 : decode cX11_wise 15 = .ok (.aload_n 0, 1) := by decide +kernel
theorem dX11_wise_16 : decode cX11_wise 16 = .ok (.bipush (-2), 2) := by decide +kernel
theorem dX11_wise_18 : decode cX11_wise 18 = .ok (.invokevirtual 89, 3) := by decide +kernel
theorem dX11_wise_21 : decode cX11_wise 21 = .ok (.ireturn, 1) := by decide +kernel
theorem dX11_wise_22 : decode cX11_wise 22 = .ok (.iload_n 1, 1) := by decide +kernel
theorem dX11_wise_23 : decode cX11_wise 23 = .ok (.ifCond .ne 8, 3) := by decide +kernel
theorem dX11_wise_26 : decode cX11_wise 26 = .ok (.bipush 37, 2) := by decide +kernel
theorem dX11_wise_28 : decode cX11_wise 28 = .ok (.goto 5, 3) := by decide +kernel
theorem dX11_wise_31 : decode cX11_wise 31 = .ok (.bipush 36, 2) := by decide +kernel
theorem dX11_wise_33 : decode cX11_wise 33 = .ok (.istore_n 2, 1) := by decide +kernel
theorem dX11_wise_34 : decode cX11_wise 34 = .ok (.aload_n 0, 1) := by decide +kernel
theorem dX11_wise_35 : decode cX11_wise 35 = .ok (.getfield 17, 3) := by decide +kernel
theorem dX11_wise_38 : decode cX11_wise 38 = .ok (.iload_n 2, 1) := by decide +kernel
theorem dX11_wise_39 : decode cX11_wise 39 = .ok (.iaload, 1) := by decide +kernel
theorem dX11_wise_40 : decode cX11_wise 40 = .ok (.istore_n 3, 1) := by decide +kernel
theorem dX11_wise_41 : decode cX11_wise 41 = .ok (.iconst 0, 1) := by decide +kernel
theorem dX11_wise_42 : decode cX11_wise 42 = .ok (.istore 4, 2) := by decide +kernel
theorem dX11_wise_44 : decode cX11_wise 44 = .ok (.ldc2_w 308, 3) := by decide +kernel
theorem dX11_wise_47 : decode cX11_wise 47 = .ok (.lstore 5, 2) := by decide +kernel
theorem dX11_wise_49 : decode cX11_wise 49 = .ok (.iconst 0, 1) := by decide +kernel
theorem dX11_wise_50 : decode cX11_wise 50 = .ok (.istore 7, 2) := by decide +kernel
theorem dX11_wise_52 : decode cX11_wise 52 = .ok (.iload 7, 2) := by decide +kernel
theorem dX11_wise_54 : decode cX11_wise 54 = .ok (.iload_n 1, 1) := by decide +kernel
theorem dX11_wise_55 : decode cX11_wise 55 = .ok (.ifCond .ne 8, 3) := by decide +kernel
theorem dX11_wise_58 : decode cX11_wise 58 = .ok (.bipush 60, 2) := by decide +kernel
theorem dX11_wise_60 : decode cX11_wise 60 = .ok (.goto 5, 3) := by decide +kernel
theorem dX11_wise_63 : decode cX11_wise 63 = .ok (.bipush 20, 2) := by decide +kernel
theorem dX11_wise_65 : decode cX11_wise 65 = .ok (.if_icmp .gt 48, 3) := by decide +kernel
theorem dX11_wise_68 : decode cX11_wise 68 = .ok (.aload_n 0, 1) := by decide +kernel
theorem dX11_wise_69 : decode cX11_wise 69 = .ok (.getfield 17, 3) := by decide +kernel
theorem dX11_wise_72 : decode cX11_wise 72 = .ok (.iload_n 2, 1) := by decide +kernel
theorem dX11_wise_73 : decode cX11_wise 73 = .ok (.iload 7, 2) := by decide +kernel
theorem dX11_wise_75 : decode cX11_wise 75 = .ok (.iastore, 1) := by decide +kernel
theorem dX11_wise_76 : decode cX11_wise 76 = .ok (.aload_n 0, 1) := by decide +kernel
theorem dX11_wise_77 : decode cX11_wise 77 = .ok (.invokevirtual 296, 3) := by decide +kernel
theorem dX11_wise_80 : decode cX11_wise 80 = .ok (.aload_n 0, 1) := by decide +kernel
theorem dX11_wise_81 : decode cX11_wise 81 = .ok (.getfield 54, 3) := by decide +kernel
theorem dX11_wise_84 : decode cX11_wise 84 = .ok (.iconst 0, 1) := by decide +kernel
theorem dX11_wise_85 : decode cX11_wise 85 = .ok (.laload, 1) := by decide +kernel
theorem dX11_wise_86 : decode cX11_wise 86 = .ok (.lload 5, 2) := by decide +kernel
theorem dX11_wise_88 : decode cX11_wise 88 = .ok (.lcmp, 1) := by decide +kernel
theorem dX11_wise_89 : decode cX11_wise 89 = .ok (.ifCond .gt 6, 3) := by decide +kernel
theorem dX11_wise_92 : decode cX11_wise 92 = .ok (.goto 15, 3) := by decide +kernel
theorem dX11_wise_95 : decode cX11_wise 95 = .ok (.aload_n 0, 1) := by decide +kernel
theorem dX11_wise_96 : decode cX11_wise 96 = .ok (.getfield 54, 3) := by decide +kernel
theorem dX11_wise_99 : decode cX11_wise 99 = .ok (.iconst 0, 1) := by decide +kernel
theorem dX11_wise_100 : decode cX11_wise 100 = .ok (.laload, 1) := by decide +kernel
theorem dX11_wise_101 : decode cX11_wise 101 = .ok (.lstore 5, 2) := by decide +kernel
theorem dX11_wise_103 : decode cX11_wise 103 = .ok (.iload 7, 2) := by decide +kernel
theorem dX11_wise_105 : decode cX11_wise 105 = .ok (.istore 4, 2) := by decide +kernel
theorem dX11_wise_107 : decode cX11_wise 107 = .ok (.iinc 7 1, 3) := by decide +kernel
theorem dX11_wise_110 : decode cX11_wise 110 = .ok (.goto (-58), 3) := by decide +kernel
theorem dX11_wise_113 : decode cX11_wise 113 = .ok (.aload_n 0, 1) := by decide +kernel
theorem dX11_wise_114 : decode cX11_wise 114 = .ok (.getfield 17, 3) := by decide +kernel
theorem dX11_wise_117 : decode cX11_wise 117 = .ok (.iload_n 2, 1) := by decide +kernel
theorem dX11_wise_118 : decode cX11_wise 118 = .ok (.iload_n 3, 1) := by decide +kernel
theorem dX11_wise_119 : decode cX11_wise 119 = .ok (.iastore, 1) := by decide +kernel
theorem dX11_wise_120 : decode cX11_wise 120 = .ok (.iload 4, 2) := by decide +kernel
theorem dX11_wise_122 : decode cX11_wise 122 = .ok (.ireturn, 1) := by decide +kernel
theorem dX11_blame_0 : decode cX11_blame 0 = .ok (.aload_n 0, 1) := by decide +kernel
theorem dX11_blame_1 : decode cX11_blame 1 = .ok (.iconst 0, 1) := by decide +kernel
theorem dX11_blame_2 : decode cX11_blame 2 = .ok (.putfield 1, 3) := by decide +kernel
theorem dX11_blame_5 : decode cX11_blame 5 = .ok (.aload_n 0, 1) := by decide +kernel
theorem dX11_blame_6 : decode cX11_blame 6 = .ok (.iload_n 1, 1) := by decide +kernel
theorem dX11_blame_7 : decode cX11_blame 7 = .ok (.invokevirtual 210, 3) := by decide +kernel
theorem dX11_blame_10 : decode cX11_blame 10 = .ok (.ifCond .eq 13, 3) := by decide +kernel
theorem dX11_blame_13 : decode cX11_blame 13 = .ok (.iload_n 2, 1) := by decide +kernel
theorem dX11_blame_14 : decode cX11_blame 14 = .ok (.i2l, 1) := by decide +kernel
theorem dX11_blame_15 : decode cX11_blame 15 = .ok (.lconst 0, 1) := by decide +kernel
theorem dX11_blame_16 : decode cX11_blame 16 = .ok (.lconst 1, 1) := by decide +kernel
theorem dX11_blame_17 : decode cX11_blame 17 = .ok (.invokestatic 152, 3) := by decide +kernel
theorem dX11_blame_20 : decode cX11_blame 20 = .ok (.ifCond .ne 11, 3) := by decide +kernel
theorem dX11_blame_23 : decode cX11_blame 23 = .ok (.aload_n 0, 1) := by decide +kernel
theorem dX11_blame_24 : decode cX11_blame 24 = .ok (.bipush (-2), 2) := by decide +kernel
theorem dX11_blame_26 : decode cX11_blame 26 = .ok (.invokevirtual 89, 3) := by decide +kernel
theorem dX11_blame_29 : decode cX11_blame 29 = .ok (.i2l, 1) := by decide +kernel
theorem dX11_blame_30 : decode cX11_blame 30 = .ok (.lreturn, 1) := by decide +kernel
theorem dX11_blame_31 : decode cX11_blame 31 = .ok (.aload_n 0, 1) := by decide +kernel
theorem dX11_blame_32 : decode cX11_blame 32 = .ok (.invokevirtual 296, 3) := by decide +kernel
theorem dX11_blame_35 : decode cX11_blame 35 = .ok (.iload_n 2, 1) := by decide +kernel
theorem dX11_blame_36 : decode cX11_blame 36 = .ok (.ifCond .ne 12, 3) := by decide +kernel
theorem dX11_blame_39 : decode cX11_blame 39 = .ok (.aload_n 0, 1) := by decide +kernel
theorem dX11_blame_40 : decode cX11_blame 40 = .ok (.getfield 58, 3) := by decide +kernel
theorem dX11_blame_43 : decode cX11_blame 43 = .ok (.iload_n 1, 1) := by decide +kernel
theorem dX11_blame_44 : decode cX11_blame 44 = .ok (.laload, 1) := by decide +kernel
theorem dX11_blame_45 : decode cX11_blame 45 = .ok (.goto 9, 3) := by decide +kernel
theorem dX11_blame_48 : decode cX11_blame 48 = .ok (.aload_n 0, 1) := by decide +kernel
theorem dX11_blame_49 : decode cX11_blame 49 = .ok (.getfield 61, 3) := by decide +kernel
theorem dX11_blame_52 : decode cX11_blame 52 = .ok (.iload_n 1, 1) := by decide +kernel
theorem dX11_blame_53 : decode cX11_blame 53 = .ok (.laload, 1) := by decide +kernel
theorem dX11_blame_54 : decode cX11_blame 54 = .ok (.lreturn, 1) := by decide +kernel
theorem dX11_mean_0 : decode cX11_mean 0 = .ok (.aload_n 0, 1) := by decide +kernel
theorem dX11_mean_1 : decode cX11_mean 1 = .ok (.iconst 0, 1) := by decide +kernel
theorem dX11_mean_2 : decode cX11_mean 2 = .ok (.putfield 1, 3) := by decide +kernel
theorem dX11_mean_5 : decode cX11_mean 5 = .ok (.iload_n 1, 1) := by decide +kernel
theorem dX11_mean_6 : decode cX11_mean 6 = .ok (.i2l, 1) := by decide +kernel
theorem dX11_mean_7 : decode cX11_mean 7 = .ok (.lconst 0, 1) := by decide +kernel
theorem dX11_mean_8 : decode cX11_mean 8 = .ok (.lconst 1, 1) := by decide +kernel
theorem dX11_mean_9 : decode cX11_mean 9 = .ok (.invokestatic 152, 3) := by decide +kernel
theorem dX11_mean_12 : decode cX11_mean 12 = .ok (.ifCond .ne 11, 3) := by decide +kernel
theorem dX11_mean_15 : decode cX11_mean 15 = .ok (.aload_n 0, 1) := by decide +kernel
theorem dX11_mean_16 : decode cX11_mean 16 = .ok (.bipush (-2), 2) := by decide +kernel
theorem dX11_mean_18 : decode cX11_mean 18 = .ok (.invokevirtual 89, 3) := by decide +kernel
theorem dX11_mean_21 : decode cX11_mean 21 = .ok (.i2l, 1) := by decide +kernel
theorem dX11_mean_22 : decode cX11_mean 22 = .ok (.lreturn, 1) := by decide +kernel
theorem dX11_mean_23 : decode cX11_mean 23 = .ok (.aload_n 0, 1) := by decide +kernel
theorem dX11_mean_24 : decode cX11_mean 24 = .ok (.invokevirtual 296, 3) := by decide +kernel
theorem dX11_mean_27 : decode cX11_mean 27 = .ok (.aload_n 0, 1) := by decide +kernel
theorem dX11_mean_28 : decode cX11_mean 28 = .ok (.getfield 54, 3) := by decide +kernel
theorem dX11_mean_31 : decode cX11_mean 31 = .ok (.iconst 3, 1) := by decide +kernel
theorem dX11_mean_32 : decode cX11_mean 32 = .ok (.laload, 1) := by decide +kernel
theorem dX11_mean_33 : decode cX11_mean 33 = .ok (.aload_n 0, 1) := by decide +kernel
theorem dX11_mean_34 : decode cX11_mean 34 = .ok (.invokevirtual 292, 3) := by decide +kernel
theorem dX11_mean_37 : decode cX11_mean 37 = .ok (.invokestatic 310, 3) := by decide +kernel
theorem dX11_mean_40 : decode cX11_mean 40 = .ok (.lstore_n 2, 1) := by decide +kernel
theorem dX11_mean_41 : decode cX11_mean 41 = .ok (.iload_n 1, 1) := by decide +kernel
theorem dX11_mean_42 : decode cX11_mean 42 = .ok (.ifCond .ne 12, 3) := by decide +kernel
theorem dX11_mean_45 : decode cX11_mean 45 = .ok (.aload_n 0, 1) := by decide +kernel
theorem dX11_mean_46 : decode cX11_mean 46 = .ok (.getfield 54, 3) := by decide +kernel
theorem dX11_mean_49 : decode cX11_mean 49 = .ok (.iconst 3, 1) := by decide +kernel
theorem dX11_mean_50 : decode cX11_mean 50 = .ok (.laload, 1) := by decide +kernel
theorem dX11_mean_51 : decode cX11_mean 51 = .ok (.goto 7, 3) := by decide +kernel
theorem dX11_mean_54 : decode cX11_mean 54 = .ok (.aload_n 0, 1) := by decide +kernel
theorem dX11_mean_55 : decode cX11_mean 55 = .ok (.invokevirtual 292, 3) := by decide +kernel
