theorem dL_law_0 : decode cL_law 0 = .ok (.new 7, 3) := dcr zo_dL_law_0 0 rfl
theorem dL_law_3 : decode cL_law 3 = .ok (.dup, 1) := dcr zo_dL_law_0 1 rfl
theorem dL_law_4 : decode cL_law 4 = .ok (.invokespecial 9, 3) := dcr zo_dL_law_0 2 rfl
theorem dL_law_7 : decode cL_law 7 = .ok (.astore_n 1, 1) := dcr zo_dL_law_0 3 rfl
theorem dL_law_8 : decode cL_law 8 = .ok (.new 10, 3) := dcr zo_dL_law_0 4 rfl
theorem dL_law_11 : decode cL_law 11 = .ok (.dup, 1) := dcr zo_dL_law_0 5 rfl
theorem dL_law_12 : decode cL_law 12 = .ok (.invokespecial 12, 3) := dcr zo_dL_law_0 6 rfl
theorem dL_law_15 : decode cL_law 15 = .ok (.astore_n 2, 1) := dcr zo_dL_law_0 7 rfl
theorem dL_law_16 : decode cL_law 16 = .ok (.iconst 0, 1) := dcr zo_dL_law_0 8 rfl
theorem dL_law_17 : decode cL_law 17 = .ok (.istore_n 3, 1) := dcr zo_dL_law_0 9 rfl
theorem dL_law_18 : decode cL_law 18 = .ok (.iload_n 3, 1) := dcr zo_dL_law_0 10 rfl
theorem dL_law_19 : decode cL_law 19 = .ok (.aload_n 0, 1) := dcr zo_dL_law_0 11 rfl
theorem dL_law_20 : decode cL_law 20 = .ok (.arraylength, 1) := dcr zo_dL_law_0 12 rfl
theorem dL_law_21 : decode cL_law 21 = .ok (.bipush 6, 2) := dcr zo_dL_law_0 13 rfl
theorem dL_law_23 : decode cL_law 23 = .ok (.isub, 1) := dcr zo_dL_law_0 14 rfl
theorem dL_law_24 : decode cL_law 24 = .ok (.if_icmp .gt 908, 3) := dcr zo_dL_law_0 15 rfl
theorem zo_dL_law_27 : ([(27, .aload_n 0, 1), (28, .iload_n 3, 1), (29, .iaload, 1), (30, .bipush 31, 2), (32, .iand, 1), (33, .tableswitch 893 0 23 #[111, 134, 157, 170, 193, 216, 249, 282, 305, 338, 391, 434, 487, 530, 573, 626, 659, 682, 705, 728, 761, 824, 847, 870], 111), (144, .aload_n 1, 1), (145, .aload_n 0, 1), (146, .iload_n 3, 1), (147, .iconst 1, 1), (148, .iadd, 1), (149, .iaload, 1), (150, .invokevirtual 13, 3), (153, .pop, 1), (154, .aload_n 2, 1), (155, .aload_n 0, 1)] : List (Nat × Instr × Nat)).all (dOk (decode cL_law)) = true := by decide +kernel
theorem dL_law_27 : decode cL_law 27 = .ok (.aload_n 0, 1) := dcr zo_dL_law_27 0 rfl
theorem dL_law_28 : decode cL_law 28 = .ok (.iload_n 3, 1) := dcr zo_dL_law_27 1 rfl
theorem dL_law_29 : decode cL_law 29 = .ok (.iaload, 1) := dcr zo_dL_law_27 2 rfl
theorem dL_law_30 : decode cL_law 30 = .ok (.bipush 31, 2) := dcr zo_dL_law_27 3 rfl
theorem dL_law_32 : decode cL_law 32 = .ok (.iand, 1) := dcr zo_dL_law_27 4 rfl
theorem dL_law_33 : decode cL_law 33 = .ok (.tableswitch 893 0 23 #[111, 134, 157, 170, 193, 216, 249, 282, 305, 338, 391, 434, 487, 530, 573, 626, 659, 682, 705, 728, 761, 824, 847, 870], 111) := dcr zo_dL_law_27 5 rfl
theorem dL_law_144 : decode cL_law 144 = .ok (.aload_n 1, 1) := dcr zo_dL_law_27 6 rfl
theorem dL_law_145 : decode cL_law 145 = .ok (.aload_n 0, 1) := dcr zo_dL_law_27 7 rfl
theorem dL_law_146 : decode cL_law 146 = .ok (.iload_n 3, 1) := dcr zo_dL_law_27 8 rfl
theorem dL_law_147 : decode cL_law 147 = .ok (.iconst 1, 1) := dcr zo_dL_law_27 9 rfl
theorem dL_law_148 : decode cL_law 148 = .ok (.iadd, 1) := dcr zo_dL_law_27 10 rfl
theorem dL_law_149 : decode cL_law 149 = .ok (.iaload, 1) := dcr zo_dL_law_27 11 rfl
theorem dL_law_150 : decode cL_law 150 = .ok (.invokevirtual 13, 3) := dcr zo_dL_law_27 12 rfl
theorem dL_law_153 : decode cL_law 153 = .ok (.pop, 1) := dcr zo_dL_law_27 13 rfl
theorem dL_law_154 : decode cL_law 154 = .ok (.aload_n 2, 1) := dcr zo_dL_law_27 14 rfl
theorem dL_law_155 : decode cL_law 155 = .ok (.aload_n 0, 1) := dcr zo_dL_law_27 15 rfl
theorem zo_dL_law_156 : ([(156, .iload_n 3, 1), (157, .iconst 1, 1), (158, .iadd, 1), (159, .iaload, 1), (160, .invokevirtual 17, 3), (163, .pop, 1), (164, .goto 762, 3), (167, .aload_n 1, 1), (168, .aload_n 0, 1), (169, .iload_n 3, 1), (170, .iconst 1, 1), (171, .iadd, 1), (172, .iaload, 1), (173, .invokevirtual 18, 3), (176, .pop, 1), (177, .aload_n 2, 1)] : List (Nat × Instr × Nat)).all (dOk (decode cL_law)) = true := by decide +kernel
theorem dL_law_156 : decode cL_law 156 = .ok (.iload_n 3, 1) := dcr zo_dL_law_156 0 rfl
theorem dL_law_157 : decode cL_law 157 = .ok (.iconst 1, 1) := dcr zo_dL_law_156 1 rfl
theorem dL_law_158 : decode cL_law 158 = .ok (.iadd, 1) := dcr zo_dL_law_156 2 rfl
theorem dL_law_159 : decode cL_law 159 = .ok (.iaload, 1) := dcr zo_dL_law_156 3 rfl
theorem dL_law_160 : decode cL_law 160 = .ok (.invokevirtual 17, 3) := dcr zo_dL_law_156 4 rfl
theorem dL_law_163 : decode cL_law 163 = .ok (.pop, 1) := dcr zo_dL_law_156 5 rfl
theorem dL_law_164 : decode cL_law 164 = .ok (.goto 762, 3) := dcr zo_dL_law_156 6 rfl
theorem dL_law_167 : decode cL_law 167 = .ok (.aload_n 1, 1) := dcr zo_dL_law_156 7 rfl
theorem dL_law_168 : decode cL_law 168 = .ok (.aload_n 0, 1) := dcr zo_dL_law_156 8 rfl
theorem dL_law_169 : decode cL_law 169 = .ok (.iload_n 3, 1) := dcr zo_dL_law_156 9 rfl
theorem dL_law_170 : decode cL_law 170 = .ok (.iconst 1, 1) := dcr zo_dL_law_156 10 rfl
theorem dL_law_171 : decode cL_law 171 = .ok (.iadd, 1) := dcr zo_dL_law_156 11 rfl
theorem dL_law_172 : decode cL_law 172 = .ok (.iaload, 1) := dcr zo_dL_law_156 12 rfl
theorem dL_law_173 : decode cL_law 173 = .ok (.invokevirtual 18, 3) := dcr zo_dL_law_156 13 rfl
theorem dL_law_176 : decode cL_law 176 = .ok (.pop, 1) := dcr zo_dL_law_156 14 rfl
theorem dL_law_177 : decode cL_law 177 = .ok (.aload_n 2, 1) := dcr zo_dL_law_156 15 rfl
theorem zo_dL_law_178 : ([(178, .aload_n 0, 1), (179, .iload_n 3, 1), (180, .iconst 1, 1), (181, .iadd, 1), (182, .iaload, 1), (183, .invokevirtual 21, 3), (186, .pop, 1), (187, .goto 739, 3), (190, .aload_n 1, 1), (191, .invokevirtual 22, 3), (194, .pop, 1), (195, .aload_n 2, 1), (196, .invokevirtual 26, 3), (199, .pop, 1), (200, .goto 726, 3), (203, .aload_n 1, 1)] : List (Nat × Instr × Nat)).all (dOk (decode cL_law)) = true := by decide +kernel
theorem dL_law_178 : decode cL_law 178 = .ok (.aload_n 0, 1) := dcr zo_dL_law_178 0 rfl
theorem dL_law_179 : decode cL_law 179 = .ok (.iload_n 3, 1) := dcr zo_dL_law_178 1 rfl
theorem dL_law_180 : decode cL_law 180 = .ok (.iconst 1, 1) := dcr zo_dL_law_178 2 rfl
theorem dL_law_181 : decode cL_law 181 = .ok (.iadd, 1) := dcr zo_dL_law_178 3 rfl
theorem dL_law_182 : decode cL_law 182 = .ok (.iaload, 1) := dcr zo_dL_law_178 4 rfl
theorem dL_law_183 : decode cL_law 183 = .ok (.invokevirtual 21, 3) := dcr zo_dL_law_178 5 rfl
theorem dL_law_186 : decode cL_law 186 = .ok (.pop, 1) := dcr zo_dL_law_178 6 rfl
theorem dL_law_187 : decode cL_law 187 = .ok (.goto 739, 3) := dcr zo_dL_law_178 7 rfl
theorem dL_law_190 : decode cL_law 190 = .ok (.aload_n 1, 1) := dcr zo_dL_law_178 8 rfl
theorem dL_law_191 : decode cL_law 191 = .ok (.invokevirtual 22, 3) := dcr zo_dL_law_178 9 rfl
theorem dL_law_194 : decode cL_law 194 = .ok (.pop, 1) := dcr zo_dL_law_178 10 rfl
theorem dL_law_195 : decode cL_law 195 = .ok (.aload_n 2, 1) := dcr zo_dL_law_178 11 rfl
theorem dL_law_196 : decode cL_law 196 = .ok (.invokevirtual 26, 3) := dcr zo_dL_law_178 12 rfl
theorem dL_law_199 : decode cL_law 199 = .ok (.pop, 1) := dcr zo_dL_law_178 13 rfl
theorem dL_law_200 : decode cL_law 200 = .ok (.goto 726, 3) := dcr zo_dL_law_178 14 rfl
theorem dL_law_203 : decode cL_law 203 = .ok (.aload_n 1, 1) := dcr zo_dL_law_178 15 rfl
theorem zo_dL_law_204 : ([(204, .aload_n 0, 1), (205, .iload_n 3, 1), (206, .iconst 1, 1), (207, .iadd, 1), (208, .iaload, 1), (209, .invokevirtual 27, 3), (212, .pop, 1), (213, .aload_n 2, 1), (214, .aload_n 0, 1), (215, .iload_n 3, 1), (216, .iconst 1, 1), (217, .iadd, 1), (218, .iaload, 1), (219, .invokevirtual 30, 3), (222, .pop, 1), (223, .goto 703, 3)] : List (Nat × Instr × Nat)).all (dOk (decode cL_law)) = true := by decide +kernel
theorem dL_law_204 : decode cL_law 204 = .ok (.aload_n 0, 1) := dcr zo_dL_law_204 0 rfl
theorem dL_law_205 : decode cL_law 205 = .ok (.iload_n 3, 1) := dcr zo_dL_law_204 1 rfl
theorem dL_law_206 : decode cL_law 206 = .ok (.iconst 1, 1) := dcr zo_dL_law_204 2 rfl
theorem dL_law_207 : decode cL_law 207 = .ok (.iadd, 1) := dcr zo_dL_law_204 3 rfl
theorem dL_law_208 : decode cL_law 208 = .ok (.iaload, 1) := dcr zo_dL_law_204 4 rfl
theorem dL_law_209 : decode cL_law 209 = .ok (.invokevirtual 27, 3) := dcr zo_dL_law_204 5 rfl
theorem dL_law_212 : decode cL_law 212 = .ok (.pop, 1) := dcr zo_dL_law_204 6 rfl
theorem dL_law_213 : decode cL_law 213 = .ok (.aload_n 2, 1) := dcr zo_dL_law_204 7 rfl
theorem dL_law_214 : decode cL_law 214 = .ok (.aload_n 0, 1) := dcr zo_dL_law_204 8 rfl
theorem dL_law_215 : decode cL_law 215 = .ok (.iload_n 3, 1) := dcr zo_dL_law_204 9 rfl
theorem dL_law_216 : decode cL_law 216 = .ok (.iconst 1, 1) := dcr zo_dL_law_204 10 rfl
theorem dL_law_217 : decode cL_law 217 = .ok (.iadd, 1) := dcr zo_dL_law_204 11 rfl
theorem dL_law_218 : decode cL_law 218 = .ok (.iaload, 1) := dcr zo_dL_law_204 12 rfl
theorem dL_law_219 : decode cL_law 219 = .ok (.invokevirtual 30, 3) := dcr zo_dL_law_204 13 rfl
theorem dL_law_222 : decode cL_law 222 = .ok (.pop, 1) := dcr zo_dL_law_204 14 rfl
theorem dL_law_223 : decode cL_law 223 = .ok (.goto 703, 3) := dcr zo_dL_law_204 15 rfl
theorem zo_dL_law_226 : ([(226, .aload_n 1, 1), (227, .aload_n 0, 1), (228, .iload_n 3, 1), (229, .iconst 1, 1), (230, .iadd, 1), (231, .iaload, 1), (232, .invokevirtual 31, 3), (235, .pop, 1), (236, .aload_n 2, 1), (237, .aload_n 0, 1), (238, .iload_n 3, 1), (239, .iconst 1, 1), (240, .iadd, 1), (241, .iaload, 1), (242, .invokevirtual 34, 3), (245, .pop, 1)] : List (Nat × Instr × Nat)).all (dOk (decode cL_law)) = true := by decide +kernel
theorem dL_law_226 : decode cL_law 226 = .ok (.aload_n 1, 1) := dcr zo_dL_law_226 0 rfl
theorem dL_law_227 : decode cL_law 227 = .ok (.aload_n 0, 1) := dcr zo_dL_law_226 1 rfl
theorem dL_law_228 : decode cL_law 228 = .ok (.iload_n 3, 1) := dcr zo_dL_law_226 2 rfl
theorem dL_law_229 : decode cL_law 229 = .ok (.iconst 1, 1) := dcr zo_dL_law_226 3 rfl
theorem dL_law_230 : decode cL_law 230 = .ok (.iadd, 1) := dcr zo_dL_law_226 4 rfl
theorem dL_law_231 : decode cL_law 231 = .ok (.iaload, 1) := dcr zo_dL_law_226 5 rfl
theorem dL_law_232 : decode cL_law 232 = .ok (.invokevirtual 31, 3) := dcr zo_dL_law_226 6 rfl
theorem dL_law_235 : decode cL_law 235 = .ok (.pop, 1) := dcr zo_dL_law_226 7 rfl
theorem dL_law_236 : decode cL_law 236 = .ok (.aload_n 2, 1) := dcr zo_dL_law_226 8 rfl
theorem dL_law_237 : decode cL_law 237 = .ok (.aload_n 0, 1) := dcr zo_dL_law_226 9 rfl
theorem dL_law_238 : decode cL_law 238 = .ok (.iload_n 3, 1) := dcr zo_dL_law_226 10 rfl
theorem dL_law_239 : decode cL_law 239 = .ok (.iconst 1, 1) := dcr zo_dL_law_226 11 rfl
theorem dL_law_240 : decode cL_law 240 = .ok (.iadd, 1) := dcr zo_dL_law_226 12 rfl
theorem dL_law_241 : decode cL_law 241 = .ok (.iaload, 1) := dcr zo_dL_law_226 13 rfl
theorem dL_law_242 : decode cL_law 242 = .ok (.invokevirtual 34, 3) := dcr zo_dL_law_226 14 rfl
theorem dL_law_245 : decode cL_law 245 = .ok (.pop, 1) := dcr zo_dL_law_226 15 rfl
theorem zo_dL_law_246 : ([(246, .goto 680, 3), (249, .aload_n 1, 1), (250, .aload_n 0, 1), (251, .iload_n 3, 1), (252, .iconst 1, 1), (253, .iadd, 1), (254, .iaload, 1), (255, .aload_n 0, 1), (256, .iload_n 3, 1), (257, .iconst 2, 1), (258, .iadd, 1), (259, .iaload, 1), (260, .invokevirtual 35, 3), (263, .pop, 1), (264, .aload_n 2, 1), (265, .aload_n 0, 1)] : List (Nat × Instr × Nat)).all (dOk (decode cL_law)) = true := by decide +kernel
theorem dL_law_246 : decode cL_law 246 = .ok (.goto 680, 3) := dcr zo_dL_law_246 0 rfl
theorem dL_law_249 : decode cL_law 249 = .ok (.aload_n 1, 1) := dcr zo_dL_law_246 1 rfl
theorem dL_law_250 : decode cL_law 250 = .ok (.aload_n 0, 1) := dcr zo_dL_law_246 2 rfl
theorem dL_law_251 : decode cL_law 251 = .ok (.iload_n 3, 1) := dcr zo_dL_law_246 3 rfl
theorem dL_law_252 : decode cL_law 252 = .ok (.iconst 1, 1) := dcr zo_dL_law_246 4 rfl
theorem dL_law_253 : decode cL_law 253 = .ok (.iadd, 1) := dcr zo_dL_law_246 5 rfl
theorem dL_law_254 : decode cL_law 254 = .ok (.iaload, 1) := dcr zo_dL_law_246 6 rfl
theorem dL_law_255 : decode cL_law 255 = .ok (.aload_n 0, 1) := dcr zo_dL_law_246 7 rfl
theorem dL_law_256 : decode cL_law 256 = .ok (.iload_n 3, 1) := dcr zo_dL_law_246 8 rfl
theorem dL_law_257 : decode cL_law 257 = .ok (.iconst 2, 1) := dcr zo_dL_law_246 9 rfl
theorem dL_law_258 : decode cL_law 258 = .ok (.iadd, 1) := dcr zo_dL_law_246 10 rfl
theorem dL_law_259 : decode cL_law 259 = .ok (.iaload, 1) := dcr zo_dL_law_246 11 rfl
theorem dL_law_260 : decode cL_law 260 = .ok (.invokevirtual 35, 3) := dcr zo_dL_law_246 12 rfl
theorem dL_law_263 : decode cL_law 263 = .ok (.pop, 1) := dcr zo_dL_law_246 13 rfl
theorem dL_law_264 : decode cL_law 264 = .ok (.aload_n 2, 1) := dcr zo_dL_law_246 14 rfl
theorem dL_law_265 : decode cL_law 265 = .ok (.aload_n 0, 1) := dcr zo_dL_law_246 15 rfl
theorem zo_dL_law_266 : ([(266, .iload_n 3, 1), (267, .iconst 1, 1), (268, .iadd, 1), (269, .iaload, 1), (270, .aload_n 0, 1), (271, .iload_n 3, 1), (272, .iconst 2, 1), (273, .iadd, 1), (274, .iaload, 1), (275, .invokevirtual 39, 3), (278, .pop, 1), (279, .goto 647, 3), (282, .aload_n 1, 1), (283, .aload_n 0, 1), (284, .iload_n 3, 1), (285, .iconst 1, 1)] : List (Nat × Instr × Nat)).all (dOk (decode cL_law)) = true := by decide +kernel
theorem dL_law_266 : decode cL_law 266 = .ok (.iload_n 3, 1) := dcr zo_dL_law_266 0 rfl
theorem dL_law_267 : decode cL_law 267 = .ok (.iconst 1, 1) := dcr zo_dL_law_266 1 rfl
theorem dL_law_268 : decode cL_law 268 = .ok (.iadd, 1) := dcr zo_dL_law_266 2 rfl
theorem dL_law_269 : decode cL_law 269 = .ok (.iaload, 1) := dcr zo_dL_law_266 3 rfl
theorem dL_law_270 : decode cL_law 270 = .ok (.aload_n 0, 1) := dcr zo_dL_law_266 4 rfl
theorem dL_law_271 : decode cL_law 271 = .ok (.iload_n 3, 1) := dcr zo_dL_law_266 5 rfl
theorem dL_law_272 : decode cL_law 272 = .ok (.iconst 2, 1) := dcr zo_dL_law_266 6 rfl
theorem dL_law_273 : decode cL_law 273 = .ok (.iadd, 1) := dcr zo_dL_law_266 7 rfl
theorem dL_law_274 : decode cL_law 274 = .ok (.iaload, 1) := dcr zo_dL_law_266 8 rfl
theorem dL_law_275 : decode cL_law 275 = .ok (.invokevirtual 39, 3) := dcr zo_dL_law_266 9 rfl
theorem dL_law_278 : decode cL_law 278 = .ok (.pop, 1) := dcr zo_dL_law_266 10 rfl
theorem dL_law_279 : decode cL_law 279 = .ok (.goto 647, 3) := dcr zo_dL_law_266 11 rfl
theorem dL_law_282 : decode cL_law 282 = .ok (.aload_n 1, 1) := dcr zo_dL_law_266 12 rfl
theorem dL_law_283 : decode cL_law 283 = .ok (.aload_n 0, 1) := dcr zo_dL_law_266 13 rfl
theorem dL_law_284 : decode cL_law 284 = .ok (.iload_n 3, 1) := dcr zo_dL_law_266 14 rfl
theorem dL_law_285 : decode cL_law 285 = .ok (.iconst 1, 1) := dcr zo_dL_law_266 15 rfl
theorem zo_dL_law_286 : ([(286, .iadd, 1), (287, .iaload, 1), (288, .aload_n 0, 1), (289, .iload_n 3, 1), (290, .iconst 2, 1), (291, .iadd, 1), (292, .iaload, 1), (293, .invokevirtual 40, 3), (296, .pop, 1), (297, .aload_n 2, 1), (298, .aload_n 0, 1), (299, .iload_n 3, 1), (300, .iconst 1, 1), (301, .iadd, 1), (302, .iaload, 1), (303, .aload_n 0, 1)] : List (Nat × Instr × Nat)).all (dOk (decode cL_law)) = true := by decide +kernel
theorem dL_law_286 : decode cL_law 286 = .ok (.iadd, 1) := dcr zo_dL_law_286 0 rfl
theorem dL_law_287 : decode cL_law 287 = .ok (.iaload, 1) := dcr zo_dL_law_286 1 rfl
theorem dL_law_288 : decode cL_law 288 = .ok (.aload_n 0, 1) := dcr zo_dL_law_286 2 rfl
theorem dL_law_289 : decode cL_law 289 = .ok (.iload_n 3, 1) := dcr zo_dL_law_286 3 rfl
theorem dL_law_290 : decode cL_law 290 = .ok (.iconst 2, 1) := dcr zo_dL_law_286 4 rfl
theorem dL_law_291 : decode cL_law 291 = .ok (.iadd, 1) := dcr zo_dL_law_286 5 rfl
theorem dL_law_292 : decode cL_law 292 = .ok (.iaload, 1) := dcr zo_dL_law_286 6 rfl
theorem dL_law_293 : decode cL_law 293 = .ok (.invokevirtual 40, 3) := dcr zo_dL_law_286 7 rfl
theorem dL_law_296 : decode cL_law 296 = .ok (.pop, 1) := dcr zo_dL_law_286 8 rfl
theorem dL_law_297 : decode cL_law 297 = .ok (.aload_n 2, 1) := dcr zo_dL_law_286 9 rfl
theorem dL_law_298 : decode cL_law 298 = .ok (.aload_n 0, 1) := dcr zo_dL_law_286 10 rfl
theorem dL_law_299 : decode cL_law 299 = .ok (.iload_n 3, 1) := dcr zo_dL_law_286 11 rfl
theorem dL_law_300 : decode cL_law 300 = .ok (.iconst 1, 1) := dcr zo_dL_law_286 12 rfl
theorem dL_law_301 : decode cL_law 301 = .ok (.iadd, 1) := dcr zo_dL_law_286 13 rfl
theorem dL_law_302 : decode cL_law 302 = .ok (.iaload, 1) := dcr zo_dL_law_286 14 rfl
theorem dL_law_303 : decode cL_law 303 = .ok (.aload_n 0, 1) := dcr zo_dL_law_286 15 rfl
theorem zo_dL_law_304 : ([(304, .iload_n 3, 1), (305, .iconst 2, 1), (306, .iadd, 1), (307, .iaload, 1), (308, .invokevirtual 43, 3), (311, .pop, 1), (312, .goto 614, 3), (315, .aload_n 1, 1), (316, .aload_n 0, 1), (317, .iload_n 3, 1), (318, .iconst 1, 1), (319, .iadd, 1), (320, .iaload, 1), (321, .invokevirtual 44, 3), (324, .pop, 1), (325, .aload_n 2, 1)] : List (Nat × Instr × Nat)).all (dOk (decode cL_law)) = true := by decide +kernel
theorem dL_law_304 : decode cL_law 304 = .ok (.iload_n 3, 1) := dcr zo_dL_law_304 0 rfl
theorem dL_law_305 : decode cL_law 305 = .ok (.iconst 2, 1) := dcr zo_dL_law_304 1 rfl
theorem dL_law_306 : decode cL_law 306 = .ok (.iadd, 1) := dcr zo_dL_law_304 2 rfl
theorem dL_law_307 : decode cL_law 307 = .ok (.iaload, 1) := dcr zo_dL_law_304 3 rfl
theorem dL_law_308 : decode cL_law 308 = .ok (.invokevirtual 43, 3) := dcr zo_dL_law_304 4 rfl
theorem dL_law_311 : decode cL_law 311 = .ok (.pop, 1) := dcr zo_dL_law_304 5 rfl
theorem dL_law_312 : decode cL_law 312 = .ok (.goto 614, 3) := dcr zo_dL_law_304 6 rfl
theorem dL_law_315 : decode cL_law 315 = .ok (.aload_n 1, 1) := dcr zo_dL_law_304 7 rfl
theorem dL_law_316 : decode cL_law 316 = .ok (.aload_n 0, 1) := dcr zo_dL_law_304 8 rfl
theorem dL_law_317 : decode cL_law 317 = .ok (.iload_n 3, 1) := dcr zo_dL_law_304 9 rfl
theorem dL_law_318 : decode cL_law 318 = .ok (.iconst 1, 1) := dcr zo_dL_law_304 10 rfl
theorem dL_law_319 : decode cL_law 319 = .ok (.iadd, 1) := dcr zo_dL_law_304 11 rfl
theorem dL_law_320 : decode cL_law 320 = .ok (.iaload, 1) := dcr zo_dL_law_304 12 rfl
theorem dL_law_321 : decode cL_law 321 = .ok (.invokevirtual 44, 3) := dcr zo_dL_law_304 13 rfl
theorem dL_law_324 : decode cL_law 324 = .ok (.pop, 1) := dcr zo_dL_law_304 14 rfl
theorem dL_law_325 : decode cL_law 325 = .ok (.aload_n 2, 1) := dcr zo_dL_law_304 15 rfl
theorem zo_dL_law_326 : ([(326, .aload_n 0, 1), (327, .iload_n 3, 1), (328, .iconst 1, 1), (329, .iadd, 1), (330, .iaload, 1), (331, .invokevirtual 47, 3), (334, .pop, 1), (335, .goto 591, 3), (338, .aload_n 1, 1), (339, .aload_n 0, 1), (340, .iload_n 3, 1), (341, .iconst 1, 1), (342, .iadd, 1), (343, .iaload, 1), (344, .aload_n 0, 1), (345, .iload_n 3, 1)] : List (Nat × Instr × Nat)).all (dOk (decode cL_law)) = true := by decide +kernel
theorem dL_law_326 : decode cL_law 326 = .ok (.aload_n 0, 1) := dcr zo_dL_law_326 0 rfl
theorem dL_law_327 : decode cL_law 327 = .ok (.iload_n 3, 1) := dcr zo_dL_law_326 1 rfl
theorem dL_law_328 : decode cL_law 328 = .ok (.iconst 1, 1) := dcr zo_dL_law_326 2 rfl
theorem dL_law_329 : decode cL_law 329 = .ok (.iadd, 1) := dcr zo_dL_law_326 3 rfl
theorem dL_law_330 : decode cL_law 330 = .ok (.iaload, 1) := dcr zo_dL_law_326 4 rfl
theorem dL_law_331 : decode cL_law 331 = .ok (.invokevirtual 47, 3) := dcr zo_dL_law_326 5 rfl
theorem dL_law_334 : decode cL_law 334 = .ok (.pop, 1) := dcr zo_dL_law_326 6 rfl
theorem dL_law_335 : decode cL_law 335 = .ok (.goto 591, 3) := dcr zo_dL_law_326 7 rfl
theorem dL_law_338 : decode cL_law 338 = .ok (.aload_n 1, 1) := dcr zo_dL_law_326 8 rfl
theorem dL_law_339 : decode cL_law 339 = .ok (.aload_n 0, 1) := dcr zo_dL_law_326 9 rfl
theorem dL_law_340 : decode cL_law 340 = .ok (.iload_n 3, 1) := dcr zo_dL_law_326 10 rfl
theorem dL_law_341 : decode cL_law 341 = .ok (.iconst 1, 1) := dcr zo_dL_law_326 11 rfl
theorem dL_law_342 : decode cL_law 342 = .ok (.iadd, 1) := dcr zo_dL_law_326 12 rfl
theorem dL_law_343 : decode cL_law 343 = .ok (.iaload, 1) := dcr zo_dL_law_326 13 rfl
theorem dL_law_344 : decode cL_law 344 = .ok (.aload_n 0, 1) := dcr zo_dL_law_326 14 rfl
theorem dL_law_345 : decode cL_law 345 = .ok (.iload_n 3, 1) := dcr zo_dL_law_326 15 rfl
theorem zo_dL_law_346 : ([(346, .iconst 2, 1), (347, .iadd, 1), (348, .iaload, 1), (349, .invokevirtual 48, 3), (352, .pop, 1), (353, .aload_n 2, 1), (354, .aload_n 0, 1), (355, .iload_n 3, 1), (356, .iconst 1, 1), (357, .iadd, 1), (358, .iaload, 1), (359, .aload_n 0, 1), (360, .iload_n 3, 1), (361, .iconst 2, 1), (362, .iadd, 1), (363, .iaload, 1)] : List (Nat × Instr × Nat)).all (dOk (decode cL_law)) = true := by decide +kernel
theorem dL_law_346 : decode cL_law 346 = .ok (.iconst 2, 1) := dcr zo_dL_law_346 0 rfl
theorem dL_law_347 : decode cL_law 347 = .ok (.iadd, 1) := dcr zo_dL_law_346 1 rfl
theorem dL_law_348 : decode cL_law 348 = .ok (.iaload, 1) := dcr zo_dL_law_346 2 rfl
theorem dL_law_349 : decode cL_law 349 = .ok (.invokevirtual 48, 3) := dcr zo_dL_law_346 3 rfl
theorem dL_law_352 : decode cL_law 352 = .ok (.pop, 1) := dcr zo_dL_law_346 4 rfl
theorem dL_law_353 : decode cL_law 353 = .ok (.aload_n 2, 1) := dcr zo_dL_law_346 5 rfl
theorem dL_law_354 : decode cL_law 354 = .ok (.aload_n 0, 1) := dcr zo_dL_law_346 6 rfl
theorem dL_law_355 : decode cL_law 355 = .ok (.iload_n 3, 1) := dcr zo_dL_law_346 7 rfl
theorem dL_law_356 : decode cL_law 356 = .ok (.iconst 1, 1) := dcr zo_dL_law_346 8 rfl
theorem dL_law_357 : decode cL_law 357 = .ok (.iadd, 1) := dcr zo_dL_law_346 9 rfl
theorem dL_law_358 : decode cL_law 358 = .ok (.iaload, 1) := dcr zo_dL_law_346 10 rfl
theorem dL_law_359 : decode cL_law 359 = .ok (.aload_n 0, 1) := dcr zo_dL_law_346 11 rfl
theorem dL_law_360 : decode cL_law 360 = .ok (.iload_n 3, 1) := dcr zo_dL_law_346 12 rfl
theorem dL_law_361 : decode cL_law 361 = .ok (.iconst 2, 1) := dcr zo_dL_law_346 13 rfl
theorem dL_law_362 : decode cL_law 362 = .ok (.iadd, 1) := dcr zo_dL_law_346 14 rfl
theorem dL_law_363 : decode cL_law 363 = .ok (.iaload, 1) := dcr zo_dL_law_346 15 rfl
theorem zo_dL_law_364 : ([(364, .invokevirtual 51, 3), (367, .pop, 1), (368, .goto 558, 3), (371, .aload_n 1, 1), (372, .aload_n 0, 1), (373, .iload_n 3, 1), (374, .iconst 1, 1), (375, .iadd, 1), (376, .iaload, 1), (377, .aload_n 0, 1), (378, .iload_n 3, 1), (379, .iconst 2, 1), (380, .iadd, 1), (381, .iaload, 1), (382, .aload_n 0, 1), (383, .iload_n 3, 1)] : List (Nat × Instr × Nat)).all (dOk (decode cL_law)) = true := by decide +kernel
theorem dL_law_364 : decode cL_law 364 = .ok (.invokevirtual 51, 3) := dcr zo_dL_law_364 0 rfl
theorem dL_law_367 : decode cL_law 367 = .ok (.pop, 1) := dcr zo_dL_law_364 1 rfl
theorem dL_law_368 : decode cL_law 368 = .ok (.goto 558, 3) := dcr zo_dL_law_364 2 rfl
theorem dL_law_371 : decode cL_law 371 = .ok (.aload_n 1, 1) := dcr zo_dL_law_364 3 rfl
theorem dL_law_372 : decode cL_law 372 = .ok (.aload_n 0, 1) := dcr zo_dL_law_364 4 rfl
theorem dL_law_373 : decode cL_law 373 = .ok (.iload_n 3, 1) := dcr zo_dL_law_364 5 rfl
theorem dL_law_374 : decode cL_law 374 = .ok (.iconst 1, 1) := dcr zo_dL_law_364 6 rfl
theorem dL_law_375 : decode cL_law 375 = .ok (.iadd, 1) := dcr zo_dL_law_364 7 rfl
theorem dL_law_376 : decode cL_law 376 = .ok (.iaload, 1) := dcr zo_dL_law_364 8 rfl
theorem dL_law_377 : decode cL_law 377 = .ok (.aload_n 0, 1) := dcr zo_dL_law_364 9 rfl
theorem dL_law_378 : decode cL_law 378 = .ok (.iload_n 3, 1) := dcr zo_dL_law_364 10 rfl
theorem dL_law_379 : decode cL_law 379 = .ok (.iconst 2, 1) := dcr zo_dL_law_364 11 rfl
theorem dL_law_380 : decode cL_law 380 = .ok (.iadd, 1) := dcr zo_dL_law_364 12 rfl
theorem dL_law_381 : decode cL_law 381 = .ok (.iaload, 1) := dcr zo_dL_law_364 13 rfl
theorem dL_law_382 : decode cL_law 382 = .ok (.aload_n 0, 1) := dcr zo_dL_law_364 14 rfl
theorem dL_law_383 : decode cL_law 383 = .ok (.iload_n 3, 1) := dcr zo_dL_law_364 15 rfl
theorem zo_dL_law_384 : ([(384, .iconst 3, 1), (385, .iadd, 1), (386, .iaload, 1), (387, .aload_n 0, 1), (388, .iload_n 3, 1), (389, .iconst 4, 1), (390, .iadd, 1), (391, .iaload, 1), (392, .invokevirtual 52, 3), (395, .pop, 1), (396, .aload_n 2, 1), (397, .aload_n 0, 1), (398, .iload_n 3, 1), (399, .iconst 1, 1), (400, .iadd, 1), (401, .iaload, 1)] : List (Nat × Instr × Nat)).all (dOk (decode cL_law)) = true := by decide +kernel
theorem dL_law_384 : decode cL_law 384 = .ok (.iconst 3, 1) := dcr zo_dL_law_384 0 rfl
theorem dL_law_385 : decode cL_law 385 = .ok (.iadd, 1) := dcr zo_dL_law_384 1 rfl
theorem dL_law_386 : decode cL_law 386 = .ok (.iaload, 1) := dcr zo_dL_law_384 2 rfl
theorem dL_law_387 : decode cL_law 387 = .ok (.aload_n 0, 1) := dcr zo_dL_law_384 3 rfl
theorem dL_law_388 : decode cL_law 388 = .ok (.iload_n 3, 1) := dcr zo_dL_law_384 4 rfl
theorem dL_law_389 : decode cL_law 389 = .ok (.iconst 4, 1) := dcr zo_dL_law_384 5 rfl
theorem dL_law_390 : decode cL_law 390 = .ok (.iadd, 1) := dcr zo_dL_law_384 6 rfl
theorem dL_law_391 : decode cL_law 391 = .ok (.iaload, 1) := dcr zo_dL_law_384 7 rfl
theorem dL_law_392 : decode cL_law 392 = .ok (.invokevirtual 52, 3) := dcr zo_dL_law_384 8 rfl
theorem dL_law_395 : decode cL_law 395 = .ok (.pop, 1) := dcr zo_dL_law_384 9 rfl
theorem dL_law_396 : decode cL_law 396 = .ok (.aload_n 2, 1) := dcr zo_dL_law_384 10 rfl
theorem dL_law_397 : decode cL_law 397 = .ok (.aload_n 0, 1) := dcr zo_dL_law_384 11 rfl
theorem dL_law_398 : decode cL_law 398 = .ok (.iload_n 3, 1) := dcr zo_dL_law_384 12 rfl
theorem dL_law_399 : decode cL_law 399 = .ok (.iconst 1, 1) := dcr zo_dL_law_384 13 rfl
theorem dL_law_400 : decode cL_law 400 = .ok (.iadd, 1) := dcr zo_dL_law_384 14 rfl
theorem dL_law_401 : decode cL_law 401 = .ok (.iaload, 1) := dcr zo_dL_law_384 15 rfl
theorem zo_dL_law_402 : ([(402, .aload_n 0, 1), (403, .iload_n 3, 1), (404, .iconst 2, 1), (405, .iadd, 1), (406, .iaload, 1), (407, .aload_n 0, 1), (408, .iload_n 3, 1), (409, .iconst 3, 1), (410, .iadd, 1), (411, .iaload, 1), (412, .aload_n 0, 1), (413, .iload_n 3, 1), (414, .iconst 4, 1), (415, .iadd, 1), (416, .iaload, 1), (417, .invokevirtual 56, 3)] : List (Nat × Instr × Nat)).all (dOk (decode cL_law)) = true := by decide +kernel
theorem dL_law_402 : decode cL_law 402 = .ok (.aload_n 0, 1) := dcr zo_dL_law_402 0 rfl
theorem dL_law_403 : decode cL_law 403 = .ok (.iload_n 3, 1) := dcr zo_dL_law_402 1 rfl
theorem dL_law_404 : decode cL_law 404 = .ok (.iconst 2, 1) := dcr zo_dL_law_402 2 rfl
theorem dL_law_405 : decode cL_law 405 = .ok (.iadd, 1) := dcr zo_dL_law_402 3 rfl
theorem dL_law_406 : decode cL_law 406 = .ok (.iaload, 1) := dcr zo_dL_law_402 4 rfl
theorem dL_law_407 : decode cL_law 407 = .ok (.aload_n 0, 1) := dcr zo_dL_law_402 5 rfl
theorem dL_law_408 : decode cL_law 408 = .ok (.iload_n 3, 1) := dcr zo_dL_law_402 6 rfl
theorem dL_law_409 : decode cL_law 409 = .ok (.iconst 3, 1) := dcr zo_dL_law_402 7 rfl
theorem dL_law_410 : decode cL_law 410 = .ok (.iadd, 1) := dcr zo_dL_law_402 8 rfl
theorem dL_law_411 : decode cL_law 411 = .ok (.iaload, 1) := dcr zo_dL_law_402 9 rfl
theorem dL_law_412 : decode cL_law 412 = .ok (.aload_n 0, 1) := dcr zo_dL_law_402 10 rfl
theorem dL_law_413 : decode cL_law 413 = .ok (.iload_n 3, 1) := dcr zo_dL_law_402 11 rfl
theorem dL_law_414 : decode cL_law 414 = .ok (.iconst 4, 1) := dcr zo_dL_law_402 12 rfl
theorem dL_law_415 : decode cL_law 415 = .ok (.iadd, 1) := dcr zo_dL_law_402 13 rfl
theorem dL_law_416 : decode cL_law 416 = .ok (.iaload, 1) := dcr zo_dL_law_402 14 rfl
theorem dL_law_417 : decode cL_law 417 = .ok (.invokevirtual 56, 3) := dcr zo_dL_law_402 15 rfl
theorem zo_dL_law_420 : ([(420, .pop, 1), (421, .goto 505, 3), (424, .aload_n 1, 1), (425, .aload_n 0, 1), (426, .iload_n 3, 1), (427, .iconst 1, 1), (428, .iadd, 1), (429, .iaload, 1), (430, .aload_n 0, 1), (431, .iload_n 3, 1), (432, .iconst 2, 1), (433, .iadd, 1), (434, .iaload, 1), (435, .aload_n 0, 1), (436, .iload_n 3, 1), (437, .iconst 3, 1)] : List (Nat × Instr × Nat)).all (dOk (decode cL_law)) = true := by decide +kernel
theorem dL_law_420 : decode cL_law 420 = .ok (.pop, 1) := dcr zo_dL_law_420 0 rfl
theorem dL_law_421 : decode cL_law 421 = .ok (.goto 505, 3) := dcr zo_dL_law_420 1 rfl
theorem dL_law_424 : decode cL_law 424 = .ok (.aload_n 1, 1) := dcr zo_dL_law_420 2 rfl
theorem dL_law_425 : decode cL_law 425 = .ok (.aload_n 0, 1) := dcr zo_dL_law_420 3 rfl
theorem dL_law_426 : decode cL_law 426 = .ok (.iload_n 3, 1) := dcr zo_dL_law_420 4 rfl
theorem dL_law_427 : decode cL_law 427 = .ok (.iconst 1, 1) := dcr zo_dL_law_420 5 rfl
theorem dL_law_428 : decode cL_law 428 = .ok (.iadd, 1) := dcr zo_dL_law_420 6 rfl
theorem dL_law_429 : decode cL_law 429 = .ok (.iaload, 1) := dcr zo_dL_law_420 7 rfl
theorem dL_law_430 : decode cL_law 430 = .ok (.aload_n 0, 1) := dcr zo_dL_law_420 8 rfl
theorem dL_law_431 : decode cL_law 431 = .ok (.iload_n 3, 1) := dcr zo_dL_law_420 9 rfl
theorem dL_law_432 : decode cL_law 432 = .ok (.iconst 2, 1) := dcr zo_dL_law_420 10 rfl
theorem dL_law_433 : decode cL_law 433 = .ok (.iadd, 1) := dcr zo_dL_law_420 11 rfl
theorem dL_law_434 : decode cL_law 434 = .ok (.iaload, 1) := dcr zo_dL_law_420 12 rfl
theorem dL_law_435 : decode cL_law 435 = .ok (.aload_n 0, 1) := dcr zo_dL_law_420 13 rfl
theorem dL_law_436 : decode cL_law 436 = .ok (.iload_n 3, 1) := dcr zo_dL_law_420 14 rfl
theorem dL_law_437 : decode cL_law 437 = .ok (.iconst 3, 1) := dcr zo_dL_law_420 15 rfl
theorem zo_dL_law_438 : ([(438, .iadd, 1), (439, .iaload, 1), (440, .invokevirtual 57, 3), (443, .pop, 1), (444, .aload_n 2, 1), (445, .aload_n 0, 1), (446, .iload_n 3, 1), (447, .iconst 1, 1), (448, .iadd, 1), (449, .iaload, 1), (450, .aload_n 0, 1), (451, .iload_n 3, 1), (452, .iconst 2, 1), (453, .iadd, 1), (454, .iaload, 1), (455, .aload_n 0, 1)] : List (Nat × Instr × Nat)).all (dOk (decode cL_law)) = true := by decide +kernel
theorem dL_law_438 : decode cL_law 438 = .ok (.iadd, 1) := dcr zo_dL_law_438 0 rfl
theorem dL_law_439 : decode cL_law 439 = .ok (.iaload, 1) := dcr zo_dL_law_438 1 rfl
theorem dL_law_440 : decode cL_law 440 = .ok (.invokevirtual 57, 3) := dcr zo_dL_law_438 2 rfl
theorem dL_law_443 : decode cL_law 443 = .ok (.pop, 1) := dcr zo_dL_law_438 3 rfl
theorem dL_law_444 : decode cL_law 444 = .ok (.aload_n 2, 1) := dcr zo_dL_law_438 4 rfl
theorem dL_law_445 : decode cL_law 445 = .ok (.aload_n 0, 1) := dcr zo_dL_law_438 5 rfl
theorem dL_law_446 : decode cL_law 446 = .ok (.iload_n 3, 1) := dcr zo_dL_law_438 6 rfl
theorem dL_law_447 : decode cL_law 447 = .ok (.iconst 1, 1) := dcr zo_dL_law_438 7 rfl
theorem dL_law_448 : decode cL_law 448 = .ok (.iadd, 1) := dcr zo_dL_law_438 8 rfl
theorem dL_law_449 : decode cL_law 449 = .ok (.iaload, 1) := dcr zo_dL_law_438 9 rfl
theorem dL_law_450 : decode cL_law 450 = .ok (.aload_n 0, 1) := dcr zo_dL_law_438 10 rfl
theorem dL_law_451 : decode cL_law 451 = .ok (.iload_n 3, 1) := dcr zo_dL_law_438 11 rfl
theorem dL_law_452 : decode cL_law 452 = .ok (.iconst 2, 1) := dcr zo_dL_law_438 12 rfl
theorem dL_law_453 : decode cL_law 453 = .ok (.iadd, 1) := dcr zo_dL_law_438 13 rfl
theorem dL_law_454 : decode cL_law 454 = .ok (.iaload, 1) := dcr zo_dL_law_438 14 rfl
theorem dL_law_455 : decode cL_law 455 = .ok (.aload_n 0, 1) := dcr zo_dL_law_438 15 rfl
theorem zo_dL_law_456 : ([(456, .iload_n 3, 1), (457, .iconst 3, 1), (458, .iadd, 1), (459, .iaload, 1), (460, .invokevirtual 61, 3), (463, .pop, 1), (464, .goto 462, 3), (467, .aload_n 1, 1), (468, .aload_n 0, 1), (469, .iload_n 3, 1), (470, .iconst 1, 1), (471, .iadd, 1), (472, .iaload, 1), (473, .aload_n 0, 1), (474, .iload_n 3, 1), (475, .iconst 2, 1)] : List (Nat × Instr × Nat)).all (dOk (decode cL_law)) = true := by decide +kernel
theorem dL_law_456 : decode cL_law 456 = .ok (.iload_n 3, 1) := dcr zo_dL_law_456 0 rfl
theorem dL_law_457 : decode cL_law 457 = .ok (.iconst 3, 1) := dcr zo_dL_law_456 1 rfl
theorem dL_law_458 : decode cL_law 458 = .ok (.iadd, 1) := dcr zo_dL_law_456 2 rfl
theorem dL_law_459 : decode cL_law 459 = .ok (.iaload, 1) := dcr zo_dL_law_456 3 rfl
theorem dL_law_460 : decode cL_law 460 = .ok (.invokevirtual 61, 3) := dcr zo_dL_law_456 4 rfl
theorem dL_law_463 : decode cL_law 463 = .ok (.pop, 1) := dcr zo_dL_law_456 5 rfl
theorem dL_law_464 : decode cL_law 464 = .ok (.goto 462, 3) := dcr zo_dL_law_456 6 rfl
theorem dL_law_467 : decode cL_law 467 = .ok (.aload_n 1, 1) := dcr zo_dL_law_456 7 rfl
theorem dL_law_468 : decode cL_law 468 = .ok (.aload_n 0, 1) := dcr zo_dL_law_456 8 rfl
theorem dL_law_469 : decode cL_law 469 = .ok (.iload_n 3, 1) := dcr zo_dL_law_456 9 rfl
theorem dL_law_470 : decode cL_law 470 = .ok (.iconst 1, 1) := dcr zo_dL_law_456 10 rfl
theorem dL_law_471 : decode cL_law 471 = .ok (.iadd, 1) := dcr zo_dL_law_456 11 rfl
theorem dL_law_472 : decode cL_law 472 = .ok (.iaload, 1) := dcr zo_dL_law_456 12 rfl
theorem dL_law_473 : decode cL_law 473 = .ok (.aload_n 0, 1) := dcr zo_dL_law_456 13 rfl
theorem dL_law_474 : decode cL_law 474 = .ok (.iload_n 3, 1) := dcr zo_dL_law_456 14 rfl
theorem dL_law_475 : decode cL_law 475 = .ok (.iconst 2, 1) := dcr zo_dL_law_456 15 rfl
theorem zo_dL_law_476 : ([(476, .iadd, 1), (477, .iaload, 1), (478, .aload_n 0, 1), (479, .iload_n 3, 1), (480, .iconst 3, 1), (481, .iadd, 1), (482, .iaload, 1), (483, .aload_n 0, 1), (484, .iload_n 3, 1), (485, .iconst 4, 1), (486, .iadd, 1), (487, .iaload, 1), (488, .invokevirtual 62, 3), (491, .pop, 1), (492, .aload_n 2, 1), (493, .aload_n 0, 1)] : List (Nat × Instr × Nat)).all (dOk (decode cL_law)) = true := by decide +kernel
theorem dL_law_476 : decode cL_law 476 = .ok (.iadd, 1) := dcr zo_dL_law_476 0 rfl
theorem dL_law_477 : decode cL_law 477 = .ok (.iaload, 1) := dcr zo_dL_law_476 1 rfl
theorem dL_law_478 : decode cL_law 478 = .ok (.aload_n 0, 1) := dcr zo_dL_law_476 2 rfl
theorem dL_law_479 : decode cL_law 479 = .ok (.iload_n 3, 1) := dcr zo_dL_law_476 3 rfl
theorem dL_law_480 : decode cL_law 480 = .ok (.iconst 3, 1) := dcr zo_dL_law_476 4 rfl
theorem dL_law_481 : decode cL_law 481 = .ok (.iadd, 1) := dcr zo_dL_law_476 5 rfl
theorem dL_law_482 : decode cL_law 482 = .ok (.iaload, 1) := dcr zo_dL_law_476 6 rfl
theorem dL_law_483 : decode cL_law 483 = .ok (.aload_n 0, 1) := dcr zo_dL_law_476 7 rfl
theorem dL_law_484 : decode cL_law 484 = .ok (.iload_n 3, 1) := dcr zo_dL_law_476 8 rfl
theorem dL_law_485 : decode cL_law 485 = .ok (.iconst 4, 1) := dcr zo_dL_law_476 9 rfl
theorem dL_law_486 : decode cL_law 486 = .ok (.iadd, 1) := dcr zo_dL_law_476 10 rfl
theorem dL_law_487 : decode cL_law 487 = .ok (.iaload, 1) := dcr zo_dL_law_476 11 rfl
theorem dL_law_488 : decode cL_law 488 = .ok (.invokevirtual 62, 3) := dcr zo_dL_law_476 12 rfl
theorem dL_law_491 : decode cL_law 491 = .ok (.pop, 1) := dcr zo_dL_law_476 13 rfl
theorem dL_law_492 : decode cL_law 492 = .ok (.aload_n 2, 1) := dcr zo_dL_law_476 14 rfl
theorem dL_law_493 : decode cL_law 493 = .ok (.aload_n 0, 1) := dcr zo_dL_law_476 15 rfl
theorem zo_dL_law_494 : ([(494, .iload_n 3, 1), (495, .iconst 1, 1), (496, .iadd, 1), (497, .iaload, 1), (498, .aload_n 0, 1), (499, .iload_n 3, 1), (500, .iconst 2, 1), (501, .iadd, 1), (502, .iaload, 1), (503, .aload_n 0, 1), (504, .iload_n 3, 1), (505, .iconst 3, 1), (506, .iadd, 1), (507, .iaload, 1), (508, .aload_n 0, 1), (509, .iload_n 3, 1)] : List (Nat × Instr × Nat)).all (dOk (decode cL_law)) = true := by decide +kernel
theorem dL_law_494 : decode cL_law 494 = .ok (.iload_n 3, 1) := dcr zo_dL_law_494 0 rfl
theorem dL_law_495 : decode cL_law 495 = .ok (.iconst 1, 1) := dcr zo_dL_law_494 1 rfl
theorem dL_law_496 : decode cL_law 496 = .ok (.iadd, 1) := dcr zo_dL_law_494 2 rfl
theorem dL_law_497 : decode cL_law 497 = .ok (.iaload, 1) := dcr zo_dL_law_494 3 rfl
theorem dL_law_498 : decode cL_law 498 = .ok (.aload_n 0, 1) := dcr zo_dL_law_494 4 rfl
theorem dL_law_499 : decode cL_law 499 = .ok (.iload_n 3, 1) := dcr zo_dL_law_494 5 rfl
theorem dL_law_500 : decode cL_law 500 = .ok (.iconst 2, 1) := dcr zo_dL_law_494 6 rfl
theorem dL_law_501 : decode cL_law 501 = .ok (.iadd, 1) := dcr zo_dL_law_494 7 rfl
theorem dL_law_502 : decode cL_law 502 = .ok (.iaload, 1) := dcr zo_dL_law_494 8 rfl
theorem dL_law_503 : decode cL_law 503 = .ok (.aload_n 0, 1) := dcr zo_dL_law_494 9 rfl
theorem dL_law_504 : decode cL_law 504 = .ok (.iload_n 3, 1) := dcr zo_dL_law_494 10 rfl
theorem dL_law_505 : decode cL_law 505 = .ok (.iconst 3, 1) := dcr zo_dL_law_494 11 rfl
theorem dL_law_506 : decode cL_law 506 = .ok (.iadd, 1) := dcr zo_dL_law_494 12 rfl
theorem dL_law_507 : decode cL_law 507 = .ok (.iaload, 1) := dcr zo_dL_law_494 13 rfl
theorem dL_law_508 : decode cL_law 508 = .ok (.aload_n 0, 1) := dcr zo_dL_law_494 14 rfl
theorem dL_law_509 : decode cL_law 509 = .ok (.iload_n 3, 1) := dcr zo_dL_law_494 15 rfl
theorem zo_dL_law_510 : ([(510, .iconst 4, 1), (511, .iadd, 1), (512, .iaload, 1), (513, .invokevirtual 65, 3), (516, .pop, 1), (517, .goto 409, 3), (520, .aload_n 1, 1), (521, .aload_n 0, 1), (522, .iload_n 3, 1), (523, .iconst 1, 1), (524, .iadd, 1), (525, .iaload, 1), (526, .aload_n 0, 1), (527, .iload_n 3, 1), (528, .iconst 2, 1), (529, .iadd, 1)] : List (Nat × Instr × Nat)).all (dOk (decode cL_law)) = true := by decide +kernel
theorem dL_law_510 : decode cL_law 510 = .ok (.iconst 4, 1) := dcr zo_dL_law_510 0 rfl
theorem dL_law_511 : decode cL_law 511 = .ok (.iadd, 1) := dcr zo_dL_law_510 1 rfl
theorem dL_law_512 : decode cL_law 512 = .ok (.iaload, 1) := dcr zo_dL_law_510 2 rfl
theorem dL_law_513 : decode cL_law 513 = .ok (.invokevirtual 65, 3) := dcr zo_dL_law_510 3 rfl
theorem dL_law_516 : decode cL_law 516 = .ok (.pop, 1) := dcr zo_dL_law_510 4 rfl
theorem dL_law_517 : decode cL_law 517 = .ok (.goto 409, 3) := dcr zo_dL_law_510 5 rfl
theorem dL_law_520 : decode cL_law 520 = .ok (.aload_n 1, 1) := dcr zo_dL_law_510 6 rfl
theorem dL_law_521 : decode cL_law 521 = .ok (.aload_n 0, 1) := dcr zo_dL_law_510 7 rfl
theorem dL_law_522 : decode cL_law 522 = .ok (.iload_n 3, 1) := dcr zo_dL_law_510 8 rfl
theorem dL_law_523 : decode cL_law 523 = .ok (.iconst 1, 1) := dcr zo_dL_law_510 9 rfl
theorem dL_law_524 : decode cL_law 524 = .ok (.iadd, 1) := dcr zo_dL_law_510 10 rfl
theorem dL_law_525 : decode cL_law 525 = .ok (.iaload, 1) := dcr zo_dL_law_510 11 rfl
theorem dL_law_526 : decode cL_law 526 = .ok (.aload_n 0, 1) := dcr zo_dL_law_510 12 rfl
theorem dL_law_527 : decode cL_law 527 = .ok (.iload_n 3, 1) := dcr zo_dL_law_510 13 rfl
theorem dL_law_528 : decode cL_law 528 = .ok (.iconst 2, 1) := dcr zo_dL_law_510 14 rfl
theorem dL_law_529 : decode cL_law 529 = .ok (.iadd, 1) := dcr zo_dL_law_510 15 rfl
theorem zo_dL_law_530 : ([(530, .iaload, 1), (531, .aload_n 0, 1), (532, .iload_n 3, 1), (533, .iconst 3, 1), (534, .iadd, 1), (535, .iaload, 1), (536, .invokevirtual 66, 3), (539, .pop, 1), (540, .aload_n 2, 1), (541, .aload_n 0, 1), (542, .iload_n 3, 1), (543, .iconst 1, 1), (544, .iadd, 1), (545, .iaload, 1), (546, .aload_n 0, 1), (547, .iload_n 3, 1)] : List (Nat × Instr × Nat)).all (dOk (decode cL_law)) = true := by decide +kernel
theorem dL_law_530 : decode cL_law 530 = .ok (.iaload, 1) := dcr zo_dL_law_530 0 rfl
theorem dL_law_531 : decode cL_law 531 = .ok (.aload_n 0, 1) := dcr zo_dL_law_530 1 rfl
theorem dL_law_532 : decode cL_law 532 = .ok (.iload_n 3, 1) := dcr zo_dL_law_530 2 rfl
theorem dL_law_533 : decode cL_law 533 = .ok (.iconst 3, 1) := dcr zo_dL_law_530 3 rfl
theorem dL_law_534 : decode cL_law 534 = .ok (.iadd, 1) := dcr zo_dL_law_530 4 rfl
theorem dL_law_535 : decode cL_law 535 = .ok (.iaload, 1) := dcr zo_dL_law_530 5 rfl
theorem dL_law_536 : decode cL_law 536 = .ok (.invokevirtual 66, 3) := dcr zo_dL_law_530 6 rfl
theorem dL_law_539 : decode cL_law 539 = .ok (.pop, 1) := dcr zo_dL_law_530 7 rfl
theorem dL_law_540 : decode cL_law 540 = .ok (.aload_n 2, 1) := dcr zo_dL_law_530 8 rfl
theorem dL_law_541 : decode cL_law 541 = .ok (.aload_n 0, 1) := dcr zo_dL_law_530 9 rfl
theorem dL_law_542 : decode cL_law 542 = .ok (.iload_n 3, 1) := dcr zo_dL_law_530 10 rfl
theorem dL_law_543 : decode cL_law 543 = .ok (.iconst 1, 1) := dcr zo_dL_law_530 11 rfl
theorem dL_law_544 : decode cL_law 544 = .ok (.iadd, 1) := dcr zo_dL_law_530 12 rfl
theorem dL_law_545 : decode cL_law 545 = .ok (.iaload, 1) := dcr zo_dL_law_530 13 rfl
theorem dL_law_546 : decode cL_law 546 = .ok (.aload_n 0, 1) := dcr zo_dL_law_530 14 rfl
theorem dL_law_547 : decode cL_law 547 = .ok (.iload_n 3, 1) := dcr zo_dL_law_530 15 rfl
theorem zo_dL_law_548 : ([(548, .iconst 2, 1), (549, .iadd, 1), (550, .iaload, 1), (551, .aload_n 0, 1), (552, .iload_n 3, 1), (553, .iconst 3, 1), (554, .iadd, 1), (555, .iaload, 1), (556, .invokevirtual 69, 3), (559, .pop, 1), (560, .goto 366, 3), (563, .aload_n 1, 1), (564, .aload_n 0, 1), (565, .iload_n 3, 1), (566, .iconst 1, 1), (567, .iadd, 1)] : List (Nat × Instr × Nat)).all (dOk (decode cL_law)) = true := by decide +kernel
theorem dL_law_548 : decode cL_law 548 = .ok (.iconst 2, 1) := dcr zo_dL_law_548 0 rfl
theorem dL_law_549 : decode cL_law 549 = .ok (.iadd, 1) := dcr zo_dL_law_548 1 rfl
theorem dL_law_550 : decode cL_law 550 = .ok (.iaload, 1) := dcr zo_dL_law_548 2 rfl
theorem dL_law_551 : decode cL_law 551 = .ok (.aload_n 0, 1) := dcr zo_dL_law_548 3 rfl
theorem dL_law_552 : decode cL_law 552 = .ok (.iload_n 3, 1) := dcr zo_dL_law_548 4 rfl
theorem dL_law_553 : decode cL_law 553 = .ok (.iconst 3, 1) := dcr zo_dL_law_548 5 rfl
theorem dL_law_554 : decode cL_law 554 = .ok (.iadd, 1) := dcr zo_dL_law_548 6 rfl
theorem dL_law_555 : decode cL_law 555 = .ok (.iaload, 1) := dcr zo_dL_law_548 7 rfl
theorem dL_law_556 : decode cL_law 556 = .ok (.invokevirtual 69, 3) := dcr zo_dL_law_548 8 rfl
theorem dL_law_559 : decode cL_law 559 = .ok (.pop, 1) := dcr zo_dL_law_548 9 rfl
theorem dL_law_560 : decode cL_law 560 = .ok (.goto 366, 3) := dcr zo_dL_law_548 10 rfl
theorem dL_law_563 : decode cL_law 563 = .ok (.aload_n 1, 1) := dcr zo_dL_law_548 11 rfl
theorem dL_law_564 : decode cL_law 564 = .ok (.aload_n 0, 1) := dcr zo_dL_law_548 12 rfl
theorem dL_law_565 : decode cL_law 565 = .ok (.iload_n 3, 1) := dcr zo_dL_law_548 13 rfl
theorem dL_law_566 : decode cL_law 566 = .ok (.iconst 1, 1) := dcr zo_dL_law_548 14 rfl
theorem dL_law_567 : decode cL_law 567 = .ok (.iadd, 1) := dcr zo_dL_law_548 15 rfl
theorem zo_dL_law_568 : ([(568, .iaload, 1), (569, .aload_n 0, 1), (570, .iload_n 3, 1), (571, .iconst 2, 1), (572, .iadd, 1), (573, .iaload, 1), (574, .aload_n 0, 1), (575, .iload_n 3, 1), (576, .iconst 3, 1), (577, .iadd, 1), (578, .iaload, 1), (579, .invokevirtual 70, 3), (582, .pop, 1), (583, .aload_n 2, 1), (584, .aload_n 0, 1), (585, .iload_n 3, 1)] : List (Nat × Instr × Nat)).all (dOk (decode cL_law)) = true := by decide +kernel
theorem dL_law_568 : decode cL_law 568 = .ok (.iaload, 1) := dcr zo_dL_law_568 0 rfl
theorem dL_law_569 : decode cL_law 569 = .ok (.aload_n 0, 1) := dcr zo_dL_law_568 1 rfl
theorem dL_law_570 : decode cL_law 570 = .ok (.iload_n 3, 1) := dcr zo_dL_law_568 2 rfl
theorem dL_law_571 : decode cL_law 571 = .ok (.iconst 2, 1) := dcr zo_dL_law_568 3 rfl
theorem dL_law_572 : decode cL_law 572 = .ok (.iadd, 1) := dcr zo_dL_law_568 4 rfl
theorem dL_law_573 : decode cL_law 573 = .ok (.iaload, 1) := dcr zo_dL_law_568 5 rfl
theorem dL_law_574 : decode cL_law 574 = .ok (.aload_n 0, 1) := dcr zo_dL_law_568 6 rfl
theorem dL_law_575 : decode cL_law 575 = .ok (.iload_n 3, 1) := dcr zo_dL_law_568 7 rfl
theorem dL_law_576 : decode cL_law 576 = .ok (.iconst 3, 1) := dcr zo_dL_law_568 8 rfl
theorem dL_law_577 : decode cL_law 577 = .ok (.iadd, 1) := dcr zo_dL_law_568 9 rfl
theorem dL_law_578 : decode cL_law 578 = .ok (.iaload, 1) := dcr zo_dL_law_568 10 rfl
theorem dL_law_579 : decode cL_law 579 = .ok (.invokevirtual 70, 3) := dcr zo_dL_law_568 11 rfl
theorem dL_law_582 : decode cL_law 582 = .ok (.pop, 1) := dcr zo_dL_law_568 12 rfl
theorem dL_law_583 : decode cL_law 583 = .ok (.aload_n 2, 1) := dcr zo_dL_law_568 13 rfl
theorem dL_law_584 : decode cL_law 584 = .ok (.aload_n 0, 1) := dcr zo_dL_law_568 14 rfl
theorem dL_law_585 : decode cL_law 585 = .ok (.iload_n 3, 1) := dcr zo_dL_law_568 15 rfl
theorem zo_dL_law_586 : ([(586, .iconst 1, 1), (587, .iadd, 1), (588, .iaload, 1), (589, .aload_n 0, 1), (590, .iload_n 3, 1), (591, .iconst 2, 1), (592, .iadd, 1), (593, .iaload, 1), (594, .aload_n 0, 1), (595, .iload_n 3, 1), (596, .iconst 3, 1), (597, .iadd, 1), (598, .iaload, 1), (599, .invokevirtual 73, 3), (602, .pop, 1), (603, .goto 323, 3)] : List (Nat × Instr × Nat)).all (dOk (decode cL_law)) = true := by decide +kernel
theorem dL_law_586 : decode cL_law 586 = .ok (.iconst 1, 1) := dcr zo_dL_law_586 0 rfl
theorem dL_law_587 : decode cL_law 587 = .ok (.iadd, 1) := dcr zo_dL_law_586 1 rfl
theorem dL_law_588 : decode cL_law 588 = .ok (.iaload, 1) := dcr zo_dL_law_586 2 rfl
theorem dL_law_589 : decode cL_law 589 = .ok (.aload_n 0, 1) := dcr zo_dL_law_586 3 rfl
theorem dL_law_590 : decode cL_law 590 = .ok (.iload_n 3, 1) := dcr zo_dL_law_586 4 rfl
theorem dL_law_591 : decode cL_law 591 = .ok (.iconst 2, 1) := dcr zo_dL_law_586 5 rfl
theorem dL_law_592 : decode cL_law 592 = .ok (.iadd, 1) := dcr zo_dL_law_586 6 rfl
theorem dL_law_593 : decode cL_law 593 = .ok (.iaload, 1) := dcr zo_dL_law_586 7 rfl
theorem dL_law_594 : decode cL_law 594 = .ok (.aload_n 0, 1) := dcr zo_dL_law_586 8 rfl
theorem dL_law_595 : decode cL_law 595 = .ok (.iload_n 3, 1) := dcr zo_dL_law_586 9 rfl
theorem dL_law_596 : decode cL_law 596 = .ok (.iconst 3, 1) := dcr zo_dL_law_586 10 rfl
theorem dL_law_597 : decode cL_law 597 = .ok (.iadd, 1) := dcr zo_dL_law_586 11 rfl
theorem dL_law_598 : decode cL_law 598 = .ok (.iaload, 1) := dcr zo_dL_law_586 12 rfl
theorem dL_law_599 : decode cL_law 599 = .ok (.invokevirtual 73, 3) := dcr zo_dL_law_586 13 rfl
theorem dL_law_602 : decode cL_law 602 = .ok (.pop, 1) := dcr zo_dL_law_586 14 rfl
theorem dL_law_603 : decode cL_law 603 = .ok (.goto 323, 3) := dcr zo_dL_law_586 15 rfl
theorem zo_dL_law_606 : ([(606, .aload_n 1, 1), (607, .aload_n 0, 1), (608, .iload_n 3, 1), (609, .iconst 1, 1), (610, .iadd, 1), (611, .iaload, 1), (612, .aload_n 0, 1), (613, .iload_n 3, 1), (614, .iconst 2, 1), (615, .iadd, 1), (616, .iaload, 1), (617, .aload_n 0, 1), (618, .iload_n 3, 1), (619, .iconst 3, 1), (620, .iadd, 1), (621, .iaload, 1)] : List (Nat × Instr × Nat)).all (dOk (decode cL_law)) = true := by decide +kernel
theorem dL_law_606 : decode cL_law 606 = .ok (.aload_n 1, 1) := dcr zo_dL_law_606 0 rfl
theorem dL_law_607 : decode cL_law 607 = .ok (.aload_n 0, 1) := dcr zo_dL_law_606 1 rfl
theorem dL_law_608 : decode cL_law 608 = .ok (.iload_n 3, 1) := dcr zo_dL_law_606 2 rfl
theorem dL_law_609 : decode cL_law 609 = .ok (.iconst 1, 1) := dcr zo_dL_law_606 3 rfl
theorem dL_law_610 : decode cL_law 610 = .ok (.iadd, 1) := dcr zo_dL_law_606 4 rfl
theorem dL_law_611 : decode cL_law 611 = .ok (.iaload, 1) := dcr zo_dL_law_606 5 rfl
theorem dL_law_612 : decode cL_law 612 = .ok (.aload_n 0, 1) := dcr zo_dL_law_606 6 rfl
theorem dL_law_613 : decode cL_law 613 = .ok (.iload_n 3, 1) := dcr zo_dL_law_606 7 rfl
theorem dL_law_614 : decode cL_law 614 = .ok (.iconst 2, 1) := dcr zo_dL_law_606 8 rfl
theorem dL_law_615 : decode cL_law 615 = .ok (.iadd, 1) := dcr zo_dL_law_606 9 rfl
theorem dL_law_616 : decode cL_law 616 = .ok (.iaload, 1) := dcr zo_dL_law_606 10 rfl
theorem dL_law_617 : decode cL_law 617 = .ok (.aload_n 0, 1) := dcr zo_dL_law_606 11 rfl
theorem dL_law_618 : decode cL_law 618 = .ok (.iload_n 3, 1) := dcr zo_dL_law_606 12 rfl
theorem dL_law_619 : decode cL_law 619 = .ok (.iconst 3, 1) := dcr zo_dL_law_606 13 rfl
theorem dL_law_620 : decode cL_law 620 = .ok (.iadd, 1) := dcr zo_dL_law_606 14 rfl
theorem dL_law_621 : decode cL_law 621 = .ok (.iaload, 1) := dcr zo_dL_law_606 15 rfl
theorem zo_dL_law_622 : ([(622, .aload_n 0, 1), (623, .iload_n 3, 1), (624, .iconst 4, 1), (625, .iadd, 1), (626, .iaload, 1), (627, .invokevirtual 74, 3), (630, .aload_n 2, 1), (631, .aload_n 0, 1), (632, .iload_n 3, 1), (633, .iconst 1, 1), (634, .iadd, 1), (635, .iaload, 1), (636, .aload_n 0, 1), (637, .iload_n 3, 1), (638, .iconst 2, 1), (639, .iadd, 1)] : List (Nat × Instr × Nat)).all (dOk (decode cL_law)) = true := by decide +kernel
theorem dL_law_622 : decode cL_law 622 = .ok (.aload_n 0, 1) := dcr zo_dL_law_622 0 rfl
theorem dL_law_623 : decode cL_law 623 = .ok (.iload_n 3, 1) := dcr zo_dL_law_622 1 rfl
theorem dL_law_624 : decode cL_law 624 = .ok (.iconst 4, 1) := dcr zo_dL_law_622 2 rfl
theorem dL_law_625 : decode cL_law 625 = .ok (.iadd, 1) := dcr zo_dL_law_622 3 rfl
theorem dL_law_626 : decode cL_law 626 = .ok (.iaload, 1) := dcr zo_dL_law_622 4 rfl
theorem dL_law_627 : decode cL_law 627 = .ok (.invokevirtual 74, 3) := dcr zo_dL_law_622 5 rfl
theorem dL_law_630 : decode cL_law 630 = .ok (.aload_n 2, 1) := dcr zo_dL_law_622 6 rfl
theorem dL_law_631 : decode cL_law 631 = .ok (.aload_n 0, 1) := dcr zo_dL_law_622 7 rfl
theorem dL_law_632 : decode cL_law 632 = .ok (.iload_n 3, 1) := dcr zo_dL_law_622 8 rfl
theorem dL_law_633 : decode cL_law 633 = .ok (.iconst 1, 1) := dcr zo_dL_law_622 9 rfl
theorem dL_law_634 : decode cL_law 634 = .ok (.iadd, 1) := dcr zo_dL_law_622 10 rfl
theorem dL_law_635 : decode cL_law 635 = .ok (.iaload, 1) := dcr zo_dL_law_622 11 rfl
theorem dL_law_636 : decode cL_law 636 = .ok (.aload_n 0, 1) := dcr zo_dL_law_622 12 rfl
theorem dL_law_637 : decode cL_law 637 = .ok (.iload_n 3, 1) := dcr zo_dL_law_622 13 rfl
theorem dL_law_638 : decode cL_law 638 = .ok (.iconst 2, 1) := dcr zo_dL_law_622 14 rfl
theorem dL_law_639 : decode cL_law 639 = .ok (.iadd, 1) := dcr zo_dL_law_622 15 rfl
theorem zo_dL_law_640 : ([(640, .iaload, 1), (641, .aload_n 0, 1), (642, .iload_n 3, 1), (643, .iconst 3, 1), (644, .iadd, 1), (645, .iaload, 1), (646, .aload_n 0, 1), (647, .iload_n 3, 1), (648, .iconst 4, 1), (649, .iadd, 1), (650, .iaload, 1), (651, .invokevirtual 77, 3), (654, .if_icmp .eq 272, 3), (657, .iconst 0, 1), (658, .ireturn, 1), (659, .aload_n 1, 1)] : List (Nat × Instr × Nat)).all (dOk (decode cL_law)) = true := by decide +kernel
theorem dL_law_640 : decode cL_law 640 = .ok (.iaload, 1) := dcr zo_dL_law_640 0 rfl
theorem dL_law_641 : decode cL_law 641 = .ok (.aload_n 0, 1) := dcr zo_dL_law_640 1 rfl
theorem dL_law_642 : decode cL_law 642 = .ok (.iload_n 3, 1) := dcr zo_dL_law_640 2 rfl
theorem dL_law_643 : decode cL_law 643 = .ok (.iconst 3, 1) := dcr zo_dL_law_640 3 rfl
theorem dL_law_644 : decode cL_law 644 = .ok (.iadd, 1) := dcr zo_dL_law_640 4 rfl
theorem dL_law_645 : decode cL_law 645 = .ok (.iaload, 1) := dcr zo_dL_law_640 5 rfl
theorem dL_law_646 : decode cL_law 646 = .ok (.aload_n 0, 1) := dcr zo_dL_law_640 6 rfl
theorem dL_law_647 : decode cL_law 647 = .ok (.iload_n 3, 1) := dcr zo_dL_law_640 7 rfl
theorem dL_law_648 : decode cL_law 648 = .ok (.iconst 4, 1) := dcr zo_dL_law_640 8 rfl
theorem dL_law_649 : decode cL_law 649 = .ok (.iadd, 1) := dcr zo_dL_law_640 9 rfl
theorem dL_law_650 : decode cL_law 650 = .ok (.iaload, 1) := dcr zo_dL_law_640 10 rfl
theorem dL_law_651 : decode cL_law 651 = .ok (.invokevirtual 77, 3) := dcr zo_dL_law_640 11 rfl
theorem dL_law_654 : decode cL_law 654 = .ok (.if_icmp .eq 272, 3) := dcr zo_dL_law_640 12 rfl
theorem dL_law_659 : decode cL_law 659 = .ok (.aload_n 1, 1) := dcr zo_dL_law_640 15 rfl
theorem zo_dL_law_660 : ([(660, .aload_n 0, 1), (661, .iload_n 3, 1), (662, .iconst 1, 1), (663, .iadd, 1), (664, .iaload, 1), (665, .aload_n 0, 1), (666, .iload_n 3, 1), (667, .iconst 2, 1), (668, .iadd, 1), (669, .iaload, 1), (670, .invokevirtual 78, 3), (673, .pop, 1), (674, .aload_n 2, 1), (675, .aload_n 0, 1), (676, .iload_n 3, 1), (677, .iconst 1, 1)] : List (Nat × Instr × Nat)).all (dOk (decode cL_law)) = true := by decide +kernel
theorem dL_law_660 : decode cL_law 660 = .ok (.aload_n 0, 1) := dcr zo_dL_law_660 0 rfl
theorem dL_law_661 : decode cL_law 661 = .ok (.iload_n 3, 1) := dcr zo_dL_law_660 1 rfl
theorem dL_law_662 : decode cL_law 662 = .ok (.iconst 1, 1) := dcr zo_dL_law_660 2 rfl
theorem dL_law_663 : decode cL_law 663 = .ok (.iadd, 1) := dcr zo_dL_law_660 3 rfl
theorem dL_law_664 : decode cL_law 664 = .ok (.iaload, 1) := dcr zo_dL_law_660 4 rfl
theorem dL_law_665 : decode cL_law 665 = .ok (.aload_n 0, 1) := dcr zo_dL_law_660 5 rfl
theorem dL_law_666 : decode cL_law 666 = .ok (.iload_n 3, 1) := dcr zo_dL_law_660 6 rfl
theorem dL_law_667 : decode cL_law 667 = .ok (.iconst 2, 1) := dcr zo_dL_law_660 7 rfl
theorem dL_law_668 : decode cL_law 668 = .ok (.iadd, 1) := dcr zo_dL_law_660 8 rfl
theorem dL_law_669 : decode cL_law 669 = .ok (.iaload, 1) := dcr zo_dL_law_660 9 rfl
theorem dL_law_670 : decode cL_law 670 = .ok (.invokevirtual 78, 3) := dcr zo_dL_law_660 10 rfl
theorem dL_law_673 : decode cL_law 673 = .ok (.pop, 1) := dcr zo_dL_law_660 11 rfl
theorem dL_law_674 : decode cL_law 674 = .ok (.aload_n 2, 1) := dcr zo_dL_law_660 12 rfl
theorem dL_law_675 : decode cL_law 675 = .ok (.aload_n 0, 1) := dcr zo_dL_law_660 13 rfl
theorem dL_law_676 : decode cL_law 676 = .ok (.iload_n 3, 1) := dcr zo_dL_law_660 14 rfl
theorem dL_law_677 : decode cL_law 677 = .ok (.iconst 1, 1) := dcr zo_dL_law_660 15 rfl
theorem zo_dL_law_678 : ([(678, .iadd, 1), (679, .iaload, 1), (680, .aload_n 0, 1), (681, .iload_n 3, 1), (682, .iconst 2, 1), (683, .iadd, 1), (684, .iaload, 1), (685, .invokevirtual 81, 3), (688, .pop, 1), (689, .goto 237, 3), (692, .aload_n 1, 1), (693, .aload_n 0, 1), (694, .iload_n 3, 1), (695, .iconst 1, 1), (696, .iadd, 1), (697, .iaload, 1)] : List (Nat × Instr × Nat)).all (dOk (decode cL_law)) = true := by decide +kernel
theorem dL_law_678 : decode cL_law 678 = .ok (.iadd, 1) := dcr zo_dL_law_678 0 rfl
theorem dL_law_679 : decode cL_law 679 = .ok (.iaload, 1) := dcr zo_dL_law_678 1 rfl
theorem dL_law_680 : decode cL_law 680 = .ok (.aload_n 0, 1) := dcr zo_dL_law_678 2 rfl
theorem dL_law_681 : decode cL_law 681 = .ok (.iload_n 3, 1) := dcr zo_dL_law_678 3 rfl
theorem dL_law_682 : decode cL_law 682 = .ok (.iconst 2, 1) := dcr zo_dL_law_678 4 rfl
theorem dL_law_683 : decode cL_law 683 = .ok (.iadd, 1) := dcr zo_dL_law_678 5 rfl
theorem dL_law_684 : decode cL_law 684 = .ok (.iaload, 1) := dcr zo_dL_law_678 6 rfl
theorem dL_law_685 : decode cL_law 685 = .ok (.invokevirtual 81, 3) := dcr zo_dL_law_678 7 rfl
theorem dL_law_688 : decode cL_law 688 = .ok (.pop, 1) := dcr zo_dL_law_678 8 rfl
theorem dL_law_689 : decode cL_law 689 = .ok (.goto 237, 3) := dcr zo_dL_law_678 9 rfl
theorem dL_law_692 : decode cL_law 692 = .ok (.aload_n 1, 1) := dcr zo_dL_law_678 10 rfl
theorem dL_law_693 : decode cL_law 693 = .ok (.aload_n 0, 1) := dcr zo_dL_law_678 11 rfl
theorem dL_law_694 : decode cL_law 694 = .ok (.iload_n 3, 1) := dcr zo_dL_law_678 12 rfl
theorem dL_law_695 : decode cL_law 695 = .ok (.iconst 1, 1) := dcr zo_dL_law_678 13 rfl
theorem dL_law_696 : decode cL_law 696 = .ok (.iadd, 1) := dcr zo_dL_law_678 14 rfl
theorem dL_law_697 : decode cL_law 697 = .ok (.iaload, 1) := dcr zo_dL_law_678 15 rfl
theorem zo_dL_law_698 : ([(698, .invokevirtual 82, 3), (701, .pop, 1), (702, .aload_n 2, 1), (703, .aload_n 0, 1), (704, .iload_n 3, 1), (705, .iconst 1, 1), (706, .iadd, 1), (707, .iaload, 1), (708, .invokevirtual 85, 3), (711, .pop, 1), (712, .goto 214, 3), (715, .aload_n 1, 1), (716, .aload_n 0, 1), (717, .iload_n 3, 1), (718, .iconst 1, 1), (719, .iadd, 1)] : List (Nat × Instr × Nat)).all (dOk (decode cL_law)) = true := by decide +kernel
theorem dL_law_698 : decode cL_law 698 = .ok (.invokevirtual 82, 3) := dcr zo_dL_law_698 0 rfl
theorem dL_law_701 : decode cL_law 701 = .ok (.pop, 1) := dcr zo_dL_law_698 1 rfl
theorem dL_law_702 : decode cL_law 702 = .ok (.aload_n 2, 1) := dcr zo_dL_law_698 2 rfl
theorem dL_law_703 : decode cL_law 703 = .ok (.aload_n 0, 1) := dcr zo_dL_law_698 3 rfl
theorem dL_law_704 : decode cL_law 704 = .ok (.iload_n 3, 1) := dcr zo_dL_law_698 4 rfl
theorem dL_law_705 : decode cL_law 705 = .ok (.iconst 1, 1) := dcr zo_dL_law_698 5 rfl
theorem dL_law_706 : decode cL_law 706 = .ok (.iadd, 1) := dcr zo_dL_law_698 6 rfl
theorem dL_law_707 : decode cL_law 707 = .ok (.iaload, 1) := dcr zo_dL_law_698 7 rfl
theorem dL_law_708 : decode cL_law 708 = .ok (.invokevirtual 85, 3) := dcr zo_dL_law_698 8 rfl
theorem dL_law_711 : decode cL_law 711 = .ok (.pop, 1) := dcr zo_dL_law_698 9 rfl
theorem dL_law_712 : decode cL_law 712 = .ok (.goto 214, 3) := dcr zo_dL_law_698 10 rfl
theorem dL_law_715 : decode cL_law 715 = .ok (.aload_n 1, 1) := dcr zo_dL_law_698 11 rfl
theorem dL_law_716 : decode cL_law 716 = .ok (.aload_n 0, 1) := dcr zo_dL_law_698 12 rfl
theorem dL_law_717 : decode cL_law 717 = .ok (.iload_n 3, 1) := dcr zo_dL_law_698 13 rfl
theorem dL_law_718 : decode cL_law 718 = .ok (.iconst 1, 1) := dcr zo_dL_law_698 14 rfl
theorem dL_law_719 : decode cL_law 719 = .ok (.iadd, 1) := dcr zo_dL_law_698 15 rfl
theorem zo_dL_law_720 : ([(720, .iaload, 1), (721, .invokevirtual 86, 3), (724, .pop, 1), (725, .aload_n 2, 1), (726, .aload_n 0, 1), (727, .iload_n 3, 1), (728, .iconst 1, 1), (729, .iadd, 1), (730, .iaload, 1), (731, .invokevirtual 89, 3), (734, .pop, 1), (735, .goto 191, 3), (738, .aload_n 1, 1), (739, .aload_n 0, 1), (740, .iload_n 3, 1), (741, .iconst 1, 1)] : List (Nat × Instr × Nat)).all (dOk (decode cL_law)) = true := by decide +kernel
theorem dL_law_720 : decode cL_law 720 = .ok (.iaload, 1) := dcr zo_dL_law_720 0 rfl
theorem dL_law_721 : decode cL_law 721 = .ok (.invokevirtual 86, 3) := dcr zo_dL_law_720 1 rfl
theorem dL_law_724 : decode cL_law 724 = .ok (.pop, 1) := dcr zo_dL_law_720 2 rfl
theorem dL_law_725 : decode cL_law 725 = .ok (.aload_n 2, 1) := dcr zo_dL_law_720 3 rfl
theorem dL_law_726 : decode cL_law 726 = .ok (.aload_n 0, 1) := dcr zo_dL_law_720 4 rfl
theorem dL_law_727 : decode cL_law 727 = .ok (.iload_n 3, 1) := dcr zo_dL_law_720 5 rfl
theorem dL_law_728 : decode cL_law 728 = .ok (.iconst 1, 1) := dcr zo_dL_law_720 6 rfl
theorem dL_law_729 : decode cL_law 729 = .ok (.iadd, 1) := dcr zo_dL_law_720 7 rfl
theorem dL_law_730 : decode cL_law 730 = .ok (.iaload, 1) := dcr zo_dL_law_720 8 rfl
theorem dL_law_731 : decode cL_law 731 = .ok (.invokevirtual 89, 3) := dcr zo_dL_law_720 9 rfl
theorem dL_law_734 : decode cL_law 734 = .ok (.pop, 1) := dcr zo_dL_law_720 10 rfl
theorem dL_law_735 : decode cL_law 735 = .ok (.goto 191, 3) := dcr zo_dL_law_720 11 rfl
theorem dL_law_738 : decode cL_law 738 = .ok (.aload_n 1, 1) := dcr zo_dL_law_720 12 rfl
theorem dL_law_739 : decode cL_law 739 = .ok (.aload_n 0, 1) := dcr zo_dL_law_720 13 rfl
theorem dL_law_740 : decode cL_law 740 = .ok (.iload_n 3, 1) := dcr zo_dL_law_720 14 rfl
theorem dL_law_741 : decode cL_law 741 = .ok (.iconst 1, 1) := dcr zo_dL_law_720 15 rfl
theorem zo_dL_law_742 : ([(742, .iadd, 1), (743, .iaload, 1), (744, .invokevirtual 90, 3), (747, .pop, 1), (748, .aload_n 2, 1), (749, .aload_n 0, 1), (750, .iload_n 3, 1), (751, .iconst 1, 1), (752, .iadd, 1), (753, .iaload, 1), (754, .invokevirtual 93, 3), (757, .pop, 1), (758, .goto 168, 3), (761, .aload_n 1, 1), (762, .aload_n 0, 1), (763, .iload_n 3, 1)] : List (Nat × Instr × Nat)).all (dOk (decode cL_law)) = true := by decide +kernel
theorem dL_law_742 : decode cL_law 742 = .ok (.iadd, 1) := dcr zo_dL_law_742 0 rfl
theorem dL_law_743 : decode cL_law 743 = .ok (.iaload, 1) := dcr zo_dL_law_742 1 rfl
theorem dL_law_744 : decode cL_law 744 = .ok (.invokevirtual 90, 3) := dcr zo_dL_law_742 2 rfl
theorem dL_law_747 : decode cL_law 747 = .ok (.pop, 1) := dcr zo_dL_law_742 3 rfl
theorem dL_law_748 : decode cL_law 748 = .ok (.aload_n 2, 1) := dcr zo_dL_law_742 4 rfl
theorem dL_law_749 : decode cL_law 749 = .ok (.aload_n 0, 1) := dcr zo_dL_law_742 5 rfl
theorem dL_law_750 : decode cL_law 750 = .ok (.iload_n 3, 1) := dcr zo_dL_law_742 6 rfl
theorem dL_law_751 : decode cL_law 751 = .ok (.iconst 1, 1) := dcr zo_dL_law_742 7 rfl
theorem dL_law_752 : decode cL_law 752 = .ok (.iadd, 1) := dcr zo_dL_law_742 8 rfl
theorem dL_law_753 : decode cL_law 753 = .ok (.iaload, 1) := dcr zo_dL_law_742 9 rfl
theorem dL_law_754 : decode cL_law 754 = .ok (.invokevirtual 93, 3) := dcr zo_dL_law_742 10 rfl
theorem dL_law_757 : decode cL_law 757 = .ok (.pop, 1) := dcr zo_dL_law_742 11 rfl
theorem dL_law_758 : decode cL_law 758 = .ok (.goto 168, 3) := dcr zo_dL_law_742 12 rfl
theorem dL_law_761 : decode cL_law 761 = .ok (.aload_n 1, 1) := dcr zo_dL_law_742 13 rfl
theorem dL_law_762 : decode cL_law 762 = .ok (.aload_n 0, 1) := dcr zo_dL_law_742 14 rfl
theorem dL_law_763 : decode cL_law 763 = .ok (.iload_n 3, 1) := dcr zo_dL_law_742 15 rfl
theorem zo_dL_law_764 : ([(764, .iconst 1, 1), (765, .iadd, 1), (766, .iaload, 1), (767, .aload_n 0, 1), (768, .iload_n 3, 1), (769, .iconst 2, 1), (770, .iadd, 1), (771, .iaload, 1), (772, .invokevirtual 94, 3), (775, .pop, 1), (776, .aload_n 2, 1), (777, .aload_n 0, 1), (778, .iload_n 3, 1), (779, .iconst 1, 1), (780, .iadd, 1), (781, .iaload, 1)] : List (Nat × Instr × Nat)).all (dOk (decode cL_law)) = true := by decide +kernel
theorem dL_law_764 : decode cL_law 764 = .ok (.iconst 1, 1) := dcr zo_dL_law_764 0 rfl
theorem dL_law_765 : decode cL_law 765 = .ok (.iadd, 1) := dcr zo_dL_law_764 1 rfl
theorem dL_law_766 : decode cL_law 766 = .ok (.iaload, 1) := dcr zo_dL_law_764 2 rfl
theorem dL_law_767 : decode cL_law 767 = .ok (.aload_n 0, 1) := dcr zo_dL_law_764 3 rfl
theorem dL_law_768 : decode cL_law 768 = .ok (.iload_n 3, 1) := dcr zo_dL_law_764 4 rfl
theorem dL_law_769 : decode cL_law 769 = .ok (.iconst 2, 1) := dcr zo_dL_law_764 5 rfl
theorem dL_law_770 : decode cL_law 770 = .ok (.iadd, 1) := dcr zo_dL_law_764 6 rfl
theorem dL_law_771 : decode cL_law 771 = .ok (.iaload, 1) := dcr zo_dL_law_764 7 rfl
theorem dL_law_772 : decode cL_law 772 = .ok (.invokevirtual 94, 3) := dcr zo_dL_law_764 8 rfl
theorem dL_law_775 : decode cL_law 775 = .ok (.pop, 1) := dcr zo_dL_law_764 9 rfl
theorem dL_law_776 : decode cL_law 776 = .ok (.aload_n 2, 1) := dcr zo_dL_law_764 10 rfl
theorem dL_law_777 : decode cL_law 777 = .ok (.aload_n 0, 1) := dcr zo_dL_law_764 11 rfl
theorem dL_law_778 : decode cL_law 778 = .ok (.iload_n 3, 1) := dcr zo_dL_law_764 12 rfl
theorem dL_law_779 : decode cL_law 779 = .ok (.iconst 1, 1) := dcr zo_dL_law_764 13 rfl
theorem dL_law_780 : decode cL_law 780 = .ok (.iadd, 1) := dcr zo_dL_law_764 14 rfl
theorem dL_law_781 : decode cL_law 781 = .ok (.iaload, 1) := dcr zo_dL_law_764 15 rfl
theorem zo_dL_law_782 : ([(782, .aload_n 0, 1), (783, .iload_n 3, 1), (784, .iconst 2, 1), (785, .iadd, 1), (786, .iaload, 1), (787, .invokevirtual 97, 3), (790, .pop, 1), (791, .goto 135, 3), (794, .aload_n 1, 1), (795, .aload_n 0, 1), (796, .iload_n 3, 1), (797, .iconst 1, 1), (798, .iadd, 1), (799, .iaload, 1), (800, .aload_n 0, 1), (801, .iload_n 3, 1)] : List (Nat × Instr × Nat)).all (dOk (decode cL_law)) = true := by decide +kernel
theorem dL_law_782 : decode cL_law 782 = .ok (.aload_n 0, 1) := dcr zo_dL_law_782 0 rfl
theorem dL_law_783 : decode cL_law 783 = .ok (.iload_n 3, 1) := dcr zo_dL_law_782 1 rfl
theorem dL_law_784 : decode cL_law 784 = .ok (.iconst 2, 1) := dcr zo_dL_law_782 2 rfl
theorem dL_law_785 : decode cL_law 785 = .ok (.iadd, 1) := dcr zo_dL_law_782 3 rfl
theorem dL_law_786 : decode cL_law 786 = .ok (.iaload, 1) := dcr zo_dL_law_782 4 rfl
theorem dL_law_787 : decode cL_law 787 = .ok (.invokevirtual 97, 3) := dcr zo_dL_law_782 5 rfl
theorem dL_law_790 : decode cL_law 790 = .ok (.pop, 1) := dcr zo_dL_law_782 6 rfl
theorem dL_law_791 : decode cL_law 791 = .ok (.goto 135, 3) := dcr zo_dL_law_782 7 rfl
theorem dL_law_794 : decode cL_law 794 = .ok (.aload_n 1, 1) := dcr zo_dL_law_782 8 rfl
theorem dL_law_795 : decode cL_law 795 = .ok (.aload_n 0, 1) := dcr zo_dL_law_782 9 rfl
theorem dL_law_796 : decode cL_law 796 = .ok (.iload_n 3, 1) := dcr zo_dL_law_782 10 rfl
theorem dL_law_797 : decode cL_law 797 = .ok (.iconst 1, 1) := dcr zo_dL_law_782 11 rfl
theorem dL_law_798 : decode cL_law 798 = .ok (.iadd, 1) := dcr zo_dL_law_782 12 rfl
theorem dL_law_799 : decode cL_law 799 = .ok (.iaload, 1) := dcr zo_dL_law_782 13 rfl
theorem dL_law_800 : decode cL_law 800 = .ok (.aload_n 0, 1) := dcr zo_dL_law_782 14 rfl
theorem dL_law_801 : decode cL_law 801 = .ok (.iload_n 3, 1) := dcr zo_dL_law_782 15 rfl
theorem zo_dL_law_802 : ([(802, .iconst 2, 1), (803, .iadd, 1), (804, .iaload, 1), (805, .aload_n 0, 1), (806, .iload_n 3, 1), (807, .iconst 3, 1), (808, .iadd, 1), (809, .iaload, 1), (810, .aload_n 0, 1), (811, .iload_n 3, 1), (812, .iconst 4, 1), (813, .iadd, 1), (814, .iaload, 1), (815, .aload_n 0, 1), (816, .iload_n 3, 1), (817, .iconst 5, 1)] : List (Nat × Instr × Nat)).all (dOk (decode cL_law)) = true := by decide +kernel
theorem dL_law_802 : decode cL_law 802 = .ok (.iconst 2, 1) := dcr zo_dL_law_802 0 rfl
theorem dL_law_803 : decode cL_law 803 = .ok (.iadd, 1) := dcr zo_dL_law_802 1 rfl
theorem dL_law_804 : decode cL_law 804 = .ok (.iaload, 1) := dcr zo_dL_law_802 2 rfl
theorem dL_law_805 : decode cL_law 805 = .ok (.aload_n 0, 1) := dcr zo_dL_law_802 3 rfl
theorem dL_law_806 : decode cL_law 806 = .ok (.iload_n 3, 1) := dcr zo_dL_law_802 4 rfl
theorem dL_law_807 : decode cL_law 807 = .ok (.iconst 3, 1) := dcr zo_dL_law_802 5 rfl
theorem dL_law_808 : decode cL_law 808 = .ok (.iadd, 1) := dcr zo_dL_law_802 6 rfl
theorem dL_law_809 : decode cL_law 809 = .ok (.iaload, 1) := dcr zo_dL_law_802 7 rfl
theorem dL_law_810 : decode cL_law 810 = .ok (.aload_n 0, 1) := dcr zo_dL_law_802 8 rfl
theorem dL_law_811 : decode cL_law 811 = .ok (.iload_n 3, 1) := dcr zo_dL_law_802 9 rfl
theorem dL_law_812 : decode cL_law 812 = .ok (.iconst 4, 1) := dcr zo_dL_law_802 10 rfl
theorem dL_law_813 : decode cL_law 813 = .ok (.iadd, 1) := dcr zo_dL_law_802 11 rfl
theorem dL_law_814 : decode cL_law 814 = .ok (.iaload, 1) := dcr zo_dL_law_802 12 rfl
theorem dL_law_815 : decode cL_law 815 = .ok (.aload_n 0, 1) := dcr zo_dL_law_802 13 rfl
theorem dL_law_816 : decode cL_law 816 = .ok (.iload_n 3, 1) := dcr zo_dL_law_802 14 rfl
theorem dL_law_817 : decode cL_law 817 = .ok (.iconst 5, 1) := dcr zo_dL_law_802 15 rfl
theorem zo_dL_law_818 : ([(818, .iadd, 1), (819, .iaload, 1), (820, .invokevirtual 98, 3), (823, .pop, 1), (824, .aload_n 2, 1), (825, .aload_n 0, 1), (826, .iload_n 3, 1), (827, .iconst 1, 1), (828, .iadd, 1), (829, .iaload, 1), (830, .aload_n 0, 1), (831, .iload_n 3, 1), (832, .iconst 2, 1), (833, .iadd, 1), (834, .iaload, 1), (835, .aload_n 0, 1)] : List (Nat × Instr × Nat)).all (dOk (decode cL_law)) = true := by decide +kernel
theorem dL_law_818 : decode cL_law 818 = .ok (.iadd, 1) := dcr zo_dL_law_818 0 rfl
theorem dL_law_819 : decode cL_law 819 = .ok (.iaload, 1) := dcr zo_dL_law_818 1 rfl
theorem dL_law_820 : decode cL_law 820 = .ok (.invokevirtual 98, 3) := dcr zo_dL_law_818 2 rfl
theorem dL_law_823 : decode cL_law 823 = .ok (.pop, 1) := dcr zo_dL_law_818 3 rfl
theorem dL_law_824 : decode cL_law 824 = .ok (.aload_n 2, 1) := dcr zo_dL_law_818 4 rfl
theorem dL_law_825 : decode cL_law 825 = .ok (.aload_n 0, 1) := dcr zo_dL_law_818 5 rfl
theorem dL_law_826 : decode cL_law 826 = .ok (.iload_n 3, 1) := dcr zo_dL_law_818 6 rfl
theorem dL_law_827 : decode cL_law 827 = .ok (.iconst 1, 1) := dcr zo_dL_law_818 7 rfl
theorem dL_law_828 : decode cL_law 828 = .ok (.iadd, 1) := dcr zo_dL_law_818 8 rfl
theorem dL_law_829 : decode cL_law 829 = .ok (.iaload, 1) := dcr zo_dL_law_818 9 rfl
theorem dL_law_830 : decode cL_law 830 = .ok (.aload_n 0, 1) := dcr zo_dL_law_818 10 rfl
theorem dL_law_831 : decode cL_law 831 = .ok (.iload_n 3, 1) := dcr zo_dL_law_818 11 rfl
theorem dL_law_832 : decode cL_law 832 = .ok (.iconst 2, 1) := dcr zo_dL_law_818 12 rfl
theorem dL_law_833 : decode cL_law 833 = .ok (.iadd, 1) := dcr zo_dL_law_818 13 rfl
theorem dL_law_834 : decode cL_law 834 = .ok (.iaload, 1) := dcr zo_dL_law_818 14 rfl
theorem dL_law_835 : decode cL_law 835 = .ok (.aload_n 0, 1) := dcr zo_dL_law_818 15 rfl
theorem zo_dL_law_836 : ([(836, .iload_n 3, 1), (837, .iconst 3, 1), (838, .iadd, 1), (839, .iaload, 1), (840, .aload_n 0, 1), (841, .iload_n 3, 1), (842, .iconst 4, 1), (843, .iadd, 1), (844, .iaload, 1), (845, .aload_n 0, 1), (846, .iload_n 3, 1), (847, .iconst 5, 1), (848, .iadd, 1), (849, .iaload, 1), (850, .invokevirtual 102, 3), (853, .pop, 1)] : List (Nat × Instr × Nat)).all (dOk (decode cL_law)) = true := by decide +kernel
theorem dL_law_836 : decode cL_law 836 = .ok (.iload_n 3, 1) := dcr zo_dL_law_836 0 rfl
theorem dL_law_837 : decode cL_law 837 = .ok (.iconst 3, 1) := dcr zo_dL_law_836 1 rfl
theorem dL_law_838 : decode cL_law 838 = .ok (.iadd, 1) := dcr zo_dL_law_836 2 rfl
theorem dL_law_839 : decode cL_law 839 = .ok (.iaload, 1) := dcr zo_dL_law_836 3 rfl
theorem dL_law_840 : decode cL_law 840 = .ok (.aload_n 0, 1) := dcr zo_dL_law_836 4 rfl
theorem dL_law_841 : decode cL_law 841 = .ok (.iload_n 3, 1) := dcr zo_dL_law_836 5 rfl
theorem dL_law_842 : decode cL_law 842 = .ok (.iconst 4, 1) := dcr zo_dL_law_836 6 rfl
theorem dL_law_843 : decode cL_law 843 = .ok (.iadd, 1) := dcr zo_dL_law_836 7 rfl
theorem dL_law_844 : decode cL_law 844 = .ok (.iaload, 1) := dcr zo_dL_law_836 8 rfl
theorem dL_law_845 : decode cL_law 845 = .ok (.aload_n 0, 1) := dcr zo_dL_law_836 9 rfl
theorem dL_law_846 : decode cL_law 846 = .ok (.iload_n 3, 1) := dcr zo_dL_law_836 10 rfl
theorem dL_law_847 : decode cL_law 847 = .ok (.iconst 5, 1) := dcr zo_dL_law_836 11 rfl
theorem dL_law_848 : decode cL_law 848 = .ok (.iadd, 1) := dcr zo_dL_law_836 12 rfl
theorem dL_law_849 : decode cL_law 849 = .ok (.iaload, 1) := dcr zo_dL_law_836 13 rfl
theorem dL_law_850 : decode cL_law 850 = .ok (.invokevirtual 102, 3) := dcr zo_dL_law_836 14 rfl
theorem dL_law_853 : decode cL_law 853 = .ok (.pop, 1) := dcr zo_dL_law_836 15 rfl
theorem zo_dL_law_854 : ([(854, .goto 72, 3), (857, .aload_n 1, 1), (858, .aload_n 0, 1), (859, .iload_n 3, 1), (860, .iconst 1, 1), (861, .iadd, 1), (862, .iaload, 1), (863, .invokevirtual 103, 3), (866, .pop, 1), (867, .aload_n 2, 1), (868, .aload_n 0, 1), (869, .iload_n 3, 1), (870, .iconst 1, 1), (871, .iadd, 1), (872, .iaload, 1), (873, .invokevirtual 106, 3)] : List (Nat × Instr × Nat)).all (dOk (decode cL_law)) = true := by decide +kernel
theorem dL_law_854 : decode cL_law 854 = .ok (.goto 72, 3) := dcr zo_dL_law_854 0 rfl
theorem dL_law_857 : decode cL_law 857 = .ok (.aload_n 1, 1) := dcr zo_dL_law_854 1 rfl
theorem dL_law_858 : decode cL_law 858 = .ok (.aload_n 0, 1) := dcr zo_dL_law_854 2 rfl
theorem dL_law_859 : decode cL_law 859 = .ok (.iload_n 3, 1) := dcr zo_dL_law_854 3 rfl
theorem dL_law_860 : decode cL_law 860 = .ok (.iconst 1, 1) := dcr zo_dL_law_854 4 rfl
theorem dL_law_861 : decode cL_law 861 = .ok (.iadd, 1) := dcr zo_dL_law_854 5 rfl
theorem dL_law_862 : decode cL_law 862 = .ok (.iaload, 1) := dcr zo_dL_law_854 6 rfl
theorem dL_law_863 : decode cL_law 863 = .ok (.invokevirtual 103, 3) := dcr zo_dL_law_854 7 rfl
theorem dL_law_866 : decode cL_law 866 = .ok (.pop, 1) := dcr zo_dL_law_854 8 rfl
theorem dL_law_867 : decode cL_law 867 = .ok (.aload_n 2, 1) := dcr zo_dL_law_854 9 rfl
theorem dL_law_868 : decode cL_law 868 = .ok (.aload_n 0, 1) := dcr zo_dL_law_854 10 rfl
theorem dL_law_869 : decode cL_law 869 = .ok (.iload_n 3, 1) := dcr zo_dL_law_854 11 rfl
theorem dL_law_870 : decode cL_law 870 = .ok (.iconst 1, 1) := dcr zo_dL_law_854 12 rfl
theorem dL_law_871 : decode cL_law 871 = .ok (.iadd, 1) := dcr zo_dL_law_854 13 rfl
theorem dL_law_872 : decode cL_law 872 = .ok (.iaload, 1) := dcr zo_dL_law_854 14 rfl
theorem dL_law_873 : decode cL_law 873 = .ok (.invokevirtual 106, 3) := dcr zo_dL_law_854 15 rfl
theorem zo_dL_law_876 : ([(876, .pop, 1), (877, .goto 49, 3), (880, .aload_n 1, 1), (881, .aload_n 0, 1), (882, .iload_n 3, 1), (883, .iconst 1, 1), (884, .iadd, 1), (885, .iaload, 1), (886, .invokevirtual 107, 3), (889, .pop, 1), (890, .aload_n 2, 1), (891, .aload_n 0, 1), (892, .iload_n 3, 1), (893, .iconst 1, 1), (894, .iadd, 1), (895, .iaload, 1)] : List (Nat × Instr × Nat)).all (dOk (decode cL_law)) = true := by decide +kernel
theorem dL_law_876 : decode cL_law 876 = .ok (.pop, 1) := dcr zo_dL_law_876 0 rfl
theorem dL_law_877 : decode cL_law 877 = .ok (.goto 49, 3) := dcr zo_dL_law_876 1 rfl
theorem dL_law_880 : decode cL_law 880 = .ok (.aload_n 1, 1) := dcr zo_dL_law_876 2 rfl
theorem dL_law_881 : decode cL_law 881 = .ok (.aload_n 0, 1) := dcr zo_dL_law_876 3 rfl
theorem dL_law_882 : decode cL_law 882 = .ok (.iload_n 3, 1) := dcr zo_dL_law_876 4 rfl
theorem dL_law_883 : decode cL_law 883 = .ok (.iconst 1, 1) := dcr zo_dL_law_876 5 rfl
theorem dL_law_884 : decode cL_law 884 = .ok (.iadd, 1) := dcr zo_dL_law_876 6 rfl
theorem dL_law_885 : decode cL_law 885 = .ok (.iaload, 1) := dcr zo_dL_law_876 7 rfl
theorem dL_law_886 : decode cL_law 886 = .ok (.invokevirtual 107, 3) := dcr zo_dL_law_876 8 rfl
theorem dL_law_889 : decode cL_law 889 = .ok (.pop, 1) := dcr zo_dL_law_876 9 rfl
theorem dL_law_890 : decode cL_law 890 = .ok (.aload_n 2, 1) := dcr zo_dL_law_876 10 rfl
theorem dL_law_891 : decode cL_law 891 = .ok (.aload_n 0, 1) := dcr zo_dL_law_876 11 rfl
theorem dL_law_892 : decode cL_law 892 = .ok (.iload_n 3, 1) := dcr zo_dL_law_876 12 rfl
theorem dL_law_893 : decode cL_law 893 = .ok (.iconst 1, 1) := dcr zo_dL_law_876 13 rfl
theorem dL_law_894 : decode cL_law 894 = .ok (.iadd, 1) := dcr zo_dL_law_876 14 rfl
theorem dL_law_895 : decode cL_law 895 = .ok (.iaload, 1) := dcr zo_dL_law_876 15 rfl
theorem zo_dL_law_896 : ([(896, .invokevirtual 110, 3), (899, .pop, 1), (900, .goto 26, 3), (903, .aload_n 1, 1), (904, .aload_n 0, 1), (905, .iload_n 3, 1), (906, .iconst 1, 1), (907, .iadd, 1), (908, .iaload, 1), (909, .invokevirtual 111, 3), (912, .pop, 1), (913, .aload_n 2, 1), (914, .aload_n 0, 1), (915, .iload_n 3, 1), (916, .iconst 1, 1), (917, .iadd, 1)] : List (Nat × Instr × Nat)).all (dOk (decode cL_law)) = true := by decide +kernel
theorem dL_law_896 : decode cL_law 896 = .ok (.invokevirtual 110, 3) := dcr zo_dL_law_896 0 rfl
theorem dL_law_899 : decode cL_law 899 = .ok (.pop, 1) := dcr zo_dL_law_896 1 rfl
theorem dL_law_900 : decode cL_law 900 = .ok (.goto 26, 3) := dcr zo_dL_law_896 2 rfl
theorem dL_law_903 : decode cL_law 903 = .ok (.aload_n 1, 1) := dcr zo_dL_law_896 3 rfl
theorem dL_law_904 : decode cL_law 904 = .ok (.aload_n 0, 1) := dcr zo_dL_law_896 4 rfl
theorem dL_law_905 : decode cL_law 905 = .ok (.iload_n 3, 1) := dcr zo_dL_law_896 5 rfl
theorem dL_law_906 : decode cL_law 906 = .ok (.iconst 1, 1) := dcr zo_dL_law_896 6 rfl
theorem dL_law_907 : decode cL_law 907 = .ok (.iadd, 1) := dcr zo_dL_law_896 7 rfl
theorem dL_law_908 : decode cL_law 908 = .ok (.iaload, 1) := dcr zo_dL_law_896 8 rfl
theorem dL_law_909 : decode cL_law 909 = .ok (.invokevirtual 111, 3) := dcr zo_dL_law_896 9 rfl
theorem dL_law_912 : decode cL_law 912 = .ok (.pop, 1) := dcr zo_dL_law_896 10 rfl
theorem dL_law_913 : decode cL_law 913 = .ok (.aload_n 2, 1) := dcr zo_dL_law_896 11 rfl
theorem dL_law_914 : decode cL_law 914 = .ok (.aload_n 0, 1) := dcr zo_dL_law_896 12 rfl
theorem dL_law_915 : decode cL_law 915 = .ok (.iload_n 3, 1) := dcr zo_dL_law_896 13 rfl
theorem dL_law_916 : decode cL_law 916 = .ok (.iconst 1, 1) := dcr zo_dL_law_896 14 rfl
theorem dL_law_917 : decode cL_law 917 = .ok (.iadd, 1) := dcr zo_dL_law_896 15 rfl
theorem zo_dL_law_918 : ([(918, .iaload, 1), (919, .invokevirtual 114, 3), (922, .pop, 1), (923, .goto 3, 3), (926, .iinc 3 6, 3), (929, .goto (-911), 3), (932, .iconst 1, 1), (933, .ireturn, 1)] : List (Nat × Instr × Nat)).all (dOk (decode cL_law)) = true := by decide +kernel
theorem dL_law_918 : decode cL_law 918 = .ok (.iaload, 1) := dcr zo_dL_law_918 0 rfl
theorem dL_law_919 : decode cL_law 919 = .ok (.invokevirtual 114, 3) := dcr zo_dL_law_918 1 rfl
theorem dL_law_922 : decode cL_law 922 = .ok (.pop, 1) := dcr zo_dL_law_918 2 rfl
theorem dL_law_923 : decode cL_law 923 = .ok (.goto 3, 3) := dcr zo_dL_law_918 3 rfl
theorem dL_law_926 : decode cL_law 926 = .ok (.iinc 3 6, 3) := dcr zo_dL_law_918 4 rfl
theorem dL_law_929 : decode cL_law 929 = .ok (.goto (-911), 3) := dcr zo_dL_law_918 5 rfl
theorem dL_law_932 : decode cL_law 932 = .ok (.iconst 1, 1) := dcr zo_dL_law_918 6 rfl
theorem dL_law_933 : decode cL_law 933 = .ok (.ireturn, 1) := dcr zo_dL_law_918 7 rfl

