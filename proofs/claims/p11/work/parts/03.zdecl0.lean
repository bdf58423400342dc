def tdaL_law_0 : List (Nat × (Instr × Nat)) := [(0, .new 7, 3), (3, .dup, 1), (4, .invokespecial 9, 3), (7, .astore_n 1, 1), (8, .new 10, 3), (11, .dup, 1), (12, .invokespecial 12, 3), (15, .astore_n 2, 1), (16, .iconst 0, 1), (17, .istore_n 3, 1), (18, .iload_n 3, 1), (19, .aload_n 0, 1), (20, .arraylength, 1), (21, .bipush 7, 2), (23, .isub, 1), (24, .if_icmp .gt 1457, 3), (27, .aload_n 0, 1), (28, .iload_n 3, 1), (29, .iaload, 1), (30, .bipush 63, 2), (32, .iand, 1), (33, .tableswitch 1442 0 34 #[155, 178, 211, 254, 297, 320, 395, 438, 471, 504, 537, 586, 619, 652, 675, 708, 731, 754, 777, 800, 863, 932, 975, 1008, 1051, 1074, 1107, 1150, 1193, 1226, 1249, 1262, 1353, 1386, 1419], 155), (188, .aload_n 1, 1), (189, .aload_n 0, 1), (190, .iload_n 3, 1), (191, .iconst 1, 1), (192, .iadd, 1), (193, .iaload, 1), (194, .invokevirtual 13, 3), (197, .pop, 1), (198, .aload_n 2, 1), (199, .aload_n 0, 1), (200, .iload_n 3, 1), (201, .iconst 1, 1), (202, .iadd, 1), (203, .iaload, 1), (204, .invokevirtual 17, 3), (207, .pop, 1), (208, .goto 1267, 3), (211, .aload_n 1, 1)]
theorem daL_law_0 : tdaL_law_0.all (fun q => decide (decode cL_law q.1 = .ok q.2)) = true := by decide +kernel
theorem dL_law_0 : decode cL_law 0 = .ok (.new 7, 3) := dget daL_law_0 0 (q := (0, .new 7, 3)) rfl
theorem dL_law_3 : decode cL_law 3 = .ok (.dup, 1) := dget daL_law_0 1 (q := (3, .dup, 1)) rfl
theorem dL_law_4 : decode cL_law 4 = .ok (.invokespecial 9, 3) := dget daL_law_0 2 (q := (4, .invokespecial 9, 3)) rfl
theorem dL_law_7 : decode cL_law 7 = .ok (.astore_n 1, 1) := dget daL_law_0 3 (q := (7, .astore_n 1, 1)) rfl
theorem dL_law_8 : decode cL_law 8 = .ok (.new 10, 3) := dget daL_law_0 4 (q := (8, .new 10, 3)) rfl
theorem dL_law_11 : decode cL_law 11 = .ok (.dup, 1) := dget daL_law_0 5 (q := (11, .dup, 1)) rfl
theorem dL_law_12 : decode cL_law 12 = .ok (.invokespecial 12, 3) := dget daL_law_0 6 (q := (12, .invokespecial 12, 3)) rfl
theorem dL_law_15 : decode cL_law 15 = .ok (.astore_n 2, 1) := dget daL_law_0 7 (q := (15, .astore_n 2, 1)) rfl
theorem dL_law_16 : decode cL_law 16 = .ok (.iconst 0, 1) := dget daL_law_0 8 (q := (16, .iconst 0, 1)) rfl
theorem dL_law_17 : decode cL_law 17 = .ok (.istore_n 3, 1) := dget daL_law_0 9 (q := (17, .istore_n 3, 1)) rfl
theorem dL_law_18 : decode cL_law 18 = .ok (.iload_n 3, 1) := dget daL_law_0 10 (q := (18, .iload_n 3, 1)) rfl
theorem dL_law_19 : decode cL_law 19 = .ok (.aload_n 0, 1) := dget daL_law_0 11 (q := (19, .aload_n 0, 1)) rfl
theorem dL_law_20 : decode cL_law 20 = .ok (.arraylength, 1) := dget daL_law_0 12 (q := (20, .arraylength, 1)) rfl
theorem dL_law_21 : decode cL_law 21 = .ok (.bipush 7, 2) := dget daL_law_0 13 (q := (21, .bipush 7, 2)) rfl
theorem dL_law_23 : decode cL_law 23 = .ok (.isub, 1) := dget daL_law_0 14 (q := (23, .isub, 1)) rfl
theorem dL_law_24 : decode cL_law 24 = .ok (.if_icmp .gt 1457, 3) := dget daL_law_0 15 (q := (24, .if_icmp .gt 1457, 3)) rfl
theorem dL_law_27 : decode cL_law 27 = .ok (.aload_n 0, 1) := dget daL_law_0 16 (q := (27, .aload_n 0, 1)) rfl
theorem dL_law_28 : decode cL_law 28 = .ok (.iload_n 3, 1) := dget daL_law_0 17 (q := (28, .iload_n 3, 1)) rfl
theorem dL_law_29 : decode cL_law 29 = .ok (.iaload, 1) := dget daL_law_0 18 (q := (29, .iaload, 1)) rfl
theorem dL_law_30 : decode cL_law 30 = .ok (.bipush 63, 2) := dget daL_law_0 19 (q := (30, .bipush 63, 2)) rfl
theorem dL_law_32 : decode cL_law 32 = .ok (.iand, 1) := dget daL_law_0 20 (q := (32, .iand, 1)) rfl
theorem dL_law_33 : decode cL_law 33 = .ok (.tableswitch 1442 0 34 #[155, 178, 211, 254, 297, 320, 395, 438, 471, 504, 537, 586, 619, 652, 675, 708, 731, 754, 777, 800, 863, 932, 975, 1008, 1051, 1074, 1107, 1150, 1193, 1226, 1249, 1262, 1353, 1386, 1419], 155) := dget daL_law_0 21 (q := (33, .tableswitch 1442 0 34 #[155, 178, 211, 254, 297, 320, 395, 438, 471, 504, 537, 586, 619, 652, 675, 708, 731, 754, 777, 800, 863, 932, 975, 1008, 1051, 1074, 1107, 1150, 1193, 1226, 1249, 1262, 1353, 1386, 1419], 155)) rfl
theorem dL_law_188 : decode cL_law 188 = .ok (.aload_n 1, 1) := dget daL_law_0 22 (q := (188, .aload_n 1, 1)) rfl
theorem dL_law_189 : decode cL_law 189 = .ok (.aload_n 0, 1) := dget daL_law_0 23 (q := (189, .aload_n 0, 1)) rfl
theorem dL_law_190 : decode cL_law 190 = .ok (.iload_n 3, 1) := dget daL_law_0 24 (q := (190, .iload_n 3, 1)) rfl
theorem dL_law_191 : decode cL_law 191 = .ok (.iconst 1, 1) := dget daL_law_0 25 (q := (191, .iconst 1, 1)) rfl
theorem dL_law_192 : decode cL_law 192 = .ok (.iadd, 1) := dget daL_law_0 26 (q := (192, .iadd, 1)) rfl
theorem dL_law_193 : decode cL_law 193 = .ok (.iaload, 1) := dget daL_law_0 27 (q := (193, .iaload, 1)) rfl
theorem dL_law_194 : decode cL_law 194 = .ok (.invokevirtual 13, 3) := dget daL_law_0 28 (q := (194, .invokevirtual 13, 3)) rfl
theorem dL_law_197 : decode cL_law 197 = .ok (.pop, 1) := dget daL_law_0 29 (q := (197, .pop, 1)) rfl
theorem dL_law_198 : decode cL_law 198 = .ok (.aload_n 2, 1) := dget daL_law_0 30 (q := (198, .aload_n 2, 1)) rfl
theorem dL_law_199 : decode cL_law 199 = .ok (.aload_n 0, 1) := dget daL_law_0 31 (q := (199, .aload_n 0, 1)) rfl
theorem dL_law_200 : decode cL_law 200 = .ok (.iload_n 3, 1) := dget daL_law_0 32 (q := (200, .iload_n 3, 1)) rfl
theorem dL_law_201 : decode cL_law 201 = .ok (.iconst 1, 1) := dget daL_law_0 33 (q := (201, .iconst 1, 1)) rfl
theorem dL_law_202 : decode cL_law 202 = .ok (.iadd, 1) := dget daL_law_0 34 (q := (202, .iadd, 1)) rfl
theorem dL_law_203 : decode cL_law 203 = .ok (.iaload, 1) := dget daL_law_0 35 (q := (203, .iaload, 1)) rfl
theorem dL_law_204 : decode cL_law 204 = .ok (.invokevirtual 17, 3) := dget daL_law_0 36 (q := (204, .invokevirtual 17, 3)) rfl
theorem dL_law_207 : decode cL_law 207 = .ok (.pop, 1) := dget daL_law_0 37 (q := (207, .pop, 1)) rfl
theorem dL_law_208 : decode cL_law 208 = .ok (.goto 1267, 3) := dget daL_law_0 38 (q := (208, .goto 1267, 3)) rfl
theorem dL_law_211 : decode cL_law 211 = .ok (.aload_n 1, 1) := dget daL_law_0 39 (q := (211, .aload_n 1, 1)) rfl
def tdaL_law_1 : List (Nat × (Instr × Nat)) := [(212, .aload_n 0, 1), (213, .iload_n 3, 1), (214, .iconst 1, 1), (215, .iadd, 1), (216, .iaload, 1), (217, .aload_n 0, 1), (218, .iload_n 3, 1), (219, .iconst 2, 1), (220, .iadd, 1), (221, .iaload, 1), (222, .invokevirtual 18, 3), (225, .pop, 1), (226, .aload_n 2, 1), (227, .aload_n 0, 1), (228, .iload_n 3, 1), (229, .iconst 1, 1), (230, .iadd, 1), (231, .iaload, 1), (232, .aload_n 0, 1), (233, .iload_n 3, 1), (234, .iconst 2, 1), (235, .iadd, 1), (236, .iaload, 1), (237, .invokevirtual 22, 3), (240, .pop, 1), (241, .goto 1234, 3), (244, .aload_n 1, 1), (245, .aload_n 0, 1), (246, .iload_n 3, 1), (247, .iconst 1, 1), (248, .iadd, 1), (249, .iaload, 1), (250, .aload_n 0, 1), (251, .iload_n 3, 1), (252, .iconst 2, 1), (253, .iadd, 1), (254, .iaload, 1), (255, .aload_n 0, 1), (256, .iload_n 3, 1), (257, .iconst 3, 1)]
theorem daL_law_1 : tdaL_law_1.all (fun q => decide (decode cL_law q.1 = .ok q.2)) = true := by decide +kernel
theorem dL_law_212 : decode cL_law 212 = .ok (.aload_n 0, 1) := dget daL_law_1 0 (q := (212, .aload_n 0, 1)) rfl
theorem dL_law_213 : decode cL_law 213 = .ok (.iload_n 3, 1) := dget daL_law_1 1 (q := (213, .iload_n 3, 1)) rfl
theorem dL_law_214 : decode cL_law 214 = .ok (.iconst 1, 1) := dget daL_law_1 2 (q := (214, .iconst 1, 1)) rfl
theorem dL_law_215 : decode cL_law 215 = .ok (.iadd, 1) := dget daL_law_1 3 (q := (215, .iadd, 1)) rfl
theorem dL_law_216 : decode cL_law 216 = .ok (.iaload, 1) := dget daL_law_1 4 (q := (216, .iaload, 1)) rfl
theorem dL_law_217 : decode cL_law 217 = .ok (.aload_n 0, 1) := dget daL_law_1 5 (q := (217, .aload_n 0, 1)) rfl
theorem dL_law_218 : decode cL_law 218 = .ok (.iload_n 3, 1) := dget daL_law_1 6 (q := (218, .iload_n 3, 1)) rfl
theorem dL_law_219 : decode cL_law 219 = .ok (.iconst 2, 1) := dget daL_law_1 7 (q := (219, .iconst 2, 1)) rfl
theorem dL_law_220 : decode cL_law 220 = .ok (.iadd, 1) := dget daL_law_1 8 (q := (220, .iadd, 1)) rfl
theorem dL_law_221 : decode cL_law 221 = .ok (.iaload, 1) := dget daL_law_1 9 (q := (221, .iaload, 1)) rfl
theorem dL_law_222 : decode cL_law 222 = .ok (.invokevirtual 18, 3) := dget daL_law_1 10 (q := (222, .invokevirtual 18, 3)) rfl
theorem dL_law_225 : decode cL_law 225 = .ok (.pop, 1) := dget daL_law_1 11 (q := (225, .pop, 1)) rfl
theorem dL_law_226 : decode cL_law 226 = .ok (.aload_n 2, 1) := dget daL_law_1 12 (q := (226, .aload_n 2, 1)) rfl
theorem dL_law_227 : decode cL_law 227 = .ok (.aload_n 0, 1) := dget daL_law_1 13 (q := (227, .aload_n 0, 1)) rfl
theorem dL_law_228 : decode cL_law 228 = .ok (.iload_n 3, 1) := dget daL_law_1 14 (q := (228, .iload_n 3, 1)) rfl
theorem dL_law_229 : decode cL_law 229 = .ok (.iconst 1, 1) := dget daL_law_1 15 (q := (229, .iconst 1, 1)) rfl
theorem dL_law_230 : decode cL_law 230 = .ok (.iadd, 1) := dget daL_law_1 16 (q := (230, .iadd, 1)) rfl
theorem dL_law_231 : decode cL_law 231 = .ok (.iaload, 1) := dget daL_law_1 17 (q := (231, .iaload, 1)) rfl
theorem dL_law_232 : decode cL_law 232 = .ok (.aload_n 0, 1) := dget daL_law_1 18 (q := (232, .aload_n 0, 1)) rfl
theorem dL_law_233 : decode cL_law 233 = .ok (.iload_n 3, 1) := dget daL_law_1 19 (q := (233, .iload_n 3, 1)) rfl
theorem dL_law_234 : decode cL_law 234 = .ok (.iconst 2, 1) := dget daL_law_1 20 (q := (234, .iconst 2, 1)) rfl
theorem dL_law_235 : decode cL_law 235 = .ok (.iadd, 1) := dget daL_law_1 21 (q := (235, .iadd, 1)) rfl
theorem dL_law_236 : decode cL_law 236 = .ok (.iaload, 1) := dget daL_law_1 22 (q := (236, .iaload, 1)) rfl
theorem dL_law_237 : decode cL_law 237 = .ok (.invokevirtual 22, 3) := dget daL_law_1 23 (q := (237, .invokevirtual 22, 3)) rfl
theorem dL_law_240 : decode cL_law 240 = .ok (.pop, 1) := dget daL_law_1 24 (q := (240, .pop, 1)) rfl
theorem dL_law_241 : decode cL_law 241 = .ok (.goto 1234, 3) := dget daL_law_1 25 (q := (241, .goto 1234, 3)) rfl
theorem dL_law_244 : decode cL_law 244 = .ok (.aload_n 1, 1) := dget daL_law_1 26 (q := (244, .aload_n 1, 1)) rfl
theorem dL_law_245 : decode cL_law 245 = .ok (.aload_n 0, 1) := dget daL_law_1 27 (q := (245, .aload_n 0, 1)) rfl
theorem dL_law_246 : decode cL_law 246 = .ok (.iload_n 3, 1) := dget daL_law_1 28 (q := (246, .iload_n 3, 1)) rfl
theorem dL_law_247 : decode cL_law 247 = .ok (.iconst 1, 1) := dget daL_law_1 29 (q := (247, .iconst 1, 1)) rfl
theorem dL_law_248 : decode cL_law 248 = .ok (.iadd, 1) := dget daL_law_1 30 (q := (248, .iadd, 1)) rfl
theorem dL_law_249 : decode cL_law 249 = .ok (.iaload, 1) := dget daL_law_1 31 (q := (249, .iaload, 1)) rfl
theorem dL_law_250 : decode cL_law 250 = .ok (.aload_n 0, 1) := dget daL_law_1 32 (q := (250, .aload_n 0, 1)) rfl
theorem dL_law_251 : decode cL_law 251 = .ok (.iload_n 3, 1) := dget daL_law_1 33 (q := (251, .iload_n 3, 1)) rfl
theorem dL_law_252 : decode cL_law 252 = .ok (.iconst 2, 1) := dget daL_law_1 34 (q := (252, .iconst 2, 1)) rfl
theorem dL_law_253 : decode cL_law 253 = .ok (.iadd, 1) := dget daL_law_1 35 (q := (253, .iadd, 1)) rfl
theorem dL_law_254 : decode cL_law 254 = .ok (.iaload, 1) := dget daL_law_1 36 (q := (254, .iaload, 1)) rfl
theorem dL_law_255 : decode cL_law 255 = .ok (.aload_n 0, 1) := dget daL_law_1 37 (q := (255, .aload_n 0, 1)) rfl
theorem dL_law_256 : decode cL_law 256 = .ok (.iload_n 3, 1) := dget daL_law_1 38 (q := (256, .iload_n 3, 1)) rfl
theorem dL_law_257 : decode cL_law 257 = .ok (.iconst 3, 1) := dget daL_law_1 39 (q := (257, .iconst 3, 1)) rfl
def tdaL_law_2 : List (Nat × (Instr × Nat)) := [(258, .iadd, 1), (259, .iaload, 1), (260, .invokevirtual 23, 3), (263, .pop, 1), (264, .aload_n 2, 1), (265, .aload_n 0, 1), (266, .iload_n 3, 1), (267, .iconst 1, 1), (268, .iadd, 1), (269, .iaload, 1), (270, .aload_n 0, 1), (271, .iload_n 3, 1), (272, .iconst 2, 1), (273, .iadd, 1), (274, .iaload, 1), (275, .aload_n 0, 1), (276, .iload_n 3, 1), (277, .iconst 3, 1), (278, .iadd, 1), (279, .iaload, 1), (280, .invokevirtual 27, 3), (283, .pop, 1), (284, .goto 1191, 3), (287, .aload_n 1, 1), (288, .aload_n 0, 1), (289, .iload_n 3, 1), (290, .iconst 1, 1), (291, .iadd, 1), (292, .iaload, 1), (293, .aload_n 0, 1), (294, .iload_n 3, 1), (295, .iconst 2, 1), (296, .iadd, 1), (297, .iaload, 1), (298, .aload_n 0, 1), (299, .iload_n 3, 1), (300, .iconst 3, 1), (301, .iadd, 1), (302, .iaload, 1), (303, .invokevirtual 28, 3)]
theorem daL_law_2 : tdaL_law_2.all (fun q => decide (decode cL_law q.1 = .ok q.2)) = true := by decide +kernel
theorem dL_law_258 : decode cL_law 258 = .ok (.iadd, 1) := dget daL_law_2 0 (q := (258, .iadd, 1)) rfl
theorem dL_law_259 : decode cL_law 259 = .ok (.iaload, 1) := dget daL_law_2 1 (q := (259, .iaload, 1)) rfl
theorem dL_law_260 : decode cL_law 260 = .ok (.invokevirtual 23, 3) := dget daL_law_2 2 (q := (260, .invokevirtual 23, 3)) rfl
theorem dL_law_263 : decode cL_law 263 = .ok (.pop, 1) := dget daL_law_2 3 (q := (263, .pop, 1)) rfl
theorem dL_law_264 : decode cL_law 264 = .ok (.aload_n 2, 1) := dget daL_law_2 4 (q := (264, .aload_n 2, 1)) rfl
theorem dL_law_265 : decode cL_law 265 = .ok (.aload_n 0, 1) := dget daL_law_2 5 (q := (265, .aload_n 0, 1)) rfl
theorem dL_law_266 : decode cL_law 266 = .ok (.iload_n 3, 1) := dget daL_law_2 6 (q := (266, .iload_n 3, 1)) rfl
theorem dL_law_267 : decode cL_law 267 = .ok (.iconst 1, 1) := dget daL_law_2 7 (q := (267, .iconst 1, 1)) rfl
theorem dL_law_268 : decode cL_law 268 = .ok (.iadd, 1) := dget daL_law_2 8 (q := (268, .iadd, 1)) rfl
theorem dL_law_269 : decode cL_law 269 = .ok (.iaload, 1) := dget daL_law_2 9 (q := (269, .iaload, 1)) rfl
theorem dL_law_270 : decode cL_law 270 = .ok (.aload_n 0, 1) := dget daL_law_2 10 (q := (270, .aload_n 0, 1)) rfl
theorem dL_law_271 : decode cL_law 271 = .ok (.iload_n 3, 1) := dget daL_law_2 11 (q := (271, .iload_n 3, 1)) rfl
theorem dL_law_272 : decode cL_law 272 = .ok (.iconst 2, 1) := dget daL_law_2 12 (q := (272, .iconst 2, 1)) rfl
theorem dL_law_273 : decode cL_law 273 = .ok (.iadd, 1) := dget daL_law_2 13 (q := (273, .iadd, 1)) rfl
theorem dL_law_274 : decode cL_law 274 = .ok (.iaload, 1) := dget daL_law_2 14 (q := (274, .iaload, 1)) rfl
theorem dL_law_275 : decode cL_law 275 = .ok (.aload_n 0, 1) := dget daL_law_2 15 (q := (275, .aload_n 0, 1)) rfl
theorem dL_law_276 : decode cL_law 276 = .ok (.iload_n 3, 1) := dget daL_law_2 16 (q := (276, .iload_n 3, 1)) rfl
theorem dL_law_277 : decode cL_law 277 = .ok (.iconst 3, 1) := dget daL_law_2 17 (q := (277, .iconst 3, 1)) rfl
theorem dL_law_278 : decode cL_law 278 = .ok (.iadd, 1) := dget daL_law_2 18 (q := (278, .iadd, 1)) rfl
theorem dL_law_279 : decode cL_law 279 = .ok (.iaload, 1) := dget daL_law_2 19 (q := (279, .iaload, 1)) rfl
theorem dL_law_280 : decode cL_law 280 = .ok (.invokevirtual 27, 3) := dget daL_law_2 20 (q := (280, .invokevirtual 27, 3)) rfl
theorem dL_law_283 : decode cL_law 283 = .ok (.pop, 1) := dget daL_law_2 21 (q := (283, .pop, 1)) rfl
theorem dL_law_284 : decode cL_law 284 = .ok (.goto 1191, 3) := dget daL_law_2 22 (q := (284, .goto 1191, 3)) rfl
theorem dL_law_287 : decode cL_law 287 = .ok (.aload_n 1, 1) := dget daL_law_2 23 (q := (287, .aload_n 1, 1)) rfl
theorem dL_law_288 : decode cL_law 288 = .ok (.aload_n 0, 1) := dget daL_law_2 24 (q := (288, .aload_n 0, 1)) rfl
theorem dL_law_289 : decode cL_law 289 = .ok (.iload_n 3, 1) := dget daL_law_2 25 (q := (289, .iload_n 3, 1)) rfl
theorem dL_law_290 : decode cL_law 290 = .ok (.iconst 1, 1) := dget daL_law_2 26 (q := (290, .iconst 1, 1)) rfl
theorem dL_law_291 : decode cL_law 291 = .ok (.iadd, 1) := dget daL_law_2 27 (q := (291, .iadd, 1)) rfl
theorem dL_law_292 : decode cL_law 292 = .ok (.iaload, 1) := dget daL_law_2 28 (q := (292, .iaload, 1)) rfl
theorem dL_law_293 : decode cL_law 293 = .ok (.aload_n 0, 1) := dget daL_law_2 29 (q := (293, .aload_n 0, 1)) rfl
theorem dL_law_294 : decode cL_law 294 = .ok (.iload_n 3, 1) := dget daL_law_2 30 (q := (294, .iload_n 3, 1)) rfl
theorem dL_law_295 : decode cL_law 295 = .ok (.iconst 2, 1) := dget daL_law_2 31 (q := (295, .iconst 2, 1)) rfl
theorem dL_law_296 : decode cL_law 296 = .ok (.iadd, 1) := dget daL_law_2 32 (q := (296, .iadd, 1)) rfl
theorem dL_law_297 : decode cL_law 297 = .ok (.iaload, 1) := dget daL_law_2 33 (q := (297, .iaload, 1)) rfl
theorem dL_law_298 : decode cL_law 298 = .ok (.aload_n 0, 1) := dget daL_law_2 34 (q := (298, .aload_n 0, 1)) rfl
theorem dL_law_299 : decode cL_law 299 = .ok (.iload_n 3, 1) := dget daL_law_2 35 (q := (299, .iload_n 3, 1)) rfl
theorem dL_law_300 : decode cL_law 300 = .ok (.iconst 3, 1) := dget daL_law_2 36 (q := (300, .iconst 3, 1)) rfl
theorem dL_law_301 : decode cL_law 301 = .ok (.iadd, 1) := dget daL_law_2 37 (q := (301, .iadd, 1)) rfl
theorem dL_law_302 : decode cL_law 302 = .ok (.iaload, 1) := dget daL_law_2 38 (q := (302, .iaload, 1)) rfl
theorem dL_law_303 : decode cL_law 303 = .ok (.invokevirtual 28, 3) := dget daL_law_2 39 (q := (303, .invokevirtual 28, 3)) rfl
def tdaL_law_3 : List (Nat × (Instr × Nat)) := [(306, .pop, 1), (307, .aload_n 2, 1), (308, .aload_n 0, 1), (309, .iload_n 3, 1), (310, .iconst 1, 1), (311, .iadd, 1), (312, .iaload, 1), (313, .aload_n 0, 1), (314, .iload_n 3, 1), (315, .iconst 2, 1), (316, .iadd, 1), (317, .iaload, 1), (318, .aload_n 0, 1), (319, .iload_n 3, 1), (320, .iconst 3, 1), (321, .iadd, 1), (322, .iaload, 1), (323, .invokevirtual 31, 3), (326, .pop, 1), (327, .goto 1148, 3), (330, .aload_n 1, 1), (331, .aload_n 0, 1), (332, .iload_n 3, 1), (333, .iconst 1, 1), (334, .iadd, 1), (335, .iaload, 1), (336, .invokevirtual 32, 3), (339, .pop, 1), (340, .aload_n 2, 1), (341, .aload_n 0, 1), (342, .iload_n 3, 1), (343, .iconst 1, 1), (344, .iadd, 1), (345, .iaload, 1), (346, .invokevirtual 35, 3), (349, .pop, 1), (350, .goto 1125, 3), (353, .aload_n 1, 1), (354, .aload_n 0, 1), (355, .iload_n 3, 1)]
theorem daL_law_3 : tdaL_law_3.all (fun q => decide (decode cL_law q.1 = .ok q.2)) = true := by decide +kernel
theorem dL_law_306 : decode cL_law 306 = .ok (.pop, 1) := dget daL_law_3 0 (q := (306, .pop, 1)) rfl
theorem dL_law_307 : decode cL_law 307 = .ok (.aload_n 2, 1) := dget daL_law_3 1 (q := (307, .aload_n 2, 1)) rfl
theorem dL_law_308 : decode cL_law 308 = .ok (.aload_n 0, 1) := dget daL_law_3 2 (q := (308, .aload_n 0, 1)) rfl
theorem dL_law_309 : decode cL_law 309 = .ok (.iload_n 3, 1) := dget daL_law_3 3 (q := (309, .iload_n 3, 1)) rfl
theorem dL_law_310 : decode cL_law 310 = .ok (.iconst 1, 1) := dget daL_law_3 4 (q := (310, .iconst 1, 1)) rfl
theorem dL_law_311 : decode cL_law 311 = .ok (.iadd, 1) := dget daL_law_3 5 (q := (311, .iadd, 1)) rfl
theorem dL_law_312 : decode cL_law 312 = .ok (.iaload, 1) := dget daL_law_3 6 (q := (312, .iaload, 1)) rfl
theorem dL_law_313 : decode cL_law 313 = .ok (.aload_n 0, 1) := dget daL_law_3 7 (q := (313, .aload_n 0, 1)) rfl
theorem dL_law_314 : decode cL_law 314 = .ok (.iload_n 3, 1) := dget daL_law_3 8 (q := (314, .iload_n 3, 1)) rfl
theorem dL_law_315 : decode cL_law 315 = .ok (.iconst 2, 1) := dget daL_law_3 9 (q := (315, .iconst 2, 1)) rfl
theorem dL_law_316 : decode cL_law 316 = .ok (.iadd, 1) := dget daL_law_3 10 (q := (316, .iadd, 1)) rfl
theorem dL_law_317 : decode cL_law 317 = .ok (.iaload, 1) := dget daL_law_3 11 (q := (317, .iaload, 1)) rfl
theorem dL_law_318 : decode cL_law 318 = .ok (.aload_n 0, 1) := dget daL_law_3 12 (q := (318, .aload_n 0, 1)) rfl
theorem dL_law_319 : decode cL_law 319 = .ok (.iload_n 3, 1) := dget daL_law_3 13 (q := (319, .iload_n 3, 1)) rfl
theorem dL_law_320 : decode cL_law 320 = .ok (.iconst 3, 1) := dget daL_law_3 14 (q := (320, .iconst 3, 1)) rfl
theorem dL_law_321 : decode cL_law 321 = .ok (.iadd, 1) := dget daL_law_3 15 (q := (321, .iadd, 1)) rfl
theorem dL_law_322 : decode cL_law 322 = .ok (.iaload, 1) := dget daL_law_3 16 (q := (322, .iaload, 1)) rfl
theorem dL_law_323 : decode cL_law 323 = .ok (.invokevirtual 31, 3) := dget daL_law_3 17 (q := (323, .invokevirtual 31, 3)) rfl
theorem dL_law_326 : decode cL_law 326 = .ok (.pop, 1) := dget daL_law_3 18 (q := (326, .pop, 1)) rfl
theorem dL_law_327 : decode cL_law 327 = .ok (.goto 1148, 3) := dget daL_law_3 19 (q := (327, .goto 1148, 3)) rfl
theorem dL_law_330 : decode cL_law 330 = .ok (.aload_n 1, 1) := dget daL_law_3 20 (q := (330, .aload_n 1, 1)) rfl
theorem dL_law_331 : decode cL_law 331 = .ok (.aload_n 0, 1) := dget daL_law_3 21 (q := (331, .aload_n 0, 1)) rfl
theorem dL_law_332 : decode cL_law 332 = .ok (.iload_n 3, 1) := dget daL_law_3 22 (q := (332, .iload_n 3, 1)) rfl
theorem dL_law_333 : decode cL_law 333 = .ok (.iconst 1, 1) := dget daL_law_3 23 (q := (333, .iconst 1, 1)) rfl
theorem dL_law_334 : decode cL_law 334 = .ok (.iadd, 1) := dget daL_law_3 24 (q := (334, .iadd, 1)) rfl
theorem dL_law_335 : decode cL_law 335 = .ok (.iaload, 1) := dget daL_law_3 25 (q := (335, .iaload, 1)) rfl
theorem dL_law_336 : decode cL_law 336 = .ok (.invokevirtual 32, 3) := dget daL_law_3 26 (q := (336, .invokevirtual 32, 3)) rfl
theorem dL_law_339 : decode cL_law 339 = .ok (.pop, 1) := dget daL_law_3 27 (q := (339, .pop, 1)) rfl
theorem dL_law_340 : decode cL_law 340 = .ok (.aload_n 2, 1) := dget daL_law_3 28 (q := (340, .aload_n 2, 1)) rfl
theorem dL_law_341 : decode cL_law 341 = .ok (.aload_n 0, 1) := dget daL_law_3 29 (q := (341, .aload_n 0, 1)) rfl
theorem dL_law_342 : decode cL_law 342 = .ok (.iload_n 3, 1) := dget daL_law_3 30 (q := (342, .iload_n 3, 1)) rfl
theorem dL_law_343 : decode cL_law 343 = .ok (.iconst 1, 1) := dget daL_law_3 31 (q := (343, .iconst 1, 1)) rfl
theorem dL_law_344 : decode cL_law 344 = .ok (.iadd, 1) := dget daL_law_3 32 (q := (344, .iadd, 1)) rfl
theorem dL_law_345 : decode cL_law 345 = .ok (.iaload, 1) := dget daL_law_3 33 (q := (345, .iaload, 1)) rfl
theorem dL_law_346 : decode cL_law 346 = .ok (.invokevirtual 35, 3) := dget daL_law_3 34 (q := (346, .invokevirtual 35, 3)) rfl
theorem dL_law_349 : decode cL_law 349 = .ok (.pop, 1) := dget daL_law_3 35 (q := (349, .pop, 1)) rfl
theorem dL_law_350 : decode cL_law 350 = .ok (.goto 1125, 3) := dget daL_law_3 36 (q := (350, .goto 1125, 3)) rfl
theorem dL_law_353 : decode cL_law 353 = .ok (.aload_n 1, 1) := dget daL_law_3 37 (q := (353, .aload_n 1, 1)) rfl
theorem dL_law_354 : decode cL_law 354 = .ok (.aload_n 0, 1) := dget daL_law_3 38 (q := (354, .aload_n 0, 1)) rfl
theorem dL_law_355 : decode cL_law 355 = .ok (.iload_n 3, 1) := dget daL_law_3 39 (q := (355, .iload_n 3, 1)) rfl
def tdaL_law_4 : List (Nat × (Instr × Nat)) := [(356, .iconst 1, 1), (357, .iadd, 1), (358, .iaload, 1), (359, .aload_n 0, 1), (360, .iload_n 3, 1), (361, .iconst 2, 1), (362, .iadd, 1), (363, .iaload, 1), (364, .aload_n 0, 1), (365, .iload_n 3, 1), (366, .iconst 3, 1), (367, .iadd, 1), (368, .iaload, 1), (369, .aload_n 0, 1), (370, .iload_n 3, 1), (371, .iconst 4, 1), (372, .iadd, 1), (373, .iaload, 1), (374, .aload_n 0, 1), (375, .iload_n 3, 1), (376, .iconst 5, 1), (377, .iadd, 1), (378, .iaload, 1), (379, .aload_n 0, 1), (380, .iload_n 3, 1), (381, .bipush 6, 2), (383, .iadd, 1), (384, .iaload, 1), (385, .invokevirtual 36, 3), (388, .pop, 1), (389, .aload_n 2, 1), (390, .aload_n 0, 1), (391, .iload_n 3, 1), (392, .iconst 1, 1), (393, .iadd, 1), (394, .iaload, 1), (395, .aload_n 0, 1), (396, .iload_n 3, 1), (397, .iconst 2, 1), (398, .iadd, 1)]
theorem daL_law_4 : tdaL_law_4.all (fun q => decide (decode cL_law q.1 = .ok q.2)) = true := by decide +kernel
theorem dL_law_356 : decode cL_law 356 = .ok (.iconst 1, 1) := dget daL_law_4 0 (q := (356, .iconst 1, 1)) rfl
theorem dL_law_357 : decode cL_law 357 = .ok (.iadd, 1) := dget daL_law_4 1 (q := (357, .iadd, 1)) rfl
theorem dL_law_358 : decode cL_law 358 = .ok (.iaload, 1) := dget daL_law_4 2 (q := (358, .iaload, 1)) rfl
theorem dL_law_359 : decode cL_law 359 = .ok (.aload_n 0, 1) := dget daL_law_4 3 (q := (359, .aload_n 0, 1)) rfl
theorem dL_law_360 : decode cL_law 360 = .ok (.iload_n 3, 1) := dget daL_law_4 4 (q := (360, .iload_n 3, 1)) rfl
theorem dL_law_361 : decode cL_law 361 = .ok (.iconst 2, 1) := dget daL_law_4 5 (q := (361, .iconst 2, 1)) rfl
theorem dL_law_362 : decode cL_law 362 = .ok (.iadd, 1) := dget daL_law_4 6 (q := (362, .iadd, 1)) rfl
theorem dL_law_363 : decode cL_law 363 = .ok (.iaload, 1) := dget daL_law_4 7 (q := (363, .iaload, 1)) rfl
theorem dL_law_364 : decode cL_law 364 = .ok (.aload_n 0, 1) := dget daL_law_4 8 (q := (364, .aload_n 0, 1)) rfl
theorem dL_law_365 : decode cL_law 365 = .ok (.iload_n 3, 1) := dget daL_law_4 9 (q := (365, .iload_n 3, 1)) rfl
theorem dL_law_366 : decode cL_law 366 = .ok (.iconst 3, 1) := dget daL_law_4 10 (q := (366, .iconst 3, 1)) rfl
theorem dL_law_367 : decode cL_law 367 = .ok (.iadd, 1) := dget daL_law_4 11 (q := (367, .iadd, 1)) rfl
theorem dL_law_368 : decode cL_law 368 = .ok (.iaload, 1) := dget daL_law_4 12 (q := (368, .iaload, 1)) rfl
theorem dL_law_369 : decode cL_law 369 = .ok (.aload_n 0, 1) := dget daL_law_4 13 (q := (369, .aload_n 0, 1)) rfl
theorem dL_law_370 : decode cL_law 370 = .ok (.iload_n 3, 1) := dget daL_law_4 14 (q := (370, .iload_n 3, 1)) rfl
theorem dL_law_371 : decode cL_law 371 = .ok (.iconst 4, 1) := dget daL_law_4 15 (q := (371, .iconst 4, 1)) rfl
theorem dL_law_372 : decode cL_law 372 = .ok (.iadd, 1) := dget daL_law_4 16 (q := (372, .iadd, 1)) rfl
theorem dL_law_373 : decode cL_law 373 = .ok (.iaload, 1) := dget daL_law_4 17 (q := (373, .iaload, 1)) rfl
theorem dL_law_374 : decode cL_law 374 = .ok (.aload_n 0, 1) := dget daL_law_4 18 (q := (374, .aload_n 0, 1)) rfl
theorem dL_law_375 : decode cL_law 375 = .ok (.iload_n 3, 1) := dget daL_law_4 19 (q := (375, .iload_n 3, 1)) rfl
theorem dL_law_376 : decode cL_law 376 = .ok (.iconst 5, 1) := dget daL_law_4 20 (q := (376, .iconst 5, 1)) rfl
theorem dL_law_377 : decode cL_law 377 = .ok (.iadd, 1) := dget daL_law_4 21 (q := (377, .iadd, 1)) rfl
theorem dL_law_378 : decode cL_law 378 = .ok (.iaload, 1) := dget daL_law_4 22 (q := (378, .iaload, 1)) rfl
theorem dL_law_379 : decode cL_law 379 = .ok (.aload_n 0, 1) := dget daL_law_4 23 (q := (379, .aload_n 0, 1)) rfl
theorem dL_law_380 : decode cL_law 380 = .ok (.iload_n 3, 1) := dget daL_law_4 24 (q := (380, .iload_n 3, 1)) rfl
theorem dL_law_381 : decode cL_law 381 = .ok (.bipush 6, 2) := dget daL_law_4 25 (q := (381, .bipush 6, 2)) rfl
theorem dL_law_383 : decode cL_law 383 = .ok (.iadd, 1) := dget daL_law_4 26 (q := (383, .iadd, 1)) rfl
theorem dL_law_384 : decode cL_law 384 = .ok (.iaload, 1) := dget daL_law_4 27 (q := (384, .iaload, 1)) rfl
theorem dL_law_385 : decode cL_law 385 = .ok (.invokevirtual 36, 3) := dget daL_law_4 28 (q := (385, .invokevirtual 36, 3)) rfl
theorem dL_law_388 : decode cL_law 388 = .ok (.pop, 1) := dget daL_law_4 29 (q := (388, .pop, 1)) rfl
theorem dL_law_389 : decode cL_law 389 = .ok (.aload_n 2, 1) := dget daL_law_4 30 (q := (389, .aload_n 2, 1)) rfl
theorem dL_law_390 : decode cL_law 390 = .ok (.aload_n 0, 1) := dget daL_law_4 31 (q := (390, .aload_n 0, 1)) rfl
theorem dL_law_391 : decode cL_law 391 = .ok (.iload_n 3, 1) := dget daL_law_4 32 (q := (391, .iload_n 3, 1)) rfl
theorem dL_law_392 : decode cL_law 392 = .ok (.iconst 1, 1) := dget daL_law_4 33 (q := (392, .iconst 1, 1)) rfl
theorem dL_law_393 : decode cL_law 393 = .ok (.iadd, 1) := dget daL_law_4 34 (q := (393, .iadd, 1)) rfl
theorem dL_law_394 : decode cL_law 394 = .ok (.iaload, 1) := dget daL_law_4 35 (q := (394, .iaload, 1)) rfl
theorem dL_law_395 : decode cL_law 395 = .ok (.aload_n 0, 1) := dget daL_law_4 36 (q := (395, .aload_n 0, 1)) rfl
theorem dL_law_396 : decode cL_law 396 = .ok (.iload_n 3, 1) := dget daL_law_4 37 (q := (396, .iload_n 3, 1)) rfl
theorem dL_law_397 : decode cL_law 397 = .ok (.iconst 2, 1) := dget daL_law_4 38 (q := (397, .iconst 2, 1)) rfl
theorem dL_law_398 : decode cL_law 398 = .ok (.iadd, 1) := dget daL_law_4 39 (q := (398, .iadd, 1)) rfl
def tdaL_law_5 : List (Nat × (Instr × Nat)) := [(399, .iaload, 1), (400, .aload_n 0, 1), (401, .iload_n 3, 1), (402, .iconst 3, 1), (403, .iadd, 1), (404, .iaload, 1), (405, .aload_n 0, 1), (406, .iload_n 3, 1), (407, .iconst 4, 1), (408, .iadd, 1), (409, .iaload, 1), (410, .aload_n 0, 1), (411, .iload_n 3, 1), (412, .iconst 5, 1), (413, .iadd, 1), (414, .iaload, 1), (415, .aload_n 0, 1), (416, .iload_n 3, 1), (417, .bipush 6, 2), (419, .iadd, 1), (420, .iaload, 1), (421, .invokevirtual 40, 3), (424, .pop, 1), (425, .goto 1050, 3), (428, .aload_n 1, 1), (429, .aload_n 0, 1), (430, .iload_n 3, 1), (431, .iconst 1, 1), (432, .iadd, 1), (433, .iaload, 1), (434, .aload_n 0, 1), (435, .iload_n 3, 1), (436, .iconst 2, 1), (437, .iadd, 1), (438, .iaload, 1), (439, .aload_n 0, 1), (440, .iload_n 3, 1), (441, .iconst 3, 1), (442, .iadd, 1), (443, .iaload, 1)]
theorem daL_law_5 : tdaL_law_5.all (fun q => decide (decode cL_law q.1 = .ok q.2)) = true := by decide +kernel
theorem dL_law_399 : decode cL_law 399 = .ok (.iaload, 1) := dget daL_law_5 0 (q := (399, .iaload, 1)) rfl
theorem dL_law_400 : decode cL_law 400 = .ok (.aload_n 0, 1) := dget daL_law_5 1 (q := (400, .aload_n 0, 1)) rfl
theorem dL_law_401 : decode cL_law 401 = .ok (.iload_n 3, 1) := dget daL_law_5 2 (q := (401, .iload_n 3, 1)) rfl
theorem dL_law_402 : decode cL_law 402 = .ok (.iconst 3, 1) := dget daL_law_5 3 (q := (402, .iconst 3, 1)) rfl
theorem dL_law_403 : decode cL_law 403 = .ok (.iadd, 1) := dget daL_law_5 4 (q := (403, .iadd, 1)) rfl
theorem dL_law_404 : decode cL_law 404 = .ok (.iaload, 1) := dget daL_law_5 5 (q := (404, .iaload, 1)) rfl
theorem dL_law_405 : decode cL_law 405 = .ok (.aload_n 0, 1) := dget daL_law_5 6 (q := (405, .aload_n 0, 1)) rfl
theorem dL_law_406 : decode cL_law 406 = .ok (.iload_n 3, 1) := dget daL_law_5 7 (q := (406, .iload_n 3, 1)) rfl
theorem dL_law_407 : decode cL_law 407 = .ok (.iconst 4, 1) := dget daL_law_5 8 (q := (407, .iconst 4, 1)) rfl
theorem dL_law_408 : decode cL_law 408 = .ok (.iadd, 1) := dget daL_law_5 9 (q := (408, .iadd, 1)) rfl
theorem dL_law_409 : decode cL_law 409 = .ok (.iaload, 1) := dget daL_law_5 10 (q := (409, .iaload, 1)) rfl
theorem dL_law_410 : decode cL_law 410 = .ok (.aload_n 0, 1) := dget daL_law_5 11 (q := (410, .aload_n 0, 1)) rfl
theorem dL_law_411 : decode cL_law 411 = .ok (.iload_n 3, 1) := dget daL_law_5 12 (q := (411, .iload_n 3, 1)) rfl
theorem dL_law_412 : decode cL_law 412 = .ok (.iconst 5, 1) := dget daL_law_5 13 (q := (412, .iconst 5, 1)) rfl
theorem dL_law_413 : decode cL_law 413 = .ok (.iadd, 1) := dget daL_law_5 14 (q := (413, .iadd, 1)) rfl
theorem dL_law_414 : decode cL_law 414 = .ok (.iaload, 1) := dget daL_law_5 15 (q := (414, .iaload, 1)) rfl
theorem dL_law_415 : decode cL_law 415 = .ok (.aload_n 0, 1) := dget daL_law_5 16 (q := (415, .aload_n 0, 1)) rfl
theorem dL_law_416 : decode cL_law 416 = .ok (.iload_n 3, 1) := dget daL_law_5 17 (q := (416, .iload_n 3, 1)) rfl
theorem dL_law_417 : decode cL_law 417 = .ok (.bipush 6, 2) := dget daL_law_5 18 (q := (417, .bipush 6, 2)) rfl
theorem dL_law_419 : decode cL_law 419 = .ok (.iadd, 1) := dget daL_law_5 19 (q := (419, .iadd, 1)) rfl
theorem dL_law_420 : decode cL_law 420 = .ok (.iaload, 1) := dget daL_law_5 20 (q := (420, .iaload, 1)) rfl
theorem dL_law_421 : decode cL_law 421 = .ok (.invokevirtual 40, 3) := dget daL_law_5 21 (q := (421, .invokevirtual 40, 3)) rfl
theorem dL_law_424 : decode cL_law 424 = .ok (.pop, 1) := dget daL_law_5 22 (q := (424, .pop, 1)) rfl
theorem dL_law_425 : decode cL_law 425 = .ok (.goto 1050, 3) := dget daL_law_5 23 (q := (425, .goto 1050, 3)) rfl
theorem dL_law_428 : decode cL_law 428 = .ok (.aload_n 1, 1) := dget daL_law_5 24 (q := (428, .aload_n 1, 1)) rfl
theorem dL_law_429 : decode cL_law 429 = .ok (.aload_n 0, 1) := dget daL_law_5 25 (q := (429, .aload_n 0, 1)) rfl
theorem dL_law_430 : decode cL_law 430 = .ok (.iload_n 3, 1) := dget daL_law_5 26 (q := (430, .iload_n 3, 1)) rfl
theorem dL_law_431 : decode cL_law 431 = .ok (.iconst 1, 1) := dget daL_law_5 27 (q := (431, .iconst 1, 1)) rfl
theorem dL_law_432 : decode cL_law 432 = .ok (.iadd, 1) := dget daL_law_5 28 (q := (432, .iadd, 1)) rfl
theorem dL_law_433 : decode cL_law 433 = .ok (.iaload, 1) := dget daL_law_5 29 (q := (433, .iaload, 1)) rfl
theorem dL_law_434 : decode cL_law 434 = .ok (.aload_n 0, 1) := dget daL_law_5 30 (q := (434, .aload_n 0, 1)) rfl
theorem dL_law_435 : decode cL_law 435 = .ok (.iload_n 3, 1) := dget daL_law_5 31 (q := (435, .iload_n 3, 1)) rfl
theorem dL_law_436 : decode cL_law 436 = .ok (.iconst 2, 1) := dget daL_law_5 32 (q := (436, .iconst 2, 1)) rfl
theorem dL_law_437 : decode cL_law 437 = .ok (.iadd, 1) := dget daL_law_5 33 (q := (437, .iadd, 1)) rfl
theorem dL_law_438 : decode cL_law 438 = .ok (.iaload, 1) := dget daL_law_5 34 (q := (438, .iaload, 1)) rfl
theorem dL_law_439 : decode cL_law 439 = .ok (.aload_n 0, 1) := dget daL_law_5 35 (q := (439, .aload_n 0, 1)) rfl
theorem dL_law_440 : decode cL_law 440 = .ok (.iload_n 3, 1) := dget daL_law_5 36 (q := (440, .iload_n 3, 1)) rfl
theorem dL_law_441 : decode cL_law 441 = .ok (.iconst 3, 1) := dget daL_law_5 37 (q := (441, .iconst 3, 1)) rfl
theorem dL_law_442 : decode cL_law 442 = .ok (.iadd, 1) := dget daL_law_5 38 (q := (442, .iadd, 1)) rfl
theorem dL_law_443 : decode cL_law 443 = .ok (.iaload, 1) := dget daL_law_5 39 (q := (443, .iaload, 1)) rfl
def tdaL_law_6 : List (Nat × (Instr × Nat)) := [(444, .invokevirtual 41, 3), (447, .pop, 1), (448, .aload_n 2, 1), (449, .aload_n 0, 1), (450, .iload_n 3, 1), (451, .iconst 1, 1), (452, .iadd, 1), (453, .iaload, 1), (454, .aload_n 0, 1), (455, .iload_n 3, 1), (456, .iconst 2, 1), (457, .iadd, 1), (458, .iaload, 1), (459, .aload_n 0, 1), (460, .iload_n 3, 1), (461, .iconst 3, 1), (462, .iadd, 1), (463, .iaload, 1), (464, .invokevirtual 44, 3), (467, .pop, 1), (468, .goto 1007, 3), (471, .aload_n 1, 1), (472, .aload_n 0, 1), (473, .iload_n 3, 1), (474, .iconst 1, 1), (475, .iadd, 1), (476, .iaload, 1), (477, .aload_n 0, 1), (478, .iload_n 3, 1), (479, .iconst 2, 1), (480, .iadd, 1), (481, .iaload, 1), (482, .invokevirtual 45, 3), (485, .pop, 1), (486, .aload_n 2, 1), (487, .aload_n 0, 1), (488, .iload_n 3, 1), (489, .iconst 1, 1), (490, .iadd, 1), (491, .iaload, 1)]
theorem daL_law_6 : tdaL_law_6.all (fun q => decide (decode cL_law q.1 = .ok q.2)) = true := by decide +kernel
theorem dL_law_444 : decode cL_law 444 = .ok (.invokevirtual 41, 3) := dget daL_law_6 0 (q := (444, .invokevirtual 41, 3)) rfl
theorem dL_law_447 : decode cL_law 447 = .ok (.pop, 1) := dget daL_law_6 1 (q := (447, .pop, 1)) rfl
theorem dL_law_448 : decode cL_law 448 = .ok (.aload_n 2, 1) := dget daL_law_6 2 (q := (448, .aload_n 2, 1)) rfl
theorem dL_law_449 : decode cL_law 449 = .ok (.aload_n 0, 1) := dget daL_law_6 3 (q := (449, .aload_n 0, 1)) rfl
theorem dL_law_450 : decode cL_law 450 = .ok (.iload_n 3, 1) := dget daL_law_6 4 (q := (450, .iload_n 3, 1)) rfl
theorem dL_law_451 : decode cL_law 451 = .ok (.iconst 1, 1) := dget daL_law_6 5 (q := (451, .iconst 1, 1)) rfl
theorem dL_law_452 : decode cL_law 452 = .ok (.iadd, 1) := dget daL_law_6 6 (q := (452, .iadd, 1)) rfl
theorem dL_law_453 : decode cL_law 453 = .ok (.iaload, 1) := dget daL_law_6 7 (q := (453, .iaload, 1)) rfl
theorem dL_law_454 : decode cL_law 454 = .ok (.aload_n 0, 1) := dget daL_law_6 8 (q := (454, .aload_n 0, 1)) rfl
theorem dL_law_455 : decode cL_law 455 = .ok (.iload_n 3, 1) := dget daL_law_6 9 (q := (455, .iload_n 3, 1)) rfl
theorem dL_law_456 : decode cL_law 456 = .ok (.iconst 2, 1) := dget daL_law_6 10 (q := (456, .iconst 2, 1)) rfl
theorem dL_law_457 : decode cL_law 457 = .ok (.iadd, 1) := dget daL_law_6 11 (q := (457, .iadd, 1)) rfl
theorem dL_law_458 : decode cL_law 458 = .ok (.iaload, 1) := dget daL_law_6 12 (q := (458, .iaload, 1)) rfl
theorem dL_law_459 : decode cL_law 459 = .ok (.aload_n 0, 1) := dget daL_law_6 13 (q := (459, .aload_n 0, 1)) rfl
theorem dL_law_460 : decode cL_law 460 = .ok (.iload_n 3, 1) := dget daL_law_6 14 (q := (460, .iload_n 3, 1)) rfl
theorem dL_law_461 : decode cL_law 461 = .ok (.iconst 3, 1) := dget daL_law_6 15 (q := (461, .iconst 3, 1)) rfl
theorem dL_law_462 : decode cL_law 462 = .ok (.iadd, 1) := dget daL_law_6 16 (q := (462, .iadd, 1)) rfl
theorem dL_law_463 : decode cL_law 463 = .ok (.iaload, 1) := dget daL_law_6 17 (q := (463, .iaload, 1)) rfl
theorem dL_law_464 : decode cL_law 464 = .ok (.invokevirtual 44, 3) := dget daL_law_6 18 (q := (464, .invokevirtual 44, 3)) rfl
theorem dL_law_467 : decode cL_law 467 = .ok (.pop, 1) := dget daL_law_6 19 (q := (467, .pop, 1)) rfl
theorem dL_law_468 : decode cL_law 468 = .ok (.goto 1007, 3) := dget daL_law_6 20 (q := (468, .goto 1007, 3)) rfl
theorem dL_law_471 : decode cL_law 471 = .ok (.aload_n 1, 1) := dget daL_law_6 21 (q := (471, .aload_n 1, 1)) rfl
theorem dL_law_472 : decode cL_law 472 = .ok (.aload_n 0, 1) := dget daL_law_6 22 (q := (472, .aload_n 0, 1)) rfl
theorem dL_law_473 : decode cL_law 473 = .ok (.iload_n 3, 1) := dget daL_law_6 23 (q := (473, .iload_n 3, 1)) rfl
theorem dL_law_474 : decode cL_law 474 = .ok (.iconst 1, 1) := dget daL_law_6 24 (q := (474, .iconst 1, 1)) rfl
theorem dL_law_475 : decode cL_law 475 = .ok (.iadd, 1) := dget daL_law_6 25 (q := (475, .iadd, 1)) rfl
theorem dL_law_476 : decode cL_law 476 = .ok (.iaload, 1) := dget daL_law_6 26 (q := (476, .iaload, 1)) rfl
theorem dL_law_477 : decode cL_law 477 = .ok (.aload_n 0, 1) := dget daL_law_6 27 (q := (477, .aload_n 0, 1)) rfl
theorem dL_law_478 : decode cL_law 478 = .ok (.iload_n 3, 1) := dget daL_law_6 28 (q := (478, .iload_n 3, 1)) rfl
theorem dL_law_479 : decode cL_law 479 = .ok (.iconst 2, 1) := dget daL_law_6 29 (q := (479, .iconst 2, 1)) rfl
theorem dL_law_480 : decode cL_law 480 = .ok (.iadd, 1) := dget daL_law_6 30 (q := (480, .iadd, 1)) rfl
theorem dL_law_481 : decode cL_law 481 = .ok (.iaload, 1) := dget daL_law_6 31 (q := (481, .iaload, 1)) rfl
theorem dL_law_482 : decode cL_law 482 = .ok (.invokevirtual 45, 3) := dget daL_law_6 32 (q := (482, .invokevirtual 45, 3)) rfl
theorem dL_law_485 : decode cL_law 485 = .ok (.pop, 1) := dget daL_law_6 33 (q := (485, .pop, 1)) rfl
theorem dL_law_486 : decode cL_law 486 = .ok (.aload_n 2, 1) := dget daL_law_6 34 (q := (486, .aload_n 2, 1)) rfl
theorem dL_law_487 : decode cL_law 487 = .ok (.aload_n 0, 1) := dget daL_law_6 35 (q := (487, .aload_n 0, 1)) rfl
theorem dL_law_488 : decode cL_law 488 = .ok (.iload_n 3, 1) := dget daL_law_6 36 (q := (488, .iload_n 3, 1)) rfl
theorem dL_law_489 : decode cL_law 489 = .ok (.iconst 1, 1) := dget daL_law_6 37 (q := (489, .iconst 1, 1)) rfl
theorem dL_law_490 : decode cL_law 490 = .ok (.iadd, 1) := dget daL_law_6 38 (q := (490, .iadd, 1)) rfl
theorem dL_law_491 : decode cL_law 491 = .ok (.iaload, 1) := dget daL_law_6 39 (q := (491, .iaload, 1)) rfl
def tdaL_law_7 : List (Nat × (Instr × Nat)) := [(492, .aload_n 0, 1), (493, .iload_n 3, 1), (494, .iconst 2, 1), (495, .iadd, 1), (496, .iaload, 1), (497, .invokevirtual 48, 3), (500, .pop, 1), (501, .goto 974, 3), (504, .aload_n 1, 1), (505, .aload_n 0, 1), (506, .iload_n 3, 1), (507, .iconst 1, 1), (508, .iadd, 1), (509, .iaload, 1), (510, .aload_n 0, 1), (511, .iload_n 3, 1), (512, .iconst 2, 1), (513, .iadd, 1), (514, .iaload, 1), (515, .invokevirtual 49, 3), (518, .pop, 1), (519, .aload_n 2, 1), (520, .aload_n 0, 1), (521, .iload_n 3, 1), (522, .iconst 1, 1), (523, .iadd, 1), (524, .iaload, 1), (525, .aload_n 0, 1), (526, .iload_n 3, 1), (527, .iconst 2, 1), (528, .iadd, 1), (529, .iaload, 1), (530, .invokevirtual 52, 3), (533, .pop, 1), (534, .goto 941, 3), (537, .aload_n 1, 1), (538, .aload_n 0, 1), (539, .iload_n 3, 1), (540, .iconst 1, 1), (541, .iadd, 1)]
theorem daL_law_7 : tdaL_law_7.all (fun q => decide (decode cL_law q.1 = .ok q.2)) = true := by decide +kernel
theorem dL_law_492 : decode cL_law 492 = .ok (.aload_n 0, 1) := dget daL_law_7 0 (q := (492, .aload_n 0, 1)) rfl
theorem dL_law_493 : decode cL_law 493 = .ok (.iload_n 3, 1) := dget daL_law_7 1 (q := (493, .iload_n 3, 1)) rfl
theorem dL_law_494 : decode cL_law 494 = .ok (.iconst 2, 1) := dget daL_law_7 2 (q := (494, .iconst 2, 1)) rfl
theorem dL_law_495 : decode cL_law 495 = .ok (.iadd, 1) := dget daL_law_7 3 (q := (495, .iadd, 1)) rfl
theorem dL_law_496 : decode cL_law 496 = .ok (.iaload, 1) := dget daL_law_7 4 (q := (496, .iaload, 1)) rfl
theorem dL_law_497 : decode cL_law 497 = .ok (.invokevirtual 48, 3) := dget daL_law_7 5 (q := (497, .invokevirtual 48, 3)) rfl
theorem dL_law_500 : decode cL_law 500 = .ok (.pop, 1) := dget daL_law_7 6 (q := (500, .pop, 1)) rfl
theorem dL_law_501 : decode cL_law 501 = .ok (.goto 974, 3) := dget daL_law_7 7 (q := (501, .goto 974, 3)) rfl
theorem dL_law_504 : decode cL_law 504 = .ok (.aload_n 1, 1) := dget daL_law_7 8 (q := (504, .aload_n 1, 1)) rfl
theorem dL_law_505 : decode cL_law 505 = .ok (.aload_n 0, 1) := dget daL_law_7 9 (q := (505, .aload_n 0, 1)) rfl
theorem dL_law_506 : decode cL_law 506 = .ok (.iload_n 3, 1) := dget daL_law_7 10 (q := (506, .iload_n 3, 1)) rfl
theorem dL_law_507 : decode cL_law 507 = .ok (.iconst 1, 1) := dget daL_law_7 11 (q := (507, .iconst 1, 1)) rfl
theorem dL_law_508 : decode cL_law 508 = .ok (.iadd, 1) := dget daL_law_7 12 (q := (508, .iadd, 1)) rfl
theorem dL_law_509 : decode cL_law 509 = .ok (.iaload, 1) := dget daL_law_7 13 (q := (509, .iaload, 1)) rfl
theorem dL_law_510 : decode cL_law 510 = .ok (.aload_n 0, 1) := dget daL_law_7 14 (q := (510, .aload_n 0, 1)) rfl
theorem dL_law_511 : decode cL_law 511 = .ok (.iload_n 3, 1) := dget daL_law_7 15 (q := (511, .iload_n 3, 1)) rfl
theorem dL_law_512 : decode cL_law 512 = .ok (.iconst 2, 1) := dget daL_law_7 16 (q := (512, .iconst 2, 1)) rfl
theorem dL_law_513 : decode cL_law 513 = .ok (.iadd, 1) := dget daL_law_7 17 (q := (513, .iadd, 1)) rfl
theorem dL_law_514 : decode cL_law 514 = .ok (.iaload, 1) := dget daL_law_7 18 (q := (514, .iaload, 1)) rfl
theorem dL_law_515 : decode cL_law 515 = .ok (.invokevirtual 49, 3) := dget daL_law_7 19 (q := (515, .invokevirtual 49, 3)) rfl
theorem dL_law_518 : decode cL_law 518 = .ok (.pop, 1) := dget daL_law_7 20 (q := (518, .pop, 1)) rfl
theorem dL_law_519 : decode cL_law 519 = .ok (.aload_n 2, 1) := dget daL_law_7 21 (q := (519, .aload_n 2, 1)) rfl
theorem dL_law_520 : decode cL_law 520 = .ok (.aload_n 0, 1) := dget daL_law_7 22 (q := (520, .aload_n 0, 1)) rfl
theorem dL_law_521 : decode cL_law 521 = .ok (.iload_n 3, 1) := dget daL_law_7 23 (q := (521, .iload_n 3, 1)) rfl
theorem dL_law_522 : decode cL_law 522 = .ok (.iconst 1, 1) := dget daL_law_7 24 (q := (522, .iconst 1, 1)) rfl
theorem dL_law_523 : decode cL_law 523 = .ok (.iadd, 1) := dget daL_law_7 25 (q := (523, .iadd, 1)) rfl
theorem dL_law_524 : decode cL_law 524 = .ok (.iaload, 1) := dget daL_law_7 26 (q := (524, .iaload, 1)) rfl
theorem dL_law_525 : decode cL_law 525 = .ok (.aload_n 0, 1) := dget daL_law_7 27 (q := (525, .aload_n 0, 1)) rfl
theorem dL_law_526 : decode cL_law 526 = .ok (.iload_n 3, 1) := dget daL_law_7 28 (q := (526, .iload_n 3, 1)) rfl
theorem dL_law_527 : decode cL_law 527 = .ok (.iconst 2, 1) := dget daL_law_7 29 (q := (527, .iconst 2, 1)) rfl
theorem dL_law_528 : decode cL_law 528 = .ok (.iadd, 1) := dget daL_law_7 30 (q := (528, .iadd, 1)) rfl
theorem dL_law_529 : decode cL_law 529 = .ok (.iaload, 1) := dget daL_law_7 31 (q := (529, .iaload, 1)) rfl
theorem dL_law_530 : decode cL_law 530 = .ok (.invokevirtual 52, 3) := dget daL_law_7 32 (q := (530, .invokevirtual 52, 3)) rfl
theorem dL_law_533 : decode cL_law 533 = .ok (.pop, 1) := dget daL_law_7 33 (q := (533, .pop, 1)) rfl
theorem dL_law_534 : decode cL_law 534 = .ok (.goto 941, 3) := dget daL_law_7 34 (q := (534, .goto 941, 3)) rfl
theorem dL_law_537 : decode cL_law 537 = .ok (.aload_n 1, 1) := dget daL_law_7 35 (q := (537, .aload_n 1, 1)) rfl
theorem dL_law_538 : decode cL_law 538 = .ok (.aload_n 0, 1) := dget daL_law_7 36 (q := (538, .aload_n 0, 1)) rfl
theorem dL_law_539 : decode cL_law 539 = .ok (.iload_n 3, 1) := dget daL_law_7 37 (q := (539, .iload_n 3, 1)) rfl
theorem dL_law_540 : decode cL_law 540 = .ok (.iconst 1, 1) := dget daL_law_7 38 (q := (540, .iconst 1, 1)) rfl
theorem dL_law_541 : decode cL_law 541 = .ok (.iadd, 1) := dget daL_law_7 39 (q := (541, .iadd, 1)) rfl
def tdaL_law_8 : List (Nat × (Instr × Nat)) := [(542, .iaload, 1), (543, .aload_n 0, 1), (544, .iload_n 3, 1), (545, .iconst 2, 1), (546, .iadd, 1), (547, .iaload, 1), (548, .invokevirtual 53, 3), (551, .aload_n 2, 1), (552, .aload_n 0, 1), (553, .iload_n 3, 1), (554, .iconst 1, 1), (555, .iadd, 1), (556, .iaload, 1), (557, .aload_n 0, 1), (558, .iload_n 3, 1), (559, .iconst 2, 1), (560, .iadd, 1), (561, .iaload, 1), (562, .invokevirtual 56, 3), (565, .if_icmp .eq 910, 3), (568, .iconst 0, 1), (569, .ireturn, 1), (570, .aload_n 1, 1), (571, .aload_n 0, 1), (572, .iload_n 3, 1), (573, .iconst 1, 1), (574, .iadd, 1), (575, .iaload, 1), (576, .aload_n 0, 1), (577, .iload_n 3, 1), (578, .iconst 2, 1), (579, .iadd, 1), (580, .iaload, 1), (581, .ifCond .eq 7, 3), (584, .iconst 1, 1), (585, .goto 4, 3), (588, .iconst 0, 1), (589, .invokevirtual 57, 3), (592, .pop, 1), (593, .aload_n 2, 1)]
theorem daL_law_8 : tdaL_law_8.all (fun q => decide (decode cL_law q.1 = .ok q.2)) = true := by decide +kernel
theorem dL_law_542 : decode cL_law 542 = .ok (.iaload, 1) := dget daL_law_8 0 (q := (542, .iaload, 1)) rfl
theorem dL_law_543 : decode cL_law 543 = .ok (.aload_n 0, 1) := dget daL_law_8 1 (q := (543, .aload_n 0, 1)) rfl
theorem dL_law_544 : decode cL_law 544 = .ok (.iload_n 3, 1) := dget daL_law_8 2 (q := (544, .iload_n 3, 1)) rfl
theorem dL_law_545 : decode cL_law 545 = .ok (.iconst 2, 1) := dget daL_law_8 3 (q := (545, .iconst 2, 1)) rfl
theorem dL_law_546 : decode cL_law 546 = .ok (.iadd, 1) := dget daL_law_8 4 (q := (546, .iadd, 1)) rfl
theorem dL_law_547 : decode cL_law 547 = .ok (.iaload, 1) := dget daL_law_8 5 (q := (547, .iaload, 1)) rfl
theorem dL_law_548 : decode cL_law 548 = .ok (.invokevirtual 53, 3) := dget daL_law_8 6 (q := (548, .invokevirtual 53, 3)) rfl
theorem dL_law_551 : decode cL_law 551 = .ok (.aload_n 2, 1) := dget daL_law_8 7 (q := (551, .aload_n 2, 1)) rfl
theorem dL_law_552 : decode cL_law 552 = .ok (.aload_n 0, 1) := dget daL_law_8 8 (q := (552, .aload_n 0, 1)) rfl
theorem dL_law_553 : decode cL_law 553 = .ok (.iload_n 3, 1) := dget daL_law_8 9 (q := (553, .iload_n 3, 1)) rfl
theorem dL_law_554 : decode cL_law 554 = .ok (.iconst 1, 1) := dget daL_law_8 10 (q := (554, .iconst 1, 1)) rfl
theorem dL_law_555 : decode cL_law 555 = .ok (.iadd, 1) := dget daL_law_8 11 (q := (555, .iadd, 1)) rfl
theorem dL_law_556 : decode cL_law 556 = .ok (.iaload, 1) := dget daL_law_8 12 (q := (556, .iaload, 1)) rfl
theorem dL_law_557 : decode cL_law 557 = .ok (.aload_n 0, 1) := dget daL_law_8 13 (q := (557, .aload_n 0, 1)) rfl
theorem dL_law_558 : decode cL_law 558 = .ok (.iload_n 3, 1) := dget daL_law_8 14 (q := (558, .iload_n 3, 1)) rfl
theorem dL_law_559 : decode cL_law 559 = .ok (.iconst 2, 1) := dget daL_law_8 15 (q := (559, .iconst 2, 1)) rfl
theorem dL_law_560 : decode cL_law 560 = .ok (.iadd, 1) := dget daL_law_8 16 (q := (560, .iadd, 1)) rfl
theorem dL_law_561 : decode cL_law 561 = .ok (.iaload, 1) := dget daL_law_8 17 (q := (561, .iaload, 1)) rfl
theorem dL_law_562 : decode cL_law 562 = .ok (.invokevirtual 56, 3) := dget daL_law_8 18 (q := (562, .invokevirtual 56, 3)) rfl
theorem dL_law_565 : decode cL_law 565 = .ok (.if_icmp .eq 910, 3) := dget daL_law_8 19 (q := (565, .if_icmp .eq 910, 3)) rfl
theorem dL_law_568 : decode cL_law 568 = .ok (.iconst 0, 1) := dget daL_law_8 20 (q := (568, .iconst 0, 1)) rfl
theorem dL_law_569 : decode cL_law 569 = .ok (.ireturn, 1) := dget daL_law_8 21 (q := (569, .ireturn, 1)) rfl
theorem dL_law_570 : decode cL_law 570 = .ok (.aload_n 1, 1) := dget daL_law_8 22 (q := (570, .aload_n 1, 1)) rfl
theorem dL_law_571 : decode cL_law 571 = .ok (.aload_n 0, 1) := dget daL_law_8 23 (q := (571, .aload_n 0, 1)) rfl
theorem dL_law_572 : decode cL_law 572 = .ok (.iload_n 3, 1) := dget daL_law_8 24 (q := (572, .iload_n 3, 1)) rfl
theorem dL_law_573 : decode cL_law 573 = .ok (.iconst 1, 1) := dget daL_law_8 25 (q := (573, .iconst 1, 1)) rfl
theorem dL_law_574 : decode cL_law 574 = .ok (.iadd, 1) := dget daL_law_8 26 (q := (574, .iadd, 1)) rfl
theorem dL_law_575 : decode cL_law 575 = .ok (.iaload, 1) := dget daL_law_8 27 (q := (575, .iaload, 1)) rfl
theorem dL_law_576 : decode cL_law 576 = .ok (.aload_n 0, 1) := dget daL_law_8 28 (q := (576, .aload_n 0, 1)) rfl
theorem dL_law_577 : decode cL_law 577 = .ok (.iload_n 3, 1) := dget daL_law_8 29 (q := (577, .iload_n 3, 1)) rfl
theorem dL_law_578 : decode cL_law 578 = .ok (.iconst 2, 1) := dget daL_law_8 30 (q := (578, .iconst 2, 1)) rfl
theorem dL_law_579 : decode cL_law 579 = .ok (.iadd, 1) := dget daL_law_8 31 (q := (579, .iadd, 1)) rfl
theorem dL_law_580 : decode cL_law 580 = .ok (.iaload, 1) := dget daL_law_8 32 (q := (580, .iaload, 1)) rfl
theorem dL_law_581 : decode cL_law 581 = .ok (.ifCond .eq 7, 3) := dget daL_law_8 33 (q := (581, .ifCond .eq 7, 3)) rfl
theorem dL_law_584 : decode cL_law 584 = .ok (.iconst 1, 1) := dget daL_law_8 34 (q := (584, .iconst 1, 1)) rfl
theorem dL_law_585 : decode cL_law 585 = .ok (.goto 4, 3) := dget daL_law_8 35 (q := (585, .goto 4, 3)) rfl
theorem dL_law_588 : decode cL_law 588 = .ok (.iconst 0, 1) := dget daL_law_8 36 (q := (588, .iconst 0, 1)) rfl
theorem dL_law_589 : decode cL_law 589 = .ok (.invokevirtual 57, 3) := dget daL_law_8 37 (q := (589, .invokevirtual 57, 3)) rfl
theorem dL_law_592 : decode cL_law 592 = .ok (.pop, 1) := dget daL_law_8 38 (q := (592, .pop, 1)) rfl
theorem dL_law_593 : decode cL_law 593 = .ok (.aload_n 2, 1) := dget daL_law_8 39 (q := (593, .aload_n 2, 1)) rfl
def tdaL_law_9 : List (Nat × (Instr × Nat)) := [(594, .aload_n 0, 1), (595, .iload_n 3, 1), (596, .iconst 1, 1), (597, .iadd, 1), (598, .iaload, 1), (599, .aload_n 0, 1), (600, .iload_n 3, 1), (601, .iconst 2, 1), (602, .iadd, 1), (603, .iaload, 1), (604, .ifCond .eq 7, 3), (607, .iconst 1, 1), (608, .goto 4, 3), (611, .iconst 0, 1), (612, .invokevirtual 61, 3), (615, .pop, 1), (616, .goto 859, 3), (619, .aload_n 1, 1), (620, .aload_n 0, 1), (621, .iload_n 3, 1), (622, .iconst 1, 1), (623, .iadd, 1), (624, .iaload, 1), (625, .aload_n 0, 1), (626, .iload_n 3, 1), (627, .iconst 2, 1), (628, .iadd, 1), (629, .iaload, 1), (630, .invokevirtual 62, 3), (633, .pop, 1), (634, .aload_n 2, 1), (635, .aload_n 0, 1), (636, .iload_n 3, 1), (637, .iconst 1, 1), (638, .iadd, 1), (639, .iaload, 1), (640, .aload_n 0, 1), (641, .iload_n 3, 1), (642, .iconst 2, 1), (643, .iadd, 1)]
theorem daL_law_9 : tdaL_law_9.all (fun q => decide (decode cL_law q.1 = .ok q.2)) = true := by decide +kernel
theorem dL_law_594 : decode cL_law 594 = .ok (.aload_n 0, 1) := dget daL_law_9 0 (q := (594, .aload_n 0, 1)) rfl
theorem dL_law_595 : decode cL_law 595 = .ok (.iload_n 3, 1) := dget daL_law_9 1 (q := (595, .iload_n 3, 1)) rfl
theorem dL_law_596 : decode cL_law 596 = .ok (.iconst 1, 1) := dget daL_law_9 2 (q := (596, .iconst 1, 1)) rfl
theorem dL_law_597 : decode cL_law 597 = .ok (.iadd, 1) := dget daL_law_9 3 (q := (597, .iadd, 1)) rfl
theorem dL_law_598 : decode cL_law 598 = .ok (.iaload, 1) := dget daL_law_9 4 (q := (598, .iaload, 1)) rfl
theorem dL_law_599 : decode cL_law 599 = .ok (.aload_n 0, 1) := dget daL_law_9 5 (q := (599, .aload_n 0, 1)) rfl
theorem dL_law_600 : decode cL_law 600 = .ok (.iload_n 3, 1) := dget daL_law_9 6 (q := (600, .iload_n 3, 1)) rfl
theorem dL_law_601 : decode cL_law 601 = .ok (.iconst 2, 1) := dget daL_law_9 7 (q := (601, .iconst 2, 1)) rfl
theorem dL_law_602 : decode cL_law 602 = .ok (.iadd, 1) := dget daL_law_9 8 (q := (602, .iadd, 1)) rfl
theorem dL_law_603 : decode cL_law 603 = .ok (.iaload, 1) := dget daL_law_9 9 (q := (603, .iaload, 1)) rfl
theorem dL_law_604 : decode cL_law 604 = .ok (.ifCond .eq 7, 3) := dget daL_law_9 10 (q := (604, .ifCond .eq 7, 3)) rfl
theorem dL_law_607 : decode cL_law 607 = .ok (.iconst 1, 1) := dget daL_law_9 11 (q := (607, .iconst 1, 1)) rfl
theorem dL_law_608 : decode cL_law 608 = .ok (.goto 4, 3) := dget daL_law_9 12 (q := (608, .goto 4, 3)) rfl
theorem dL_law_611 : decode cL_law 611 = .ok (.iconst 0, 1) := dget daL_law_9 13 (q := (611, .iconst 0, 1)) rfl
theorem dL_law_612 : decode cL_law 612 = .ok (.invokevirtual 61, 3) := dget daL_law_9 14 (q := (612, .invokevirtual 61, 3)) rfl
theorem dL_law_615 : decode cL_law 615 = .ok (.pop, 1) := dget daL_law_9 15 (q := (615, .pop, 1)) rfl
theorem dL_law_616 : decode cL_law 616 = .ok (.goto 859, 3) := dget daL_law_9 16 (q := (616, .goto 859, 3)) rfl
theorem dL_law_619 : decode cL_law 619 = .ok (.aload_n 1, 1) := dget daL_law_9 17 (q := (619, .aload_n 1, 1)) rfl
theorem dL_law_620 : decode cL_law 620 = .ok (.aload_n 0, 1) := dget daL_law_9 18 (q := (620, .aload_n 0, 1)) rfl
theorem dL_law_621 : decode cL_law 621 = .ok (.iload_n 3, 1) := dget daL_law_9 19 (q := (621, .iload_n 3, 1)) rfl
theorem dL_law_622 : decode cL_law 622 = .ok (.iconst 1, 1) := dget daL_law_9 20 (q := (622, .iconst 1, 1)) rfl
theorem dL_law_623 : decode cL_law 623 = .ok (.iadd, 1) := dget daL_law_9 21 (q := (623, .iadd, 1)) rfl
theorem dL_law_624 : decode cL_law 624 = .ok (.iaload, 1) := dget daL_law_9 22 (q := (624, .iaload, 1)) rfl
theorem dL_law_625 : decode cL_law 625 = .ok (.aload_n 0, 1) := dget daL_law_9 23 (q := (625, .aload_n 0, 1)) rfl
theorem dL_law_626 : decode cL_law 626 = .ok (.iload_n 3, 1) := dget daL_law_9 24 (q := (626, .iload_n 3, 1)) rfl
theorem dL_law_627 : decode cL_law 627 = .ok (.iconst 2, 1) := dget daL_law_9 25 (q := (627, .iconst 2, 1)) rfl
theorem dL_law_628 : decode cL_law 628 = .ok (.iadd, 1) := dget daL_law_9 26 (q := (628, .iadd, 1)) rfl
theorem dL_law_629 : decode cL_law 629 = .ok (.iaload, 1) := dget daL_law_9 27 (q := (629, .iaload, 1)) rfl
theorem dL_law_630 : decode cL_law 630 = .ok (.invokevirtual 62, 3) := dget daL_law_9 28 (q := (630, .invokevirtual 62, 3)) rfl
theorem dL_law_633 : decode cL_law 633 = .ok (.pop, 1) := dget daL_law_9 29 (q := (633, .pop, 1)) rfl
theorem dL_law_634 : decode cL_law 634 = .ok (.aload_n 2, 1) := dget daL_law_9 30 (q := (634, .aload_n 2, 1)) rfl
theorem dL_law_635 : decode cL_law 635 = .ok (.aload_n 0, 1) := dget daL_law_9 31 (q := (635, .aload_n 0, 1)) rfl
theorem dL_law_636 : decode cL_law 636 = .ok (.iload_n 3, 1) := dget daL_law_9 32 (q := (636, .iload_n 3, 1)) rfl
theorem dL_law_637 : decode cL_law 637 = .ok (.iconst 1, 1) := dget daL_law_9 33 (q := (637, .iconst 1, 1)) rfl
theorem dL_law_638 : decode cL_law 638 = .ok (.iadd, 1) := dget daL_law_9 34 (q := (638, .iadd, 1)) rfl
theorem dL_law_639 : decode cL_law 639 = .ok (.iaload, 1) := dget daL_law_9 35 (q := (639, .iaload, 1)) rfl
theorem dL_law_640 : decode cL_law 640 = .ok (.aload_n 0, 1) := dget daL_law_9 36 (q := (640, .aload_n 0, 1)) rfl
theorem dL_law_641 : decode cL_law 641 = .ok (.iload_n 3, 1) := dget daL_law_9 37 (q := (641, .iload_n 3, 1)) rfl
theorem dL_law_642 : decode cL_law 642 = .ok (.iconst 2, 1) := dget daL_law_9 38 (q := (642, .iconst 2, 1)) rfl
theorem dL_law_643 : decode cL_law 643 = .ok (.iadd, 1) := dget daL_law_9 39 (q := (643, .iadd, 1)) rfl
def tdaL_law_10 : List (Nat × (Instr × Nat)) := [(644, .iaload, 1), (645, .invokevirtual 65, 3), (648, .pop, 1), (649, .goto 826, 3), (652, .aload_n 1, 1), (653, .aload_n 0, 1), (654, .iload_n 3, 1), (655, .iconst 1, 1), (656, .iadd, 1), (657, .iaload, 1), (658, .aload_n 0, 1), (659, .iload_n 3, 1), (660, .iconst 2, 1), (661, .iadd, 1), (662, .iaload, 1), (663, .invokevirtual 66, 3), (666, .pop, 1), (667, .aload_n 2, 1), (668, .aload_n 0, 1), (669, .iload_n 3, 1), (670, .iconst 1, 1), (671, .iadd, 1), (672, .iaload, 1), (673, .aload_n 0, 1), (674, .iload_n 3, 1), (675, .iconst 2, 1), (676, .iadd, 1), (677, .iaload, 1), (678, .invokevirtual 69, 3), (681, .pop, 1), (682, .goto 793, 3), (685, .aload_n 1, 1), (686, .aload_n 0, 1), (687, .iload_n 3, 1), (688, .iconst 1, 1), (689, .iadd, 1), (690, .iaload, 1), (691, .invokevirtual 70, 3), (694, .pop, 1), (695, .aload_n 2, 1)]
theorem daL_law_10 : tdaL_law_10.all (fun q => decide (decode cL_law q.1 = .ok q.2)) = true := by decide +kernel
theorem dL_law_644 : decode cL_law 644 = .ok (.iaload, 1) := dget daL_law_10 0 (q := (644, .iaload, 1)) rfl
theorem dL_law_645 : decode cL_law 645 = .ok (.invokevirtual 65, 3) := dget daL_law_10 1 (q := (645, .invokevirtual 65, 3)) rfl
theorem dL_law_648 : decode cL_law 648 = .ok (.pop, 1) := dget daL_law_10 2 (q := (648, .pop, 1)) rfl
theorem dL_law_649 : decode cL_law 649 = .ok (.goto 826, 3) := dget daL_law_10 3 (q := (649, .goto 826, 3)) rfl
theorem dL_law_652 : decode cL_law 652 = .ok (.aload_n 1, 1) := dget daL_law_10 4 (q := (652, .aload_n 1, 1)) rfl
theorem dL_law_653 : decode cL_law 653 = .ok (.aload_n 0, 1) := dget daL_law_10 5 (q := (653, .aload_n 0, 1)) rfl
theorem dL_law_654 : decode cL_law 654 = .ok (.iload_n 3, 1) := dget daL_law_10 6 (q := (654, .iload_n 3, 1)) rfl
theorem dL_law_655 : decode cL_law 655 = .ok (.iconst 1, 1) := dget daL_law_10 7 (q := (655, .iconst 1, 1)) rfl
theorem dL_law_656 : decode cL_law 656 = .ok (.iadd, 1) := dget daL_law_10 8 (q := (656, .iadd, 1)) rfl
theorem dL_law_657 : decode cL_law 657 = .ok (.iaload, 1) := dget daL_law_10 9 (q := (657, .iaload, 1)) rfl
theorem dL_law_658 : decode cL_law 658 = .ok (.aload_n 0, 1) := dget daL_law_10 10 (q := (658, .aload_n 0, 1)) rfl
theorem dL_law_659 : decode cL_law 659 = .ok (.iload_n 3, 1) := dget daL_law_10 11 (q := (659, .iload_n 3, 1)) rfl
theorem dL_law_660 : decode cL_law 660 = .ok (.iconst 2, 1) := dget daL_law_10 12 (q := (660, .iconst 2, 1)) rfl
theorem dL_law_661 : decode cL_law 661 = .ok (.iadd, 1) := dget daL_law_10 13 (q := (661, .iadd, 1)) rfl
theorem dL_law_662 : decode cL_law 662 = .ok (.iaload, 1) := dget daL_law_10 14 (q := (662, .iaload, 1)) rfl
theorem dL_law_663 : decode cL_law 663 = .ok (.invokevirtual 66, 3) := dget daL_law_10 15 (q := (663, .invokevirtual 66, 3)) rfl
theorem dL_law_666 : decode cL_law 666 = .ok (.pop, 1) := dget daL_law_10 16 (q := (666, .pop, 1)) rfl
theorem dL_law_667 : decode cL_law 667 = .ok (.aload_n 2, 1) := dget daL_law_10 17 (q := (667, .aload_n 2, 1)) rfl
theorem dL_law_668 : decode cL_law 668 = .ok (.aload_n 0, 1) := dget daL_law_10 18 (q := (668, .aload_n 0, 1)) rfl
theorem dL_law_669 : decode cL_law 669 = .ok (.iload_n 3, 1) := dget daL_law_10 19 (q := (669, .iload_n 3, 1)) rfl
theorem dL_law_670 : decode cL_law 670 = .ok (.iconst 1, 1) := dget daL_law_10 20 (q := (670, .iconst 1, 1)) rfl
theorem dL_law_671 : decode cL_law 671 = .ok (.iadd, 1) := dget daL_law_10 21 (q := (671, .iadd, 1)) rfl
theorem dL_law_672 : decode cL_law 672 = .ok (.iaload, 1) := dget daL_law_10 22 (q := (672, .iaload, 1)) rfl
theorem dL_law_673 : decode cL_law 673 = .ok (.aload_n 0, 1) := dget daL_law_10 23 (q := (673, .aload_n 0, 1)) rfl
theorem dL_law_674 : decode cL_law 674 = .ok (.iload_n 3, 1) := dget daL_law_10 24 (q := (674, .iload_n 3, 1)) rfl
theorem dL_law_675 : decode cL_law 675 = .ok (.iconst 2, 1) := dget daL_law_10 25 (q := (675, .iconst 2, 1)) rfl
theorem dL_law_676 : decode cL_law 676 = .ok (.iadd, 1) := dget daL_law_10 26 (q := (676, .iadd, 1)) rfl
theorem dL_law_677 : decode cL_law 677 = .ok (.iaload, 1) := dget daL_law_10 27 (q := (677, .iaload, 1)) rfl
theorem dL_law_678 : decode cL_law 678 = .ok (.invokevirtual 69, 3) := dget daL_law_10 28 (q := (678, .invokevirtual 69, 3)) rfl
theorem dL_law_681 : decode cL_law 681 = .ok (.pop, 1) := dget daL_law_10 29 (q := (681, .pop, 1)) rfl
theorem dL_law_682 : decode cL_law 682 = .ok (.goto 793, 3) := dget daL_law_10 30 (q := (682, .goto 793, 3)) rfl
theorem dL_law_685 : decode cL_law 685 = .ok (.aload_n 1, 1) := dget daL_law_10 31 (q := (685, .aload_n 1, 1)) rfl
theorem dL_law_686 : decode cL_law 686 = .ok (.aload_n 0, 1) := dget daL_law_10 32 (q := (686, .aload_n 0, 1)) rfl
theorem dL_law_687 : decode cL_law 687 = .ok (.iload_n 3, 1) := dget daL_law_10 33 (q := (687, .iload_n 3, 1)) rfl
theorem dL_law_688 : decode cL_law 688 = .ok (.iconst 1, 1) := dget daL_law_10 34 (q := (688, .iconst 1, 1)) rfl
theorem dL_law_689 : decode cL_law 689 = .ok (.iadd, 1) := dget daL_law_10 35 (q := (689, .iadd, 1)) rfl
theorem dL_law_690 : decode cL_law 690 = .ok (.iaload, 1) := dget daL_law_10 36 (q := (690, .iaload, 1)) rfl
theorem dL_law_691 : decode cL_law 691 = .ok (.invokevirtual 70, 3) := dget daL_law_10 37 (q := (691, .invokevirtual 70, 3)) rfl
theorem dL_law_694 : decode cL_law 694 = .ok (.pop, 1) := dget daL_law_10 38 (q := (694, .pop, 1)) rfl
theorem dL_law_695 : decode cL_law 695 = .ok (.aload_n 2, 1) := dget daL_law_10 39 (q := (695, .aload_n 2, 1)) rfl
def tdaL_law_11 : List (Nat × (Instr × Nat)) := [(696, .aload_n 0, 1), (697, .iload_n 3, 1), (698, .iconst 1, 1), (699, .iadd, 1), (700, .iaload, 1), (701, .invokevirtual 73, 3), (704, .pop, 1), (705, .goto 770, 3), (708, .aload_n 1, 1), (709, .aload_n 0, 1), (710, .iload_n 3, 1), (711, .iconst 1, 1), (712, .iadd, 1), (713, .iaload, 1), (714, .aload_n 0, 1), (715, .iload_n 3, 1), (716, .iconst 2, 1), (717, .iadd, 1), (718, .iaload, 1), (719, .invokevirtual 74, 3), (722, .pop, 1), (723, .aload_n 2, 1), (724, .aload_n 0, 1), (725, .iload_n 3, 1), (726, .iconst 1, 1), (727, .iadd, 1), (728, .iaload, 1), (729, .aload_n 0, 1), (730, .iload_n 3, 1), (731, .iconst 2, 1), (732, .iadd, 1), (733, .iaload, 1), (734, .invokevirtual 77, 3), (737, .pop, 1), (738, .goto 737, 3), (741, .aload_n 1, 1), (742, .aload_n 0, 1), (743, .iload_n 3, 1), (744, .iconst 1, 1), (745, .iadd, 1)]
theorem daL_law_11 : tdaL_law_11.all (fun q => decide (decode cL_law q.1 = .ok q.2)) = true := by decide +kernel
theorem dL_law_696 : decode cL_law 696 = .ok (.aload_n 0, 1) := dget daL_law_11 0 (q := (696, .aload_n 0, 1)) rfl
theorem dL_law_697 : decode cL_law 697 = .ok (.iload_n 3, 1) := dget daL_law_11 1 (q := (697, .iload_n 3, 1)) rfl
theorem dL_law_698 : decode cL_law 698 = .ok (.iconst 1, 1) := dget daL_law_11 2 (q := (698, .iconst 1, 1)) rfl
theorem dL_law_699 : decode cL_law 699 = .ok (.iadd, 1) := dget daL_law_11 3 (q := (699, .iadd, 1)) rfl
theorem dL_law_700 : decode cL_law 700 = .ok (.iaload, 1) := dget daL_law_11 4 (q := (700, .iaload, 1)) rfl
theorem dL_law_701 : decode cL_law 701 = .ok (.invokevirtual 73, 3) := dget daL_law_11 5 (q := (701, .invokevirtual 73, 3)) rfl
theorem dL_law_704 : decode cL_law 704 = .ok (.pop, 1) := dget daL_law_11 6 (q := (704, .pop, 1)) rfl
theorem dL_law_705 : decode cL_law 705 = .ok (.goto 770, 3) := dget daL_law_11 7 (q := (705, .goto 770, 3)) rfl
theorem dL_law_708 : decode cL_law 708 = .ok (.aload_n 1, 1) := dget daL_law_11 8 (q := (708, .aload_n 1, 1)) rfl
theorem dL_law_709 : decode cL_law 709 = .ok (.aload_n 0, 1) := dget daL_law_11 9 (q := (709, .aload_n 0, 1)) rfl
theorem dL_law_710 : decode cL_law 710 = .ok (.iload_n 3, 1) := dget daL_law_11 10 (q := (710, .iload_n 3, 1)) rfl
theorem dL_law_711 : decode cL_law 711 = .ok (.iconst 1, 1) := dget daL_law_11 11 (q := (711, .iconst 1, 1)) rfl
theorem dL_law_712 : decode cL_law 712 = .ok (.iadd, 1) := dget daL_law_11 12 (q := (712, .iadd, 1)) rfl
theorem dL_law_713 : decode cL_law 713 = .ok (.iaload, 1) := dget daL_law_11 13 (q := (713, .iaload, 1)) rfl
theorem dL_law_714 : decode cL_law 714 = .ok (.aload_n 0, 1) := dget daL_law_11 14 (q := (714, .aload_n 0, 1)) rfl
theorem dL_law_715 : decode cL_law 715 = .ok (.iload_n 3, 1) := dget daL_law_11 15 (q := (715, .iload_n 3, 1)) rfl
theorem dL_law_716 : decode cL_law 716 = .ok (.iconst 2, 1) := dget daL_law_11 16 (q := (716, .iconst 2, 1)) rfl
theorem dL_law_717 : decode cL_law 717 = .ok (.iadd, 1) := dget daL_law_11 17 (q := (717, .iadd, 1)) rfl
theorem dL_law_718 : decode cL_law 718 = .ok (.iaload, 1) := dget daL_law_11 18 (q := (718, .iaload, 1)) rfl
theorem dL_law_719 : decode cL_law 719 = .ok (.invokevirtual 74, 3) := dget daL_law_11 19 (q := (719, .invokevirtual 74, 3)) rfl
theorem dL_law_722 : decode cL_law 722 = .ok (.pop, 1) := dget daL_law_11 20 (q := (722, .pop, 1)) rfl
theorem dL_law_723 : decode cL_law 723 = .ok (.aload_n 2, 1) := dget daL_law_11 21 (q := (723, .aload_n 2, 1)) rfl
theorem dL_law_724 : decode cL_law 724 = .ok (.aload_n 0, 1) := dget daL_law_11 22 (q := (724, .aload_n 0, 1)) rfl
theorem dL_law_725 : decode cL_law 725 = .ok (.iload_n 3, 1) := dget daL_law_11 23 (q := (725, .iload_n 3, 1)) rfl
theorem dL_law_726 : decode cL_law 726 = .ok (.iconst 1, 1) := dget daL_law_11 24 (q := (726, .iconst 1, 1)) rfl
theorem dL_law_727 : decode cL_law 727 = .ok (.iadd, 1) := dget daL_law_11 25 (q := (727, .iadd, 1)) rfl
theorem dL_law_728 : decode cL_law 728 = .ok (.iaload, 1) := dget daL_law_11 26 (q := (728, .iaload, 1)) rfl
theorem dL_law_729 : decode cL_law 729 = .ok (.aload_n 0, 1) := dget daL_law_11 27 (q := (729, .aload_n 0, 1)) rfl
theorem dL_law_730 : decode cL_law 730 = .ok (.iload_n 3, 1) := dget daL_law_11 28 (q := (730, .iload_n 3, 1)) rfl
theorem dL_law_731 : decode cL_law 731 = .ok (.iconst 2, 1) := dget daL_law_11 29 (q := (731, .iconst 2, 1)) rfl
theorem dL_law_732 : decode cL_law 732 = .ok (.iadd, 1) := dget daL_law_11 30 (q := (732, .iadd, 1)) rfl
theorem dL_law_733 : decode cL_law 733 = .ok (.iaload, 1) := dget daL_law_11 31 (q := (733, .iaload, 1)) rfl
theorem dL_law_734 : decode cL_law 734 = .ok (.invokevirtual 77, 3) := dget daL_law_11 32 (q := (734, .invokevirtual 77, 3)) rfl
theorem dL_law_737 : decode cL_law 737 = .ok (.pop, 1) := dget daL_law_11 33 (q := (737, .pop, 1)) rfl
theorem dL_law_738 : decode cL_law 738 = .ok (.goto 737, 3) := dget daL_law_11 34 (q := (738, .goto 737, 3)) rfl
theorem dL_law_741 : decode cL_law 741 = .ok (.aload_n 1, 1) := dget daL_law_11 35 (q := (741, .aload_n 1, 1)) rfl
theorem dL_law_742 : decode cL_law 742 = .ok (.aload_n 0, 1) := dget daL_law_11 36 (q := (742, .aload_n 0, 1)) rfl
theorem dL_law_743 : decode cL_law 743 = .ok (.iload_n 3, 1) := dget daL_law_11 37 (q := (743, .iload_n 3, 1)) rfl
theorem dL_law_744 : decode cL_law 744 = .ok (.iconst 1, 1) := dget daL_law_11 38 (q := (744, .iconst 1, 1)) rfl
theorem dL_law_745 : decode cL_law 745 = .ok (.iadd, 1) := dget daL_law_11 39 (q := (745, .iadd, 1)) rfl
def tdaL_law_12 : List (Nat × (Instr × Nat)) := [(746, .iaload, 1), (747, .invokevirtual 78, 3), (750, .pop, 1), (751, .aload_n 2, 1), (752, .aload_n 0, 1), (753, .iload_n 3, 1), (754, .iconst 1, 1), (755, .iadd, 1), (756, .iaload, 1), (757, .invokevirtual 81, 3), (760, .pop, 1), (761, .goto 714, 3), (764, .aload_n 1, 1), (765, .aload_n 0, 1), (766, .iload_n 3, 1), (767, .iconst 1, 1), (768, .iadd, 1), (769, .iaload, 1), (770, .invokevirtual 82, 3), (773, .pop, 1), (774, .aload_n 2, 1), (775, .aload_n 0, 1), (776, .iload_n 3, 1), (777, .iconst 1, 1), (778, .iadd, 1), (779, .iaload, 1), (780, .invokevirtual 85, 3), (783, .pop, 1), (784, .goto 691, 3), (787, .aload_n 1, 1), (788, .aload_n 0, 1), (789, .iload_n 3, 1), (790, .iconst 1, 1), (791, .iadd, 1), (792, .iaload, 1), (793, .invokevirtual 86, 3), (796, .pop, 1), (797, .aload_n 2, 1), (798, .aload_n 0, 1), (799, .iload_n 3, 1)]
theorem daL_law_12 : tdaL_law_12.all (fun q => decide (decode cL_law q.1 = .ok q.2)) = true := by decide +kernel
theorem dL_law_746 : decode cL_law 746 = .ok (.iaload, 1) := dget daL_law_12 0 (q := (746, .iaload, 1)) rfl
theorem dL_law_747 : decode cL_law 747 = .ok (.invokevirtual 78, 3) := dget daL_law_12 1 (q := (747, .invokevirtual 78, 3)) rfl
theorem dL_law_750 : decode cL_law 750 = .ok (.pop, 1) := dget daL_law_12 2 (q := (750, .pop, 1)) rfl
theorem dL_law_751 : decode cL_law 751 = .ok (.aload_n 2, 1) := dget daL_law_12 3 (q := (751, .aload_n 2, 1)) rfl
theorem dL_law_752 : decode cL_law 752 = .ok (.aload_n 0, 1) := dget daL_law_12 4 (q := (752, .aload_n 0, 1)) rfl
theorem dL_law_753 : decode cL_law 753 = .ok (.iload_n 3, 1) := dget daL_law_12 5 (q := (753, .iload_n 3, 1)) rfl
theorem dL_law_754 : decode cL_law 754 = .ok (.iconst 1, 1) := dget daL_law_12 6 (q := (754, .iconst 1, 1)) rfl
theorem dL_law_755 : decode cL_law 755 = .ok (.iadd, 1) := dget daL_law_12 7 (q := (755, .iadd, 1)) rfl
theorem dL_law_756 : decode cL_law 756 = .ok (.iaload, 1) := dget daL_law_12 8 (q := (756, .iaload, 1)) rfl
theorem dL_law_757 : decode cL_law 757 = .ok (.invokevirtual 81, 3) := dget daL_law_12 9 (q := (757, .invokevirtual 81, 3)) rfl
theorem dL_law_760 : decode cL_law 760 = .ok (.pop, 1) := dget daL_law_12 10 (q := (760, .pop, 1)) rfl
theorem dL_law_761 : decode cL_law 761 = .ok (.goto 714, 3) := dget daL_law_12 11 (q := (761, .goto 714, 3)) rfl
theorem dL_law_764 : decode cL_law 764 = .ok (.aload_n 1, 1) := dget daL_law_12 12 (q := (764, .aload_n 1, 1)) rfl
theorem dL_law_765 : decode cL_law 765 = .ok (.aload_n 0, 1) := dget daL_law_12 13 (q := (765, .aload_n 0, 1)) rfl
theorem dL_law_766 : decode cL_law 766 = .ok (.iload_n 3, 1) := dget daL_law_12 14 (q := (766, .iload_n 3, 1)) rfl
theorem dL_law_767 : decode cL_law 767 = .ok (.iconst 1, 1) := dget daL_law_12 15 (q := (767, .iconst 1, 1)) rfl
theorem dL_law_768 : decode cL_law 768 = .ok (.iadd, 1) := dget daL_law_12 16 (q := (768, .iadd, 1)) rfl
theorem dL_law_769 : decode cL_law 769 = .ok (.iaload, 1) := dget daL_law_12 17 (q := (769, .iaload, 1)) rfl
theorem dL_law_770 : decode cL_law 770 = .ok (.invokevirtual 82, 3) := dget daL_law_12 18 (q := (770, .invokevirtual 82, 3)) rfl
theorem dL_law_773 : decode cL_law 773 = .ok (.pop, 1) := dget daL_law_12 19 (q := (773, .pop, 1)) rfl
theorem dL_law_774 : decode cL_law 774 = .ok (.aload_n 2, 1) := dget daL_law_12 20 (q := (774, .aload_n 2, 1)) rfl
theorem dL_law_775 : decode cL_law 775 = .ok (.aload_n 0, 1) := dget daL_law_12 21 (q := (775, .aload_n 0, 1)) rfl
theorem dL_law_776 : decode cL_law 776 = .ok (.iload_n 3, 1) := dget daL_law_12 22 (q := (776, .iload_n 3, 1)) rfl
theorem dL_law_777 : decode cL_law 777 = .ok (.iconst 1, 1) := dget daL_law_12 23 (q := (777, .iconst 1, 1)) rfl
theorem dL_law_778 : decode cL_law 778 = .ok (.iadd, 1) := dget daL_law_12 24 (q := (778, .iadd, 1)) rfl
theorem dL_law_779 : decode cL_law 779 = .ok (.iaload, 1) := dget daL_law_12 25 (q := (779, .iaload, 1)) rfl
theorem dL_law_780 : decode cL_law 780 = .ok (.invokevirtual 85, 3) := dget daL_law_12 26 (q := (780, .invokevirtual 85, 3)) rfl
theorem dL_law_783 : decode cL_law 783 = .ok (.pop, 1) := dget daL_law_12 27 (q := (783, .pop, 1)) rfl
theorem dL_law_784 : decode cL_law 784 = .ok (.goto 691, 3) := dget daL_law_12 28 (q := (784, .goto 691, 3)) rfl
theorem dL_law_787 : decode cL_law 787 = .ok (.aload_n 1, 1) := dget daL_law_12 29 (q := (787, .aload_n 1, 1)) rfl
theorem dL_law_788 : decode cL_law 788 = .ok (.aload_n 0, 1) := dget daL_law_12 30 (q := (788, .aload_n 0, 1)) rfl
theorem dL_law_789 : decode cL_law 789 = .ok (.iload_n 3, 1) := dget daL_law_12 31 (q := (789, .iload_n 3, 1)) rfl
theorem dL_law_790 : decode cL_law 790 = .ok (.iconst 1, 1) := dget daL_law_12 32 (q := (790, .iconst 1, 1)) rfl
theorem dL_law_791 : decode cL_law 791 = .ok (.iadd, 1) := dget daL_law_12 33 (q := (791, .iadd, 1)) rfl
theorem dL_law_792 : decode cL_law 792 = .ok (.iaload, 1) := dget daL_law_12 34 (q := (792, .iaload, 1)) rfl
theorem dL_law_793 : decode cL_law 793 = .ok (.invokevirtual 86, 3) := dget daL_law_12 35 (q := (793, .invokevirtual 86, 3)) rfl
theorem dL_law_796 : decode cL_law 796 = .ok (.pop, 1) := dget daL_law_12 36 (q := (796, .pop, 1)) rfl
theorem dL_law_797 : decode cL_law 797 = .ok (.aload_n 2, 1) := dget daL_law_12 37 (q := (797, .aload_n 2, 1)) rfl
theorem dL_law_798 : decode cL_law 798 = .ok (.aload_n 0, 1) := dget daL_law_12 38 (q := (798, .aload_n 0, 1)) rfl
theorem dL_law_799 : decode cL_law 799 = .ok (.iload_n 3, 1) := dget daL_law_12 39 (q := (799, .iload_n 3, 1)) rfl
def tdaL_law_13 : List (Nat × (Instr × Nat)) := [(800, .iconst 1, 1), (801, .iadd, 1), (802, .iaload, 1), (803, .invokevirtual 89, 3), (806, .pop, 1), (807, .goto 668, 3), (810, .aload_n 1, 1), (811, .aload_n 0, 1), (812, .iload_n 3, 1), (813, .iconst 1, 1), (814, .iadd, 1), (815, .iaload, 1), (816, .invokevirtual 90, 3), (819, .pop, 1), (820, .aload_n 2, 1), (821, .aload_n 0, 1), (822, .iload_n 3, 1), (823, .iconst 1, 1), (824, .iadd, 1), (825, .iaload, 1), (826, .invokevirtual 93, 3), (829, .pop, 1), (830, .goto 645, 3), (833, .aload_n 1, 1), (834, .aload_n 0, 1), (835, .iload_n 3, 1), (836, .iconst 1, 1), (837, .iadd, 1), (838, .iaload, 1), (839, .aload_n 0, 1), (840, .iload_n 3, 1), (841, .iconst 2, 1), (842, .iadd, 1), (843, .iaload, 1), (844, .aload_n 0, 1), (845, .iload_n 3, 1), (846, .iconst 3, 1), (847, .iadd, 1), (848, .iaload, 1), (849, .aload_n 0, 1)]
theorem daL_law_13 : tdaL_law_13.all (fun q => decide (decode cL_law q.1 = .ok q.2)) = true := by decide +kernel
theorem dL_law_800 : decode cL_law 800 = .ok (.iconst 1, 1) := dget daL_law_13 0 (q := (800, .iconst 1, 1)) rfl
theorem dL_law_801 : decode cL_law 801 = .ok (.iadd, 1) := dget daL_law_13 1 (q := (801, .iadd, 1)) rfl
theorem dL_law_802 : decode cL_law 802 = .ok (.iaload, 1) := dget daL_law_13 2 (q := (802, .iaload, 1)) rfl
theorem dL_law_803 : decode cL_law 803 = .ok (.invokevirtual 89, 3) := dget daL_law_13 3 (q := (803, .invokevirtual 89, 3)) rfl
theorem dL_law_806 : decode cL_law 806 = .ok (.pop, 1) := dget daL_law_13 4 (q := (806, .pop, 1)) rfl
theorem dL_law_807 : decode cL_law 807 = .ok (.goto 668, 3) := dget daL_law_13 5 (q := (807, .goto 668, 3)) rfl
theorem dL_law_810 : decode cL_law 810 = .ok (.aload_n 1, 1) := dget daL_law_13 6 (q := (810, .aload_n 1, 1)) rfl
theorem dL_law_811 : decode cL_law 811 = .ok (.aload_n 0, 1) := dget daL_law_13 7 (q := (811, .aload_n 0, 1)) rfl
theorem dL_law_812 : decode cL_law 812 = .ok (.iload_n 3, 1) := dget daL_law_13 8 (q := (812, .iload_n 3, 1)) rfl
theorem dL_law_813 : decode cL_law 813 = .ok (.iconst 1, 1) := dget daL_law_13 9 (q := (813, .iconst 1, 1)) rfl
theorem dL_law_814 : decode cL_law 814 = .ok (.iadd, 1) := dget daL_law_13 10 (q := (814, .iadd, 1)) rfl
theorem dL_law_815 : decode cL_law 815 = .ok (.iaload, 1) := dget daL_law_13 11 (q := (815, .iaload, 1)) rfl
theorem dL_law_816 : decode cL_law 816 = .ok (.invokevirtual 90, 3) := dget daL_law_13 12 (q := (816, .invokevirtual 90, 3)) rfl
theorem dL_law_819 : decode cL_law 819 = .ok (.pop, 1) := dget daL_law_13 13 (q := (819, .pop, 1)) rfl
theorem dL_law_820 : decode cL_law 820 = .ok (.aload_n 2, 1) := dget daL_law_13 14 (q := (820, .aload_n 2, 1)) rfl
theorem dL_law_821 : decode cL_law 821 = .ok (.aload_n 0, 1) := dget daL_law_13 15 (q := (821, .aload_n 0, 1)) rfl
theorem dL_law_822 : decode cL_law 822 = .ok (.iload_n 3, 1) := dget daL_law_13 16 (q := (822, .iload_n 3, 1)) rfl
theorem dL_law_823 : decode cL_law 823 = .ok (.iconst 1, 1) := dget daL_law_13 17 (q := (823, .iconst 1, 1)) rfl
theorem dL_law_824 : decode cL_law 824 = .ok (.iadd, 1) := dget daL_law_13 18 (q := (824, .iadd, 1)) rfl
theorem dL_law_825 : decode cL_law 825 = .ok (.iaload, 1) := dget daL_law_13 19 (q := (825, .iaload, 1)) rfl
theorem dL_law_826 : decode cL_law 826 = .ok (.invokevirtual 93, 3) := dget daL_law_13 20 (q := (826, .invokevirtual 93, 3)) rfl
theorem dL_law_829 : decode cL_law 829 = .ok (.pop, 1) := dget daL_law_13 21 (q := (829, .pop, 1)) rfl
theorem dL_law_830 : decode cL_law 830 = .ok (.goto 645, 3) := dget daL_law_13 22 (q := (830, .goto 645, 3)) rfl
theorem dL_law_833 : decode cL_law 833 = .ok (.aload_n 1, 1) := dget daL_law_13 23 (q := (833, .aload_n 1, 1)) rfl
theorem dL_law_834 : decode cL_law 834 = .ok (.aload_n 0, 1) := dget daL_law_13 24 (q := (834, .aload_n 0, 1)) rfl
theorem dL_law_835 : decode cL_law 835 = .ok (.iload_n 3, 1) := dget daL_law_13 25 (q := (835, .iload_n 3, 1)) rfl
theorem dL_law_836 : decode cL_law 836 = .ok (.iconst 1, 1) := dget daL_law_13 26 (q := (836, .iconst 1, 1)) rfl
theorem dL_law_837 : decode cL_law 837 = .ok (.iadd, 1) := dget daL_law_13 27 (q := (837, .iadd, 1)) rfl
theorem dL_law_838 : decode cL_law 838 = .ok (.iaload, 1) := dget daL_law_13 28 (q := (838, .iaload, 1)) rfl
theorem dL_law_839 : decode cL_law 839 = .ok (.aload_n 0, 1) := dget daL_law_13 29 (q := (839, .aload_n 0, 1)) rfl
theorem dL_law_840 : decode cL_law 840 = .ok (.iload_n 3, 1) := dget daL_law_13 30 (q := (840, .iload_n 3, 1)) rfl
theorem dL_law_841 : decode cL_law 841 = .ok (.iconst 2, 1) := dget daL_law_13 31 (q := (841, .iconst 2, 1)) rfl
theorem dL_law_842 : decode cL_law 842 = .ok (.iadd, 1) := dget daL_law_13 32 (q := (842, .iadd, 1)) rfl
theorem dL_law_843 : decode cL_law 843 = .ok (.iaload, 1) := dget daL_law_13 33 (q := (843, .iaload, 1)) rfl
theorem dL_law_844 : decode cL_law 844 = .ok (.aload_n 0, 1) := dget daL_law_13 34 (q := (844, .aload_n 0, 1)) rfl
theorem dL_law_845 : decode cL_law 845 = .ok (.iload_n 3, 1) := dget daL_law_13 35 (q := (845, .iload_n 3, 1)) rfl
theorem dL_law_846 : decode cL_law 846 = .ok (.iconst 3, 1) := dget daL_law_13 36 (q := (846, .iconst 3, 1)) rfl
theorem dL_law_847 : decode cL_law 847 = .ok (.iadd, 1) := dget daL_law_13 37 (q := (847, .iadd, 1)) rfl
theorem dL_law_848 : decode cL_law 848 = .ok (.iaload, 1) := dget daL_law_13 38 (q := (848, .iaload, 1)) rfl
theorem dL_law_849 : decode cL_law 849 = .ok (.aload_n 0, 1) := dget daL_law_13 39 (q := (849, .aload_n 0, 1)) rfl
def tdaL_law_14 : List (Nat × (Instr × Nat)) := [(850, .iload_n 3, 1), (851, .iconst 4, 1), (852, .iadd, 1), (853, .iaload, 1), (854, .aload_n 0, 1), (855, .iload_n 3, 1), (856, .iconst 5, 1), (857, .iadd, 1), (858, .iaload, 1), (859, .invokevirtual 94, 3), (862, .pop, 1), (863, .aload_n 2, 1), (864, .aload_n 0, 1), (865, .iload_n 3, 1), (866, .iconst 1, 1), (867, .iadd, 1), (868, .iaload, 1), (869, .aload_n 0, 1), (870, .iload_n 3, 1), (871, .iconst 2, 1), (872, .iadd, 1), (873, .iaload, 1), (874, .aload_n 0, 1), (875, .iload_n 3, 1), (876, .iconst 3, 1), (877, .iadd, 1), (878, .iaload, 1), (879, .aload_n 0, 1), (880, .iload_n 3, 1), (881, .iconst 4, 1), (882, .iadd, 1), (883, .iaload, 1), (884, .aload_n 0, 1), (885, .iload_n 3, 1), (886, .iconst 5, 1), (887, .iadd, 1), (888, .iaload, 1), (889, .invokevirtual 98, 3), (892, .pop, 1), (893, .goto 582, 3)]
theorem daL_law_14 : tdaL_law_14.all (fun q => decide (decode cL_law q.1 = .ok q.2)) = true := by decide +kernel
theorem dL_law_850 : decode cL_law 850 = .ok (.iload_n 3, 1) := dget daL_law_14 0 (q := (850, .iload_n 3, 1)) rfl
theorem dL_law_851 : decode cL_law 851 = .ok (.iconst 4, 1) := dget daL_law_14 1 (q := (851, .iconst 4, 1)) rfl
theorem dL_law_852 : decode cL_law 852 = .ok (.iadd, 1) := dget daL_law_14 2 (q := (852, .iadd, 1)) rfl
theorem dL_law_853 : decode cL_law 853 = .ok (.iaload, 1) := dget daL_law_14 3 (q := (853, .iaload, 1)) rfl
theorem dL_law_854 : decode cL_law 854 = .ok (.aload_n 0, 1) := dget daL_law_14 4 (q := (854, .aload_n 0, 1)) rfl
theorem dL_law_855 : decode cL_law 855 = .ok (.iload_n 3, 1) := dget daL_law_14 5 (q := (855, .iload_n 3, 1)) rfl
theorem dL_law_856 : decode cL_law 856 = .ok (.iconst 5, 1) := dget daL_law_14 6 (q := (856, .iconst 5, 1)) rfl
theorem dL_law_857 : decode cL_law 857 = .ok (.iadd, 1) := dget daL_law_14 7 (q := (857, .iadd, 1)) rfl
theorem dL_law_858 : decode cL_law 858 = .ok (.iaload, 1) := dget daL_law_14 8 (q := (858, .iaload, 1)) rfl
theorem dL_law_859 : decode cL_law 859 = .ok (.invokevirtual 94, 3) := dget daL_law_14 9 (q := (859, .invokevirtual 94, 3)) rfl
theorem dL_law_862 : decode cL_law 862 = .ok (.pop, 1) := dget daL_law_14 10 (q := (862, .pop, 1)) rfl
theorem dL_law_863 : decode cL_law 863 = .ok (.aload_n 2, 1) := dget daL_law_14 11 (q := (863, .aload_n 2, 1)) rfl
theorem dL_law_864 : decode cL_law 864 = .ok (.aload_n 0, 1) := dget daL_law_14 12 (q := (864, .aload_n 0, 1)) rfl
theorem dL_law_865 : decode cL_law 865 = .ok (.iload_n 3, 1) := dget daL_law_14 13 (q := (865, .iload_n 3, 1)) rfl
theorem dL_law_866 : decode cL_law 866 = .ok (.iconst 1, 1) := dget daL_law_14 14 (q := (866, .iconst 1, 1)) rfl
theorem dL_law_867 : decode cL_law 867 = .ok (.iadd, 1) := dget daL_law_14 15 (q := (867, .iadd, 1)) rfl
theorem dL_law_868 : decode cL_law 868 = .ok (.iaload, 1) := dget daL_law_14 16 (q := (868, .iaload, 1)) rfl
theorem dL_law_869 : decode cL_law 869 = .ok (.aload_n 0, 1) := dget daL_law_14 17 (q := (869, .aload_n 0, 1)) rfl
theorem dL_law_870 : decode cL_law 870 = .ok (.iload_n 3, 1) := dget daL_law_14 18 (q := (870, .iload_n 3, 1)) rfl
theorem dL_law_871 : decode cL_law 871 = .ok (.iconst 2, 1) := dget daL_law_14 19 (q := (871, .iconst 2, 1)) rfl
theorem dL_law_872 : decode cL_law 872 = .ok (.iadd, 1) := dget daL_law_14 20 (q := (872, .iadd, 1)) rfl
theorem dL_law_873 : decode cL_law 873 = .ok (.iaload, 1) := dget daL_law_14 21 (q := (873, .iaload, 1)) rfl
theorem dL_law_874 : decode cL_law 874 = .ok (.aload_n 0, 1) := dget daL_law_14 22 (q := (874, .aload_n 0, 1)) rfl
theorem dL_law_875 : decode cL_law 875 = .ok (.iload_n 3, 1) := dget daL_law_14 23 (q := (875, .iload_n 3, 1)) rfl
theorem dL_law_876 : decode cL_law 876 = .ok (.iconst 3, 1) := dget daL_law_14 24 (q := (876, .iconst 3, 1)) rfl
theorem dL_law_877 : decode cL_law 877 = .ok (.iadd, 1) := dget daL_law_14 25 (q := (877, .iadd, 1)) rfl
theorem dL_law_878 : decode cL_law 878 = .ok (.iaload, 1) := dget daL_law_14 26 (q := (878, .iaload, 1)) rfl
theorem dL_law_879 : decode cL_law 879 = .ok (.aload_n 0, 1) := dget daL_law_14 27 (q := (879, .aload_n 0, 1)) rfl
theorem dL_law_880 : decode cL_law 880 = .ok (.iload_n 3, 1) := dget daL_law_14 28 (q := (880, .iload_n 3, 1)) rfl
theorem dL_law_881 : decode cL_law 881 = .ok (.iconst 4, 1) := dget daL_law_14 29 (q := (881, .iconst 4, 1)) rfl
theorem dL_law_882 : decode cL_law 882 = .ok (.iadd, 1) := dget daL_law_14 30 (q := (882, .iadd, 1)) rfl
theorem dL_law_883 : decode cL_law 883 = .ok (.iaload, 1) := dget daL_law_14 31 (q := (883, .iaload, 1)) rfl
theorem dL_law_884 : decode cL_law 884 = .ok (.aload_n 0, 1) := dget daL_law_14 32 (q := (884, .aload_n 0, 1)) rfl
theorem dL_law_885 : decode cL_law 885 = .ok (.iload_n 3, 1) := dget daL_law_14 33 (q := (885, .iload_n 3, 1)) rfl
theorem dL_law_886 : decode cL_law 886 = .ok (.iconst 5, 1) := dget daL_law_14 34 (q := (886, .iconst 5, 1)) rfl
theorem dL_law_887 : decode cL_law 887 = .ok (.iadd, 1) := dget daL_law_14 35 (q := (887, .iadd, 1)) rfl
theorem dL_law_888 : decode cL_law 888 = .ok (.iaload, 1) := dget daL_law_14 36 (q := (888, .iaload, 1)) rfl
theorem dL_law_889 : decode cL_law 889 = .ok (.invokevirtual 98, 3) := dget daL_law_14 37 (q := (889, .invokevirtual 98, 3)) rfl
theorem dL_law_892 : decode cL_law 892 = .ok (.pop, 1) := dget daL_law_14 38 (q := (892, .pop, 1)) rfl
theorem dL_law_893 : decode cL_law 893 = .ok (.goto 582, 3) := dget daL_law_14 39 (q := (893, .goto 582, 3)) rfl
def tdaL_law_15 : List (Nat × (Instr × Nat)) := [(896, .aload_n 1, 1), (897, .aload_n 0, 1), (898, .iload_n 3, 1), (899, .iconst 1, 1), (900, .iadd, 1), (901, .iaload, 1), (902, .aload_n 0, 1), (903, .iload_n 3, 1), (904, .iconst 2, 1), (905, .iadd, 1), (906, .iaload, 1), (907, .aload_n 0, 1), (908, .iload_n 3, 1), (909, .iconst 3, 1), (910, .iadd, 1), (911, .iaload, 1), (912, .aload_n 0, 1), (913, .iload_n 3, 1), (914, .iconst 4, 1), (915, .iadd, 1), (916, .iaload, 1), (917, .ifCond .eq 7, 3), (920, .iconst 1, 1), (921, .goto 4, 3), (924, .iconst 0, 1), (925, .invokevirtual 99, 3), (928, .pop, 1), (929, .aload_n 2, 1), (930, .aload_n 0, 1), (931, .iload_n 3, 1), (932, .iconst 1, 1), (933, .iadd, 1), (934, .iaload, 1), (935, .aload_n 0, 1), (936, .iload_n 3, 1), (937, .iconst 2, 1), (938, .iadd, 1), (939, .iaload, 1), (940, .aload_n 0, 1), (941, .iload_n 3, 1)]
theorem daL_law_15 : tdaL_law_15.all (fun q => decide (decode cL_law q.1 = .ok q.2)) = true := by decide +kernel
theorem dL_law_896 : decode cL_law 896 = .ok (.aload_n 1, 1) := dget daL_law_15 0 (q := (896, .aload_n 1, 1)) rfl
theorem dL_law_897 : decode cL_law 897 = .ok (.aload_n 0, 1) := dget daL_law_15 1 (q := (897, .aload_n 0, 1)) rfl
theorem dL_law_898 : decode cL_law 898 = .ok (.iload_n 3, 1) := dget daL_law_15 2 (q := (898, .iload_n 3, 1)) rfl
theorem dL_law_899 : decode cL_law 899 = .ok (.iconst 1, 1) := dget daL_law_15 3 (q := (899, .iconst 1, 1)) rfl
theorem dL_law_900 : decode cL_law 900 = .ok (.iadd, 1) := dget daL_law_15 4 (q := (900, .iadd, 1)) rfl
theorem dL_law_901 : decode cL_law 901 = .ok (.iaload, 1) := dget daL_law_15 5 (q := (901, .iaload, 1)) rfl
theorem dL_law_902 : decode cL_law 902 = .ok (.aload_n 0, 1) := dget daL_law_15 6 (q := (902, .aload_n 0, 1)) rfl
theorem dL_law_903 : decode cL_law 903 = .ok (.iload_n 3, 1) := dget daL_law_15 7 (q := (903, .iload_n 3, 1)) rfl
theorem dL_law_904 : decode cL_law 904 = .ok (.iconst 2, 1) := dget daL_law_15 8 (q := (904, .iconst 2, 1)) rfl
theorem dL_law_905 : decode cL_law 905 = .ok (.iadd, 1) := dget daL_law_15 9 (q := (905, .iadd, 1)) rfl
theorem dL_law_906 : decode cL_law 906 = .ok (.iaload, 1) := dget daL_law_15 10 (q := (906, .iaload, 1)) rfl
theorem dL_law_907 : decode cL_law 907 = .ok (.aload_n 0, 1) := dget daL_law_15 11 (q := (907, .aload_n 0, 1)) rfl
theorem dL_law_908 : decode cL_law 908 = .ok (.iload_n 3, 1) := dget daL_law_15 12 (q := (908, .iload_n 3, 1)) rfl
theorem dL_law_909 : decode cL_law 909 = .ok (.iconst 3, 1) := dget daL_law_15 13 (q := (909, .iconst 3, 1)) rfl
theorem dL_law_910 : decode cL_law 910 = .ok (.iadd, 1) := dget daL_law_15 14 (q := (910, .iadd, 1)) rfl
theorem dL_law_911 : decode cL_law 911 = .ok (.iaload, 1) := dget daL_law_15 15 (q := (911, .iaload, 1)) rfl
theorem dL_law_912 : decode cL_law 912 = .ok (.aload_n 0, 1) := dget daL_law_15 16 (q := (912, .aload_n 0, 1)) rfl
theorem dL_law_913 : decode cL_law 913 = .ok (.iload_n 3, 1) := dget daL_law_15 17 (q := (913, .iload_n 3, 1)) rfl
theorem dL_law_914 : decode cL_law 914 = .ok (.iconst 4, 1) := dget daL_law_15 18 (q := (914, .iconst 4, 1)) rfl
theorem dL_law_915 : decode cL_law 915 = .ok (.iadd, 1) := dget daL_law_15 19 (q := (915, .iadd, 1)) rfl
theorem dL_law_916 : decode cL_law 916 = .ok (.iaload, 1) := dget daL_law_15 20 (q := (916, .iaload, 1)) rfl
theorem dL_law_917 : decode cL_law 917 = .ok (.ifCond .eq 7, 3) := dget daL_law_15 21 (q := (917, .ifCond .eq 7, 3)) rfl
theorem dL_law_920 : decode cL_law 920 = .ok (.iconst 1, 1) := dget daL_law_15 22 (q := (920, .iconst 1, 1)) rfl
theorem dL_law_921 : decode cL_law 921 = .ok (.goto 4, 3) := dget daL_law_15 23 (q := (921, .goto 4, 3)) rfl
theorem dL_law_924 : decode cL_law 924 = .ok (.iconst 0, 1) := dget daL_law_15 24 (q := (924, .iconst 0, 1)) rfl
theorem dL_law_925 : decode cL_law 925 = .ok (.invokevirtual 99, 3) := dget daL_law_15 25 (q := (925, .invokevirtual 99, 3)) rfl
theorem dL_law_928 : decode cL_law 928 = .ok (.pop, 1) := dget daL_law_15 26 (q := (928, .pop, 1)) rfl
theorem dL_law_929 : decode cL_law 929 = .ok (.aload_n 2, 1) := dget daL_law_15 27 (q := (929, .aload_n 2, 1)) rfl
theorem dL_law_930 : decode cL_law 930 = .ok (.aload_n 0, 1) := dget daL_law_15 28 (q := (930, .aload_n 0, 1)) rfl
theorem dL_law_931 : decode cL_law 931 = .ok (.iload_n 3, 1) := dget daL_law_15 29 (q := (931, .iload_n 3, 1)) rfl
theorem dL_law_932 : decode cL_law 932 = .ok (.iconst 1, 1) := dget daL_law_15 30 (q := (932, .iconst 1, 1)) rfl
theorem dL_law_933 : decode cL_law 933 = .ok (.iadd, 1) := dget daL_law_15 31 (q := (933, .iadd, 1)) rfl
theorem dL_law_934 : decode cL_law 934 = .ok (.iaload, 1) := dget daL_law_15 32 (q := (934, .iaload, 1)) rfl
theorem dL_law_935 : decode cL_law 935 = .ok (.aload_n 0, 1) := dget daL_law_15 33 (q := (935, .aload_n 0, 1)) rfl
theorem dL_law_936 : decode cL_law 936 = .ok (.iload_n 3, 1) := dget daL_law_15 34 (q := (936, .iload_n 3, 1)) rfl
theorem dL_law_937 : decode cL_law 937 = .ok (.iconst 2, 1) := dget daL_law_15 35 (q := (937, .iconst 2, 1)) rfl
theorem dL_law_938 : decode cL_law 938 = .ok (.iadd, 1) := dget daL_law_15 36 (q := (938, .iadd, 1)) rfl
theorem dL_law_939 : decode cL_law 939 = .ok (.iaload, 1) := dget daL_law_15 37 (q := (939, .iaload, 1)) rfl
theorem dL_law_940 : decode cL_law 940 = .ok (.aload_n 0, 1) := dget daL_law_15 38 (q := (940, .aload_n 0, 1)) rfl
theorem dL_law_941 : decode cL_law 941 = .ok (.iload_n 3, 1) := dget daL_law_15 39 (q := (941, .iload_n 3, 1)) rfl
def tdaL_law_16 : List (Nat × (Instr × Nat)) := [(942, .iconst 3, 1), (943, .iadd, 1), (944, .iaload, 1), (945, .aload_n 0, 1), (946, .iload_n 3, 1), (947, .iconst 4, 1), (948, .iadd, 1), (949, .iaload, 1), (950, .ifCond .eq 7, 3), (953, .iconst 1, 1), (954, .goto 4, 3), (957, .iconst 0, 1), (958, .invokevirtual 103, 3), (961, .pop, 1), (962, .goto 513, 3), (965, .aload_n 1, 1), (966, .aload_n 0, 1), (967, .iload_n 3, 1), (968, .iconst 1, 1), (969, .iadd, 1), (970, .iaload, 1), (971, .aload_n 0, 1), (972, .iload_n 3, 1), (973, .iconst 2, 1), (974, .iadd, 1), (975, .iaload, 1), (976, .aload_n 0, 1), (977, .iload_n 3, 1), (978, .iconst 3, 1), (979, .iadd, 1), (980, .iaload, 1), (981, .invokevirtual 104, 3), (984, .pop, 1), (985, .aload_n 2, 1), (986, .aload_n 0, 1), (987, .iload_n 3, 1), (988, .iconst 1, 1), (989, .iadd, 1), (990, .iaload, 1), (991, .aload_n 0, 1)]
theorem daL_law_16 : tdaL_law_16.all (fun q => decide (decode cL_law q.1 = .ok q.2)) = true := by decide +kernel
theorem dL_law_942 : decode cL_law 942 = .ok (.iconst 3, 1) := dget daL_law_16 0 (q := (942, .iconst 3, 1)) rfl
theorem dL_law_943 : decode cL_law 943 = .ok (.iadd, 1) := dget daL_law_16 1 (q := (943, .iadd, 1)) rfl
theorem dL_law_944 : decode cL_law 944 = .ok (.iaload, 1) := dget daL_law_16 2 (q := (944, .iaload, 1)) rfl
theorem dL_law_945 : decode cL_law 945 = .ok (.aload_n 0, 1) := dget daL_law_16 3 (q := (945, .aload_n 0, 1)) rfl
theorem dL_law_946 : decode cL_law 946 = .ok (.iload_n 3, 1) := dget daL_law_16 4 (q := (946, .iload_n 3, 1)) rfl
theorem dL_law_947 : decode cL_law 947 = .ok (.iconst 4, 1) := dget daL_law_16 5 (q := (947, .iconst 4, 1)) rfl
theorem dL_law_948 : decode cL_law 948 = .ok (.iadd, 1) := dget daL_law_16 6 (q := (948, .iadd, 1)) rfl
theorem dL_law_949 : decode cL_law 949 = .ok (.iaload, 1) := dget daL_law_16 7 (q := (949, .iaload, 1)) rfl
theorem dL_law_950 : decode cL_law 950 = .ok (.ifCond .eq 7, 3) := dget daL_law_16 8 (q := (950, .ifCond .eq 7, 3)) rfl
theorem dL_law_953 : decode cL_law 953 = .ok (.iconst 1, 1) := dget daL_law_16 9 (q := (953, .iconst 1, 1)) rfl
theorem dL_law_954 : decode cL_law 954 = .ok (.goto 4, 3) := dget daL_law_16 10 (q := (954, .goto 4, 3)) rfl
theorem dL_law_957 : decode cL_law 957 = .ok (.iconst 0, 1) := dget daL_law_16 11 (q := (957, .iconst 0, 1)) rfl
theorem dL_law_958 : decode cL_law 958 = .ok (.invokevirtual 103, 3) := dget daL_law_16 12 (q := (958, .invokevirtual 103, 3)) rfl
theorem dL_law_961 : decode cL_law 961 = .ok (.pop, 1) := dget daL_law_16 13 (q := (961, .pop, 1)) rfl
theorem dL_law_962 : decode cL_law 962 = .ok (.goto 513, 3) := dget daL_law_16 14 (q := (962, .goto 513, 3)) rfl
theorem dL_law_965 : decode cL_law 965 = .ok (.aload_n 1, 1) := dget daL_law_16 15 (q := (965, .aload_n 1, 1)) rfl
theorem dL_law_966 : decode cL_law 966 = .ok (.aload_n 0, 1) := dget daL_law_16 16 (q := (966, .aload_n 0, 1)) rfl
theorem dL_law_967 : decode cL_law 967 = .ok (.iload_n 3, 1) := dget daL_law_16 17 (q := (967, .iload_n 3, 1)) rfl
theorem dL_law_968 : decode cL_law 968 = .ok (.iconst 1, 1) := dget daL_law_16 18 (q := (968, .iconst 1, 1)) rfl
theorem dL_law_969 : decode cL_law 969 = .ok (.iadd, 1) := dget daL_law_16 19 (q := (969, .iadd, 1)) rfl
theorem dL_law_970 : decode cL_law 970 = .ok (.iaload, 1) := dget daL_law_16 20 (q := (970, .iaload, 1)) rfl
theorem dL_law_971 : decode cL_law 971 = .ok (.aload_n 0, 1) := dget daL_law_16 21 (q := (971, .aload_n 0, 1)) rfl
theorem dL_law_972 : decode cL_law 972 = .ok (.iload_n 3, 1) := dget daL_law_16 22 (q := (972, .iload_n 3, 1)) rfl
theorem dL_law_973 : decode cL_law 973 = .ok (.iconst 2, 1) := dget daL_law_16 23 (q := (973, .iconst 2, 1)) rfl
theorem dL_law_974 : decode cL_law 974 = .ok (.iadd, 1) := dget daL_law_16 24 (q := (974, .iadd, 1)) rfl
theorem dL_law_975 : decode cL_law 975 = .ok (.iaload, 1) := dget daL_law_16 25 (q := (975, .iaload, 1)) rfl
theorem dL_law_976 : decode cL_law 976 = .ok (.aload_n 0, 1) := dget daL_law_16 26 (q := (976, .aload_n 0, 1)) rfl
theorem dL_law_977 : decode cL_law 977 = .ok (.iload_n 3, 1) := dget daL_law_16 27 (q := (977, .iload_n 3, 1)) rfl
theorem dL_law_978 : decode cL_law 978 = .ok (.iconst 3, 1) := dget daL_law_16 28 (q := (978, .iconst 3, 1)) rfl
theorem dL_law_979 : decode cL_law 979 = .ok (.iadd, 1) := dget daL_law_16 29 (q := (979, .iadd, 1)) rfl
theorem dL_law_980 : decode cL_law 980 = .ok (.iaload, 1) := dget daL_law_16 30 (q := (980, .iaload, 1)) rfl
theorem dL_law_981 : decode cL_law 981 = .ok (.invokevirtual 104, 3) := dget daL_law_16 31 (q := (981, .invokevirtual 104, 3)) rfl
theorem dL_law_984 : decode cL_law 984 = .ok (.pop, 1) := dget daL_law_16 32 (q := (984, .pop, 1)) rfl
theorem dL_law_985 : decode cL_law 985 = .ok (.aload_n 2, 1) := dget daL_law_16 33 (q := (985, .aload_n 2, 1)) rfl
theorem dL_law_986 : decode cL_law 986 = .ok (.aload_n 0, 1) := dget daL_law_16 34 (q := (986, .aload_n 0, 1)) rfl
theorem dL_law_987 : decode cL_law 987 = .ok (.iload_n 3, 1) := dget daL_law_16 35 (q := (987, .iload_n 3, 1)) rfl
theorem dL_law_988 : decode cL_law 988 = .ok (.iconst 1, 1) := dget daL_law_16 36 (q := (988, .iconst 1, 1)) rfl
theorem dL_law_989 : decode cL_law 989 = .ok (.iadd, 1) := dget daL_law_16 37 (q := (989, .iadd, 1)) rfl
theorem dL_law_990 : decode cL_law 990 = .ok (.iaload, 1) := dget daL_law_16 38 (q := (990, .iaload, 1)) rfl
theorem dL_law_991 : decode cL_law 991 = .ok (.aload_n 0, 1) := dget daL_law_16 39 (q := (991, .aload_n 0, 1)) rfl
def tdaL_law_17 : List (Nat × (Instr × Nat)) := [(992, .iload_n 3, 1), (993, .iconst 2, 1), (994, .iadd, 1), (995, .iaload, 1), (996, .aload_n 0, 1), (997, .iload_n 3, 1), (998, .iconst 3, 1), (999, .iadd, 1), (1000, .iaload, 1), (1001, .invokevirtual 107, 3), (1004, .pop, 1), (1005, .goto 470, 3), (1008, .aload_n 1, 1), (1009, .aload_n 0, 1), (1010, .iload_n 3, 1), (1011, .iconst 1, 1), (1012, .iadd, 1), (1013, .iaload, 1), (1014, .aload_n 0, 1), (1015, .iload_n 3, 1), (1016, .iconst 2, 1), (1017, .iadd, 1), (1018, .iaload, 1), (1019, .invokevirtual 108, 3), (1022, .pop, 1), (1023, .aload_n 2, 1), (1024, .aload_n 0, 1), (1025, .iload_n 3, 1), (1026, .iconst 1, 1), (1027, .iadd, 1), (1028, .iaload, 1), (1029, .aload_n 0, 1), (1030, .iload_n 3, 1), (1031, .iconst 2, 1), (1032, .iadd, 1), (1033, .iaload, 1), (1034, .invokevirtual 111, 3), (1037, .pop, 1), (1038, .goto 437, 3), (1041, .aload_n 1, 1)]
theorem daL_law_17 : tdaL_law_17.all (fun q => decide (decode cL_law q.1 = .ok q.2)) = true := by decide +kernel
theorem dL_law_992 : decode cL_law 992 = .ok (.iload_n 3, 1) := dget daL_law_17 0 (q := (992, .iload_n 3, 1)) rfl
theorem dL_law_993 : decode cL_law 993 = .ok (.iconst 2, 1) := dget daL_law_17 1 (q := (993, .iconst 2, 1)) rfl
theorem dL_law_994 : decode cL_law 994 = .ok (.iadd, 1) := dget daL_law_17 2 (q := (994, .iadd, 1)) rfl
theorem dL_law_995 : decode cL_law 995 = .ok (.iaload, 1) := dget daL_law_17 3 (q := (995, .iaload, 1)) rfl
theorem dL_law_996 : decode cL_law 996 = .ok (.aload_n 0, 1) := dget daL_law_17 4 (q := (996, .aload_n 0, 1)) rfl
theorem dL_law_997 : decode cL_law 997 = .ok (.iload_n 3, 1) := dget daL_law_17 5 (q := (997, .iload_n 3, 1)) rfl
theorem dL_law_998 : decode cL_law 998 = .ok (.iconst 3, 1) := dget daL_law_17 6 (q := (998, .iconst 3, 1)) rfl
theorem dL_law_999 : decode cL_law 999 = .ok (.iadd, 1) := dget daL_law_17 7 (q := (999, .iadd, 1)) rfl
theorem dL_law_1000 : decode cL_law 1000 = .ok (.iaload, 1) := dget daL_law_17 8 (q := (1000, .iaload, 1)) rfl
theorem dL_law_1001 : decode cL_law 1001 = .ok (.invokevirtual 107, 3) := dget daL_law_17 9 (q := (1001, .invokevirtual 107, 3)) rfl
theorem dL_law_1004 : decode cL_law 1004 = .ok (.pop, 1) := dget daL_law_17 10 (q := (1004, .pop, 1)) rfl
theorem dL_law_1005 : decode cL_law 1005 = .ok (.goto 470, 3) := dget daL_law_17 11 (q := (1005, .goto 470, 3)) rfl
theorem dL_law_1008 : decode cL_law 1008 = .ok (.aload_n 1, 1) := dget daL_law_17 12 (q := (1008, .aload_n 1, 1)) rfl
theorem dL_law_1009 : decode cL_law 1009 = .ok (.aload_n 0, 1) := dget daL_law_17 13 (q := (1009, .aload_n 0, 1)) rfl
theorem dL_law_1010 : decode cL_law 1010 = .ok (.iload_n 3, 1) := dget daL_law_17 14 (q := (1010, .iload_n 3, 1)) rfl
theorem dL_law_1011 : decode cL_law 1011 = .ok (.iconst 1, 1) := dget daL_law_17 15 (q := (1011, .iconst 1, 1)) rfl
theorem dL_law_1012 : decode cL_law 1012 = .ok (.iadd, 1) := dget daL_law_17 16 (q := (1012, .iadd, 1)) rfl
theorem dL_law_1013 : decode cL_law 1013 = .ok (.iaload, 1) := dget daL_law_17 17 (q := (1013, .iaload, 1)) rfl
theorem dL_law_1014 : decode cL_law 1014 = .ok (.aload_n 0, 1) := dget daL_law_17 18 (q := (1014, .aload_n 0, 1)) rfl
theorem dL_law_1015 : decode cL_law 1015 = .ok (.iload_n 3, 1) := dget daL_law_17 19 (q := (1015, .iload_n 3, 1)) rfl
theorem dL_law_1016 : decode cL_law 1016 = .ok (.iconst 2, 1) := dget daL_law_17 20 (q := (1016, .iconst 2, 1)) rfl
theorem dL_law_1017 : decode cL_law 1017 = .ok (.iadd, 1) := dget daL_law_17 21 (q := (1017, .iadd, 1)) rfl
theorem dL_law_1018 : decode cL_law 1018 = .ok (.iaload, 1) := dget daL_law_17 22 (q := (1018, .iaload, 1)) rfl
theorem dL_law_1019 : decode cL_law 1019 = .ok (.invokevirtual 108, 3) := dget daL_law_17 23 (q := (1019, .invokevirtual 108, 3)) rfl
theorem dL_law_1022 : decode cL_law 1022 = .ok (.pop, 1) := dget daL_law_17 24 (q := (1022, .pop, 1)) rfl
theorem dL_law_1023 : decode cL_law 1023 = .ok (.aload_n 2, 1) := dget daL_law_17 25 (q := (1023, .aload_n 2, 1)) rfl
theorem dL_law_1024 : decode cL_law 1024 = .ok (.aload_n 0, 1) := dget daL_law_17 26 (q := (1024, .aload_n 0, 1)) rfl
theorem dL_law_1025 : decode cL_law 1025 = .ok (.iload_n 3, 1) := dget daL_law_17 27 (q := (1025, .iload_n 3, 1)) rfl
theorem dL_law_1026 : decode cL_law 1026 = .ok (.iconst 1, 1) := dget daL_law_17 28 (q := (1026, .iconst 1, 1)) rfl
theorem dL_law_1027 : decode cL_law 1027 = .ok (.iadd, 1) := dget daL_law_17 29 (q := (1027, .iadd, 1)) rfl
theorem dL_law_1028 : decode cL_law 1028 = .ok (.iaload, 1) := dget daL_law_17 30 (q := (1028, .iaload, 1)) rfl
theorem dL_law_1029 : decode cL_law 1029 = .ok (.aload_n 0, 1) := dget daL_law_17 31 (q := (1029, .aload_n 0, 1)) rfl
theorem dL_law_1030 : decode cL_law 1030 = .ok (.iload_n 3, 1) := dget daL_law_17 32 (q := (1030, .iload_n 3, 1)) rfl
theorem dL_law_1031 : decode cL_law 1031 = .ok (.iconst 2, 1) := dget daL_law_17 33 (q := (1031, .iconst 2, 1)) rfl
theorem dL_law_1032 : decode cL_law 1032 = .ok (.iadd, 1) := dget daL_law_17 34 (q := (1032, .iadd, 1)) rfl
theorem dL_law_1033 : decode cL_law 1033 = .ok (.iaload, 1) := dget daL_law_17 35 (q := (1033, .iaload, 1)) rfl
theorem dL_law_1034 : decode cL_law 1034 = .ok (.invokevirtual 111, 3) := dget daL_law_17 36 (q := (1034, .invokevirtual 111, 3)) rfl
theorem dL_law_1037 : decode cL_law 1037 = .ok (.pop, 1) := dget daL_law_17 37 (q := (1037, .pop, 1)) rfl
theorem dL_law_1038 : decode cL_law 1038 = .ok (.goto 437, 3) := dget daL_law_17 38 (q := (1038, .goto 437, 3)) rfl
theorem dL_law_1041 : decode cL_law 1041 = .ok (.aload_n 1, 1) := dget daL_law_17 39 (q := (1041, .aload_n 1, 1)) rfl
def tdaL_law_18 : List (Nat × (Instr × Nat)) := [(1042, .aload_n 0, 1), (1043, .iload_n 3, 1), (1044, .iconst 1, 1), (1045, .iadd, 1), (1046, .iaload, 1), (1047, .aload_n 0, 1), (1048, .iload_n 3, 1), (1049, .iconst 2, 1), (1050, .iadd, 1), (1051, .iaload, 1), (1052, .aload_n 0, 1), (1053, .iload_n 3, 1), (1054, .iconst 3, 1), (1055, .iadd, 1), (1056, .iaload, 1), (1057, .invokevirtual 112, 3), (1060, .pop, 1), (1061, .aload_n 2, 1), (1062, .aload_n 0, 1), (1063, .iload_n 3, 1), (1064, .iconst 1, 1), (1065, .iadd, 1), (1066, .iaload, 1), (1067, .aload_n 0, 1), (1068, .iload_n 3, 1), (1069, .iconst 2, 1), (1070, .iadd, 1), (1071, .iaload, 1), (1072, .aload_n 0, 1), (1073, .iload_n 3, 1), (1074, .iconst 3, 1), (1075, .iadd, 1), (1076, .iaload, 1), (1077, .invokevirtual 115, 3), (1080, .pop, 1), (1081, .goto 394, 3), (1084, .aload_n 1, 1), (1085, .aload_n 0, 1), (1086, .iload_n 3, 1), (1087, .iconst 1, 1)]
theorem daL_law_18 : tdaL_law_18.all (fun q => decide (decode cL_law q.1 = .ok q.2)) = true := by decide +kernel
theorem dL_law_1042 : decode cL_law 1042 = .ok (.aload_n 0, 1) := dget daL_law_18 0 (q := (1042, .aload_n 0, 1)) rfl
theorem dL_law_1043 : decode cL_law 1043 = .ok (.iload_n 3, 1) := dget daL_law_18 1 (q := (1043, .iload_n 3, 1)) rfl
theorem dL_law_1044 : decode cL_law 1044 = .ok (.iconst 1, 1) := dget daL_law_18 2 (q := (1044, .iconst 1, 1)) rfl
theorem dL_law_1045 : decode cL_law 1045 = .ok (.iadd, 1) := dget daL_law_18 3 (q := (1045, .iadd, 1)) rfl
theorem dL_law_1046 : decode cL_law 1046 = .ok (.iaload, 1) := dget daL_law_18 4 (q := (1046, .iaload, 1)) rfl
theorem dL_law_1047 : decode cL_law 1047 = .ok (.aload_n 0, 1) := dget daL_law_18 5 (q := (1047, .aload_n 0, 1)) rfl
theorem dL_law_1048 : decode cL_law 1048 = .ok (.iload_n 3, 1) := dget daL_law_18 6 (q := (1048, .iload_n 3, 1)) rfl
theorem dL_law_1049 : decode cL_law 1049 = .ok (.iconst 2, 1) := dget daL_law_18 7 (q := (1049, .iconst 2, 1)) rfl
theorem dL_law_1050 : decode cL_law 1050 = .ok (.iadd, 1) := dget daL_law_18 8 (q := (1050, .iadd, 1)) rfl
theorem dL_law_1051 : decode cL_law 1051 = .ok (.iaload, 1) := dget daL_law_18 9 (q := (1051, .iaload, 1)) rfl
theorem dL_law_1052 : decode cL_law 1052 = .ok (.aload_n 0, 1) := dget daL_law_18 10 (q := (1052, .aload_n 0, 1)) rfl
theorem dL_law_1053 : decode cL_law 1053 = .ok (.iload_n 3, 1) := dget daL_law_18 11 (q := (1053, .iload_n 3, 1)) rfl
theorem dL_law_1054 : decode cL_law 1054 = .ok (.iconst 3, 1) := dget daL_law_18 12 (q := (1054, .iconst 3, 1)) rfl
theorem dL_law_1055 : decode cL_law 1055 = .ok (.iadd, 1) := dget daL_law_18 13 (q := (1055, .iadd, 1)) rfl
theorem dL_law_1056 : decode cL_law 1056 = .ok (.iaload, 1) := dget daL_law_18 14 (q := (1056, .iaload, 1)) rfl
theorem dL_law_1057 : decode cL_law 1057 = .ok (.invokevirtual 112, 3) := dget daL_law_18 15 (q := (1057, .invokevirtual 112, 3)) rfl
theorem dL_law_1060 : decode cL_law 1060 = .ok (.pop, 1) := dget daL_law_18 16 (q := (1060, .pop, 1)) rfl
theorem dL_law_1061 : decode cL_law 1061 = .ok (.aload_n 2, 1) := dget daL_law_18 17 (q := (1061, .aload_n 2, 1)) rfl
theorem dL_law_1062 : decode cL_law 1062 = .ok (.aload_n 0, 1) := dget daL_law_18 18 (q := (1062, .aload_n 0, 1)) rfl
theorem dL_law_1063 : decode cL_law 1063 = .ok (.iload_n 3, 1) := dget daL_law_18 19 (q := (1063, .iload_n 3, 1)) rfl
theorem dL_law_1064 : decode cL_law 1064 = .ok (.iconst 1, 1) := dget daL_law_18 20 (q := (1064, .iconst 1, 1)) rfl
theorem dL_law_1065 : decode cL_law 1065 = .ok (.iadd, 1) := dget daL_law_18 21 (q := (1065, .iadd, 1)) rfl
theorem dL_law_1066 : decode cL_law 1066 = .ok (.iaload, 1) := dget daL_law_18 22 (q := (1066, .iaload, 1)) rfl
theorem dL_law_1067 : decode cL_law 1067 = .ok (.aload_n 0, 1) := dget daL_law_18 23 (q := (1067, .aload_n 0, 1)) rfl
theorem dL_law_1068 : decode cL_law 1068 = .ok (.iload_n 3, 1) := dget daL_law_18 24 (q := (1068, .iload_n 3, 1)) rfl
theorem dL_law_1069 : decode cL_law 1069 = .ok (.iconst 2, 1) := dget daL_law_18 25 (q := (1069, .iconst 2, 1)) rfl
theorem dL_law_1070 : decode cL_law 1070 = .ok (.iadd, 1) := dget daL_law_18 26 (q := (1070, .iadd, 1)) rfl
theorem dL_law_1071 : decode cL_law 1071 = .ok (.iaload, 1) := dget daL_law_18 27 (q := (1071, .iaload, 1)) rfl
theorem dL_law_1072 : decode cL_law 1072 = .ok (.aload_n 0, 1) := dget daL_law_18 28 (q := (1072, .aload_n 0, 1)) rfl
theorem dL_law_1073 : decode cL_law 1073 = .ok (.iload_n 3, 1) := dget daL_law_18 29 (q := (1073, .iload_n 3, 1)) rfl
theorem dL_law_1074 : decode cL_law 1074 = .ok (.iconst 3, 1) := dget daL_law_18 30 (q := (1074, .iconst 3, 1)) rfl
theorem dL_law_1075 : decode cL_law 1075 = .ok (.iadd, 1) := dget daL_law_18 31 (q := (1075, .iadd, 1)) rfl
theorem dL_law_1076 : decode cL_law 1076 = .ok (.iaload, 1) := dget daL_law_18 32 (q := (1076, .iaload, 1)) rfl
theorem dL_law_1077 : decode cL_law 1077 = .ok (.invokevirtual 115, 3) := dget daL_law_18 33 (q := (1077, .invokevirtual 115, 3)) rfl
theorem dL_law_1080 : decode cL_law 1080 = .ok (.pop, 1) := dget daL_law_18 34 (q := (1080, .pop, 1)) rfl
theorem dL_law_1081 : decode cL_law 1081 = .ok (.goto 394, 3) := dget daL_law_18 35 (q := (1081, .goto 394, 3)) rfl
theorem dL_law_1084 : decode cL_law 1084 = .ok (.aload_n 1, 1) := dget daL_law_18 36 (q := (1084, .aload_n 1, 1)) rfl
theorem dL_law_1085 : decode cL_law 1085 = .ok (.aload_n 0, 1) := dget daL_law_18 37 (q := (1085, .aload_n 0, 1)) rfl
theorem dL_law_1086 : decode cL_law 1086 = .ok (.iload_n 3, 1) := dget daL_law_18 38 (q := (1086, .iload_n 3, 1)) rfl
theorem dL_law_1087 : decode cL_law 1087 = .ok (.iconst 1, 1) := dget daL_law_18 39 (q := (1087, .iconst 1, 1)) rfl
def tdaL_law_19 : List (Nat × (Instr × Nat)) := [(1088, .iadd, 1), (1089, .iaload, 1), (1090, .invokevirtual 116, 3), (1093, .pop, 1), (1094, .aload_n 2, 1), (1095, .aload_n 0, 1), (1096, .iload_n 3, 1), (1097, .iconst 1, 1), (1098, .iadd, 1), (1099, .iaload, 1), (1100, .invokevirtual 119, 3), (1103, .pop, 1), (1104, .goto 371, 3), (1107, .aload_n 1, 1), (1108, .aload_n 0, 1), (1109, .iload_n 3, 1), (1110, .iconst 1, 1), (1111, .iadd, 1), (1112, .iaload, 1), (1113, .aload_n 0, 1), (1114, .iload_n 3, 1), (1115, .iconst 2, 1), (1116, .iadd, 1), (1117, .iaload, 1), (1118, .invokevirtual 120, 3), (1121, .pop, 1), (1122, .aload_n 2, 1), (1123, .aload_n 0, 1), (1124, .iload_n 3, 1), (1125, .iconst 1, 1), (1126, .iadd, 1), (1127, .iaload, 1), (1128, .aload_n 0, 1), (1129, .iload_n 3, 1), (1130, .iconst 2, 1), (1131, .iadd, 1), (1132, .iaload, 1), (1133, .invokevirtual 123, 3), (1136, .pop, 1), (1137, .goto 338, 3)]
theorem daL_law_19 : tdaL_law_19.all (fun q => decide (decode cL_law q.1 = .ok q.2)) = true := by decide +kernel
theorem dL_law_1088 : decode cL_law 1088 = .ok (.iadd, 1) := dget daL_law_19 0 (q := (1088, .iadd, 1)) rfl
theorem dL_law_1089 : decode cL_law 1089 = .ok (.iaload, 1) := dget daL_law_19 1 (q := (1089, .iaload, 1)) rfl
theorem dL_law_1090 : decode cL_law 1090 = .ok (.invokevirtual 116, 3) := dget daL_law_19 2 (q := (1090, .invokevirtual 116, 3)) rfl
theorem dL_law_1093 : decode cL_law 1093 = .ok (.pop, 1) := dget daL_law_19 3 (q := (1093, .pop, 1)) rfl
theorem dL_law_1094 : decode cL_law 1094 = .ok (.aload_n 2, 1) := dget daL_law_19 4 (q := (1094, .aload_n 2, 1)) rfl
theorem dL_law_1095 : decode cL_law 1095 = .ok (.aload_n 0, 1) := dget daL_law_19 5 (q := (1095, .aload_n 0, 1)) rfl
theorem dL_law_1096 : decode cL_law 1096 = .ok (.iload_n 3, 1) := dget daL_law_19 6 (q := (1096, .iload_n 3, 1)) rfl
theorem dL_law_1097 : decode cL_law 1097 = .ok (.iconst 1, 1) := dget daL_law_19 7 (q := (1097, .iconst 1, 1)) rfl
theorem dL_law_1098 : decode cL_law 1098 = .ok (.iadd, 1) := dget daL_law_19 8 (q := (1098, .iadd, 1)) rfl
theorem dL_law_1099 : decode cL_law 1099 = .ok (.iaload, 1) := dget daL_law_19 9 (q := (1099, .iaload, 1)) rfl
theorem dL_law_1100 : decode cL_law 1100 = .ok (.invokevirtual 119, 3) := dget daL_law_19 10 (q := (1100, .invokevirtual 119, 3)) rfl
theorem dL_law_1103 : decode cL_law 1103 = .ok (.pop, 1) := dget daL_law_19 11 (q := (1103, .pop, 1)) rfl
theorem dL_law_1104 : decode cL_law 1104 = .ok (.goto 371, 3) := dget daL_law_19 12 (q := (1104, .goto 371, 3)) rfl
theorem dL_law_1107 : decode cL_law 1107 = .ok (.aload_n 1, 1) := dget daL_law_19 13 (q := (1107, .aload_n 1, 1)) rfl
theorem dL_law_1108 : decode cL_law 1108 = .ok (.aload_n 0, 1) := dget daL_law_19 14 (q := (1108, .aload_n 0, 1)) rfl
theorem dL_law_1109 : decode cL_law 1109 = .ok (.iload_n 3, 1) := dget daL_law_19 15 (q := (1109, .iload_n 3, 1)) rfl
theorem dL_law_1110 : decode cL_law 1110 = .ok (.iconst 1, 1) := dget daL_law_19 16 (q := (1110, .iconst 1, 1)) rfl
theorem dL_law_1111 : decode cL_law 1111 = .ok (.iadd, 1) := dget daL_law_19 17 (q := (1111, .iadd, 1)) rfl
theorem dL_law_1112 : decode cL_law 1112 = .ok (.iaload, 1) := dget daL_law_19 18 (q := (1112, .iaload, 1)) rfl
theorem dL_law_1113 : decode cL_law 1113 = .ok (.aload_n 0, 1) := dget daL_law_19 19 (q := (1113, .aload_n 0, 1)) rfl
theorem dL_law_1114 : decode cL_law 1114 = .ok (.iload_n 3, 1) := dget daL_law_19 20 (q := (1114, .iload_n 3, 1)) rfl
theorem dL_law_1115 : decode cL_law 1115 = .ok (.iconst 2, 1) := dget daL_law_19 21 (q := (1115, .iconst 2, 1)) rfl
theorem dL_law_1116 : decode cL_law 1116 = .ok (.iadd, 1) := dget daL_law_19 22 (q := (1116, .iadd, 1)) rfl
theorem dL_law_1117 : decode cL_law 1117 = .ok (.iaload, 1) := dget daL_law_19 23 (q := (1117, .iaload, 1)) rfl
theorem dL_law_1118 : decode cL_law 1118 = .ok (.invokevirtual 120, 3) := dget daL_law_19 24 (q := (1118, .invokevirtual 120, 3)) rfl
theorem dL_law_1121 : decode cL_law 1121 = .ok (.pop, 1) := dget daL_law_19 25 (q := (1121, .pop, 1)) rfl
theorem dL_law_1122 : decode cL_law 1122 = .ok (.aload_n 2, 1) := dget daL_law_19 26 (q := (1122, .aload_n 2, 1)) rfl
theorem dL_law_1123 : decode cL_law 1123 = .ok (.aload_n 0, 1) := dget daL_law_19 27 (q := (1123, .aload_n 0, 1)) rfl
theorem dL_law_1124 : decode cL_law 1124 = .ok (.iload_n 3, 1) := dget daL_law_19 28 (q := (1124, .iload_n 3, 1)) rfl
theorem dL_law_1125 : decode cL_law 1125 = .ok (.iconst 1, 1) := dget daL_law_19 29 (q := (1125, .iconst 1, 1)) rfl
theorem dL_law_1126 : decode cL_law 1126 = .ok (.iadd, 1) := dget daL_law_19 30 (q := (1126, .iadd, 1)) rfl
theorem dL_law_1127 : decode cL_law 1127 = .ok (.iaload, 1) := dget daL_law_19 31 (q := (1127, .iaload, 1)) rfl
theorem dL_law_1128 : decode cL_law 1128 = .ok (.aload_n 0, 1) := dget daL_law_19 32 (q := (1128, .aload_n 0, 1)) rfl
theorem dL_law_1129 : decode cL_law 1129 = .ok (.iload_n 3, 1) := dget daL_law_19 33 (q := (1129, .iload_n 3, 1)) rfl
theorem dL_law_1130 : decode cL_law 1130 = .ok (.iconst 2, 1) := dget daL_law_19 34 (q := (1130, .iconst 2, 1)) rfl
theorem dL_law_1131 : decode cL_law 1131 = .ok (.iadd, 1) := dget daL_law_19 35 (q := (1131, .iadd, 1)) rfl
theorem dL_law_1132 : decode cL_law 1132 = .ok (.iaload, 1) := dget daL_law_19 36 (q := (1132, .iaload, 1)) rfl
theorem dL_law_1133 : decode cL_law 1133 = .ok (.invokevirtual 123, 3) := dget daL_law_19 37 (q := (1133, .invokevirtual 123, 3)) rfl
theorem dL_law_1136 : decode cL_law 1136 = .ok (.pop, 1) := dget daL_law_19 38 (q := (1136, .pop, 1)) rfl
theorem dL_law_1137 : decode cL_law 1137 = .ok (.goto 338, 3) := dget daL_law_19 39 (q := (1137, .goto 338, 3)) rfl
def tdaL_law_20 : List (Nat × (Instr × Nat)) := [(1140, .aload_n 1, 1), (1141, .aload_n 0, 1), (1142, .iload_n 3, 1), (1143, .iconst 1, 1), (1144, .iadd, 1), (1145, .iaload, 1), (1146, .aload_n 0, 1), (1147, .iload_n 3, 1), (1148, .iconst 2, 1), (1149, .iadd, 1), (1150, .iaload, 1), (1151, .aload_n 0, 1), (1152, .iload_n 3, 1), (1153, .iconst 3, 1), (1154, .iadd, 1), (1155, .iaload, 1), (1156, .invokevirtual 124, 3), (1159, .pop, 1), (1160, .aload_n 2, 1), (1161, .aload_n 0, 1), (1162, .iload_n 3, 1), (1163, .iconst 1, 1), (1164, .iadd, 1), (1165, .iaload, 1), (1166, .aload_n 0, 1), (1167, .iload_n 3, 1), (1168, .iconst 2, 1), (1169, .iadd, 1), (1170, .iaload, 1), (1171, .aload_n 0, 1), (1172, .iload_n 3, 1), (1173, .iconst 3, 1), (1174, .iadd, 1), (1175, .iaload, 1), (1176, .invokevirtual 127, 3), (1179, .pop, 1), (1180, .goto 295, 3), (1183, .aload_n 1, 1), (1184, .aload_n 0, 1), (1185, .iload_n 3, 1)]
theorem daL_law_20 : tdaL_law_20.all (fun q => decide (decode cL_law q.1 = .ok q.2)) = true := by decide +kernel
theorem dL_law_1140 : decode cL_law 1140 = .ok (.aload_n 1, 1) := dget daL_law_20 0 (q := (1140, .aload_n 1, 1)) rfl
theorem dL_law_1141 : decode cL_law 1141 = .ok (.aload_n 0, 1) := dget daL_law_20 1 (q := (1141, .aload_n 0, 1)) rfl
theorem dL_law_1142 : decode cL_law 1142 = .ok (.iload_n 3, 1) := dget daL_law_20 2 (q := (1142, .iload_n 3, 1)) rfl
theorem dL_law_1143 : decode cL_law 1143 = .ok (.iconst 1, 1) := dget daL_law_20 3 (q := (1143, .iconst 1, 1)) rfl
theorem dL_law_1144 : decode cL_law 1144 = .ok (.iadd, 1) := dget daL_law_20 4 (q := (1144, .iadd, 1)) rfl
theorem dL_law_1145 : decode cL_law 1145 = .ok (.iaload, 1) := dget daL_law_20 5 (q := (1145, .iaload, 1)) rfl
theorem dL_law_1146 : decode cL_law 1146 = .ok (.aload_n 0, 1) := dget daL_law_20 6 (q := (1146, .aload_n 0, 1)) rfl
theorem dL_law_1147 : decode cL_law 1147 = .ok (.iload_n 3, 1) := dget daL_law_20 7 (q := (1147, .iload_n 3, 1)) rfl
theorem dL_law_1148 : decode cL_law 1148 = .ok (.iconst 2, 1) := dget daL_law_20 8 (q := (1148, .iconst 2, 1)) rfl
theorem dL_law_1149 : decode cL_law 1149 = .ok (.iadd, 1) := dget daL_law_20 9 (q := (1149, .iadd, 1)) rfl
theorem dL_law_1150 : decode cL_law 1150 = .ok (.iaload, 1) := dget daL_law_20 10 (q := (1150, .iaload, 1)) rfl
theorem dL_law_1151 : decode cL_law 1151 = .ok (.aload_n 0, 1) := dget daL_law_20 11 (q := (1151, .aload_n 0, 1)) rfl
theorem dL_law_1152 : decode cL_law 1152 = .ok (.iload_n 3, 1) := dget daL_law_20 12 (q := (1152, .iload_n 3, 1)) rfl
theorem dL_law_1153 : decode cL_law 1153 = .ok (.iconst 3, 1) := dget daL_law_20 13 (q := (1153, .iconst 3, 1)) rfl
theorem dL_law_1154 : decode cL_law 1154 = .ok (.iadd, 1) := dget daL_law_20 14 (q := (1154, .iadd, 1)) rfl
theorem dL_law_1155 : decode cL_law 1155 = .ok (.iaload, 1) := dget daL_law_20 15 (q := (1155, .iaload, 1)) rfl
theorem dL_law_1156 : decode cL_law 1156 = .ok (.invokevirtual 124, 3) := dget daL_law_20 16 (q := (1156, .invokevirtual 124, 3)) rfl
theorem dL_law_1159 : decode cL_law 1159 = .ok (.pop, 1) := dget daL_law_20 17 (q := (1159, .pop, 1)) rfl
theorem dL_law_1160 : decode cL_law 1160 = .ok (.aload_n 2, 1) := dget daL_law_20 18 (q := (1160, .aload_n 2, 1)) rfl
theorem dL_law_1161 : decode cL_law 1161 = .ok (.aload_n 0, 1) := dget daL_law_20 19 (q := (1161, .aload_n 0, 1)) rfl
theorem dL_law_1162 : decode cL_law 1162 = .ok (.iload_n 3, 1) := dget daL_law_20 20 (q := (1162, .iload_n 3, 1)) rfl
theorem dL_law_1163 : decode cL_law 1163 = .ok (.iconst 1, 1) := dget daL_law_20 21 (q := (1163, .iconst 1, 1)) rfl
theorem dL_law_1164 : decode cL_law 1164 = .ok (.iadd, 1) := dget daL_law_20 22 (q := (1164, .iadd, 1)) rfl
theorem dL_law_1165 : decode cL_law 1165 = .ok (.iaload, 1) := dget daL_law_20 23 (q := (1165, .iaload, 1)) rfl
theorem dL_law_1166 : decode cL_law 1166 = .ok (.aload_n 0, 1) := dget daL_law_20 24 (q := (1166, .aload_n 0, 1)) rfl
theorem dL_law_1167 : decode cL_law 1167 = .ok (.iload_n 3, 1) := dget daL_law_20 25 (q := (1167, .iload_n 3, 1)) rfl
theorem dL_law_1168 : decode cL_law 1168 = .ok (.iconst 2, 1) := dget daL_law_20 26 (q := (1168, .iconst 2, 1)) rfl
theorem dL_law_1169 : decode cL_law 1169 = .ok (.iadd, 1) := dget daL_law_20 27 (q := (1169, .iadd, 1)) rfl
theorem dL_law_1170 : decode cL_law 1170 = .ok (.iaload, 1) := dget daL_law_20 28 (q := (1170, .iaload, 1)) rfl
theorem dL_law_1171 : decode cL_law 1171 = .ok (.aload_n 0, 1) := dget daL_law_20 29 (q := (1171, .aload_n 0, 1)) rfl
theorem dL_law_1172 : decode cL_law 1172 = .ok (.iload_n 3, 1) := dget daL_law_20 30 (q := (1172, .iload_n 3, 1)) rfl
theorem dL_law_1173 : decode cL_law 1173 = .ok (.iconst 3, 1) := dget daL_law_20 31 (q := (1173, .iconst 3, 1)) rfl
theorem dL_law_1174 : decode cL_law 1174 = .ok (.iadd, 1) := dget daL_law_20 32 (q := (1174, .iadd, 1)) rfl
theorem dL_law_1175 : decode cL_law 1175 = .ok (.iaload, 1) := dget daL_law_20 33 (q := (1175, .iaload, 1)) rfl
theorem dL_law_1176 : decode cL_law 1176 = .ok (.invokevirtual 127, 3) := dget daL_law_20 34 (q := (1176, .invokevirtual 127, 3)) rfl
theorem dL_law_1179 : decode cL_law 1179 = .ok (.pop, 1) := dget daL_law_20 35 (q := (1179, .pop, 1)) rfl
theorem dL_law_1180 : decode cL_law 1180 = .ok (.goto 295, 3) := dget daL_law_20 36 (q := (1180, .goto 295, 3)) rfl
theorem dL_law_1183 : decode cL_law 1183 = .ok (.aload_n 1, 1) := dget daL_law_20 37 (q := (1183, .aload_n 1, 1)) rfl
theorem dL_law_1184 : decode cL_law 1184 = .ok (.aload_n 0, 1) := dget daL_law_20 38 (q := (1184, .aload_n 0, 1)) rfl
theorem dL_law_1185 : decode cL_law 1185 = .ok (.iload_n 3, 1) := dget daL_law_20 39 (q := (1185, .iload_n 3, 1)) rfl
def tdaL_law_21 : List (Nat × (Instr × Nat)) := [(1186, .iconst 1, 1), (1187, .iadd, 1), (1188, .iaload, 1), (1189, .aload_n 0, 1), (1190, .iload_n 3, 1), (1191, .iconst 2, 1), (1192, .iadd, 1), (1193, .iaload, 1), (1194, .aload_n 0, 1), (1195, .iload_n 3, 1), (1196, .iconst 3, 1), (1197, .iadd, 1), (1198, .iaload, 1), (1199, .invokevirtual 128, 3), (1202, .pop, 1), (1203, .aload_n 2, 1), (1204, .aload_n 0, 1), (1205, .iload_n 3, 1), (1206, .iconst 1, 1), (1207, .iadd, 1), (1208, .iaload, 1), (1209, .aload_n 0, 1), (1210, .iload_n 3, 1), (1211, .iconst 2, 1), (1212, .iadd, 1), (1213, .iaload, 1), (1214, .aload_n 0, 1), (1215, .iload_n 3, 1), (1216, .iconst 3, 1), (1217, .iadd, 1), (1218, .iaload, 1), (1219, .invokevirtual 131, 3), (1222, .pop, 1), (1223, .goto 252, 3), (1226, .aload_n 1, 1), (1227, .aload_n 0, 1), (1228, .iload_n 3, 1), (1229, .iconst 1, 1), (1230, .iadd, 1), (1231, .iaload, 1)]
theorem daL_law_21 : tdaL_law_21.all (fun q => decide (decode cL_law q.1 = .ok q.2)) = true := by decide +kernel
theorem dL_law_1186 : decode cL_law 1186 = .ok (.iconst 1, 1) := dget daL_law_21 0 (q := (1186, .iconst 1, 1)) rfl
theorem dL_law_1187 : decode cL_law 1187 = .ok (.iadd, 1) := dget daL_law_21 1 (q := (1187, .iadd, 1)) rfl
theorem dL_law_1188 : decode cL_law 1188 = .ok (.iaload, 1) := dget daL_law_21 2 (q := (1188, .iaload, 1)) rfl
theorem dL_law_1189 : decode cL_law 1189 = .ok (.aload_n 0, 1) := dget daL_law_21 3 (q := (1189, .aload_n 0, 1)) rfl
theorem dL_law_1190 : decode cL_law 1190 = .ok (.iload_n 3, 1) := dget daL_law_21 4 (q := (1190, .iload_n 3, 1)) rfl
theorem dL_law_1191 : decode cL_law 1191 = .ok (.iconst 2, 1) := dget daL_law_21 5 (q := (1191, .iconst 2, 1)) rfl
theorem dL_law_1192 : decode cL_law 1192 = .ok (.iadd, 1) := dget daL_law_21 6 (q := (1192, .iadd, 1)) rfl
theorem dL_law_1193 : decode cL_law 1193 = .ok (.iaload, 1) := dget daL_law_21 7 (q := (1193, .iaload, 1)) rfl
theorem dL_law_1194 : decode cL_law 1194 = .ok (.aload_n 0, 1) := dget daL_law_21 8 (q := (1194, .aload_n 0, 1)) rfl
theorem dL_law_1195 : decode cL_law 1195 = .ok (.iload_n 3, 1) := dget daL_law_21 9 (q := (1195, .iload_n 3, 1)) rfl
theorem dL_law_1196 : decode cL_law 1196 = .ok (.iconst 3, 1) := dget daL_law_21 10 (q := (1196, .iconst 3, 1)) rfl
theorem dL_law_1197 : decode cL_law 1197 = .ok (.iadd, 1) := dget daL_law_21 11 (q := (1197, .iadd, 1)) rfl
theorem dL_law_1198 : decode cL_law 1198 = .ok (.iaload, 1) := dget daL_law_21 12 (q := (1198, .iaload, 1)) rfl
theorem dL_law_1199 : decode cL_law 1199 = .ok (.invokevirtual 128, 3) := dget daL_law_21 13 (q := (1199, .invokevirtual 128, 3)) rfl
theorem dL_law_1202 : decode cL_law 1202 = .ok (.pop, 1) := dget daL_law_21 14 (q := (1202, .pop, 1)) rfl
theorem dL_law_1203 : decode cL_law 1203 = .ok (.aload_n 2, 1) := dget daL_law_21 15 (q := (1203, .aload_n 2, 1)) rfl
theorem dL_law_1204 : decode cL_law 1204 = .ok (.aload_n 0, 1) := dget daL_law_21 16 (q := (1204, .aload_n 0, 1)) rfl
theorem dL_law_1205 : decode cL_law 1205 = .ok (.iload_n 3, 1) := dget daL_law_21 17 (q := (1205, .iload_n 3, 1)) rfl
theorem dL_law_1206 : decode cL_law 1206 = .ok (.iconst 1, 1) := dget daL_law_21 18 (q := (1206, .iconst 1, 1)) rfl
theorem dL_law_1207 : decode cL_law 1207 = .ok (.iadd, 1) := dget daL_law_21 19 (q := (1207, .iadd, 1)) rfl
theorem dL_law_1208 : decode cL_law 1208 = .ok (.iaload, 1) := dget daL_law_21 20 (q := (1208, .iaload, 1)) rfl
theorem dL_law_1209 : decode cL_law 1209 = .ok (.aload_n 0, 1) := dget daL_law_21 21 (q := (1209, .aload_n 0, 1)) rfl
theorem dL_law_1210 : decode cL_law 1210 = .ok (.iload_n 3, 1) := dget daL_law_21 22 (q := (1210, .iload_n 3, 1)) rfl
theorem dL_law_1211 : decode cL_law 1211 = .ok (.iconst 2, 1) := dget daL_law_21 23 (q := (1211, .iconst 2, 1)) rfl
theorem dL_law_1212 : decode cL_law 1212 = .ok (.iadd, 1) := dget daL_law_21 24 (q := (1212, .iadd, 1)) rfl
theorem dL_law_1213 : decode cL_law 1213 = .ok (.iaload, 1) := dget daL_law_21 25 (q := (1213, .iaload, 1)) rfl
theorem dL_law_1214 : decode cL_law 1214 = .ok (.aload_n 0, 1) := dget daL_law_21 26 (q := (1214, .aload_n 0, 1)) rfl
theorem dL_law_1215 : decode cL_law 1215 = .ok (.iload_n 3, 1) := dget daL_law_21 27 (q := (1215, .iload_n 3, 1)) rfl
theorem dL_law_1216 : decode cL_law 1216 = .ok (.iconst 3, 1) := dget daL_law_21 28 (q := (1216, .iconst 3, 1)) rfl
theorem dL_law_1217 : decode cL_law 1217 = .ok (.iadd, 1) := dget daL_law_21 29 (q := (1217, .iadd, 1)) rfl
theorem dL_law_1218 : decode cL_law 1218 = .ok (.iaload, 1) := dget daL_law_21 30 (q := (1218, .iaload, 1)) rfl
theorem dL_law_1219 : decode cL_law 1219 = .ok (.invokevirtual 131, 3) := dget daL_law_21 31 (q := (1219, .invokevirtual 131, 3)) rfl
theorem dL_law_1222 : decode cL_law 1222 = .ok (.pop, 1) := dget daL_law_21 32 (q := (1222, .pop, 1)) rfl
theorem dL_law_1223 : decode cL_law 1223 = .ok (.goto 252, 3) := dget daL_law_21 33 (q := (1223, .goto 252, 3)) rfl
theorem dL_law_1226 : decode cL_law 1226 = .ok (.aload_n 1, 1) := dget daL_law_21 34 (q := (1226, .aload_n 1, 1)) rfl
theorem dL_law_1227 : decode cL_law 1227 = .ok (.aload_n 0, 1) := dget daL_law_21 35 (q := (1227, .aload_n 0, 1)) rfl
theorem dL_law_1228 : decode cL_law 1228 = .ok (.iload_n 3, 1) := dget daL_law_21 36 (q := (1228, .iload_n 3, 1)) rfl
theorem dL_law_1229 : decode cL_law 1229 = .ok (.iconst 1, 1) := dget daL_law_21 37 (q := (1229, .iconst 1, 1)) rfl
theorem dL_law_1230 : decode cL_law 1230 = .ok (.iadd, 1) := dget daL_law_21 38 (q := (1230, .iadd, 1)) rfl
theorem dL_law_1231 : decode cL_law 1231 = .ok (.iaload, 1) := dget daL_law_21 39 (q := (1231, .iaload, 1)) rfl
def tdaL_law_22 : List (Nat × (Instr × Nat)) := [(1232, .aload_n 0, 1), (1233, .iload_n 3, 1), (1234, .iconst 2, 1), (1235, .iadd, 1), (1236, .iaload, 1), (1237, .invokevirtual 132, 3), (1240, .pop, 1), (1241, .aload_n 2, 1), (1242, .aload_n 0, 1), (1243, .iload_n 3, 1), (1244, .iconst 1, 1), (1245, .iadd, 1), (1246, .iaload, 1), (1247, .aload_n 0, 1), (1248, .iload_n 3, 1), (1249, .iconst 2, 1), (1250, .iadd, 1), (1251, .iaload, 1), (1252, .invokevirtual 135, 3), (1255, .pop, 1), (1256, .goto 219, 3), (1259, .aload_n 1, 1), (1260, .aload_n 0, 1), (1261, .iload_n 3, 1), (1262, .iconst 1, 1), (1263, .iadd, 1), (1264, .iaload, 1), (1265, .invokevirtual 136, 3), (1268, .pop, 1), (1269, .aload_n 2, 1), (1270, .aload_n 0, 1), (1271, .iload_n 3, 1), (1272, .iconst 1, 1), (1273, .iadd, 1), (1274, .iaload, 1), (1275, .invokevirtual 139, 3), (1278, .pop, 1), (1279, .goto 196, 3), (1282, .aload_n 1, 1), (1283, .invokevirtual 140, 3)]
theorem daL_law_22 : tdaL_law_22.all (fun q => decide (decode cL_law q.1 = .ok q.2)) = true := by decide +kernel
theorem dL_law_1232 : decode cL_law 1232 = .ok (.aload_n 0, 1) := dget daL_law_22 0 (q := (1232, .aload_n 0, 1)) rfl
theorem dL_law_1233 : decode cL_law 1233 = .ok (.iload_n 3, 1) := dget daL_law_22 1 (q := (1233, .iload_n 3, 1)) rfl
theorem dL_law_1234 : decode cL_law 1234 = .ok (.iconst 2, 1) := dget daL_law_22 2 (q := (1234, .iconst 2, 1)) rfl
theorem dL_law_1235 : decode cL_law 1235 = .ok (.iadd, 1) := dget daL_law_22 3 (q := (1235, .iadd, 1)) rfl
theorem dL_law_1236 : decode cL_law 1236 = .ok (.iaload, 1) := dget daL_law_22 4 (q := (1236, .iaload, 1)) rfl
theorem dL_law_1237 : decode cL_law 1237 = .ok (.invokevirtual 132, 3) := dget daL_law_22 5 (q := (1237, .invokevirtual 132, 3)) rfl
theorem dL_law_1240 : decode cL_law 1240 = .ok (.pop, 1) := dget daL_law_22 6 (q := (1240, .pop, 1)) rfl
theorem dL_law_1241 : decode cL_law 1241 = .ok (.aload_n 2, 1) := dget daL_law_22 7 (q := (1241, .aload_n 2, 1)) rfl
theorem dL_law_1242 : decode cL_law 1242 = .ok (.aload_n 0, 1) := dget daL_law_22 8 (q := (1242, .aload_n 0, 1)) rfl
theorem dL_law_1243 : decode cL_law 1243 = .ok (.iload_n 3, 1) := dget daL_law_22 9 (q := (1243, .iload_n 3, 1)) rfl
theorem dL_law_1244 : decode cL_law 1244 = .ok (.iconst 1, 1) := dget daL_law_22 10 (q := (1244, .iconst 1, 1)) rfl
theorem dL_law_1245 : decode cL_law 1245 = .ok (.iadd, 1) := dget daL_law_22 11 (q := (1245, .iadd, 1)) rfl
theorem dL_law_1246 : decode cL_law 1246 = .ok (.iaload, 1) := dget daL_law_22 12 (q := (1246, .iaload, 1)) rfl
theorem dL_law_1247 : decode cL_law 1247 = .ok (.aload_n 0, 1) := dget daL_law_22 13 (q := (1247, .aload_n 0, 1)) rfl
theorem dL_law_1248 : decode cL_law 1248 = .ok (.iload_n 3, 1) := dget daL_law_22 14 (q := (1248, .iload_n 3, 1)) rfl
theorem dL_law_1249 : decode cL_law 1249 = .ok (.iconst 2, 1) := dget daL_law_22 15 (q := (1249, .iconst 2, 1)) rfl
theorem dL_law_1250 : decode cL_law 1250 = .ok (.iadd, 1) := dget daL_law_22 16 (q := (1250, .iadd, 1)) rfl
theorem dL_law_1251 : decode cL_law 1251 = .ok (.iaload, 1) := dget daL_law_22 17 (q := (1251, .iaload, 1)) rfl
theorem dL_law_1252 : decode cL_law 1252 = .ok (.invokevirtual 135, 3) := dget daL_law_22 18 (q := (1252, .invokevirtual 135, 3)) rfl
theorem dL_law_1255 : decode cL_law 1255 = .ok (.pop, 1) := dget daL_law_22 19 (q := (1255, .pop, 1)) rfl
theorem dL_law_1256 : decode cL_law 1256 = .ok (.goto 219, 3) := dget daL_law_22 20 (q := (1256, .goto 219, 3)) rfl
theorem dL_law_1259 : decode cL_law 1259 = .ok (.aload_n 1, 1) := dget daL_law_22 21 (q := (1259, .aload_n 1, 1)) rfl
theorem dL_law_1260 : decode cL_law 1260 = .ok (.aload_n 0, 1) := dget daL_law_22 22 (q := (1260, .aload_n 0, 1)) rfl
theorem dL_law_1261 : decode cL_law 1261 = .ok (.iload_n 3, 1) := dget daL_law_22 23 (q := (1261, .iload_n 3, 1)) rfl
theorem dL_law_1262 : decode cL_law 1262 = .ok (.iconst 1, 1) := dget daL_law_22 24 (q := (1262, .iconst 1, 1)) rfl
theorem dL_law_1263 : decode cL_law 1263 = .ok (.iadd, 1) := dget daL_law_22 25 (q := (1263, .iadd, 1)) rfl
theorem dL_law_1264 : decode cL_law 1264 = .ok (.iaload, 1) := dget daL_law_22 26 (q := (1264, .iaload, 1)) rfl
theorem dL_law_1265 : decode cL_law 1265 = .ok (.invokevirtual 136, 3) := dget daL_law_22 27 (q := (1265, .invokevirtual 136, 3)) rfl
theorem dL_law_1268 : decode cL_law 1268 = .ok (.pop, 1) := dget daL_law_22 28 (q := (1268, .pop, 1)) rfl
theorem dL_law_1269 : decode cL_law 1269 = .ok (.aload_n 2, 1) := dget daL_law_22 29 (q := (1269, .aload_n 2, 1)) rfl
theorem dL_law_1270 : decode cL_law 1270 = .ok (.aload_n 0, 1) := dget daL_law_22 30 (q := (1270, .aload_n 0, 1)) rfl
theorem dL_law_1271 : decode cL_law 1271 = .ok (.iload_n 3, 1) := dget daL_law_22 31 (q := (1271, .iload_n 3, 1)) rfl
theorem dL_law_1272 : decode cL_law 1272 = .ok (.iconst 1, 1) := dget daL_law_22 32 (q := (1272, .iconst 1, 1)) rfl
theorem dL_law_1273 : decode cL_law 1273 = .ok (.iadd, 1) := dget daL_law_22 33 (q := (1273, .iadd, 1)) rfl
theorem dL_law_1274 : decode cL_law 1274 = .ok (.iaload, 1) := dget daL_law_22 34 (q := (1274, .iaload, 1)) rfl
theorem dL_law_1275 : decode cL_law 1275 = .ok (.invokevirtual 139, 3) := dget daL_law_22 35 (q := (1275, .invokevirtual 139, 3)) rfl
theorem dL_law_1278 : decode cL_law 1278 = .ok (.pop, 1) := dget daL_law_22 36 (q := (1278, .pop, 1)) rfl
theorem dL_law_1279 : decode cL_law 1279 = .ok (.goto 196, 3) := dget daL_law_22 37 (q := (1279, .goto 196, 3)) rfl
theorem dL_law_1282 : decode cL_law 1282 = .ok (.aload_n 1, 1) := dget daL_law_22 38 (q := (1282, .aload_n 1, 1)) rfl
theorem dL_law_1283 : decode cL_law 1283 = .ok (.invokevirtual 140, 3) := dget daL_law_22 39 (q := (1283, .invokevirtual 140, 3)) rfl
def tdaL_law_23 : List (Nat × (Instr × Nat)) := [(1286, .pop, 1), (1287, .aload_n 2, 1), (1288, .invokevirtual 144, 3), (1291, .pop, 1), (1292, .goto 183, 3), (1295, .aload_n 1, 1), (1296, .aload_n 0, 1), (1297, .iload_n 3, 1), (1298, .iconst 1, 1), (1299, .iadd, 1), (1300, .iaload, 1), (1301, .aload_n 0, 1), (1302, .iload_n 3, 1), (1303, .iconst 2, 1), (1304, .iadd, 1), (1305, .iaload, 1), (1306, .aload_n 0, 1), (1307, .iload_n 3, 1), (1308, .iconst 3, 1), (1309, .iadd, 1), (1310, .iaload, 1), (1311, .aload_n 0, 1), (1312, .iload_n 3, 1), (1313, .iconst 4, 1), (1314, .iadd, 1), (1315, .iaload, 1), (1316, .aload_n 0, 1), (1317, .iload_n 3, 1), (1318, .iconst 5, 1), (1319, .iadd, 1), (1320, .iaload, 1), (1321, .ifCond .eq 7, 3), (1324, .iconst 1, 1), (1325, .goto 4, 3), (1328, .iconst 0, 1), (1329, .aload_n 0, 1), (1330, .iload_n 3, 1), (1331, .bipush 6, 2), (1333, .iadd, 1), (1334, .iaload, 1)]
theorem daL_law_23 : tdaL_law_23.all (fun q => decide (decode cL_law q.1 = .ok q.2)) = true := by decide +kernel
theorem dL_law_1286 : decode cL_law 1286 = .ok (.pop, 1) := dget daL_law_23 0 (q := (1286, .pop, 1)) rfl
theorem dL_law_1287 : decode cL_law 1287 = .ok (.aload_n 2, 1) := dget daL_law_23 1 (q := (1287, .aload_n 2, 1)) rfl
theorem dL_law_1288 : decode cL_law 1288 = .ok (.invokevirtual 144, 3) := dget daL_law_23 2 (q := (1288, .invokevirtual 144, 3)) rfl
theorem dL_law_1291 : decode cL_law 1291 = .ok (.pop, 1) := dget daL_law_23 3 (q := (1291, .pop, 1)) rfl
theorem dL_law_1292 : decode cL_law 1292 = .ok (.goto 183, 3) := dget daL_law_23 4 (q := (1292, .goto 183, 3)) rfl
theorem dL_law_1295 : decode cL_law 1295 = .ok (.aload_n 1, 1) := dget daL_law_23 5 (q := (1295, .aload_n 1, 1)) rfl
theorem dL_law_1296 : decode cL_law 1296 = .ok (.aload_n 0, 1) := dget daL_law_23 6 (q := (1296, .aload_n 0, 1)) rfl
theorem dL_law_1297 : decode cL_law 1297 = .ok (.iload_n 3, 1) := dget daL_law_23 7 (q := (1297, .iload_n 3, 1)) rfl
theorem dL_law_1298 : decode cL_law 1298 = .ok (.iconst 1, 1) := dget daL_law_23 8 (q := (1298, .iconst 1, 1)) rfl
theorem dL_law_1299 : decode cL_law 1299 = .ok (.iadd, 1) := dget daL_law_23 9 (q := (1299, .iadd, 1)) rfl
theorem dL_law_1300 : decode cL_law 1300 = .ok (.iaload, 1) := dget daL_law_23 10 (q := (1300, .iaload, 1)) rfl
theorem dL_law_1301 : decode cL_law 1301 = .ok (.aload_n 0, 1) := dget daL_law_23 11 (q := (1301, .aload_n 0, 1)) rfl
theorem dL_law_1302 : decode cL_law 1302 = .ok (.iload_n 3, 1) := dget daL_law_23 12 (q := (1302, .iload_n 3, 1)) rfl
theorem dL_law_1303 : decode cL_law 1303 = .ok (.iconst 2, 1) := dget daL_law_23 13 (q := (1303, .iconst 2, 1)) rfl
theorem dL_law_1304 : decode cL_law 1304 = .ok (.iadd, 1) := dget daL_law_23 14 (q := (1304, .iadd, 1)) rfl
theorem dL_law_1305 : decode cL_law 1305 = .ok (.iaload, 1) := dget daL_law_23 15 (q := (1305, .iaload, 1)) rfl
theorem dL_law_1306 : decode cL_law 1306 = .ok (.aload_n 0, 1) := dget daL_law_23 16 (q := (1306, .aload_n 0, 1)) rfl
theorem dL_law_1307 : decode cL_law 1307 = .ok (.iload_n 3, 1) := dget daL_law_23 17 (q := (1307, .iload_n 3, 1)) rfl
theorem dL_law_1308 : decode cL_law 1308 = .ok (.iconst 3, 1) := dget daL_law_23 18 (q := (1308, .iconst 3, 1)) rfl
theorem dL_law_1309 : decode cL_law 1309 = .ok (.iadd, 1) := dget daL_law_23 19 (q := (1309, .iadd, 1)) rfl
theorem dL_law_1310 : decode cL_law 1310 = .ok (.iaload, 1) := dget daL_law_23 20 (q := (1310, .iaload, 1)) rfl
theorem dL_law_1311 : decode cL_law 1311 = .ok (.aload_n 0, 1) := dget daL_law_23 21 (q := (1311, .aload_n 0, 1)) rfl
theorem dL_law_1312 : decode cL_law 1312 = .ok (.iload_n 3, 1) := dget daL_law_23 22 (q := (1312, .iload_n 3, 1)) rfl
theorem dL_law_1313 : decode cL_law 1313 = .ok (.iconst 4, 1) := dget daL_law_23 23 (q := (1313, .iconst 4, 1)) rfl
theorem dL_law_1314 : decode cL_law 1314 = .ok (.iadd, 1) := dget daL_law_23 24 (q := (1314, .iadd, 1)) rfl
theorem dL_law_1315 : decode cL_law 1315 = .ok (.iaload, 1) := dget daL_law_23 25 (q := (1315, .iaload, 1)) rfl
theorem dL_law_1316 : decode cL_law 1316 = .ok (.aload_n 0, 1) := dget daL_law_23 26 (q := (1316, .aload_n 0, 1)) rfl
theorem dL_law_1317 : decode cL_law 1317 = .ok (.iload_n 3, 1) := dget daL_law_23 27 (q := (1317, .iload_n 3, 1)) rfl
theorem dL_law_1318 : decode cL_law 1318 = .ok (.iconst 5, 1) := dget daL_law_23 28 (q := (1318, .iconst 5, 1)) rfl
theorem dL_law_1319 : decode cL_law 1319 = .ok (.iadd, 1) := dget daL_law_23 29 (q := (1319, .iadd, 1)) rfl
theorem dL_law_1320 : decode cL_law 1320 = .ok (.iaload, 1) := dget daL_law_23 30 (q := (1320, .iaload, 1)) rfl
theorem dL_law_1321 : decode cL_law 1321 = .ok (.ifCond .eq 7, 3) := dget daL_law_23 31 (q := (1321, .ifCond .eq 7, 3)) rfl
theorem dL_law_1324 : decode cL_law 1324 = .ok (.iconst 1, 1) := dget daL_law_23 32 (q := (1324, .iconst 1, 1)) rfl
theorem dL_law_1325 : decode cL_law 1325 = .ok (.goto 4, 3) := dget daL_law_23 33 (q := (1325, .goto 4, 3)) rfl
theorem dL_law_1328 : decode cL_law 1328 = .ok (.iconst 0, 1) := dget daL_law_23 34 (q := (1328, .iconst 0, 1)) rfl
theorem dL_law_1329 : decode cL_law 1329 = .ok (.aload_n 0, 1) := dget daL_law_23 35 (q := (1329, .aload_n 0, 1)) rfl
theorem dL_law_1330 : decode cL_law 1330 = .ok (.iload_n 3, 1) := dget daL_law_23 36 (q := (1330, .iload_n 3, 1)) rfl
theorem dL_law_1331 : decode cL_law 1331 = .ok (.bipush 6, 2) := dget daL_law_23 37 (q := (1331, .bipush 6, 2)) rfl
theorem dL_law_1333 : decode cL_law 1333 = .ok (.iadd, 1) := dget daL_law_23 38 (q := (1333, .iadd, 1)) rfl
theorem dL_law_1334 : decode cL_law 1334 = .ok (.iaload, 1) := dget daL_law_23 39 (q := (1334, .iaload, 1)) rfl
def tdaL_law_24 : List (Nat × (Instr × Nat)) := [(1335, .invokevirtual 145, 3), (1338, .pop, 1), (1339, .aload_n 2, 1), (1340, .aload_n 0, 1), (1341, .iload_n 3, 1), (1342, .iconst 1, 1), (1343, .iadd, 1), (1344, .iaload, 1), (1345, .aload_n 0, 1), (1346, .iload_n 3, 1), (1347, .iconst 2, 1), (1348, .iadd, 1), (1349, .iaload, 1), (1350, .aload_n 0, 1), (1351, .iload_n 3, 1), (1352, .iconst 3, 1), (1353, .iadd, 1), (1354, .iaload, 1), (1355, .aload_n 0, 1), (1356, .iload_n 3, 1), (1357, .iconst 4, 1), (1358, .iadd, 1), (1359, .iaload, 1), (1360, .aload_n 0, 1), (1361, .iload_n 3, 1), (1362, .iconst 5, 1), (1363, .iadd, 1), (1364, .iaload, 1), (1365, .ifCond .eq 7, 3), (1368, .iconst 1, 1), (1369, .goto 4, 3), (1372, .iconst 0, 1), (1373, .aload_n 0, 1), (1374, .iload_n 3, 1), (1375, .bipush 6, 2), (1377, .iadd, 1), (1378, .iaload, 1), (1379, .invokevirtual 149, 3), (1382, .pop, 1), (1383, .goto 92, 3)]
theorem daL_law_24 : tdaL_law_24.all (fun q => decide (decode cL_law q.1 = .ok q.2)) = true := by decide +kernel
theorem dL_law_1335 : decode cL_law 1335 = .ok (.invokevirtual 145, 3) := dget daL_law_24 0 (q := (1335, .invokevirtual 145, 3)) rfl
theorem dL_law_1338 : decode cL_law 1338 = .ok (.pop, 1) := dget daL_law_24 1 (q := (1338, .pop, 1)) rfl
theorem dL_law_1339 : decode cL_law 1339 = .ok (.aload_n 2, 1) := dget daL_law_24 2 (q := (1339, .aload_n 2, 1)) rfl
theorem dL_law_1340 : decode cL_law 1340 = .ok (.aload_n 0, 1) := dget daL_law_24 3 (q := (1340, .aload_n 0, 1)) rfl
theorem dL_law_1341 : decode cL_law 1341 = .ok (.iload_n 3, 1) := dget daL_law_24 4 (q := (1341, .iload_n 3, 1)) rfl
theorem dL_law_1342 : decode cL_law 1342 = .ok (.iconst 1, 1) := dget daL_law_24 5 (q := (1342, .iconst 1, 1)) rfl
theorem dL_law_1343 : decode cL_law 1343 = .ok (.iadd, 1) := dget daL_law_24 6 (q := (1343, .iadd, 1)) rfl
theorem dL_law_1344 : decode cL_law 1344 = .ok (.iaload, 1) := dget daL_law_24 7 (q := (1344, .iaload, 1)) rfl
theorem dL_law_1345 : decode cL_law 1345 = .ok (.aload_n 0, 1) := dget daL_law_24 8 (q := (1345, .aload_n 0, 1)) rfl
theorem dL_law_1346 : decode cL_law 1346 = .ok (.iload_n 3, 1) := dget daL_law_24 9 (q := (1346, .iload_n 3, 1)) rfl
theorem dL_law_1347 : decode cL_law 1347 = .ok (.iconst 2, 1) := dget daL_law_24 10 (q := (1347, .iconst 2, 1)) rfl
theorem dL_law_1348 : decode cL_law 1348 = .ok (.iadd, 1) := dget daL_law_24 11 (q := (1348, .iadd, 1)) rfl
theorem dL_law_1349 : decode cL_law 1349 = .ok (.iaload, 1) := dget daL_law_24 12 (q := (1349, .iaload, 1)) rfl
theorem dL_law_1350 : decode cL_law 1350 = .ok (.aload_n 0, 1) := dget daL_law_24 13 (q := (1350, .aload_n 0, 1)) rfl
theorem dL_law_1351 : decode cL_law 1351 = .ok (.iload_n 3, 1) := dget daL_law_24 14 (q := (1351, .iload_n 3, 1)) rfl
theorem dL_law_1352 : decode cL_law 1352 = .ok (.iconst 3, 1) := dget daL_law_24 15 (q := (1352, .iconst 3, 1)) rfl
theorem dL_law_1353 : decode cL_law 1353 = .ok (.iadd, 1) := dget daL_law_24 16 (q := (1353, .iadd, 1)) rfl
theorem dL_law_1354 : decode cL_law 1354 = .ok (.iaload, 1) := dget daL_law_24 17 (q := (1354, .iaload, 1)) rfl
theorem dL_law_1355 : decode cL_law 1355 = .ok (.aload_n 0, 1) := dget daL_law_24 18 (q := (1355, .aload_n 0, 1)) rfl
theorem dL_law_1356 : decode cL_law 1356 = .ok (.iload_n 3, 1) := dget daL_law_24 19 (q := (1356, .iload_n 3, 1)) rfl
theorem dL_law_1357 : decode cL_law 1357 = .ok (.iconst 4, 1) := dget daL_law_24 20 (q := (1357, .iconst 4, 1)) rfl
theorem dL_law_1358 : decode cL_law 1358 = .ok (.iadd, 1) := dget daL_law_24 21 (q := (1358, .iadd, 1)) rfl
theorem dL_law_1359 : decode cL_law 1359 = .ok (.iaload, 1) := dget daL_law_24 22 (q := (1359, .iaload, 1)) rfl
theorem dL_law_1360 : decode cL_law 1360 = .ok (.aload_n 0, 1) := dget daL_law_24 23 (q := (1360, .aload_n 0, 1)) rfl
theorem dL_law_1361 : decode cL_law 1361 = .ok (.iload_n 3, 1) := dget daL_law_24 24 (q := (1361, .iload_n 3, 1)) rfl
theorem dL_law_1362 : decode cL_law 1362 = .ok (.iconst 5, 1) := dget daL_law_24 25 (q := (1362, .iconst 5, 1)) rfl
theorem dL_law_1363 : decode cL_law 1363 = .ok (.iadd, 1) := dget daL_law_24 26 (q := (1363, .iadd, 1)) rfl
theorem dL_law_1364 : decode cL_law 1364 = .ok (.iaload, 1) := dget daL_law_24 27 (q := (1364, .iaload, 1)) rfl
theorem dL_law_1365 : decode cL_law 1365 = .ok (.ifCond .eq 7, 3) := dget daL_law_24 28 (q := (1365, .ifCond .eq 7, 3)) rfl
theorem dL_law_1368 : decode cL_law 1368 = .ok (.iconst 1, 1) := dget daL_law_24 29 (q := (1368, .iconst 1, 1)) rfl
theorem dL_law_1369 : decode cL_law 1369 = .ok (.goto 4, 3) := dget daL_law_24 30 (q := (1369, .goto 4, 3)) rfl
theorem dL_law_1372 : decode cL_law 1372 = .ok (.iconst 0, 1) := dget daL_law_24 31 (q := (1372, .iconst 0, 1)) rfl
theorem dL_law_1373 : decode cL_law 1373 = .ok (.aload_n 0, 1) := dget daL_law_24 32 (q := (1373, .aload_n 0, 1)) rfl
theorem dL_law_1374 : decode cL_law 1374 = .ok (.iload_n 3, 1) := dget daL_law_24 33 (q := (1374, .iload_n 3, 1)) rfl
theorem dL_law_1375 : decode cL_law 1375 = .ok (.bipush 6, 2) := dget daL_law_24 34 (q := (1375, .bipush 6, 2)) rfl
theorem dL_law_1377 : decode cL_law 1377 = .ok (.iadd, 1) := dget daL_law_24 35 (q := (1377, .iadd, 1)) rfl
theorem dL_law_1378 : decode cL_law 1378 = .ok (.iaload, 1) := dget daL_law_24 36 (q := (1378, .iaload, 1)) rfl
theorem dL_law_1379 : decode cL_law 1379 = .ok (.invokevirtual 149, 3) := dget daL_law_24 37 (q := (1379, .invokevirtual 149, 3)) rfl
theorem dL_law_1382 : decode cL_law 1382 = .ok (.pop, 1) := dget daL_law_24 38 (q := (1382, .pop, 1)) rfl
theorem dL_law_1383 : decode cL_law 1383 = .ok (.goto 92, 3) := dget daL_law_24 39 (q := (1383, .goto 92, 3)) rfl
def tdaL_law_25 : List (Nat × (Instr × Nat)) := [(1386, .aload_n 1, 1), (1387, .aload_n 0, 1), (1388, .iload_n 3, 1), (1389, .iconst 1, 1), (1390, .iadd, 1), (1391, .iaload, 1), (1392, .aload_n 0, 1), (1393, .iload_n 3, 1), (1394, .iconst 2, 1), (1395, .iadd, 1), (1396, .iaload, 1), (1397, .invokevirtual 150, 3), (1400, .pop, 1), (1401, .aload_n 2, 1), (1402, .aload_n 0, 1), (1403, .iload_n 3, 1), (1404, .iconst 1, 1), (1405, .iadd, 1), (1406, .iaload, 1), (1407, .aload_n 0, 1), (1408, .iload_n 3, 1), (1409, .iconst 2, 1), (1410, .iadd, 1), (1411, .iaload, 1), (1412, .invokevirtual 153, 3), (1415, .pop, 1), (1416, .goto 59, 3), (1419, .aload_n 1, 1), (1420, .aload_n 0, 1), (1421, .iload_n 3, 1), (1422, .iconst 1, 1), (1423, .iadd, 1), (1424, .iaload, 1), (1425, .aload_n 0, 1), (1426, .iload_n 3, 1), (1427, .iconst 2, 1), (1428, .iadd, 1), (1429, .iaload, 1), (1430, .invokevirtual 154, 3), (1433, .pop, 1)]
theorem daL_law_25 : tdaL_law_25.all (fun q => decide (decode cL_law q.1 = .ok q.2)) = true := by decide +kernel
theorem dL_law_1386 : decode cL_law 1386 = .ok (.aload_n 1, 1) := dget daL_law_25 0 (q := (1386, .aload_n 1, 1)) rfl
theorem dL_law_1387 : decode cL_law 1387 = .ok (.aload_n 0, 1) := dget daL_law_25 1 (q := (1387, .aload_n 0, 1)) rfl
theorem dL_law_1388 : decode cL_law 1388 = .ok (.iload_n 3, 1) := dget daL_law_25 2 (q := (1388, .iload_n 3, 1)) rfl
theorem dL_law_1389 : decode cL_law 1389 = .ok (.iconst 1, 1) := dget daL_law_25 3 (q := (1389, .iconst 1, 1)) rfl
theorem dL_law_1390 : decode cL_law 1390 = .ok (.iadd, 1) := dget daL_law_25 4 (q := (1390, .iadd, 1)) rfl
theorem dL_law_1391 : decode cL_law 1391 = .ok (.iaload, 1) := dget daL_law_25 5 (q := (1391, .iaload, 1)) rfl
theorem dL_law_1392 : decode cL_law 1392 = .ok (.aload_n 0, 1) := dget daL_law_25 6 (q := (1392, .aload_n 0, 1)) rfl
theorem dL_law_1393 : decode cL_law 1393 = .ok (.iload_n 3, 1) := dget daL_law_25 7 (q := (1393, .iload_n 3, 1)) rfl
theorem dL_law_1394 : decode cL_law 1394 = .ok (.iconst 2, 1) := dget daL_law_25 8 (q := (1394, .iconst 2, 1)) rfl
theorem dL_law_1395 : decode cL_law 1395 = .ok (.iadd, 1) := dget daL_law_25 9 (q := (1395, .iadd, 1)) rfl
theorem dL_law_1396 : decode cL_law 1396 = .ok (.iaload, 1) := dget daL_law_25 10 (q := (1396, .iaload, 1)) rfl
theorem dL_law_1397 : decode cL_law 1397 = .ok (.invokevirtual 150, 3) := dget daL_law_25 11 (q := (1397, .invokevirtual 150, 3)) rfl
theorem dL_law_1400 : decode cL_law 1400 = .ok (.pop, 1) := dget daL_law_25 12 (q := (1400, .pop, 1)) rfl
theorem dL_law_1401 : decode cL_law 1401 = .ok (.aload_n 2, 1) := dget daL_law_25 13 (q := (1401, .aload_n 2, 1)) rfl
theorem dL_law_1402 : decode cL_law 1402 = .ok (.aload_n 0, 1) := dget daL_law_25 14 (q := (1402, .aload_n 0, 1)) rfl
theorem dL_law_1403 : decode cL_law 1403 = .ok (.iload_n 3, 1) := dget daL_law_25 15 (q := (1403, .iload_n 3, 1)) rfl
theorem dL_law_1404 : decode cL_law 1404 = .ok (.iconst 1, 1) := dget daL_law_25 16 (q := (1404, .iconst 1, 1)) rfl
theorem dL_law_1405 : decode cL_law 1405 = .ok (.iadd, 1) := dget daL_law_25 17 (q := (1405, .iadd, 1)) rfl
theorem dL_law_1406 : decode cL_law 1406 = .ok (.iaload, 1) := dget daL_law_25 18 (q := (1406, .iaload, 1)) rfl
theorem dL_law_1407 : decode cL_law 1407 = .ok (.aload_n 0, 1) := dget daL_law_25 19 (q := (1407, .aload_n 0, 1)) rfl
theorem dL_law_1408 : decode cL_law 1408 = .ok (.iload_n 3, 1) := dget daL_law_25 20 (q := (1408, .iload_n 3, 1)) rfl
theorem dL_law_1409 : decode cL_law 1409 = .ok (.iconst 2, 1) := dget daL_law_25 21 (q := (1409, .iconst 2, 1)) rfl
theorem dL_law_1410 : decode cL_law 1410 = .ok (.iadd, 1) := dget daL_law_25 22 (q := (1410, .iadd, 1)) rfl
theorem dL_law_1411 : decode cL_law 1411 = .ok (.iaload, 1) := dget daL_law_25 23 (q := (1411, .iaload, 1)) rfl
theorem dL_law_1412 : decode cL_law 1412 = .ok (.invokevirtual 153, 3) := dget daL_law_25 24 (q := (1412, .invokevirtual 153, 3)) rfl
theorem dL_law_1415 : decode cL_law 1415 = .ok (.pop, 1) := dget daL_law_25 25 (q := (1415, .pop, 1)) rfl
theorem dL_law_1416 : decode cL_law 1416 = .ok (.goto 59, 3) := dget daL_law_25 26 (q := (1416, .goto 59, 3)) rfl
theorem dL_law_1419 : decode cL_law 1419 = .ok (.aload_n 1, 1) := dget daL_law_25 27 (q := (1419, .aload_n 1, 1)) rfl
theorem dL_law_1420 : decode cL_law 1420 = .ok (.aload_n 0, 1) := dget daL_law_25 28 (q := (1420, .aload_n 0, 1)) rfl
theorem dL_law_1421 : decode cL_law 1421 = .ok (.iload_n 3, 1) := dget daL_law_25 29 (q := (1421, .iload_n 3, 1)) rfl
theorem dL_law_1422 : decode cL_law 1422 = .ok (.iconst 1, 1) := dget daL_law_25 30 (q := (1422, .iconst 1, 1)) rfl
theorem dL_law_1423 : decode cL_law 1423 = .ok (.iadd, 1) := dget daL_law_25 31 (q := (1423, .iadd, 1)) rfl
theorem dL_law_1424 : decode cL_law 1424 = .ok (.iaload, 1) := dget daL_law_25 32 (q := (1424, .iaload, 1)) rfl
theorem dL_law_1425 : decode cL_law 1425 = .ok (.aload_n 0, 1) := dget daL_law_25 33 (q := (1425, .aload_n 0, 1)) rfl
theorem dL_law_1426 : decode cL_law 1426 = .ok (.iload_n 3, 1) := dget daL_law_25 34 (q := (1426, .iload_n 3, 1)) rfl
theorem dL_law_1427 : decode cL_law 1427 = .ok (.iconst 2, 1) := dget daL_law_25 35 (q := (1427, .iconst 2, 1)) rfl
theorem dL_law_1428 : decode cL_law 1428 = .ok (.iadd, 1) := dget daL_law_25 36 (q := (1428, .iadd, 1)) rfl
theorem dL_law_1429 : decode cL_law 1429 = .ok (.iaload, 1) := dget daL_law_25 37 (q := (1429, .iaload, 1)) rfl
theorem dL_law_1430 : decode cL_law 1430 = .ok (.invokevirtual 154, 3) := dget daL_law_25 38 (q := (1430, .invokevirtual 154, 3)) rfl
theorem dL_law_1433 : decode cL_law 1433 = .ok (.pop, 1) := dget daL_law_25 39 (q := (1433, .pop, 1)) rfl
def tdaL_law_26 : List (Nat × (Instr × Nat)) := [(1434, .aload_n 2, 1), (1435, .aload_n 0, 1), (1436, .iload_n 3, 1), (1437, .iconst 1, 1), (1438, .iadd, 1), (1439, .iaload, 1), (1440, .aload_n 0, 1), (1441, .iload_n 3, 1), (1442, .iconst 2, 1), (1443, .iadd, 1), (1444, .iaload, 1), (1445, .invokevirtual 157, 3), (1448, .pop, 1), (1449, .goto 26, 3), (1452, .aload_n 1, 1), (1453, .aload_n 0, 1), (1454, .iload_n 3, 1), (1455, .iconst 1, 1), (1456, .iadd, 1), (1457, .iaload, 1), (1458, .invokevirtual 158, 3), (1461, .pop, 1), (1462, .aload_n 2, 1), (1463, .aload_n 0, 1), (1464, .iload_n 3, 1), (1465, .iconst 1, 1), (1466, .iadd, 1), (1467, .iaload, 1), (1468, .invokevirtual 161, 3), (1471, .pop, 1), (1472, .goto 3, 3), (1475, .iinc 3 7, 3), (1478, .goto (-1460), 3), (1481, .iconst 1, 1), (1482, .ireturn, 1)]
theorem daL_law_26 : tdaL_law_26.all (fun q => decide (decode cL_law q.1 = .ok q.2)) = true := by decide +kernel
theorem dL_law_1434 : decode cL_law 1434 = .ok (.aload_n 2, 1) := dget daL_law_26 0 (q := (1434, .aload_n 2, 1)) rfl
theorem dL_law_1435 : decode cL_law 1435 = .ok (.aload_n 0, 1) := dget daL_law_26 1 (q := (1435, .aload_n 0, 1)) rfl
theorem dL_law_1436 : decode cL_law 1436 = .ok (.iload_n 3, 1) := dget daL_law_26 2 (q := (1436, .iload_n 3, 1)) rfl
theorem dL_law_1437 : decode cL_law 1437 = .ok (.iconst 1, 1) := dget daL_law_26 3 (q := (1437, .iconst 1, 1)) rfl
theorem dL_law_1438 : decode cL_law 1438 = .ok (.iadd, 1) := dget daL_law_26 4 (q := (1438, .iadd, 1)) rfl
theorem dL_law_1439 : decode cL_law 1439 = .ok (.iaload, 1) := dget daL_law_26 5 (q := (1439, .iaload, 1)) rfl
theorem dL_law_1440 : decode cL_law 1440 = .ok (.aload_n 0, 1) := dget daL_law_26 6 (q := (1440, .aload_n 0, 1)) rfl
theorem dL_law_1441 : decode cL_law 1441 = .ok (.iload_n 3, 1) := dget daL_law_26 7 (q := (1441, .iload_n 3, 1)) rfl
theorem dL_law_1442 : decode cL_law 1442 = .ok (.iconst 2, 1) := dget daL_law_26 8 (q := (1442, .iconst 2, 1)) rfl
theorem dL_law_1443 : decode cL_law 1443 = .ok (.iadd, 1) := dget daL_law_26 9 (q := (1443, .iadd, 1)) rfl
theorem dL_law_1444 : decode cL_law 1444 = .ok (.iaload, 1) := dget daL_law_26 10 (q := (1444, .iaload, 1)) rfl
theorem dL_law_1445 : decode cL_law 1445 = .ok (.invokevirtual 157, 3) := dget daL_law_26 11 (q := (1445, .invokevirtual 157, 3)) rfl
theorem dL_law_1448 : decode cL_law 1448 = .ok (.pop, 1) := dget daL_law_26 12 (q := (1448, .pop, 1)) rfl
theorem dL_law_1449 : decode cL_law 1449 = .ok (.goto 26, 3) := dget daL_law_26 13 (q := (1449, .goto 26, 3)) rfl
theorem dL_law_1452 : decode cL_law 1452 = .ok (.aload_n 1, 1) := dget daL_law_26 14 (q := (1452, .aload_n 1, 1)) rfl
theorem dL_law_1453 : decode cL_law 1453 = .ok (.aload_n 0, 1) := dget daL_law_26 15 (q := (1453, .aload_n 0, 1)) rfl
theorem dL_law_1454 : decode cL_law 1454 = .ok (.iload_n 3, 1) := dget daL_law_26 16 (q := (1454, .iload_n 3, 1)) rfl
theorem dL_law_1455 : decode cL_law 1455 = .ok (.iconst 1, 1) := dget daL_law_26 17 (q := (1455, .iconst 1, 1)) rfl
theorem dL_law_1456 : decode cL_law 1456 = .ok (.iadd, 1) := dget daL_law_26 18 (q := (1456, .iadd, 1)) rfl
theorem dL_law_1457 : decode cL_law 1457 = .ok (.iaload, 1) := dget daL_law_26 19 (q := (1457, .iaload, 1)) rfl
theorem dL_law_1458 : decode cL_law 1458 = .ok (.invokevirtual 158, 3) := dget daL_law_26 20 (q := (1458, .invokevirtual 158, 3)) rfl
theorem dL_law_1461 : decode cL_law 1461 = .ok (.pop, 1) := dget daL_law_26 21 (q := (1461, .pop, 1)) rfl
theorem dL_law_1462 : decode cL_law 1462 = .ok (.aload_n 2, 1) := dget daL_law_26 22 (q := (1462, .aload_n 2, 1)) rfl
theorem dL_law_1463 : decode cL_law 1463 = .ok (.aload_n 0, 1) := dget daL_law_26 23 (q := (1463, .aload_n 0, 1)) rfl
theorem dL_law_1464 : decode cL_law 1464 = .ok (.iload_n 3, 1) := dget daL_law_26 24 (q := (1464, .iload_n 3, 1)) rfl
theorem dL_law_1465 : decode cL_law 1465 = .ok (.iconst 1, 1) := dget daL_law_26 25 (q := (1465, .iconst 1, 1)) rfl
theorem dL_law_1466 : decode cL_law 1466 = .ok (.iadd, 1) := dget daL_law_26 26 (q := (1466, .iadd, 1)) rfl
theorem dL_law_1467 : decode cL_law 1467 = .ok (.iaload, 1) := dget daL_law_26 27 (q := (1467, .iaload, 1)) rfl
theorem dL_law_1468 : decode cL_law 1468 = .ok (.invokevirtual 161, 3) := dget daL_law_26 28 (q := (1468, .invokevirtual 161, 3)) rfl
theorem dL_law_1471 : decode cL_law 1471 = .ok (.pop, 1) := dget daL_law_26 29 (q := (1471, .pop, 1)) rfl
theorem dL_law_1472 : decode cL_law 1472 = .ok (.goto 3, 3) := dget daL_law_26 30 (q := (1472, .goto 3, 3)) rfl
theorem dL_law_1475 : decode cL_law 1475 = .ok (.iinc 3 7, 3) := dget daL_law_26 31 (q := (1475, .iinc 3 7, 3)) rfl
theorem dL_law_1478 : decode cL_law 1478 = .ok (.goto (-1460), 3) := dget daL_law_26 32 (q := (1478, .goto (-1460), 3)) rfl
theorem dL_law_1481 : decode cL_law 1481 = .ok (.iconst 1, 1) := dget daL_law_26 33 (q := (1481, .iconst 1, 1)) rfl
theorem dL_law_1482 : decode cL_law 1482 = .ok (.ireturn, 1) := dget daL_law_26 34 (q := (1482, .ireturn, 1)) rfl
