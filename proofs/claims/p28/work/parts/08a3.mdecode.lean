theorem dk_dX10_qJoins_124 : dz_C cX10_qJoins [(124, .lmul, 1), (125, .invokestatic 666, 3), (128, .invokevirtual 443, 3), (131, .goto 142, 3), (134, .aload_n 0, 1), (135, .lload 4, 2), (137, .lload_n 2, 1), (138, .invokestatic 670, 3), (141, .invokevirtual 443, 3), (144, .goto 129, 3), (147, .aload_n 0, 1), (148, .lload 4, 2), (150, .lload_n 2, 1), (151, .lcmp, 1), (152, .ifCond .ge 8, 3), (155, .lload 4, 2)] := dz_of (by decide +kernel)
theorem dX10_qJoins_124 : decode cX10_qJoins 124 = .ok (.lmul, 1) := dk_dX10_qJoins_124.1
theorem dX10_qJoins_125 : decode cX10_qJoins 125 = .ok (.invokestatic 666, 3) := dk_dX10_qJoins_124.2.1
theorem dX10_qJoins_128 : decode cX10_qJoins 128 = .ok (.invokevirtual 443, 3) := dk_dX10_qJoins_124.2.2.1
theorem dX10_qJoins_131 : decode cX10_qJoins 131 = .ok (.goto 142, 3) := dk_dX10_qJoins_124.2.2.2.1
theorem dX10_qJoins_134 : decode cX10_qJoins 134 = .ok (.aload_n 0, 1) := dk_dX10_qJoins_124.2.2.2.2.1
theorem dX10_qJoins_135 : decode cX10_qJoins 135 = .ok (.lload 4, 2) := dk_dX10_qJoins_124.2.2.2.2.2.1
theorem dX10_qJoins_137 : decode cX10_qJoins 137 = .ok (.lload_n 2, 1) := dk_dX10_qJoins_124.2.2.2.2.2.2.1
theorem dX10_qJoins_138 : decode cX10_qJoins 138 = .ok (.invokestatic 670, 3) := dk_dX10_qJoins_124.2.2.2.2.2.2.2.1
theorem dk_dX10_qJoins_124_8 : dz_C cX10_qJoins [(141, .invokevirtual 443, 3), (144, .goto 129, 3), (147, .aload_n 0, 1), (148, .lload 4, 2), (150, .lload_n 2, 1), (151, .lcmp, 1), (152, .ifCond .ge 8, 3), (155, .lload 4, 2)] := dk_dX10_qJoins_124.2.2.2.2.2.2.2.2
theorem dX10_qJoins_141 : decode cX10_qJoins 141 = .ok (.invokevirtual 443, 3) := dk_dX10_qJoins_124_8.1
theorem dX10_qJoins_144 : decode cX10_qJoins 144 = .ok (.goto 129, 3) := dk_dX10_qJoins_124_8.2.1
theorem dX10_qJoins_147 : decode cX10_qJoins 147 = .ok (.aload_n 0, 1) := dk_dX10_qJoins_124_8.2.2.1
theorem dX10_qJoins_148 : decode cX10_qJoins 148 = .ok (.lload 4, 2) := dk_dX10_qJoins_124_8.2.2.2.1
theorem dX10_qJoins_150 : decode cX10_qJoins 150 = .ok (.lload_n 2, 1) := dk_dX10_qJoins_124_8.2.2.2.2.1
theorem dX10_qJoins_151 : decode cX10_qJoins 151 = .ok (.lcmp, 1) := dk_dX10_qJoins_124_8.2.2.2.2.2.1
theorem dX10_qJoins_152 : decode cX10_qJoins 152 = .ok (.ifCond .ge 8, 3) := dk_dX10_qJoins_124_8.2.2.2.2.2.2.1
theorem dX10_qJoins_155 : decode cX10_qJoins 155 = .ok (.lload 4, 2) := dk_dX10_qJoins_124_8.2.2.2.2.2.2.2.1
theorem dk_dX10_qJoins_157 : dz_C cX10_qJoins [(157, .goto 4, 3), (160, .lload_n 2, 1), (161, .invokevirtual 443, 3), (164, .goto 109, 3), (167, .aload_n 0, 1), (168, .lload 4, 2), (170, .lload_n 2, 1), (171, .lcmp, 1), (172, .ifCond .le 8, 3), (175, .lload 4, 2), (177, .goto 4, 3), (180, .lload_n 2, 1), (181, .invokevirtual 443, 3), (184, .goto 89, 3), (187, .aload_n 0, 1), (188, .lload 4, 2)] := dz_of (by decide +kernel)
theorem dX10_qJoins_157 : decode cX10_qJoins 157 = .ok (.goto 4, 3) := dk_dX10_qJoins_157.1
theorem dX10_qJoins_160 : decode cX10_qJoins 160 = .ok (.lload_n 2, 1) := dk_dX10_qJoins_157.2.1
theorem dX10_qJoins_161 : decode cX10_qJoins 161 = .ok (.invokevirtual 443, 3) := dk_dX10_qJoins_157.2.2.1
theorem dX10_qJoins_164 : decode cX10_qJoins 164 = .ok (.goto 109, 3) := dk_dX10_qJoins_157.2.2.2.1
theorem dX10_qJoins_167 : decode cX10_qJoins 167 = .ok (.aload_n 0, 1) := dk_dX10_qJoins_157.2.2.2.2.1
theorem dX10_qJoins_168 : decode cX10_qJoins 168 = .ok (.lload 4, 2) := dk_dX10_qJoins_157.2.2.2.2.2.1
theorem dX10_qJoins_170 : decode cX10_qJoins 170 = .ok (.lload_n 2, 1) := dk_dX10_qJoins_157.2.2.2.2.2.2.1
theorem dX10_qJoins_171 : decode cX10_qJoins 171 = .ok (.lcmp, 1) := dk_dX10_qJoins_157.2.2.2.2.2.2.2.1
theorem dk_dX10_qJoins_157_8 : dz_C cX10_qJoins [(172, .ifCond .le 8, 3), (175, .lload 4, 2), (177, .goto 4, 3), (180, .lload_n 2, 1), (181, .invokevirtual 443, 3), (184, .goto 89, 3), (187, .aload_n 0, 1), (188, .lload 4, 2)] := dk_dX10_qJoins_157.2.2.2.2.2.2.2.2
theorem dX10_qJoins_172 : decode cX10_qJoins 172 = .ok (.ifCond .le 8, 3) := dk_dX10_qJoins_157_8.1
theorem dX10_qJoins_175 : decode cX10_qJoins 175 = .ok (.lload 4, 2) := dk_dX10_qJoins_157_8.2.1
theorem dX10_qJoins_177 : decode cX10_qJoins 177 = .ok (.goto 4, 3) := dk_dX10_qJoins_157_8.2.2.1
theorem dX10_qJoins_180 : decode cX10_qJoins 180 = .ok (.lload_n 2, 1) := dk_dX10_qJoins_157_8.2.2.2.1
theorem dX10_qJoins_181 : decode cX10_qJoins 181 = .ok (.invokevirtual 443, 3) := dk_dX10_qJoins_157_8.2.2.2.2.1
theorem dX10_qJoins_184 : decode cX10_qJoins 184 = .ok (.goto 89, 3) := dk_dX10_qJoins_157_8.2.2.2.2.2.1
theorem dX10_qJoins_187 : decode cX10_qJoins 187 = .ok (.aload_n 0, 1) := dk_dX10_qJoins_157_8.2.2.2.2.2.2.1
theorem dX10_qJoins_188 : decode cX10_qJoins 188 = .ok (.lload 4, 2) := dk_dX10_qJoins_157_8.2.2.2.2.2.2.2.1
theorem dk_dX10_qJoins_190 : dz_C cX10_qJoins [(190, .lload_n 2, 1), (191, .lcmp, 1), (192, .ifCond .ge 7, 3), (195, .lconst 1, 1), (196, .goto 4, 3), (199, .lconst 0, 1), (200, .invokevirtual 443, 3), (203, .goto 70, 3), (206, .aload_n 0, 1), (207, .lload 4, 2), (209, .lload_n 2, 1), (210, .lcmp, 1), (211, .ifCond .le 7, 3), (214, .lconst 1, 1), (215, .goto 4, 3), (218, .lconst 0, 1)] := dz_of (by decide +kernel)
theorem dX10_qJoins_190 : decode cX10_qJoins 190 = .ok (.lload_n 2, 1) := dk_dX10_qJoins_190.1
theorem dX10_qJoins_191 : decode cX10_qJoins 191 = .ok (.lcmp, 1) := dk_dX10_qJoins_190.2.1
theorem dX10_qJoins_192 : decode cX10_qJoins 192 = .ok (.ifCond .ge 7, 3) := dk_dX10_qJoins_190.2.2.1
theorem dX10_qJoins_195 : decode cX10_qJoins 195 = .ok (.lconst 1, 1) := dk_dX10_qJoins_190.2.2.2.1
theorem dX10_qJoins_196 : decode cX10_qJoins 196 = .ok (.goto 4, 3) := dk_dX10_qJoins_190.2.2.2.2.1
theorem dX10_qJoins_199 : decode cX10_qJoins 199 = .ok (.lconst 0, 1) := dk_dX10_qJoins_190.2.2.2.2.2.1
theorem dX10_qJoins_200 : decode cX10_qJoins 200 = .ok (.invokevirtual 443, 3) := dk_dX10_qJoins_190.2.2.2.2.2.2.1
theorem dX10_qJoins_203 : decode cX10_qJoins 203 = .ok (.goto 70, 3) := dk_dX10_qJoins_190.2.2.2.2.2.2.2.1
theorem dk_dX10_qJoins_190_8 : dz_C cX10_qJoins [(206, .aload_n 0, 1), (207, .lload 4, 2), (209, .lload_n 2, 1), (210, .lcmp, 1), (211, .ifCond .le 7, 3), (214, .lconst 1, 1), (215, .goto 4, 3), (218, .lconst 0, 1)] := dk_dX10_qJoins_190.2.2.2.2.2.2.2.2
theorem dX10_qJoins_206 : decode cX10_qJoins 206 = .ok (.aload_n 0, 1) := dk_dX10_qJoins_190_8.1
theorem dX10_qJoins_207 : decode cX10_qJoins 207 = .ok (.lload 4, 2) := dk_dX10_qJoins_190_8.2.1
theorem dX10_qJoins_209 : decode cX10_qJoins 209 = .ok (.lload_n 2, 1) := dk_dX10_qJoins_190_8.2.2.1
theorem dX10_qJoins_210 : decode cX10_qJoins 210 = .ok (.lcmp, 1) := dk_dX10_qJoins_190_8.2.2.2.1
theorem dX10_qJoins_211 : decode cX10_qJoins 211 = .ok (.ifCond .le 7, 3) := dk_dX10_qJoins_190_8.2.2.2.2.1
theorem dX10_qJoins_214 : decode cX10_qJoins 214 = .ok (.lconst 1, 1) := dk_dX10_qJoins_190_8.2.2.2.2.2.1
theorem dX10_qJoins_215 : decode cX10_qJoins 215 = .ok (.goto 4, 3) := dk_dX10_qJoins_190_8.2.2.2.2.2.2.1
theorem dX10_qJoins_218 : decode cX10_qJoins 218 = .ok (.lconst 0, 1) := dk_dX10_qJoins_190_8.2.2.2.2.2.2.2.1
theorem dk_dX10_qJoins_219 : dz_C cX10_qJoins [(219, .invokevirtual 443, 3), (222, .goto 51, 3), (225, .aload_n 0, 1), (226, .lload 4, 2), (228, .lload_n 2, 1), (229, .lcmp, 1), (230, .ifCond .ne 7, 3), (233, .lconst 1, 1), (234, .goto 4, 3), (237, .lconst 0, 1), (238, .invokevirtual 443, 3), (241, .goto 32, 3), (244, .aload_n 0, 1), (245, .lload 4, 2), (247, .lload_n 2, 1), (248, .lmul, 1)] := dz_of (by decide +kernel)
theorem dX10_qJoins_219 : decode cX10_qJoins 219 = .ok (.invokevirtual 443, 3) := dk_dX10_qJoins_219.1
theorem dX10_qJoins_222 : decode cX10_qJoins 222 = .ok (.goto 51, 3) := dk_dX10_qJoins_219.2.1
theorem dX10_qJoins_225 : decode cX10_qJoins 225 = .ok (.aload_n 0, 1) := dk_dX10_qJoins_219.2.2.1
theorem dX10_qJoins_226 : decode cX10_qJoins 226 = .ok (.lload 4, 2) := dk_dX10_qJoins_219.2.2.2.1
theorem dX10_qJoins_228 : decode cX10_qJoins 228 = .ok (.lload_n 2, 1) := dk_dX10_qJoins_219.2.2.2.2.1
theorem dX10_qJoins_229 : decode cX10_qJoins 229 = .ok (.lcmp, 1) := dk_dX10_qJoins_219.2.2.2.2.2.1
theorem dX10_qJoins_230 : decode cX10_qJoins 230 = .ok (.ifCond .ne 7, 3) := dk_dX10_qJoins_219.2.2.2.2.2.2.1
theorem dX10_qJoins_233 : decode cX10_qJoins 233 = .ok (.lconst 1, 1) := dk_dX10_qJoins_219.2.2.2.2.2.2.2.1
theorem dk_dX10_qJoins_219_8 : dz_C cX10_qJoins [(234, .goto 4, 3), (237, .lconst 0, 1), (238, .invokevirtual 443, 3), (241, .goto 32, 3), (244, .aload_n 0, 1), (245, .lload 4, 2), (247, .lload_n 2, 1), (248, .lmul, 1)] := dk_dX10_qJoins_219.2.2.2.2.2.2.2.2
theorem dX10_qJoins_234 : decode cX10_qJoins 234 = .ok (.goto 4, 3) := dk_dX10_qJoins_219_8.1
theorem dX10_qJoins_237 : decode cX10_qJoins 237 = .ok (.lconst 0, 1) := dk_dX10_qJoins_219_8.2.1
theorem dX10_qJoins_238 : decode cX10_qJoins 238 = .ok (.invokevirtual 443, 3) := dk_dX10_qJoins_219_8.2.2.1
theorem dX10_qJoins_241 : decode cX10_qJoins 241 = .ok (.goto 32, 3) := dk_dX10_qJoins_219_8.2.2.2.1
theorem dX10_qJoins_244 : decode cX10_qJoins 244 = .ok (.aload_n 0, 1) := dk_dX10_qJoins_219_8.2.2.2.2.1
theorem dX10_qJoins_245 : decode cX10_qJoins 245 = .ok (.lload 4, 2) := dk_dX10_qJoins_219_8.2.2.2.2.2.1
theorem dX10_qJoins_247 : decode cX10_qJoins 247 = .ok (.lload_n 2, 1) := dk_dX10_qJoins_219_8.2.2.2.2.2.2.1
theorem dX10_qJoins_248 : decode cX10_qJoins 248 = .ok (.lmul, 1) := dk_dX10_qJoins_219_8.2.2.2.2.2.2.2.1
theorem dk_dX10_qJoins_249 : dz_C cX10_qJoins [(249, .invokevirtual 443, 3), (252, .goto 21, 3), (255, .aload_n 0, 1), (256, .lload 4, 2), (258, .lload_n 2, 1), (259, .ladd, 1), (260, .lconst 0, 1), (261, .lcmp, 1), (262, .ifCond .le 7, 3), (265, .lconst 1, 1), (266, .goto 4, 3), (269, .lconst 0, 1), (270, .invokevirtual 443, 3), (273, .return_, 1)] := dz_of (by decide +kernel)
theorem dX10_qJoins_249 : decode cX10_qJoins 249 = .ok (.invokevirtual 443, 3) := dk_dX10_qJoins_249.1
theorem dX10_qJoins_252 : decode cX10_qJoins 252 = .ok (.goto 21, 3) := dk_dX10_qJoins_249.2.1
theorem dX10_qJoins_255 : decode cX10_qJoins 255 = .ok (.aload_n 0, 1) := dk_dX10_qJoins_249.2.2.1
theorem dX10_qJoins_256 : decode cX10_qJoins 256 = .ok (.lload 4, 2) := dk_dX10_qJoins_249.2.2.2.1
theorem dX10_qJoins_258 : decode cX10_qJoins 258 = .ok (.lload_n 2, 1) := dk_dX10_qJoins_249.2.2.2.2.1
theorem dX10_qJoins_259 : decode cX10_qJoins 259 = .ok (.ladd, 1) := dk_dX10_qJoins_249.2.2.2.2.2.1
theorem dX10_qJoins_260 : decode cX10_qJoins 260 = .ok (.lconst 0, 1) := dk_dX10_qJoins_249.2.2.2.2.2.2.1
theorem dX10_qJoins_261 : decode cX10_qJoins 261 = .ok (.lcmp, 1) := dk_dX10_qJoins_249.2.2.2.2.2.2.2.1
theorem dk_dX10_qJoins_249_8 : dz_C cX10_qJoins [(262, .ifCond .le 7, 3), (265, .lconst 1, 1), (266, .goto 4, 3), (269, .lconst 0, 1), (270, .invokevirtual 443, 3), (273, .return_, 1)] := dk_dX10_qJoins_249.2.2.2.2.2.2.2.2
theorem dX10_qJoins_262 : decode cX10_qJoins 262 = .ok (.ifCond .le 7, 3) := dk_dX10_qJoins_249_8.1
theorem dX10_qJoins_265 : decode cX10_qJoins 265 = .ok (.lconst 1, 1) := dk_dX10_qJoins_249_8.2.1
theorem dX10_qJoins_266 : decode cX10_qJoins 266 = .ok (.goto 4, 3) := dk_dX10_qJoins_249_8.2.2.1
theorem dX10_qJoins_269 : decode cX10_qJoins 269 = .ok (.lconst 0, 1) := dk_dX10_qJoins_249_8.2.2.2.1
theorem dX10_qJoins_270 : decode cX10_qJoins 270 = .ok (.invokevirtual 443, 3) := dk_dX10_qJoins_249_8.2.2.2.2.1
theorem dX10_qJoins_273 : decode cX10_qJoins 273 = .ok (.return_, 1) := dk_dX10_qJoins_249_8.2.2.2.2.2.1
theorem dk_dX10_qKind_0 : dz_C cX10_qKind [(0, .aload_n 0, 1), (1, .aload_n 0, 1), (2, .getfield 189, 3), (5, .invokevirtual 305, 3), (8, .ifCond .eq 7, 3), (11, .iconst 0, 1), (12, .goto 64, 3), (15, .aload_n 0, 1), (16, .aload_n 0, 1), (17, .getfield 192, 3), (20, .invokevirtual 305, 3), (23, .ifCond .eq 7, 3), (26, .iconst 1, 1), (27, .goto 49, 3), (30, .aload_n 0, 1), (31, .aload_n 0, 1)] := dz_of (by decide +kernel)
theorem dX10_qKind_0 : decode cX10_qKind 0 = .ok (.aload_n 0, 1) := dk_dX10_qKind_0.1
theorem dX10_qKind_1 : decode cX10_qKind 1 = .ok (.aload_n 0, 1) := dk_dX10_qKind_0.2.1
theorem dX10_qKind_2 : decode cX10_qKind 2 = .ok (.getfield 189, 3) := dk_dX10_qKind_0.2.2.1
theorem dX10_qKind_5 : decode cX10_qKind 5 = .ok (.invokevirtual 305, 3) := dk_dX10_qKind_0.2.2.2.1
theorem dX10_qKind_8 : decode cX10_qKind 8 = .ok (.ifCond .eq 7, 3) := dk_dX10_qKind_0.2.2.2.2.1
theorem dX10_qKind_11 : decode cX10_qKind 11 = .ok (.iconst 0, 1) := dk_dX10_qKind_0.2.2.2.2.2.1
theorem dX10_qKind_12 : decode cX10_qKind 12 = .ok (.goto 64, 3) := dk_dX10_qKind_0.2.2.2.2.2.2.1
theorem dX10_qKind_15 : decode cX10_qKind 15 = .ok (.aload_n 0, 1) := dk_dX10_qKind_0.2.2.2.2.2.2.2.1
theorem dk_dX10_qKind_0_8 : dz_C cX10_qKind [(16, .aload_n 0, 1), (17, .getfield 192, 3), (20, .invokevirtual 305, 3), (23, .ifCond .eq 7, 3), (26, .iconst 1, 1), (27, .goto 49, 3), (30, .aload_n 0, 1), (31, .aload_n 0, 1)] := dk_dX10_qKind_0.2.2.2.2.2.2.2.2
theorem dX10_qKind_16 : decode cX10_qKind 16 = .ok (.aload_n 0, 1) := dk_dX10_qKind_0_8.1
theorem dX10_qKind_17 : decode cX10_qKind 17 = .ok (.getfield 192, 3) := dk_dX10_qKind_0_8.2.1
theorem dX10_qKind_20 : decode cX10_qKind 20 = .ok (.invokevirtual 305, 3) := dk_dX10_qKind_0_8.2.2.1
theorem dX10_qKind_23 : decode cX10_qKind 23 = .ok (.ifCond .eq 7, 3) := dk_dX10_qKind_0_8.2.2.2.1
theorem dX10_qKind_26 : decode cX10_qKind 26 = .ok (.iconst 1, 1) := dk_dX10_qKind_0_8.2.2.2.2.1
theorem dX10_qKind_27 : decode cX10_qKind 27 = .ok (.goto 49, 3) := dk_dX10_qKind_0_8.2.2.2.2.2.1
theorem dX10_qKind_30 : decode cX10_qKind 30 = .ok (.aload_n 0, 1) := dk_dX10_qKind_0_8.2.2.2.2.2.2.1
theorem dX10_qKind_31 : decode cX10_qKind 31 = .ok (.aload_n 0, 1) := dk_dX10_qKind_0_8.2.2.2.2.2.2.2.1
theorem dk_dX10_qKind_32 : dz_C cX10_qKind [(32, .getfield 195, 3), (35, .invokevirtual 305, 3), (38, .ifCond .eq 7, 3), (41, .iconst 2, 1), (42, .goto 34, 3), (45, .aload_n 0, 1), (46, .aload_n 0, 1), (47, .getfield 198, 3), (50, .invokevirtual 305, 3), (53, .ifCond .eq 7, 3), (56, .iconst 3, 1), (57, .goto 19, 3), (60, .aload_n 0, 1), (61, .aload_n 0, 1), (62, .getfield 201, 3), (65, .invokevirtual 305, 3)] := dz_of (by decide +kernel)
theorem dX10_qKind_32 : decode cX10_qKind 32 = .ok (.getfield 195, 3) := dk_dX10_qKind_32.1
theorem dX10_qKind_35 : decode cX10_qKind 35 = .ok (.invokevirtual 305, 3) := dk_dX10_qKind_32.2.1
theorem dX10_qKind_38 : decode cX10_qKind 38 = .ok (.ifCond .eq 7, 3) := dk_dX10_qKind_32.2.2.1
theorem dX10_qKind_41 : decode cX10_qKind 41 = .ok (.iconst 2, 1) := dk_dX10_qKind_32.2.2.2.1
theorem dX10_qKind_42 : decode cX10_qKind 42 = .ok (.goto 34, 3) := dk_dX10_qKind_32.2.2.2.2.1
theorem dX10_qKind_45 : decode cX10_qKind 45 = .ok (.aload_n 0, 1) := dk_dX10_qKind_32.2.2.2.2.2.1
theorem dX10_qKind_46 : decode cX10_qKind 46 = .ok (.aload_n 0, 1) := dk_dX10_qKind_32.2.2.2.2.2.2.1
theorem dX10_qKind_47 : decode cX10_qKind 47 = .ok (.getfield 198, 3) := dk_dX10_qKind_32.2.2.2.2.2.2.2.1
theorem dk_dX10_qKind_32_8 : dz_C cX10_qKind [(50, .invokevirtual 305, 3), (53, .ifCond .eq 7, 3), (56, .iconst 3, 1), (57, .goto 19, 3), (60, .aload_n 0, 1), (61, .aload_n 0, 1), (62, .getfield 201, 3), (65, .invokevirtual 305, 3)] := dk_dX10_qKind_32.2.2.2.2.2.2.2.2
theorem dX10_qKind_50 : decode cX10_qKind 50 = .ok (.invokevirtual 305, 3) := dk_dX10_qKind_32_8.1
theorem dX10_qKind_53 : decode cX10_qKind 53 = .ok (.ifCond .eq 7, 3) := dk_dX10_qKind_32_8.2.1
theorem dX10_qKind_56 : decode cX10_qKind 56 = .ok (.iconst 3, 1) := dk_dX10_qKind_32_8.2.2.1
theorem dX10_qKind_57 : decode cX10_qKind 57 = .ok (.goto 19, 3) := dk_dX10_qKind_32_8.2.2.2.1
theorem dX10_qKind_60 : decode cX10_qKind 60 = .ok (.aload_n 0, 1) := dk_dX10_qKind_32_8.2.2.2.2.1
theorem dX10_qKind_61 : decode cX10_qKind 61 = .ok (.aload_n 0, 1) := dk_dX10_qKind_32_8.2.2.2.2.2.1
theorem dX10_qKind_62 : decode cX10_qKind 62 = .ok (.getfield 201, 3) := dk_dX10_qKind_32_8.2.2.2.2.2.2.1
theorem dX10_qKind_65 : decode cX10_qKind 65 = .ok (.invokevirtual 305, 3) := dk_dX10_qKind_32_8.2.2.2.2.2.2.2.1
theorem dk_dX10_qKind_68 : dz_C cX10_qKind [(68, .ifCond .eq 7, 3), (71, .iconst 4, 1), (72, .goto 4, 3), (75, .iconst 5, 1), (76, .istore_n 1, 1), (77, .iload_n 1, 1), (78, .iconst 5, 1), (79, .if_icmp .ne 11, 3), (82, .aload_n 0, 1), (83, .aload_n 0, 1), (84, .getfield 204, 3), (87, .invokevirtual 350, 3), (90, .iload_n 1, 1), (91, .ireturn, 1)] := dz_of (by decide +kernel)
theorem dX10_qKind_68 : decode cX10_qKind 68 = .ok (.ifCond .eq 7, 3) := dk_dX10_qKind_68.1
theorem dX10_qKind_71 : decode cX10_qKind 71 = .ok (.iconst 4, 1) := dk_dX10_qKind_68.2.1
theorem dX10_qKind_72 : decode cX10_qKind 72 = .ok (.goto 4, 3) := dk_dX10_qKind_68.2.2.1
theorem dX10_qKind_75 : decode cX10_qKind 75 = .ok (.iconst 5, 1) := dk_dX10_qKind_68.2.2.2.1
theorem dX10_qKind_76 : decode cX10_qKind 76 = .ok (.istore_n 1, 1) := dk_dX10_qKind_68.2.2.2.2.1
theorem dX10_qKind_77 : decode cX10_qKind 77 = .ok (.iload_n 1, 1) := dk_dX10_qKind_68.2.2.2.2.2.1
theorem dX10_qKind_78 : decode cX10_qKind 78 = .ok (.iconst 5, 1) := dk_dX10_qKind_68.2.2.2.2.2.2.1
theorem dX10_qKind_79 : decode cX10_qKind 79 = .ok (.if_icmp .ne 11, 3) := dk_dX10_qKind_68.2.2.2.2.2.2.2.1
theorem dk_dX10_qKind_68_8 : dz_C cX10_qKind [(82, .aload_n 0, 1), (83, .aload_n 0, 1), (84, .getfield 204, 3), (87, .invokevirtual 350, 3), (90, .iload_n 1, 1), (91, .ireturn, 1)] := dk_dX10_qKind_68.2.2.2.2.2.2.2.2
theorem dX10_qKind_82 : decode cX10_qKind 82 = .ok (.aload_n 0, 1) := dk_dX10_qKind_68_8.1
theorem dX10_qKind_83 : decode cX10_qKind 83 = .ok (.aload_n 0, 1) := dk_dX10_qKind_68_8.2.1
theorem dX10_qKind_84 : decode cX10_qKind 84 = .ok (.getfield 204, 3) := dk_dX10_qKind_68_8.2.2.1
theorem dX10_qKind_87 : decode cX10_qKind 87 = .ok (.invokevirtual 350, 3) := dk_dX10_qKind_68_8.2.2.2.1
theorem dX10_qKind_90 : decode cX10_qKind 90 = .ok (.iload_n 1, 1) := dk_dX10_qKind_68_8.2.2.2.2.1
theorem dX10_qKind_91 : decode cX10_qKind 91 = .ok (.ireturn, 1) := dk_dX10_qKind_68_8.2.2.2.2.2.1
theorem dk_dX10_qOf_0 : dz_C cX10_qOf [(0, .iload_n 1, 1), (12, .aload_n 0, 1), (13, .iload 4, 2), (15, .invokevirtual 436, 3), (18, .i2l, 1), (19, .lload_n 2, 1), (20, .lcmp, 1), (21, .ifCond .ne 7, 3), (24, .lconst 1, 1), (25, .goto 4, 3), (28, .lconst 0, 1), (29, .lreturn, 1)] := dz_of (by decide +kernel)
theorem dX10_qOf_0 : decode cX10_qOf 0 = .ok (.iload_n 1, 1) := dk_dX10_qOf_0.1
theorem dX10_qOf_12 : decode cX10_qOf 12 = .ok (.aload_n 0, 1) := dk_dX10_qOf_0.2.1
theorem dX10_qOf_13 : decode cX10_qOf 13 = .ok (.iload 4, 2) := dk_dX10_qOf_0.2.2.1
theorem dX10_qOf_15 : decode cX10_qOf 15 = .ok (.invokevirtual 436, 3) := dk_dX10_qOf_0.2.2.2.1
theorem dX10_qOf_18 : decode cX10_qOf 18 = .ok (.i2l, 1) := dk_dX10_qOf_0.2.2.2.2.1
theorem dX10_qOf_19 : decode cX10_qOf 19 = .ok (.lload_n 2, 1) := dk_dX10_qOf_0.2.2.2.2.2.1
theorem dX10_qOf_20 : decode cX10_qOf 20 = .ok (.lcmp, 1) := dk_dX10_qOf_0.2.2.2.2.2.2.1
theorem dX10_qOf_21 : decode cX10_qOf 21 = .ok (.ifCond .ne 7, 3) := dk_dX10_qOf_0.2.2.2.2.2.2.2.1
theorem dk_dX10_qOf_0_8 : dz_C cX10_qOf [(24, .lconst 1, 1), (25, .goto 4, 3), (28, .lconst 0, 1), (29, .lreturn, 1)] := dk_dX10_qOf_0.2.2.2.2.2.2.2.2
theorem dX10_qOf_24 : decode cX10_qOf 24 = .ok (.lconst 1, 1) := dk_dX10_qOf_0_8.1
theorem dX10_qOf_25 : decode cX10_qOf 25 = .ok (.goto 4, 3) := dk_dX10_qOf_0_8.2.1
theorem dX10_qOf_28 : decode cX10_qOf 28 = .ok (.lconst 0, 1) := dk_dX10_qOf_0_8.2.2.1
theorem dX10_qOf_29 : decode cX10_qOf 29 = .ok (.lreturn, 1) := dk_dX10_qOf_0_8.2.2.2.1
theorem dX10_qOf_1 : decode cX10_qOf 1 = .ok (.lookupswitch 11 #[], 11) := by decide +kernel
theorem dk_dX10_qOpens_0 : dz_C cX10_qOpens [(0, .aload_n 0, 1), (1, .getfield 279, 3), (4, .ifCond .eq 4, 3), (7, .return_, 1), (8, .aload_n 0, 1), (9, .getfield 375, 3), (12, .bipush 6, 2), (14, .if_icmp .ne 10, 3), (17, .aload_n 0, 1), (18, .iconst 4, 1), (19, .iload_n 2, 1), (20, .invokevirtual 308, 3), (23, .return_, 1), (24, .aload_n 0, 1), (25, .dup, 1), (26, .getfield 375, 3)] := dz_of (by decide +kernel)
theorem dX10_qOpens_0 : decode cX10_qOpens 0 = .ok (.aload_n 0, 1) := dk_dX10_qOpens_0.1
theorem dX10_qOpens_1 : decode cX10_qOpens 1 = .ok (.getfield 279, 3) := dk_dX10_qOpens_0.2.1
theorem dX10_qOpens_4 : decode cX10_qOpens 4 = .ok (.ifCond .eq 4, 3) := dk_dX10_qOpens_0.2.2.1
theorem dX10_qOpens_7 : decode cX10_qOpens 7 = .ok (.return_, 1) := dk_dX10_qOpens_0.2.2.2.1
theorem dX10_qOpens_8 : decode cX10_qOpens 8 = .ok (.aload_n 0, 1) := dk_dX10_qOpens_0.2.2.2.2.1
theorem dX10_qOpens_9 : decode cX10_qOpens 9 = .ok (.getfield 375, 3) := dk_dX10_qOpens_0.2.2.2.2.2.1
theorem dX10_qOpens_12 : decode cX10_qOpens 12 = .ok (.bipush 6, 2) := dk_dX10_qOpens_0.2.2.2.2.2.2.1
theorem dX10_qOpens_14 : decode cX10_qOpens 14 = .ok (.if_icmp .ne 10, 3) := dk_dX10_qOpens_0.2.2.2.2.2.2.2.1
theorem dk_dX10_qOpens_0_8 : dz_C cX10_qOpens [(17, .aload_n 0, 1), (18, .iconst 4, 1), (19, .iload_n 2, 1), (20, .invokevirtual 308, 3), (23, .return_, 1), (24, .aload_n 0, 1), (25, .dup, 1), (26, .getfield 375, 3)] := dk_dX10_qOpens_0.2.2.2.2.2.2.2.2
theorem dX10_qOpens_17 : decode cX10_qOpens 17 = .ok (.aload_n 0, 1) := dk_dX10_qOpens_0_8.1
theorem dX10_qOpens_18 : decode cX10_qOpens 18 = .ok (.iconst 4, 1) := dk_dX10_qOpens_0_8.2.1
theorem dX10_qOpens_19 : decode cX10_qOpens 19 = .ok (.iload_n 2, 1) := dk_dX10_qOpens_0_8.2.2.1
theorem dX10_qOpens_20 : decode cX10_qOpens 20 = .ok (.invokevirtual 308, 3) := dk_dX10_qOpens_0_8.2.2.2.1
theorem dX10_qOpens_23 : decode cX10_qOpens 23 = .ok (.return_, 1) := dk_dX10_qOpens_0_8.2.2.2.2.1
theorem dX10_qOpens_24 : decode cX10_qOpens 24 = .ok (.aload_n 0, 1) := dk_dX10_qOpens_0_8.2.2.2.2.2.1
theorem dX10_qOpens_25 : decode cX10_qOpens 25 = .ok (.dup, 1) := dk_dX10_qOpens_0_8.2.2.2.2.2.2.1
theorem dX10_qOpens_26 : decode cX10_qOpens 26 = .ok (.getfield 375, 3) := dk_dX10_qOpens_0_8.2.2.2.2.2.2.2.1
theorem dk_dX10_qOpens_29 : dz_C cX10_qOpens [(29, .iconst 1, 1), (30, .iadd, 1), (31, .putfield 375, 3), (34, .aload_n 0, 1), (35, .getfield 267, 3), (38, .aload_n 0, 1), (39, .getfield 372, 3), (42, .iload_n 1, 1), (43, .iastore, 1), (44, .aload_n 0, 1), (45, .dup, 1), (46, .getfield 372, 3), (49, .iconst 1, 1), (50, .iadd, 1), (51, .putfield 372, 3), (54, .return_, 1)] := dz_of (by decide +kernel)
theorem dX10_qOpens_29 : decode cX10_qOpens 29 = .ok (.iconst 1, 1) := dk_dX10_qOpens_29.1
theorem dX10_qOpens_30 : decode cX10_qOpens 30 = .ok (.iadd, 1) := dk_dX10_qOpens_29.2.1
theorem dX10_qOpens_31 : decode cX10_qOpens 31 = .ok (.putfield 375, 3) := dk_dX10_qOpens_29.2.2.1
theorem dX10_qOpens_34 : decode cX10_qOpens 34 = .ok (.aload_n 0, 1) := dk_dX10_qOpens_29.2.2.2.1
theorem dX10_qOpens_35 : decode cX10_qOpens 35 = .ok (.getfield 267, 3) := dk_dX10_qOpens_29.2.2.2.2.1
theorem dX10_qOpens_38 : decode cX10_qOpens 38 = .ok (.aload_n 0, 1) := dk_dX10_qOpens_29.2.2.2.2.2.1
theorem dX10_qOpens_39 : decode cX10_qOpens 39 = .ok (.getfield 372, 3) := dk_dX10_qOpens_29.2.2.2.2.2.2.1
theorem dX10_qOpens_42 : decode cX10_qOpens 42 = .ok (.iload_n 1, 1) := dk_dX10_qOpens_29.2.2.2.2.2.2.2.1
theorem dk_dX10_qOpens_29_8 : dz_C cX10_qOpens [(43, .iastore, 1), (44, .aload_n 0, 1), (45, .dup, 1), (46, .getfield 372, 3), (49, .iconst 1, 1), (50, .iadd, 1), (51, .putfield 372, 3), (54, .return_, 1)] := dk_dX10_qOpens_29.2.2.2.2.2.2.2.2
theorem dX10_qOpens_43 : decode cX10_qOpens 43 = .ok (.iastore, 1) := dk_dX10_qOpens_29_8.1
theorem dX10_qOpens_44 : decode cX10_qOpens 44 = .ok (.aload_n 0, 1) := dk_dX10_qOpens_29_8.2.1
theorem dX10_qOpens_45 : decode cX10_qOpens 45 = .ok (.dup, 1) := dk_dX10_qOpens_29_8.2.2.1
theorem dX10_qOpens_46 : decode cX10_qOpens 46 = .ok (.getfield 372, 3) := dk_dX10_qOpens_29_8.2.2.2.1
theorem dX10_qOpens_49 : decode cX10_qOpens 49 = .ok (.iconst 1, 1) := dk_dX10_qOpens_29_8.2.2.2.2.1
theorem dX10_qOpens_50 : decode cX10_qOpens 50 = .ok (.iadd, 1) := dk_dX10_qOpens_29_8.2.2.2.2.2.1
theorem dX10_qOpens_51 : decode cX10_qOpens 51 = .ok (.putfield 372, 3) := dk_dX10_qOpens_29_8.2.2.2.2.2.2.1
theorem dX10_qOpens_54 : decode cX10_qOpens 54 = .ok (.return_, 1) := dk_dX10_qOpens_29_8.2.2.2.2.2.2.2.1
theorem dk_dX10_qPartOf_0 : dz_C cX10_qPartOf [(0, .iload_n 1, 1), (60, .aload_n 0, 1), (61, .getfield 333, 3), (64, .ifCond .eq 11, 3), (67, .aload_n 0, 1), (68, .getfield 333, 3), (71, .iconst 1, 1), (72, .if_icmp .ne 11, 3), (75, .aload_n 0, 1), (76, .getfield 454, 3), (79, .i2l, 1), (80, .goto 15, 3), (83, .aload_n 0, 1), (84, .getfield 127, 3), (87, .bipush 25, 2), (89, .iconst 2, 1)] := dz_of (by decide +kernel)
theorem dX10_qPartOf_0 : decode cX10_qPartOf 0 = .ok (.iload_n 1, 1) := dk_dX10_qPartOf_0.1
theorem dX10_qPartOf_60 : decode cX10_qPartOf 60 = .ok (.aload_n 0, 1) := dk_dX10_qPartOf_0.2.1
theorem dX10_qPartOf_61 : decode cX10_qPartOf 61 = .ok (.getfield 333, 3) := dk_dX10_qPartOf_0.2.2.1
theorem dX10_qPartOf_64 : decode cX10_qPartOf 64 = .ok (.ifCond .eq 11, 3) := dk_dX10_qPartOf_0.2.2.2.1
theorem dX10_qPartOf_67 : decode cX10_qPartOf 67 = .ok (.aload_n 0, 1) := dk_dX10_qPartOf_0.2.2.2.2.1
theorem dX10_qPartOf_68 : decode cX10_qPartOf 68 = .ok (.getfield 333, 3) := dk_dX10_qPartOf_0.2.2.2.2.2.1
theorem dX10_qPartOf_71 : decode cX10_qPartOf 71 = .ok (.iconst 1, 1) := dk_dX10_qPartOf_0.2.2.2.2.2.2.1
theorem dX10_qPartOf_72 : decode cX10_qPartOf 72 = .ok (.if_icmp .ne 11, 3) := dk_dX10_qPartOf_0.2.2.2.2.2.2.2.1
theorem dk_dX10_qPartOf_0_8 : dz_C cX10_qPartOf [(75, .aload_n 0, 1), (76, .getfield 454, 3), (79, .i2l, 1), (80, .goto 15, 3), (83, .aload_n 0, 1), (84, .getfield 127, 3), (87, .bipush 25, 2), (89, .iconst 2, 1)] := dk_dX10_qPartOf_0.2.2.2.2.2.2.2.2
theorem dX10_qPartOf_75 : decode cX10_qPartOf 75 = .ok (.aload_n 0, 1) := dk_dX10_qPartOf_0_8.1
theorem dX10_qPartOf_76 : decode cX10_qPartOf 76 = .ok (.getfield 454, 3) := dk_dX10_qPartOf_0_8.2.1
theorem dX10_qPartOf_79 : decode cX10_qPartOf 79 = .ok (.i2l, 1) := dk_dX10_qPartOf_0_8.2.2.1
theorem dX10_qPartOf_80 : decode cX10_qPartOf 80 = .ok (.goto 15, 3) := dk_dX10_qPartOf_0_8.2.2.2.1
theorem dX10_qPartOf_83 : decode cX10_qPartOf 83 = .ok (.aload_n 0, 1) := dk_dX10_qPartOf_0_8.2.2.2.2.1
theorem dX10_qPartOf_84 : decode cX10_qPartOf 84 = .ok (.getfield 127, 3) := dk_dX10_qPartOf_0_8.2.2.2.2.2.1
theorem dX10_qPartOf_87 : decode cX10_qPartOf 87 = .ok (.bipush 25, 2) := dk_dX10_qPartOf_0_8.2.2.2.2.2.2.1
theorem dX10_qPartOf_89 : decode cX10_qPartOf 89 = .ok (.iconst 2, 1) := dk_dX10_qPartOf_0_8.2.2.2.2.2.2.2.1
theorem dX10_qPartOf_1 : decode cX10_qPartOf 1 = .ok (.tableswitch 194 0 10 #[59, 95, 103, 116, 124, 141, 148, 159, 170, 176, 179], 59) := by decide +kernel
theorem dk_dX10_qPartOf_90 : dz_C cX10_qPartOf [(90, .iload_n 2, 1), (91, .imul, 1), (92, .iadd, 1), (93, .iaload, 1), (94, .i2l, 1), (95, .lreturn, 1), (96, .aload_n 0, 1), (97, .getfield 139, 3), (100, .iconst 0, 1), (101, .iaload, 1), (102, .i2l, 1), (103, .lreturn, 1), (104, .aload_n 0, 1), (105, .getfield 454, 3), (108, .aload_n 0, 1), (109, .getfield 118, 3)] := dz_of (by decide +kernel)
theorem dX10_qPartOf_90 : decode cX10_qPartOf 90 = .ok (.iload_n 2, 1) := dk_dX10_qPartOf_90.1
theorem dX10_qPartOf_91 : decode cX10_qPartOf 91 = .ok (.imul, 1) := dk_dX10_qPartOf_90.2.1
theorem dX10_qPartOf_92 : decode cX10_qPartOf 92 = .ok (.iadd, 1) := dk_dX10_qPartOf_90.2.2.1
theorem dX10_qPartOf_93 : decode cX10_qPartOf 93 = .ok (.iaload, 1) := dk_dX10_qPartOf_90.2.2.2.1
theorem dX10_qPartOf_94 : decode cX10_qPartOf 94 = .ok (.i2l, 1) := dk_dX10_qPartOf_90.2.2.2.2.1
theorem dX10_qPartOf_95 : decode cX10_qPartOf 95 = .ok (.lreturn, 1) := dk_dX10_qPartOf_90.2.2.2.2.2.1
theorem dX10_qPartOf_96 : decode cX10_qPartOf 96 = .ok (.aload_n 0, 1) := dk_dX10_qPartOf_90.2.2.2.2.2.2.1
theorem dX10_qPartOf_97 : decode cX10_qPartOf 97 = .ok (.getfield 139, 3) := dk_dX10_qPartOf_90.2.2.2.2.2.2.2.1
theorem dk_dX10_qPartOf_90_8 : dz_C cX10_qPartOf [(100, .iconst 0, 1), (101, .iaload, 1), (102, .i2l, 1), (103, .lreturn, 1), (104, .aload_n 0, 1), (105, .getfield 454, 3), (108, .aload_n 0, 1), (109, .getfield 118, 3)] := dk_dX10_qPartOf_90.2.2.2.2.2.2.2.2
theorem dX10_qPartOf_100 : decode cX10_qPartOf 100 = .ok (.iconst 0, 1) := dk_dX10_qPartOf_90_8.1
theorem dX10_qPartOf_101 : decode cX10_qPartOf 101 = .ok (.iaload, 1) := dk_dX10_qPartOf_90_8.2.1
theorem dX10_qPartOf_102 : decode cX10_qPartOf 102 = .ok (.i2l, 1) := dk_dX10_qPartOf_90_8.2.2.1
theorem dX10_qPartOf_103 : decode cX10_qPartOf 103 = .ok (.lreturn, 1) := dk_dX10_qPartOf_90_8.2.2.2.1
theorem dX10_qPartOf_104 : decode cX10_qPartOf 104 = .ok (.aload_n 0, 1) := dk_dX10_qPartOf_90_8.2.2.2.2.1
theorem dX10_qPartOf_105 : decode cX10_qPartOf 105 = .ok (.getfield 454, 3) := dk_dX10_qPartOf_90_8.2.2.2.2.2.1
theorem dX10_qPartOf_108 : decode cX10_qPartOf 108 = .ok (.aload_n 0, 1) := dk_dX10_qPartOf_90_8.2.2.2.2.2.2.1
theorem dX10_qPartOf_109 : decode cX10_qPartOf 109 = .ok (.getfield 118, 3) := dk_dX10_qPartOf_90_8.2.2.2.2.2.2.2.1
theorem dk_dX10_qPartOf_112 : dz_C cX10_qPartOf [(112, .iconst 4, 1), (113, .iaload, 1), (114, .irem, 1), (115, .i2l, 1), (116, .lreturn, 1), (117, .aload_n 0, 1), (118, .getfield 161, 3), (121, .iload_n 2, 1), (122, .iaload, 1), (123, .i2l, 1), (124, .lreturn, 1), (125, .aload_n 0, 1), (126, .getfield 121, 3), (129, .bipush 12, 2), (131, .iconst 2, 1), (132, .aload_n 0, 1)] := dz_of (by decide +kernel)
theorem dX10_qPartOf_112 : decode cX10_qPartOf 112 = .ok (.iconst 4, 1) := dk_dX10_qPartOf_112.1
theorem dX10_qPartOf_113 : decode cX10_qPartOf 113 = .ok (.iaload, 1) := dk_dX10_qPartOf_112.2.1
theorem dX10_qPartOf_114 : decode cX10_qPartOf 114 = .ok (.irem, 1) := dk_dX10_qPartOf_112.2.2.1
theorem dX10_qPartOf_115 : decode cX10_qPartOf 115 = .ok (.i2l, 1) := dk_dX10_qPartOf_112.2.2.2.1
theorem dX10_qPartOf_116 : decode cX10_qPartOf 116 = .ok (.lreturn, 1) := dk_dX10_qPartOf_112.2.2.2.2.1
theorem dX10_qPartOf_117 : decode cX10_qPartOf 117 = .ok (.aload_n 0, 1) := dk_dX10_qPartOf_112.2.2.2.2.2.1
theorem dX10_qPartOf_118 : decode cX10_qPartOf 118 = .ok (.getfield 161, 3) := dk_dX10_qPartOf_112.2.2.2.2.2.2.1
theorem dX10_qPartOf_121 : decode cX10_qPartOf 121 = .ok (.iload_n 2, 1) := dk_dX10_qPartOf_112.2.2.2.2.2.2.2.1
theorem dk_dX10_qPartOf_112_8 : dz_C cX10_qPartOf [(122, .iaload, 1), (123, .i2l, 1), (124, .lreturn, 1), (125, .aload_n 0, 1), (126, .getfield 121, 3), (129, .bipush 12, 2), (131, .iconst 2, 1), (132, .aload_n 0, 1)] := dk_dX10_qPartOf_112.2.2.2.2.2.2.2.2
theorem dX10_qPartOf_122 : decode cX10_qPartOf 122 = .ok (.iaload, 1) := dk_dX10_qPartOf_112_8.1
theorem dX10_qPartOf_123 : decode cX10_qPartOf 123 = .ok (.i2l, 1) := dk_dX10_qPartOf_112_8.2.1
theorem dX10_qPartOf_124 : decode cX10_qPartOf 124 = .ok (.lreturn, 1) := dk_dX10_qPartOf_112_8.2.2.1
theorem dX10_qPartOf_125 : decode cX10_qPartOf 125 = .ok (.aload_n 0, 1) := dk_dX10_qPartOf_112_8.2.2.2.1
theorem dX10_qPartOf_126 : decode cX10_qPartOf 126 = .ok (.getfield 121, 3) := dk_dX10_qPartOf_112_8.2.2.2.2.1
theorem dX10_qPartOf_129 : decode cX10_qPartOf 129 = .ok (.bipush 12, 2) := dk_dX10_qPartOf_112_8.2.2.2.2.2.1
theorem dX10_qPartOf_131 : decode cX10_qPartOf 131 = .ok (.iconst 2, 1) := dk_dX10_qPartOf_112_8.2.2.2.2.2.2.1
theorem dX10_qPartOf_132 : decode cX10_qPartOf 132 = .ok (.aload_n 0, 1) := dk_dX10_qPartOf_112_8.2.2.2.2.2.2.2.1
theorem dk_dX10_qPartOf_133 : dz_C cX10_qPartOf [(133, .iload_n 2, 1), (134, .invokevirtual 436, 3), (137, .imul, 1), (138, .iadd, 1), (139, .iaload, 1), (140, .i2l, 1), (141, .lreturn, 1), (142, .aload_n 0, 1), (143, .iload_n 2, 1), (144, .invokevirtual 481, 3), (147, .i2l, 1), (148, .lreturn, 1), (149, .aload_n 0, 1), (150, .aload_n 0, 1), (151, .iload_n 2, 1), (152, .invokevirtual 436, 3)] := dz_of (by decide +kernel)
theorem dX10_qPartOf_133 : decode cX10_qPartOf 133 = .ok (.iload_n 2, 1) := dk_dX10_qPartOf_133.1
theorem dX10_qPartOf_134 : decode cX10_qPartOf 134 = .ok (.invokevirtual 436, 3) := dk_dX10_qPartOf_133.2.1
theorem dX10_qPartOf_137 : decode cX10_qPartOf 137 = .ok (.imul, 1) := dk_dX10_qPartOf_133.2.2.1
theorem dX10_qPartOf_138 : decode cX10_qPartOf 138 = .ok (.iadd, 1) := dk_dX10_qPartOf_133.2.2.2.1
theorem dX10_qPartOf_139 : decode cX10_qPartOf 139 = .ok (.iaload, 1) := dk_dX10_qPartOf_133.2.2.2.2.1
theorem dX10_qPartOf_140 : decode cX10_qPartOf 140 = .ok (.i2l, 1) := dk_dX10_qPartOf_133.2.2.2.2.2.1
theorem dX10_qPartOf_141 : decode cX10_qPartOf 141 = .ok (.lreturn, 1) := dk_dX10_qPartOf_133.2.2.2.2.2.2.1
theorem dX10_qPartOf_142 : decode cX10_qPartOf 142 = .ok (.aload_n 0, 1) := dk_dX10_qPartOf_133.2.2.2.2.2.2.2.1
theorem dk_dX10_qPartOf_133_8 : dz_C cX10_qPartOf [(143, .iload_n 2, 1), (144, .invokevirtual 481, 3), (147, .i2l, 1), (148, .lreturn, 1), (149, .aload_n 0, 1), (150, .aload_n 0, 1), (151, .iload_n 2, 1), (152, .invokevirtual 436, 3)] := dk_dX10_qPartOf_133.2.2.2.2.2.2.2.2
theorem dX10_qPartOf_143 : decode cX10_qPartOf 143 = .ok (.iload_n 2, 1) := dk_dX10_qPartOf_133_8.1
theorem dX10_qPartOf_144 : decode cX10_qPartOf 144 = .ok (.invokevirtual 481, 3) := dk_dX10_qPartOf_133_8.2.1
theorem dX10_qPartOf_147 : decode cX10_qPartOf 147 = .ok (.i2l, 1) := dk_dX10_qPartOf_133_8.2.2.1
theorem dX10_qPartOf_148 : decode cX10_qPartOf 148 = .ok (.lreturn, 1) := dk_dX10_qPartOf_133_8.2.2.2.1
theorem dX10_qPartOf_149 : decode cX10_qPartOf 149 = .ok (.aload_n 0, 1) := dk_dX10_qPartOf_133_8.2.2.2.2.1
theorem dX10_qPartOf_150 : decode cX10_qPartOf 150 = .ok (.aload_n 0, 1) := dk_dX10_qPartOf_133_8.2.2.2.2.2.1
theorem dX10_qPartOf_151 : decode cX10_qPartOf 151 = .ok (.iload_n 2, 1) := dk_dX10_qPartOf_133_8.2.2.2.2.2.2.1
theorem dX10_qPartOf_152 : decode cX10_qPartOf 152 = .ok (.invokevirtual 436, 3) := dk_dX10_qPartOf_133_8.2.2.2.2.2.2.2.1
theorem dk_dX10_qPartOf_155 : dz_C cX10_qPartOf [(155, .invokevirtual 463, 3), (158, .i2l, 1), (159, .lreturn, 1), (160, .aload_n 0, 1), (161, .getfield 149, 3), (164, .aload_n 0, 1), (165, .getfield 454, 3), (168, .iaload, 1), (169, .i2l, 1), (170, .lreturn, 1), (171, .aload_n 0, 1), (172, .getfield 488, 3), (175, .i2l, 1), (176, .lreturn, 1), (177, .iload_n 2, 1), (178, .i2l, 1)] := dz_of (by decide +kernel)
theorem dX10_qPartOf_155 : decode cX10_qPartOf 155 = .ok (.invokevirtual 463, 3) := dk_dX10_qPartOf_155.1
theorem dX10_qPartOf_158 : decode cX10_qPartOf 158 = .ok (.i2l, 1) := dk_dX10_qPartOf_155.2.1
theorem dX10_qPartOf_159 : decode cX10_qPartOf 159 = .ok (.lreturn, 1) := dk_dX10_qPartOf_155.2.2.1
theorem dX10_qPartOf_160 : decode cX10_qPartOf 160 = .ok (.aload_n 0, 1) := dk_dX10_qPartOf_155.2.2.2.1
theorem dX10_qPartOf_161 : decode cX10_qPartOf 161 = .ok (.getfield 149, 3) := dk_dX10_qPartOf_155.2.2.2.2.1
theorem dX10_qPartOf_164 : decode cX10_qPartOf 164 = .ok (.aload_n 0, 1) := dk_dX10_qPartOf_155.2.2.2.2.2.1
theorem dX10_qPartOf_165 : decode cX10_qPartOf 165 = .ok (.getfield 454, 3) := dk_dX10_qPartOf_155.2.2.2.2.2.2.1
theorem dX10_qPartOf_168 : decode cX10_qPartOf 168 = .ok (.iaload, 1) := dk_dX10_qPartOf_155.2.2.2.2.2.2.2.1
theorem dk_dX10_qPartOf_155_8 : dz_C cX10_qPartOf [(169, .i2l, 1), (170, .lreturn, 1), (171, .aload_n 0, 1), (172, .getfield 488, 3), (175, .i2l, 1), (176, .lreturn, 1), (177, .iload_n 2, 1), (178, .i2l, 1)] := dk_dX10_qPartOf_155.2.2.2.2.2.2.2.2
theorem dX10_qPartOf_169 : decode cX10_qPartOf 169 = .ok (.i2l, 1) := dk_dX10_qPartOf_155_8.1
theorem dX10_qPartOf_170 : decode cX10_qPartOf 170 = .ok (.lreturn, 1) := dk_dX10_qPartOf_155_8.2.1
theorem dX10_qPartOf_171 : decode cX10_qPartOf 171 = .ok (.aload_n 0, 1) := dk_dX10_qPartOf_155_8.2.2.1
theorem dX10_qPartOf_172 : decode cX10_qPartOf 172 = .ok (.getfield 488, 3) := dk_dX10_qPartOf_155_8.2.2.2.1
theorem dX10_qPartOf_175 : decode cX10_qPartOf 175 = .ok (.i2l, 1) := dk_dX10_qPartOf_155_8.2.2.2.2.1
theorem dX10_qPartOf_176 : decode cX10_qPartOf 176 = .ok (.lreturn, 1) := dk_dX10_qPartOf_155_8.2.2.2.2.2.1
theorem dX10_qPartOf_177 : decode cX10_qPartOf 177 = .ok (.iload_n 2, 1) := dk_dX10_qPartOf_155_8.2.2.2.2.2.2.1
theorem dX10_qPartOf_178 : decode cX10_qPartOf 178 = .ok (.i2l, 1) := dk_dX10_qPartOf_155_8.2.2.2.2.2.2.2.1
theorem dk_dX10_qPartOf_179 : dz_C cX10_qPartOf [(179, .lreturn, 1), (180, .aload_n 0, 1), (181, .getfield 164, 3), (184, .iload_n 2, 1), (185, .baload, 1), (186, .ifCond .eq 7, 3), (189, .lconst 1, 1), (190, .goto 4, 3), (193, .lconst 0, 1), (194, .lreturn, 1), (195, .aload_n 0, 1), (196, .getfield 167, 3), (199, .iload_n 2, 1), (200, .baload, 1), (201, .ifCond .eq 7, 3), (204, .lconst 1, 1)] := dz_of (by decide +kernel)
theorem dX10_qPartOf_179 : decode cX10_qPartOf 179 = .ok (.lreturn, 1) := dk_dX10_qPartOf_179.1
theorem dX10_qPartOf_180 : decode cX10_qPartOf 180 = .ok (.aload_n 0, 1) := dk_dX10_qPartOf_179.2.1
theorem dX10_qPartOf_181 : decode cX10_qPartOf 181 = .ok (.getfield 164, 3) := dk_dX10_qPartOf_179.2.2.1
theorem dX10_qPartOf_184 : decode cX10_qPartOf 184 = .ok (.iload_n 2, 1) := dk_dX10_qPartOf_179.2.2.2.1
theorem dX10_qPartOf_185 : decode cX10_qPartOf 185 = .ok (.baload, 1) := dk_dX10_qPartOf_179.2.2.2.2.1
theorem dX10_qPartOf_186 : decode cX10_qPartOf 186 = .ok (.ifCond .eq 7, 3) := dk_dX10_qPartOf_179.2.2.2.2.2.1
theorem dX10_qPartOf_189 : decode cX10_qPartOf 189 = .ok (.lconst 1, 1) := dk_dX10_qPartOf_179.2.2.2.2.2.2.1
theorem dX10_qPartOf_190 : decode cX10_qPartOf 190 = .ok (.goto 4, 3) := dk_dX10_qPartOf_179.2.2.2.2.2.2.2.1
theorem dk_dX10_qPartOf_179_8 : dz_C cX10_qPartOf [(193, .lconst 0, 1), (194, .lreturn, 1), (195, .aload_n 0, 1), (196, .getfield 167, 3), (199, .iload_n 2, 1), (200, .baload, 1), (201, .ifCond .eq 7, 3), (204, .lconst 1, 1)] := dk_dX10_qPartOf_179.2.2.2.2.2.2.2.2
theorem dX10_qPartOf_193 : decode cX10_qPartOf 193 = .ok (.lconst 0, 1) := dk_dX10_qPartOf_179_8.1
theorem dX10_qPartOf_194 : decode cX10_qPartOf 194 = .ok (.lreturn, 1) := dk_dX10_qPartOf_179_8.2.1
theorem dX10_qPartOf_195 : decode cX10_qPartOf 195 = .ok (.aload_n 0, 1) := dk_dX10_qPartOf_179_8.2.2.1
theorem dX10_qPartOf_196 : decode cX10_qPartOf 196 = .ok (.getfield 167, 3) := dk_dX10_qPartOf_179_8.2.2.2.1
theorem dX10_qPartOf_199 : decode cX10_qPartOf 199 = .ok (.iload_n 2, 1) := dk_dX10_qPartOf_179_8.2.2.2.2.1
theorem dX10_qPartOf_200 : decode cX10_qPartOf 200 = .ok (.baload, 1) := dk_dX10_qPartOf_179_8.2.2.2.2.2.1
theorem dX10_qPartOf_201 : decode cX10_qPartOf 201 = .ok (.ifCond .eq 7, 3) := dk_dX10_qPartOf_179_8.2.2.2.2.2.2.1
theorem dX10_qPartOf_204 : decode cX10_qPartOf 204 = .ok (.lconst 1, 1) := dk_dX10_qPartOf_179_8.2.2.2.2.2.2.2.1
theorem dk_dX10_qPartOf_205 : dz_C cX10_qPartOf [(205, .goto 4, 3), (208, .lconst 0, 1), (209, .lreturn, 1)] := dz_of (by decide +kernel)
theorem dX10_qPartOf_205 : decode cX10_qPartOf 205 = .ok (.goto 4, 3) := dk_dX10_qPartOf_205.1
theorem dX10_qPartOf_208 : decode cX10_qPartOf 208 = .ok (.lconst 0, 1) := dk_dX10_qPartOf_205.2.1
theorem dX10_qPartOf_209 : decode cX10_qPartOf 209 = .ok (.lreturn, 1) := dk_dX10_qPartOf_205.2.2.1
theorem dk_dX10_qPartTold_0 : dz_C cX10_qPartTold [(0, .iconst 1, 1), (1, .istore_n 1, 1), (2, .iload_n 1, 1), (3, .ifCond .eq 183, 3), (6, .aload_n 0, 1), (7, .getfield 279, 3), (10, .ifCond .ne 176, 3), (13, .aload_n 0, 1), (14, .invokevirtual 291, 3), (17, .istore_n 2, 1), (18, .aload_n 0, 1), (19, .bipush 12, 2), (21, .bipush 13, 2), (23, .invokevirtual 623, 3), (26, .istore_n 3, 1), (27, .iload_n 2, 1)] := dz_of (by decide +kernel)
theorem dX10_qPartTold_0 : decode cX10_qPartTold 0 = .ok (.iconst 1, 1) := dk_dX10_qPartTold_0.1
theorem dX10_qPartTold_1 : decode cX10_qPartTold 1 = .ok (.istore_n 1, 1) := dk_dX10_qPartTold_0.2.1
theorem dX10_qPartTold_2 : decode cX10_qPartTold 2 = .ok (.iload_n 1, 1) := dk_dX10_qPartTold_0.2.2.1
theorem dX10_qPartTold_3 : decode cX10_qPartTold 3 = .ok (.ifCond .eq 183, 3) := dk_dX10_qPartTold_0.2.2.2.1
theorem dX10_qPartTold_6 : decode cX10_qPartTold 6 = .ok (.aload_n 0, 1) := dk_dX10_qPartTold_0.2.2.2.2.1
theorem dX10_qPartTold_7 : decode cX10_qPartTold 7 = .ok (.getfield 279, 3) := dk_dX10_qPartTold_0.2.2.2.2.2.1
theorem dX10_qPartTold_10 : decode cX10_qPartTold 10 = .ok (.ifCond .ne 176, 3) := dk_dX10_qPartTold_0.2.2.2.2.2.2.1
theorem dX10_qPartTold_13 : decode cX10_qPartTold 13 = .ok (.aload_n 0, 1) := dk_dX10_qPartTold_0.2.2.2.2.2.2.2.1
theorem dk_dX10_qPartTold_0_8 : dz_C cX10_qPartTold [(14, .invokevirtual 291, 3), (17, .istore_n 2, 1), (18, .aload_n 0, 1), (19, .bipush 12, 2), (21, .bipush 13, 2), (23, .invokevirtual 623, 3), (26, .istore_n 3, 1), (27, .iload_n 2, 1)] := dk_dX10_qPartTold_0.2.2.2.2.2.2.2.2
theorem dX10_qPartTold_14 : decode cX10_qPartTold 14 = .ok (.invokevirtual 291, 3) := dk_dX10_qPartTold_0_8.1
theorem dX10_qPartTold_17 : decode cX10_qPartTold 17 = .ok (.istore_n 2, 1) := dk_dX10_qPartTold_0_8.2.1
theorem dX10_qPartTold_18 : decode cX10_qPartTold 18 = .ok (.aload_n 0, 1) := dk_dX10_qPartTold_0_8.2.2.1
theorem dX10_qPartTold_19 : decode cX10_qPartTold 19 = .ok (.bipush 12, 2) := dk_dX10_qPartTold_0_8.2.2.2.1
theorem dX10_qPartTold_21 : decode cX10_qPartTold 21 = .ok (.bipush 13, 2) := dk_dX10_qPartTold_0_8.2.2.2.2.1
theorem dX10_qPartTold_23 : decode cX10_qPartTold 23 = .ok (.invokevirtual 623, 3) := dk_dX10_qPartTold_0_8.2.2.2.2.2.1
theorem dX10_qPartTold_26 : decode cX10_qPartTold 26 = .ok (.istore_n 3, 1) := dk_dX10_qPartTold_0_8.2.2.2.2.2.2.1
theorem dX10_qPartTold_27 : decode cX10_qPartTold 27 = .ok (.iload_n 2, 1) := dk_dX10_qPartTold_0_8.2.2.2.2.2.2.2.1
theorem dk_dX10_qPartTold_28 : dz_C cX10_qPartTold [(28, .bipush 40, 2), (30, .if_icmp .ne 26, 3), (33, .aload_n 0, 1), (34, .bipush 20, 2), (36, .aload_n 0, 1), (37, .getfield 285, 3), (40, .invokevirtual 626, 3), (43, .aload_n 0, 1), (44, .dup, 1), (45, .getfield 285, 3), (48, .iconst 1, 1), (49, .iadd, 1), (50, .putfield 285, 3), (53, .goto 130, 3), (56, .aload_n 0, 1), (57, .aload_n 0, 1)] := dz_of (by decide +kernel)
theorem dX10_qPartTold_28 : decode cX10_qPartTold 28 = .ok (.bipush 40, 2) := dk_dX10_qPartTold_28.1
theorem dX10_qPartTold_30 : decode cX10_qPartTold 30 = .ok (.if_icmp .ne 26, 3) := dk_dX10_qPartTold_28.2.1
theorem dX10_qPartTold_33 : decode cX10_qPartTold 33 = .ok (.aload_n 0, 1) := dk_dX10_qPartTold_28.2.2.1
theorem dX10_qPartTold_34 : decode cX10_qPartTold 34 = .ok (.bipush 20, 2) := dk_dX10_qPartTold_28.2.2.2.1
theorem dX10_qPartTold_36 : decode cX10_qPartTold 36 = .ok (.aload_n 0, 1) := dk_dX10_qPartTold_28.2.2.2.2.1
theorem dX10_qPartTold_37 : decode cX10_qPartTold 37 = .ok (.getfield 285, 3) := dk_dX10_qPartTold_28.2.2.2.2.2.1
theorem dX10_qPartTold_40 : decode cX10_qPartTold 40 = .ok (.invokevirtual 626, 3) := dk_dX10_qPartTold_28.2.2.2.2.2.2.1
theorem dX10_qPartTold_43 : decode cX10_qPartTold 43 = .ok (.aload_n 0, 1) := dk_dX10_qPartTold_28.2.2.2.2.2.2.2.1
theorem dk_dX10_qPartTold_28_8 : dz_C cX10_qPartTold [(44, .dup, 1), (45, .getfield 285, 3), (48, .iconst 1, 1), (49, .iadd, 1), (50, .putfield 285, 3), (53, .goto 130, 3), (56, .aload_n 0, 1), (57, .aload_n 0, 1)] := dk_dX10_qPartTold_28.2.2.2.2.2.2.2.2
theorem dX10_qPartTold_44 : decode cX10_qPartTold 44 = .ok (.dup, 1) := dk_dX10_qPartTold_28_8.1
theorem dX10_qPartTold_45 : decode cX10_qPartTold 45 = .ok (.getfield 285, 3) := dk_dX10_qPartTold_28_8.2.1
theorem dX10_qPartTold_48 : decode cX10_qPartTold 48 = .ok (.iconst 1, 1) := dk_dX10_qPartTold_28_8.2.2.1
theorem dX10_qPartTold_49 : decode cX10_qPartTold 49 = .ok (.iadd, 1) := dk_dX10_qPartTold_28_8.2.2.2.1
theorem dX10_qPartTold_50 : decode cX10_qPartTold 50 = .ok (.putfield 285, 3) := dk_dX10_qPartTold_28_8.2.2.2.2.1
theorem dX10_qPartTold_53 : decode cX10_qPartTold 53 = .ok (.goto 130, 3) := dk_dX10_qPartTold_28_8.2.2.2.2.2.1
theorem dX10_qPartTold_56 : decode cX10_qPartTold 56 = .ok (.aload_n 0, 1) := dk_dX10_qPartTold_28_8.2.2.2.2.2.2.1
theorem dX10_qPartTold_57 : decode cX10_qPartTold 57 = .ok (.aload_n 0, 1) := dk_dX10_qPartTold_28_8.2.2.2.2.2.2.2.1
theorem dk_dX10_qPartTold_58 : dz_C cX10_qPartTold [(58, .getfield 219, 3), (61, .invokevirtual 302, 3), (64, .ifCond .ne 14, 3), (67, .aload_n 0, 1), (68, .aload_n 0, 1), (69, .getfield 222, 3), (72, .invokevirtual 302, 3), (75, .ifCond .eq 78, 3), (78, .aload_n 0, 1), (79, .aload_n 0, 1), (80, .getfield 219, 3), (83, .invokevirtual 305, 3), (86, .istore 4, 2), (88, .iload 4, 2), (90, .ifCond .ne 11, 3), (93, .aload_n 0, 1)] := dz_of (by decide +kernel)
theorem dX10_qPartTold_58 : decode cX10_qPartTold 58 = .ok (.getfield 219, 3) := dk_dX10_qPartTold_58.1
theorem dX10_qPartTold_61 : decode cX10_qPartTold 61 = .ok (.invokevirtual 302, 3) := dk_dX10_qPartTold_58.2.1
theorem dX10_qPartTold_64 : decode cX10_qPartTold 64 = .ok (.ifCond .ne 14, 3) := dk_dX10_qPartTold_58.2.2.1
theorem dX10_qPartTold_67 : decode cX10_qPartTold 67 = .ok (.aload_n 0, 1) := dk_dX10_qPartTold_58.2.2.2.1
theorem dX10_qPartTold_68 : decode cX10_qPartTold 68 = .ok (.aload_n 0, 1) := dk_dX10_qPartTold_58.2.2.2.2.1
theorem dX10_qPartTold_69 : decode cX10_qPartTold 69 = .ok (.getfield 222, 3) := dk_dX10_qPartTold_58.2.2.2.2.2.1
theorem dX10_qPartTold_72 : decode cX10_qPartTold 72 = .ok (.invokevirtual 302, 3) := dk_dX10_qPartTold_58.2.2.2.2.2.2.1
theorem dX10_qPartTold_75 : decode cX10_qPartTold 75 = .ok (.ifCond .eq 78, 3) := dk_dX10_qPartTold_58.2.2.2.2.2.2.2.1
theorem dk_dX10_qPartTold_58_8 : dz_C cX10_qPartTold [(78, .aload_n 0, 1), (79, .aload_n 0, 1), (80, .getfield 219, 3), (83, .invokevirtual 305, 3), (86, .istore 4, 2), (88, .iload 4, 2), (90, .ifCond .ne 11, 3), (93, .aload_n 0, 1)] := dk_dX10_qPartTold_58.2.2.2.2.2.2.2.2
theorem dX10_qPartTold_78 : decode cX10_qPartTold 78 = .ok (.aload_n 0, 1) := dk_dX10_qPartTold_58_8.1
theorem dX10_qPartTold_79 : decode cX10_qPartTold 79 = .ok (.aload_n 0, 1) := dk_dX10_qPartTold_58_8.2.1
theorem dX10_qPartTold_80 : decode cX10_qPartTold 80 = .ok (.getfield 219, 3) := dk_dX10_qPartTold_58_8.2.2.1
theorem dX10_qPartTold_83 : decode cX10_qPartTold 83 = .ok (.invokevirtual 305, 3) := dk_dX10_qPartTold_58_8.2.2.2.1
theorem dX10_qPartTold_86 : decode cX10_qPartTold 86 = .ok (.istore 4, 2) := dk_dX10_qPartTold_58_8.2.2.2.2.1
theorem dX10_qPartTold_88 : decode cX10_qPartTold 88 = .ok (.iload 4, 2) := dk_dX10_qPartTold_58_8.2.2.2.2.2.1
theorem dX10_qPartTold_90 : decode cX10_qPartTold 90 = .ok (.ifCond .ne 11, 3) := dk_dX10_qPartTold_58_8.2.2.2.2.2.2.1
theorem dX10_qPartTold_93 : decode cX10_qPartTold 93 = .ok (.aload_n 0, 1) := dk_dX10_qPartTold_58_8.2.2.2.2.2.2.2.1
theorem dk_dX10_qPartTold_94 : dz_C cX10_qPartTold [(94, .aload_n 0, 1), (95, .getfield 222, 3), (98, .invokevirtual 350, 3), (101, .aload_n 0, 1), (102, .invokevirtual 291, 3), (105, .bipush 40, 2), (107, .if_icmp .ne 10, 3), (110, .aload_n 0, 1), (111, .getfield 285, 3), (114, .goto 4, 3), (117, .iconst (-1), 1), (118, .istore 5, 2), (120, .iload 5, 2), (122, .iconst (-1), 1), (123, .if_icmp .eq 21, 3), (126, .aload_n 0, 1)] := dz_of (by decide +kernel)
theorem dX10_qPartTold_94 : decode cX10_qPartTold 94 = .ok (.aload_n 0, 1) := dk_dX10_qPartTold_94.1
theorem dX10_qPartTold_95 : decode cX10_qPartTold 95 = .ok (.getfield 222, 3) := dk_dX10_qPartTold_94.2.1
theorem dX10_qPartTold_98 : decode cX10_qPartTold 98 = .ok (.invokevirtual 350, 3) := dk_dX10_qPartTold_94.2.2.1
theorem dX10_qPartTold_101 : decode cX10_qPartTold 101 = .ok (.aload_n 0, 1) := dk_dX10_qPartTold_94.2.2.2.1
theorem dX10_qPartTold_102 : decode cX10_qPartTold 102 = .ok (.invokevirtual 291, 3) := dk_dX10_qPartTold_94.2.2.2.2.1
theorem dX10_qPartTold_105 : decode cX10_qPartTold 105 = .ok (.bipush 40, 2) := dk_dX10_qPartTold_94.2.2.2.2.2.1
theorem dX10_qPartTold_107 : decode cX10_qPartTold 107 = .ok (.if_icmp .ne 10, 3) := dk_dX10_qPartTold_94.2.2.2.2.2.2.1
theorem dX10_qPartTold_110 : decode cX10_qPartTold 110 = .ok (.aload_n 0, 1) := dk_dX10_qPartTold_94.2.2.2.2.2.2.2.1
theorem dk_dX10_qPartTold_94_8 : dz_C cX10_qPartTold [(111, .getfield 285, 3), (114, .goto 4, 3), (117, .iconst (-1), 1), (118, .istore 5, 2), (120, .iload 5, 2), (122, .iconst (-1), 1), (123, .if_icmp .eq 21, 3), (126, .aload_n 0, 1)] := dk_dX10_qPartTold_94.2.2.2.2.2.2.2.2
theorem dX10_qPartTold_111 : decode cX10_qPartTold 111 = .ok (.getfield 285, 3) := dk_dX10_qPartTold_94_8.1
theorem dX10_qPartTold_114 : decode cX10_qPartTold 114 = .ok (.goto 4, 3) := dk_dX10_qPartTold_94_8.2.1
theorem dX10_qPartTold_117 : decode cX10_qPartTold 117 = .ok (.iconst (-1), 1) := dk_dX10_qPartTold_94_8.2.2.1
theorem dX10_qPartTold_118 : decode cX10_qPartTold 118 = .ok (.istore 5, 2) := dk_dX10_qPartTold_94_8.2.2.2.1
theorem dX10_qPartTold_120 : decode cX10_qPartTold 120 = .ok (.iload 5, 2) := dk_dX10_qPartTold_94_8.2.2.2.2.1
theorem dX10_qPartTold_122 : decode cX10_qPartTold 122 = .ok (.iconst (-1), 1) := dk_dX10_qPartTold_94_8.2.2.2.2.2.1
theorem dX10_qPartTold_123 : decode cX10_qPartTold 123 = .ok (.if_icmp .eq 21, 3) := dk_dX10_qPartTold_94_8.2.2.2.2.2.2.1
theorem dX10_qPartTold_126 : decode cX10_qPartTold 126 = .ok (.aload_n 0, 1) := dk_dX10_qPartTold_94_8.2.2.2.2.2.2.2.1
theorem dk_dX10_qPartTold_127 : dz_C cX10_qPartTold [(127, .iload 4, 2), (129, .ifCond .eq 8, 3), (132, .bipush 21, 2), (134, .goto 5, 3), (137, .bipush 22, 2), (139, .iload 5, 2), (141, .invokevirtual 626, 3), (144, .aload_n 0, 1), (145, .bipush 40, 2), (147, .invokevirtual 358, 3), (150, .goto 33, 3), (153, .iload_n 3, 1), (154, .iconst (-1), 1), (155, .if_icmp .eq 26, 3), (158, .aload_n 0, 1), (159, .bipush 60, 2)] := dz_of (by decide +kernel)
theorem dX10_qPartTold_127 : decode cX10_qPartTold 127 = .ok (.iload 4, 2) := dk_dX10_qPartTold_127.1
theorem dX10_qPartTold_129 : decode cX10_qPartTold 129 = .ok (.ifCond .eq 8, 3) := dk_dX10_qPartTold_127.2.1
theorem dX10_qPartTold_132 : decode cX10_qPartTold 132 = .ok (.bipush 21, 2) := dk_dX10_qPartTold_127.2.2.1
theorem dX10_qPartTold_134 : decode cX10_qPartTold 134 = .ok (.goto 5, 3) := dk_dX10_qPartTold_127.2.2.2.1
theorem dX10_qPartTold_137 : decode cX10_qPartTold 137 = .ok (.bipush 22, 2) := dk_dX10_qPartTold_127.2.2.2.2.1
theorem dX10_qPartTold_139 : decode cX10_qPartTold 139 = .ok (.iload 5, 2) := dk_dX10_qPartTold_127.2.2.2.2.2.1
theorem dX10_qPartTold_141 : decode cX10_qPartTold 141 = .ok (.invokevirtual 626, 3) := dk_dX10_qPartTold_127.2.2.2.2.2.2.1
theorem dX10_qPartTold_144 : decode cX10_qPartTold 144 = .ok (.aload_n 0, 1) := dk_dX10_qPartTold_127.2.2.2.2.2.2.2.1
theorem dk_dX10_qPartTold_127_8 : dz_C cX10_qPartTold [(145, .bipush 40, 2), (147, .invokevirtual 358, 3), (150, .goto 33, 3), (153, .iload_n 3, 1), (154, .iconst (-1), 1), (155, .if_icmp .eq 26, 3), (158, .aload_n 0, 1), (159, .bipush 60, 2)] := dk_dX10_qPartTold_127.2.2.2.2.2.2.2.2
theorem dX10_qPartTold_145 : decode cX10_qPartTold 145 = .ok (.bipush 40, 2) := dk_dX10_qPartTold_127_8.1
theorem dX10_qPartTold_147 : decode cX10_qPartTold 147 = .ok (.invokevirtual 358, 3) := dk_dX10_qPartTold_127_8.2.1
theorem dX10_qPartTold_150 : decode cX10_qPartTold 150 = .ok (.goto 33, 3) := dk_dX10_qPartTold_127_8.2.2.1
theorem dX10_qPartTold_153 : decode cX10_qPartTold 153 = .ok (.iload_n 3, 1) := dk_dX10_qPartTold_127_8.2.2.2.1
theorem dX10_qPartTold_154 : decode cX10_qPartTold 154 = .ok (.iconst (-1), 1) := dk_dX10_qPartTold_127_8.2.2.2.2.1
theorem dX10_qPartTold_155 : decode cX10_qPartTold 155 = .ok (.if_icmp .eq 26, 3) := dk_dX10_qPartTold_127_8.2.2.2.2.2.1
theorem dX10_qPartTold_158 : decode cX10_qPartTold 158 = .ok (.aload_n 0, 1) := dk_dX10_qPartTold_127_8.2.2.2.2.2.2.1
theorem dX10_qPartTold_159 : decode cX10_qPartTold 159 = .ok (.bipush 60, 2) := dk_dX10_qPartTold_127_8.2.2.2.2.2.2.2.1
theorem dk_dX10_qPartTold_161 : dz_C cX10_qPartTold [(161, .iload_n 3, 1), (162, .iadd, 1), (163, .bipush 12, 2), (165, .isub, 1), (166, .aload_n 0, 1), (167, .getfield 285, 3), (170, .invokevirtual 626, 3), (173, .aload_n 0, 1), (174, .iload_n 3, 1), (175, .invokevirtual 629, 3), (178, .goto 5, 3), (181, .iconst 0, 1), (182, .istore_n 1, 1), (183, .goto (-181), 3), (186, .aload_n 0, 1), (187, .getfield 279, 3)] := dz_of (by decide +kernel)
theorem dX10_qPartTold_161 : decode cX10_qPartTold 161 = .ok (.iload_n 3, 1) := dk_dX10_qPartTold_161.1
theorem dX10_qPartTold_162 : decode cX10_qPartTold 162 = .ok (.iadd, 1) := dk_dX10_qPartTold_161.2.1
theorem dX10_qPartTold_163 : decode cX10_qPartTold 163 = .ok (.bipush 12, 2) := dk_dX10_qPartTold_161.2.2.1
theorem dX10_qPartTold_165 : decode cX10_qPartTold 165 = .ok (.isub, 1) := dk_dX10_qPartTold_161.2.2.2.1
theorem dX10_qPartTold_166 : decode cX10_qPartTold 166 = .ok (.aload_n 0, 1) := dk_dX10_qPartTold_161.2.2.2.2.1
theorem dX10_qPartTold_167 : decode cX10_qPartTold 167 = .ok (.getfield 285, 3) := dk_dX10_qPartTold_161.2.2.2.2.2.1
theorem dX10_qPartTold_170 : decode cX10_qPartTold 170 = .ok (.invokevirtual 626, 3) := dk_dX10_qPartTold_161.2.2.2.2.2.2.1
theorem dX10_qPartTold_173 : decode cX10_qPartTold 173 = .ok (.aload_n 0, 1) := dk_dX10_qPartTold_161.2.2.2.2.2.2.2.1
theorem dk_dX10_qPartTold_161_8 : dz_C cX10_qPartTold [(174, .iload_n 3, 1), (175, .invokevirtual 629, 3), (178, .goto 5, 3), (181, .iconst 0, 1), (182, .istore_n 1, 1), (183, .goto (-181), 3), (186, .aload_n 0, 1), (187, .getfield 279, 3)] := dk_dX10_qPartTold_161.2.2.2.2.2.2.2.2
theorem dX10_qPartTold_174 : decode cX10_qPartTold 174 = .ok (.iload_n 3, 1) := dk_dX10_qPartTold_161_8.1
theorem dX10_qPartTold_175 : decode cX10_qPartTold 175 = .ok (.invokevirtual 629, 3) := dk_dX10_qPartTold_161_8.2.1
theorem dX10_qPartTold_178 : decode cX10_qPartTold 178 = .ok (.goto 5, 3) := dk_dX10_qPartTold_161_8.2.2.1
theorem dX10_qPartTold_181 : decode cX10_qPartTold 181 = .ok (.iconst 0, 1) := dk_dX10_qPartTold_161_8.2.2.2.1
theorem dX10_qPartTold_182 : decode cX10_qPartTold 182 = .ok (.istore_n 1, 1) := dk_dX10_qPartTold_161_8.2.2.2.2.1
theorem dX10_qPartTold_183 : decode cX10_qPartTold 183 = .ok (.goto (-181), 3) := dk_dX10_qPartTold_161_8.2.2.2.2.2.1
theorem dX10_qPartTold_186 : decode cX10_qPartTold 186 = .ok (.aload_n 0, 1) := dk_dX10_qPartTold_161_8.2.2.2.2.2.2.1
theorem dX10_qPartTold_187 : decode cX10_qPartTold 187 = .ok (.getfield 279, 3) := dk_dX10_qPartTold_161_8.2.2.2.2.2.2.2.1
theorem dk_dX10_qPartTold_190 : dz_C cX10_qPartTold [(190, .ifCond .eq 4, 3), (193, .return_, 1), (194, .aload_n 0, 1), (195, .iconst 0, 1), (196, .bipush 12, 2), (198, .invokevirtual 623, 3), (201, .istore_n 2, 1), (202, .iload_n 2, 1), (203, .iconst (-1), 1), (204, .if_icmp .eq 8, 3), (207, .aload_n 0, 1), (208, .iload_n 2, 1), (209, .invokevirtual 629, 3), (212, .aload_n 0, 1), (213, .iload_n 2, 1), (214, .iconst (-1), 1)] := dz_of (by decide +kernel)
theorem dX10_qPartTold_190 : decode cX10_qPartTold 190 = .ok (.ifCond .eq 4, 3) := dk_dX10_qPartTold_190.1
theorem dX10_qPartTold_193 : decode cX10_qPartTold 193 = .ok (.return_, 1) := dk_dX10_qPartTold_190.2.1
theorem dX10_qPartTold_194 : decode cX10_qPartTold 194 = .ok (.aload_n 0, 1) := dk_dX10_qPartTold_190.2.2.1
theorem dX10_qPartTold_195 : decode cX10_qPartTold 195 = .ok (.iconst 0, 1) := dk_dX10_qPartTold_190.2.2.2.1
theorem dX10_qPartTold_196 : decode cX10_qPartTold 196 = .ok (.bipush 12, 2) := dk_dX10_qPartTold_190.2.2.2.2.1
theorem dX10_qPartTold_198 : decode cX10_qPartTold 198 = .ok (.invokevirtual 623, 3) := dk_dX10_qPartTold_190.2.2.2.2.2.1
theorem dX10_qPartTold_201 : decode cX10_qPartTold 201 = .ok (.istore_n 2, 1) := dk_dX10_qPartTold_190.2.2.2.2.2.2.1
theorem dX10_qPartTold_202 : decode cX10_qPartTold 202 = .ok (.iload_n 2, 1) := dk_dX10_qPartTold_190.2.2.2.2.2.2.2.1
theorem dk_dX10_qPartTold_190_8 : dz_C cX10_qPartTold [(203, .iconst (-1), 1), (204, .if_icmp .eq 8, 3), (207, .aload_n 0, 1), (208, .iload_n 2, 1), (209, .invokevirtual 629, 3), (212, .aload_n 0, 1), (213, .iload_n 2, 1), (214, .iconst (-1), 1)] := dk_dX10_qPartTold_190.2.2.2.2.2.2.2.2
theorem dX10_qPartTold_203 : decode cX10_qPartTold 203 = .ok (.iconst (-1), 1) := dk_dX10_qPartTold_190_8.1
theorem dX10_qPartTold_204 : decode cX10_qPartTold 204 = .ok (.if_icmp .eq 8, 3) := dk_dX10_qPartTold_190_8.2.1
theorem dX10_qPartTold_207 : decode cX10_qPartTold 207 = .ok (.aload_n 0, 1) := dk_dX10_qPartTold_190_8.2.2.1
theorem dX10_qPartTold_208 : decode cX10_qPartTold 208 = .ok (.iload_n 2, 1) := dk_dX10_qPartTold_190_8.2.2.2.1
theorem dX10_qPartTold_209 : decode cX10_qPartTold 209 = .ok (.invokevirtual 629, 3) := dk_dX10_qPartTold_190_8.2.2.2.2.1
theorem dX10_qPartTold_212 : decode cX10_qPartTold 212 = .ok (.aload_n 0, 1) := dk_dX10_qPartTold_190_8.2.2.2.2.2.1
theorem dX10_qPartTold_213 : decode cX10_qPartTold 213 = .ok (.iload_n 2, 1) := dk_dX10_qPartTold_190_8.2.2.2.2.2.2.1
theorem dX10_qPartTold_214 : decode cX10_qPartTold 214 = .ok (.iconst (-1), 1) := dk_dX10_qPartTold_190_8.2.2.2.2.2.2.2.1
theorem dk_dX10_qPartTold_215 : dz_C cX10_qPartTold [(215, .if_icmp .eq 10, 3), (218, .bipush 40, 2), (220, .iload_n 2, 1), (221, .iadd, 1), (222, .goto 15, 3), (225, .sipush 1000, 3), (228, .aload_n 0, 1), (229, .iconst 0, 1), (230, .sipush 9999, 3), (233, .invokevirtual 354, 3), (236, .iadd, 1), (237, .invokevirtual 608, 3), (240, .aload_n 0, 1), (241, .invokevirtual 632, 3), (244, .return_, 1)] := dz_of (by decide +kernel)
theorem dX10_qPartTold_215 : decode cX10_qPartTold 215 = .ok (.if_icmp .eq 10, 3) := dk_dX10_qPartTold_215.1
theorem dX10_qPartTold_218 : decode cX10_qPartTold 218 = .ok (.bipush 40, 2) := dk_dX10_qPartTold_215.2.1
theorem dX10_qPartTold_220 : decode cX10_qPartTold 220 = .ok (.iload_n 2, 1) := dk_dX10_qPartTold_215.2.2.1
theorem dX10_qPartTold_221 : decode cX10_qPartTold 221 = .ok (.iadd, 1) := dk_dX10_qPartTold_215.2.2.2.1
theorem dX10_qPartTold_222 : decode cX10_qPartTold 222 = .ok (.goto 15, 3) := dk_dX10_qPartTold_215.2.2.2.2.1
theorem dX10_qPartTold_225 : decode cX10_qPartTold 225 = .ok (.sipush 1000, 3) := dk_dX10_qPartTold_215.2.2.2.2.2.1
theorem dX10_qPartTold_228 : decode cX10_qPartTold 228 = .ok (.aload_n 0, 1) := dk_dX10_qPartTold_215.2.2.2.2.2.2.1
theorem dX10_qPartTold_229 : decode cX10_qPartTold 229 = .ok (.iconst 0, 1) := dk_dX10_qPartTold_215.2.2.2.2.2.2.2.1
theorem dk_dX10_qPartTold_215_8 : dz_C cX10_qPartTold [(230, .sipush 9999, 3), (233, .invokevirtual 354, 3), (236, .iadd, 1), (237, .invokevirtual 608, 3), (240, .aload_n 0, 1), (241, .invokevirtual 632, 3), (244, .return_, 1)] := dk_dX10_qPartTold_215.2.2.2.2.2.2.2.2
theorem dX10_qPartTold_230 : decode cX10_qPartTold 230 = .ok (.sipush 9999, 3) := dk_dX10_qPartTold_215_8.1
theorem dX10_qPartTold_233 : decode cX10_qPartTold 233 = .ok (.invokevirtual 354, 3) := dk_dX10_qPartTold_215_8.2.1
theorem dX10_qPartTold_236 : decode cX10_qPartTold 236 = .ok (.iadd, 1) := dk_dX10_qPartTold_215_8.2.2.1
theorem dX10_qPartTold_237 : decode cX10_qPartTold 237 = .ok (.invokevirtual 608, 3) := dk_dX10_qPartTold_215_8.2.2.2.1
theorem dX10_qPartTold_240 : decode cX10_qPartTold 240 = .ok (.aload_n 0, 1) := dk_dX10_qPartTold_215_8.2.2.2.2.1
theorem dX10_qPartTold_241 : decode cX10_qPartTold 241 = .ok (.invokevirtual 632, 3) := dk_dX10_qPartTold_215_8.2.2.2.2.2.1
theorem dX10_qPartTold_244 : decode cX10_qPartTold 244 = .ok (.return_, 1) := dk_dX10_qPartTold_215_8.2.2.2.2.2.2.1
theorem dk_dX10_qPuts_0 : dz_C cX10_qPuts [(0, .aload_n 0, 1), (1, .getfield 270, 3), (4, .aload_n 0, 1), (5, .getfield 440, 3), (8, .lload_n 1, 1), (9, .lastore, 1), (10, .aload_n 0, 1), (11, .dup, 1), (12, .getfield 440, 3), (15, .iconst 1, 1), (16, .iadd, 1), (17, .putfield 440, 3), (20, .return_, 1)] := dz_of (by decide +kernel)
theorem dX10_qPuts_0 : decode cX10_qPuts 0 = .ok (.aload_n 0, 1) := dk_dX10_qPuts_0.1
theorem dX10_qPuts_1 : decode cX10_qPuts 1 = .ok (.getfield 270, 3) := dk_dX10_qPuts_0.2.1
theorem dX10_qPuts_4 : decode cX10_qPuts 4 = .ok (.aload_n 0, 1) := dk_dX10_qPuts_0.2.2.1
theorem dX10_qPuts_5 : decode cX10_qPuts 5 = .ok (.getfield 440, 3) := dk_dX10_qPuts_0.2.2.2.1
theorem dX10_qPuts_8 : decode cX10_qPuts 8 = .ok (.lload_n 1, 1) := dk_dX10_qPuts_0.2.2.2.2.1
theorem dX10_qPuts_9 : decode cX10_qPuts 9 = .ok (.lastore, 1) := dk_dX10_qPuts_0.2.2.2.2.2.1
theorem dX10_qPuts_10 : decode cX10_qPuts 10 = .ok (.aload_n 0, 1) := dk_dX10_qPuts_0.2.2.2.2.2.2.1
theorem dX10_qPuts_11 : decode cX10_qPuts 11 = .ok (.dup, 1) := dk_dX10_qPuts_0.2.2.2.2.2.2.2.1
theorem dk_dX10_qPuts_0_8 : dz_C cX10_qPuts [(12, .getfield 440, 3), (15, .iconst 1, 1), (16, .iadd, 1), (17, .putfield 440, 3), (20, .return_, 1)] := dk_dX10_qPuts_0.2.2.2.2.2.2.2.2
theorem dX10_qPuts_12 : decode cX10_qPuts 12 = .ok (.getfield 440, 3) := dk_dX10_qPuts_0_8.1
theorem dX10_qPuts_15 : decode cX10_qPuts 15 = .ok (.iconst 1, 1) := dk_dX10_qPuts_0_8.2.1
theorem dX10_qPuts_16 : decode cX10_qPuts 16 = .ok (.iadd, 1) := dk_dX10_qPuts_0_8.2.2.1
theorem dX10_qPuts_17 : decode cX10_qPuts 17 = .ok (.putfield 440, 3) := dk_dX10_qPuts_0_8.2.2.2.1
theorem dX10_qPuts_20 : decode cX10_qPuts 20 = .ok (.return_, 1) := dk_dX10_qPuts_0_8.2.2.2.2.1
theorem dk_dX10_qSums_0 : dz_C cX10_qSums [(0, .aload_n 0, 1), (1, .getfield 378, 3), (4, .istore_n 1, 1), (5, .aload_n 0, 1), (6, .aload_n 0, 1), (7, .getfield 372, 3), (10, .putfield 378, 3), (13, .iconst 1, 1), (14, .istore_n 2, 1), (15, .iload_n 2, 1), (16, .ifCond .eq 37, 3), (19, .aload_n 0, 1), (20, .getfield 279, 3), (23, .ifCond .ne 30, 3), (26, .aload_n 0, 1), (27, .invokevirtual 644, 3)] := dz_of (by decide +kernel)
theorem dX10_qSums_0 : decode cX10_qSums 0 = .ok (.aload_n 0, 1) := dk_dX10_qSums_0.1
theorem dX10_qSums_1 : decode cX10_qSums 1 = .ok (.getfield 378, 3) := dk_dX10_qSums_0.2.1
theorem dX10_qSums_4 : decode cX10_qSums 4 = .ok (.istore_n 1, 1) := dk_dX10_qSums_0.2.2.1
theorem dX10_qSums_5 : decode cX10_qSums 5 = .ok (.aload_n 0, 1) := dk_dX10_qSums_0.2.2.2.1
theorem dX10_qSums_6 : decode cX10_qSums 6 = .ok (.aload_n 0, 1) := dk_dX10_qSums_0.2.2.2.2.1
theorem dX10_qSums_7 : decode cX10_qSums 7 = .ok (.getfield 372, 3) := dk_dX10_qSums_0.2.2.2.2.2.1
theorem dX10_qSums_10 : decode cX10_qSums 10 = .ok (.putfield 378, 3) := dk_dX10_qSums_0.2.2.2.2.2.2.1
theorem dX10_qSums_13 : decode cX10_qSums 13 = .ok (.iconst 1, 1) := dk_dX10_qSums_0.2.2.2.2.2.2.2.1
theorem dk_dX10_qSums_0_8 : dz_C cX10_qSums [(14, .istore_n 2, 1), (15, .iload_n 2, 1), (16, .ifCond .eq 37, 3), (19, .aload_n 0, 1), (20, .getfield 279, 3), (23, .ifCond .ne 30, 3), (26, .aload_n 0, 1), (27, .invokevirtual 644, 3)] := dk_dX10_qSums_0.2.2.2.2.2.2.2.2
theorem dX10_qSums_14 : decode cX10_qSums 14 = .ok (.istore_n 2, 1) := dk_dX10_qSums_0_8.1
theorem dX10_qSums_15 : decode cX10_qSums 15 = .ok (.iload_n 2, 1) := dk_dX10_qSums_0_8.2.1
theorem dX10_qSums_16 : decode cX10_qSums 16 = .ok (.ifCond .eq 37, 3) := dk_dX10_qSums_0_8.2.2.1
theorem dX10_qSums_19 : decode cX10_qSums 19 = .ok (.aload_n 0, 1) := dk_dX10_qSums_0_8.2.2.2.1
theorem dX10_qSums_20 : decode cX10_qSums 20 = .ok (.getfield 279, 3) := dk_dX10_qSums_0_8.2.2.2.2.1
theorem dX10_qSums_23 : decode cX10_qSums 23 = .ok (.ifCond .ne 30, 3) := dk_dX10_qSums_0_8.2.2.2.2.2.1
theorem dX10_qSums_26 : decode cX10_qSums 26 = .ok (.aload_n 0, 1) := dk_dX10_qSums_0_8.2.2.2.2.2.2.1
theorem dX10_qSums_27 : decode cX10_qSums 27 = .ok (.invokevirtual 644, 3) := dk_dX10_qSums_0_8.2.2.2.2.2.2.2.1
theorem dk_dX10_qSums_30 : dz_C cX10_qSums [(30, .aload_n 0, 1), (31, .getfield 279, 3), (34, .ifCond .ne 14, 3), (37, .aload_n 0, 1), (38, .invokevirtual 647, 3), (41, .ifCond .eq 7, 3), (44, .iconst 1, 1), (45, .goto 4, 3), (48, .iconst 0, 1), (49, .istore_n 2, 1), (50, .goto (-35), 3), (53, .aload_n 0, 1), (54, .getfield 279, 3), (57, .ifCond .ne 21, 3), (60, .aload_n 0, 1), (61, .getfield 372, 3)] := dz_of (by decide +kernel)
theorem dX10_qSums_30 : decode cX10_qSums 30 = .ok (.aload_n 0, 1) := dk_dX10_qSums_30.1
theorem dX10_qSums_31 : decode cX10_qSums 31 = .ok (.getfield 279, 3) := dk_dX10_qSums_30.2.1
theorem dX10_qSums_34 : decode cX10_qSums 34 = .ok (.ifCond .ne 14, 3) := dk_dX10_qSums_30.2.2.1
theorem dX10_qSums_37 : decode cX10_qSums 37 = .ok (.aload_n 0, 1) := dk_dX10_qSums_30.2.2.2.1
theorem dX10_qSums_38 : decode cX10_qSums 38 = .ok (.invokevirtual 647, 3) := dk_dX10_qSums_30.2.2.2.2.1
theorem dX10_qSums_41 : decode cX10_qSums 41 = .ok (.ifCond .eq 7, 3) := dk_dX10_qSums_30.2.2.2.2.2.1
theorem dX10_qSums_44 : decode cX10_qSums 44 = .ok (.iconst 1, 1) := dk_dX10_qSums_30.2.2.2.2.2.2.1
theorem dX10_qSums_45 : decode cX10_qSums 45 = .ok (.goto 4, 3) := dk_dX10_qSums_30.2.2.2.2.2.2.2.1
theorem dk_dX10_qSums_30_8 : dz_C cX10_qSums [(48, .iconst 0, 1), (49, .istore_n 2, 1), (50, .goto (-35), 3), (53, .aload_n 0, 1), (54, .getfield 279, 3), (57, .ifCond .ne 21, 3), (60, .aload_n 0, 1), (61, .getfield 372, 3)] := dk_dX10_qSums_30.2.2.2.2.2.2.2.2
theorem dX10_qSums_48 : decode cX10_qSums 48 = .ok (.iconst 0, 1) := dk_dX10_qSums_30_8.1
theorem dX10_qSums_49 : decode cX10_qSums 49 = .ok (.istore_n 2, 1) := dk_dX10_qSums_30_8.2.1
theorem dX10_qSums_50 : decode cX10_qSums 50 = .ok (.goto (-35), 3) := dk_dX10_qSums_30_8.2.2.1
theorem dX10_qSums_53 : decode cX10_qSums 53 = .ok (.aload_n 0, 1) := dk_dX10_qSums_30_8.2.2.2.1
theorem dX10_qSums_54 : decode cX10_qSums 54 = .ok (.getfield 279, 3) := dk_dX10_qSums_30_8.2.2.2.2.1
theorem dX10_qSums_57 : decode cX10_qSums 57 = .ok (.ifCond .ne 21, 3) := dk_dX10_qSums_30_8.2.2.2.2.2.1
theorem dX10_qSums_60 : decode cX10_qSums 60 = .ok (.aload_n 0, 1) := dk_dX10_qSums_30_8.2.2.2.2.2.2.1
theorem dX10_qSums_61 : decode cX10_qSums 61 = .ok (.getfield 372, 3) := dk_dX10_qSums_30_8.2.2.2.2.2.2.2.1
theorem dk_dX10_qSums_64 : dz_C cX10_qSums [(64, .aload_n 0, 1), (65, .getfield 378, 3), (68, .if_icmp .le 10, 3), (71, .aload_n 0, 1), (72, .invokevirtual 614, 3), (75, .goto (-22), 3), (78, .aload_n 0, 1), (79, .iload_n 1, 1), (80, .putfield 378, 3), (83, .return_, 1)] := dz_of (by decide +kernel)
theorem dX10_qSums_64 : decode cX10_qSums 64 = .ok (.aload_n 0, 1) := dk_dX10_qSums_64.1
theorem dX10_qSums_65 : decode cX10_qSums 65 = .ok (.getfield 378, 3) := dk_dX10_qSums_64.2.1
theorem dX10_qSums_68 : decode cX10_qSums 68 = .ok (.if_icmp .le 10, 3) := dk_dX10_qSums_64.2.2.1
theorem dX10_qSums_71 : decode cX10_qSums 71 = .ok (.aload_n 0, 1) := dk_dX10_qSums_64.2.2.2.1
theorem dX10_qSums_72 : decode cX10_qSums 72 = .ok (.invokevirtual 614, 3) := dk_dX10_qSums_64.2.2.2.2.1
theorem dX10_qSums_75 : decode cX10_qSums 75 = .ok (.goto (-22), 3) := dk_dX10_qSums_64.2.2.2.2.2.1
theorem dX10_qSums_78 : decode cX10_qSums 78 = .ok (.aload_n 0, 1) := dk_dX10_qSums_64.2.2.2.2.2.2.1
theorem dX10_qSums_79 : decode cX10_qSums 79 = .ok (.iload_n 1, 1) := dk_dX10_qSums_64.2.2.2.2.2.2.2.1
theorem dk_dX10_qSums_64_8 : dz_C cX10_qSums [(80, .putfield 378, 3), (83, .return_, 1)] := dk_dX10_qSums_64.2.2.2.2.2.2.2.2
theorem dX10_qSums_80 : decode cX10_qSums 80 = .ok (.putfield 378, 3) := dk_dX10_qSums_64_8.1
theorem dX10_qSums_83 : decode cX10_qSums 83 = .ok (.return_, 1) := dk_dX10_qSums_64_8.2.1
theorem dk_dX10_qTakes_0 : dz_C cX10_qTakes [(0, .iload_n 1, 1), (1, .iconst 3, 1), (2, .if_icmp .ge 13, 3), (5, .lload_n 2, 1), (6, .lconst 1, 1), (7, .lcmp, 1), (8, .ifCond .ne 7, 3), (11, .iconst 1, 1), (12, .goto 4, 3), (15, .iconst 0, 1), (16, .istore 5, 2), (18, .iload_n 1, 1), (19, .ifCond .ne 19, 3), (22, .iload 5, 2), (24, .ifCond .eq 14, 3), (27, .aload_n 0, 1)] := dz_of (by decide +kernel)
theorem dX10_qTakes_0 : decode cX10_qTakes 0 = .ok (.iload_n 1, 1) := dk_dX10_qTakes_0.1
theorem dX10_qTakes_1 : decode cX10_qTakes 1 = .ok (.iconst 3, 1) := dk_dX10_qTakes_0.2.1
theorem dX10_qTakes_2 : decode cX10_qTakes 2 = .ok (.if_icmp .ge 13, 3) := dk_dX10_qTakes_0.2.2.1
theorem dX10_qTakes_5 : decode cX10_qTakes 5 = .ok (.lload_n 2, 1) := dk_dX10_qTakes_0.2.2.2.1
theorem dX10_qTakes_6 : decode cX10_qTakes 6 = .ok (.lconst 1, 1) := dk_dX10_qTakes_0.2.2.2.2.1
theorem dX10_qTakes_7 : decode cX10_qTakes 7 = .ok (.lcmp, 1) := dk_dX10_qTakes_0.2.2.2.2.2.1
theorem dX10_qTakes_8 : decode cX10_qTakes 8 = .ok (.ifCond .ne 7, 3) := dk_dX10_qTakes_0.2.2.2.2.2.2.1
theorem dX10_qTakes_11 : decode cX10_qTakes 11 = .ok (.iconst 1, 1) := dk_dX10_qTakes_0.2.2.2.2.2.2.2.1
theorem dk_dX10_qTakes_0_8 : dz_C cX10_qTakes [(12, .goto 4, 3), (15, .iconst 0, 1), (16, .istore 5, 2), (18, .iload_n 1, 1), (19, .ifCond .ne 19, 3), (22, .iload 5, 2), (24, .ifCond .eq 14, 3), (27, .aload_n 0, 1)] := dk_dX10_qTakes_0.2.2.2.2.2.2.2.2
theorem dX10_qTakes_12 : decode cX10_qTakes 12 = .ok (.goto 4, 3) := dk_dX10_qTakes_0_8.1
theorem dX10_qTakes_15 : decode cX10_qTakes 15 = .ok (.iconst 0, 1) := dk_dX10_qTakes_0_8.2.1
theorem dX10_qTakes_16 : decode cX10_qTakes 16 = .ok (.istore 5, 2) := dk_dX10_qTakes_0_8.2.2.1
theorem dX10_qTakes_18 : decode cX10_qTakes 18 = .ok (.iload_n 1, 1) := dk_dX10_qTakes_0_8.2.2.2.1
theorem dX10_qTakes_19 : decode cX10_qTakes 19 = .ok (.ifCond .ne 19, 3) := dk_dX10_qTakes_0_8.2.2.2.2.1
theorem dX10_qTakes_22 : decode cX10_qTakes 22 = .ok (.iload 5, 2) := dk_dX10_qTakes_0_8.2.2.2.2.2.1
theorem dX10_qTakes_24 : decode cX10_qTakes 24 = .ok (.ifCond .eq 14, 3) := dk_dX10_qTakes_0_8.2.2.2.2.2.2.1
theorem dX10_qTakes_27 : decode cX10_qTakes 27 = .ok (.aload_n 0, 1) := dk_dX10_qTakes_0_8.2.2.2.2.2.2.2.1
theorem dk_dX10_qTakes_28 : dz_C cX10_qTakes [(28, .getfield 678, 3), (31, .ldc2_w 681, 3), (34, .lcmp, 1), (35, .ifCond .eq 13, 3), (38, .iload_n 1, 1), (39, .iconst 1, 1), (40, .if_icmp .ne 15, 3), (43, .iload 5, 2), (45, .ifCond .eq 10, 3), (48, .aload_n 0, 1), (49, .iload 4, 2), (51, .i2l, 1), (52, .putfield 678, 3), (55, .iload_n 1, 1), (56, .iconst 2, 1), (57, .if_icmp .ne 18, 3)] := dz_of (by decide +kernel)
theorem dX10_qTakes_28 : decode cX10_qTakes 28 = .ok (.getfield 678, 3) := dk_dX10_qTakes_28.1
theorem dX10_qTakes_31 : decode cX10_qTakes 31 = .ok (.ldc2_w 681, 3) := dk_dX10_qTakes_28.2.1
theorem dX10_qTakes_34 : decode cX10_qTakes 34 = .ok (.lcmp, 1) := dk_dX10_qTakes_28.2.2.1
theorem dX10_qTakes_35 : decode cX10_qTakes 35 = .ok (.ifCond .eq 13, 3) := dk_dX10_qTakes_28.2.2.2.1
theorem dX10_qTakes_38 : decode cX10_qTakes 38 = .ok (.iload_n 1, 1) := dk_dX10_qTakes_28.2.2.2.2.1
theorem dX10_qTakes_39 : decode cX10_qTakes 39 = .ok (.iconst 1, 1) := dk_dX10_qTakes_28.2.2.2.2.2.1
theorem dX10_qTakes_40 : decode cX10_qTakes 40 = .ok (.if_icmp .ne 15, 3) := dk_dX10_qTakes_28.2.2.2.2.2.2.1
theorem dX10_qTakes_43 : decode cX10_qTakes 43 = .ok (.iload 5, 2) := dk_dX10_qTakes_28.2.2.2.2.2.2.2.1
theorem dk_dX10_qTakes_28_8 : dz_C cX10_qTakes [(45, .ifCond .eq 10, 3), (48, .aload_n 0, 1), (49, .iload 4, 2), (51, .i2l, 1), (52, .putfield 678, 3), (55, .iload_n 1, 1), (56, .iconst 2, 1), (57, .if_icmp .ne 18, 3)] := dk_dX10_qTakes_28.2.2.2.2.2.2.2.2
theorem dX10_qTakes_45 : decode cX10_qTakes 45 = .ok (.ifCond .eq 10, 3) := dk_dX10_qTakes_28_8.1
theorem dX10_qTakes_48 : decode cX10_qTakes 48 = .ok (.aload_n 0, 1) := dk_dX10_qTakes_28_8.2.1
theorem dX10_qTakes_49 : decode cX10_qTakes 49 = .ok (.iload 4, 2) := dk_dX10_qTakes_28_8.2.2.1
theorem dX10_qTakes_51 : decode cX10_qTakes 51 = .ok (.i2l, 1) := dk_dX10_qTakes_28_8.2.2.2.1
theorem dX10_qTakes_52 : decode cX10_qTakes 52 = .ok (.putfield 678, 3) := dk_dX10_qTakes_28_8.2.2.2.2.1
theorem dX10_qTakes_55 : decode cX10_qTakes 55 = .ok (.iload_n 1, 1) := dk_dX10_qTakes_28_8.2.2.2.2.2.1
theorem dX10_qTakes_56 : decode cX10_qTakes 56 = .ok (.iconst 2, 1) := dk_dX10_qTakes_28_8.2.2.2.2.2.2.1
theorem dX10_qTakes_57 : decode cX10_qTakes 57 = .ok (.if_icmp .ne 18, 3) := dk_dX10_qTakes_28_8.2.2.2.2.2.2.2.1
theorem dk_dX10_qTakes_60 : dz_C cX10_qTakes [(60, .iload 5, 2), (62, .ifCond .eq 13, 3), (65, .aload_n 0, 1), (66, .dup, 1), (67, .getfield 678, 3), (70, .lconst 1, 1), (71, .ladd, 1), (72, .putfield 678, 3), (75, .iload_n 1, 1), (76, .iconst 3, 1), (77, .if_icmp .ne 13, 3), (80, .aload_n 0, 1), (81, .dup, 1), (82, .getfield 678, 3), (85, .lload_n 2, 1), (86, .ladd, 1)] := dz_of (by decide +kernel)
theorem dX10_qTakes_60 : decode cX10_qTakes 60 = .ok (.iload 5, 2) := dk_dX10_qTakes_60.1
theorem dX10_qTakes_62 : decode cX10_qTakes 62 = .ok (.ifCond .eq 13, 3) := dk_dX10_qTakes_60.2.1
theorem dX10_qTakes_65 : decode cX10_qTakes 65 = .ok (.aload_n 0, 1) := dk_dX10_qTakes_60.2.2.1
theorem dX10_qTakes_66 : decode cX10_qTakes 66 = .ok (.dup, 1) := dk_dX10_qTakes_60.2.2.2.1
theorem dX10_qTakes_67 : decode cX10_qTakes 67 = .ok (.getfield 678, 3) := dk_dX10_qTakes_60.2.2.2.2.1
theorem dX10_qTakes_70 : decode cX10_qTakes 70 = .ok (.lconst 1, 1) := dk_dX10_qTakes_60.2.2.2.2.2.1
theorem dX10_qTakes_71 : decode cX10_qTakes 71 = .ok (.ladd, 1) := dk_dX10_qTakes_60.2.2.2.2.2.2.1
theorem dX10_qTakes_72 : decode cX10_qTakes 72 = .ok (.putfield 678, 3) := dk_dX10_qTakes_60.2.2.2.2.2.2.2.1
theorem dk_dX10_qTakes_60_8 : dz_C cX10_qTakes [(75, .iload_n 1, 1), (76, .iconst 3, 1), (77, .if_icmp .ne 13, 3), (80, .aload_n 0, 1), (81, .dup, 1), (82, .getfield 678, 3), (85, .lload_n 2, 1), (86, .ladd, 1)] := dk_dX10_qTakes_60.2.2.2.2.2.2.2.2
theorem dX10_qTakes_75 : decode cX10_qTakes 75 = .ok (.iload_n 1, 1) := dk_dX10_qTakes_60_8.1
theorem dX10_qTakes_76 : decode cX10_qTakes 76 = .ok (.iconst 3, 1) := dk_dX10_qTakes_60_8.2.1
theorem dX10_qTakes_77 : decode cX10_qTakes 77 = .ok (.if_icmp .ne 13, 3) := dk_dX10_qTakes_60_8.2.2.1
theorem dX10_qTakes_80 : decode cX10_qTakes 80 = .ok (.aload_n 0, 1) := dk_dX10_qTakes_60_8.2.2.2.1
theorem dX10_qTakes_81 : decode cX10_qTakes 81 = .ok (.dup, 1) := dk_dX10_qTakes_60_8.2.2.2.2.1
theorem dX10_qTakes_82 : decode cX10_qTakes 82 = .ok (.getfield 678, 3) := dk_dX10_qTakes_60_8.2.2.2.2.2.1
theorem dX10_qTakes_85 : decode cX10_qTakes 85 = .ok (.lload_n 2, 1) := dk_dX10_qTakes_60_8.2.2.2.2.2.2.1
theorem dX10_qTakes_86 : decode cX10_qTakes 86 = .ok (.ladd, 1) := dk_dX10_qTakes_60_8.2.2.2.2.2.2.2.1
theorem dk_dX10_qTakes_87 : dz_C cX10_qTakes [(87, .putfield 678, 3), (90, .iload_n 1, 1), (91, .iconst 3, 1), (92, .if_icmp .le 41, 3), (95, .aload_n 0, 1), (96, .getfield 683, 3), (99, .ifCond .ne 29, 3), (102, .iload_n 1, 1), (103, .iconst 4, 1), (104, .if_icmp .ne 15, 3), (107, .lload_n 2, 1), (108, .aload_n 0, 1), (109, .getfield 678, 3), (112, .lcmp, 1), (113, .ifCond .le 20, 3), (116, .goto 12, 3)] := dz_of (by decide +kernel)
theorem dX10_qTakes_87 : decode cX10_qTakes 87 = .ok (.putfield 678, 3) := dk_dX10_qTakes_87.1
theorem dX10_qTakes_90 : decode cX10_qTakes 90 = .ok (.iload_n 1, 1) := dk_dX10_qTakes_87.2.1
theorem dX10_qTakes_91 : decode cX10_qTakes 91 = .ok (.iconst 3, 1) := dk_dX10_qTakes_87.2.2.1
theorem dX10_qTakes_92 : decode cX10_qTakes 92 = .ok (.if_icmp .le 41, 3) := dk_dX10_qTakes_87.2.2.2.1
theorem dX10_qTakes_95 : decode cX10_qTakes 95 = .ok (.aload_n 0, 1) := dk_dX10_qTakes_87.2.2.2.2.1
theorem dX10_qTakes_96 : decode cX10_qTakes 96 = .ok (.getfield 683, 3) := dk_dX10_qTakes_87.2.2.2.2.2.1
theorem dX10_qTakes_99 : decode cX10_qTakes 99 = .ok (.ifCond .ne 29, 3) := dk_dX10_qTakes_87.2.2.2.2.2.2.1
theorem dX10_qTakes_102 : decode cX10_qTakes 102 = .ok (.iload_n 1, 1) := dk_dX10_qTakes_87.2.2.2.2.2.2.2.1
theorem dk_dX10_qTakes_87_8 : dz_C cX10_qTakes [(103, .iconst 4, 1), (104, .if_icmp .ne 15, 3), (107, .lload_n 2, 1), (108, .aload_n 0, 1), (109, .getfield 678, 3), (112, .lcmp, 1), (113, .ifCond .le 20, 3), (116, .goto 12, 3)] := dk_dX10_qTakes_87.2.2.2.2.2.2.2.2
theorem dX10_qTakes_103 : decode cX10_qTakes 103 = .ok (.iconst 4, 1) := dk_dX10_qTakes_87_8.1
theorem dX10_qTakes_104 : decode cX10_qTakes 104 = .ok (.if_icmp .ne 15, 3) := dk_dX10_qTakes_87_8.2.1
theorem dX10_qTakes_107 : decode cX10_qTakes 107 = .ok (.lload_n 2, 1) := dk_dX10_qTakes_87_8.2.2.1
theorem dX10_qTakes_108 : decode cX10_qTakes 108 = .ok (.aload_n 0, 1) := dk_dX10_qTakes_87_8.2.2.2.1
theorem dX10_qTakes_109 : decode cX10_qTakes 109 = .ok (.getfield 678, 3) := dk_dX10_qTakes_87_8.2.2.2.2.1
theorem dX10_qTakes_112 : decode cX10_qTakes 112 = .ok (.lcmp, 1) := dk_dX10_qTakes_87_8.2.2.2.2.2.1
theorem dX10_qTakes_113 : decode cX10_qTakes 113 = .ok (.ifCond .le 20, 3) := dk_dX10_qTakes_87_8.2.2.2.2.2.2.1
theorem dX10_qTakes_116 : decode cX10_qTakes 116 = .ok (.goto 12, 3) := dk_dX10_qTakes_87_8.2.2.2.2.2.2.2.1
theorem dk_dX10_qTakes_119 : dz_C cX10_qTakes [(119, .lload_n 2, 1), (120, .aload_n 0, 1), (121, .getfield 678, 3), (124, .lcmp, 1), (125, .ifCond .ge 8, 3), (128, .aload_n 0, 1), (129, .lload_n 2, 1), (130, .putfield 678, 3), (133, .aload_n 0, 1), (134, .iconst 0, 1), (135, .putfield 683, 3), (138, .return_, 1)] := dz_of (by decide +kernel)
theorem dX10_qTakes_119 : decode cX10_qTakes 119 = .ok (.lload_n 2, 1) := dk_dX10_qTakes_119.1
theorem dX10_qTakes_120 : decode cX10_qTakes 120 = .ok (.aload_n 0, 1) := dk_dX10_qTakes_119.2.1
theorem dX10_qTakes_121 : decode cX10_qTakes 121 = .ok (.getfield 678, 3) := dk_dX10_qTakes_119.2.2.1
theorem dX10_qTakes_124 : decode cX10_qTakes 124 = .ok (.lcmp, 1) := dk_dX10_qTakes_119.2.2.2.1
theorem dX10_qTakes_125 : decode cX10_qTakes 125 = .ok (.ifCond .ge 8, 3) := dk_dX10_qTakes_119.2.2.2.2.1
theorem dX10_qTakes_128 : decode cX10_qTakes 128 = .ok (.aload_n 0, 1) := dk_dX10_qTakes_119.2.2.2.2.2.1
theorem dX10_qTakes_129 : decode cX10_qTakes 129 = .ok (.lload_n 2, 1) := dk_dX10_qTakes_119.2.2.2.2.2.2.1
theorem dX10_qTakes_130 : decode cX10_qTakes 130 = .ok (.putfield 678, 3) := dk_dX10_qTakes_119.2.2.2.2.2.2.2.1
theorem dk_dX10_qTakes_119_8 : dz_C cX10_qTakes [(133, .aload_n 0, 1), (134, .iconst 0, 1), (135, .putfield 683, 3), (138, .return_, 1)] := dk_dX10_qTakes_119.2.2.2.2.2.2.2.2
theorem dX10_qTakes_133 : decode cX10_qTakes 133 = .ok (.aload_n 0, 1) := dk_dX10_qTakes_119_8.1
theorem dX10_qTakes_134 : decode cX10_qTakes 134 = .ok (.iconst 0, 1) := dk_dX10_qTakes_119_8.2.1
theorem dX10_qTakes_135 : decode cX10_qTakes 135 = .ok (.putfield 683, 3) := dk_dX10_qTakes_119_8.2.2.1
theorem dX10_qTakes_138 : decode cX10_qTakes 138 = .ok (.return_, 1) := dk_dX10_qTakes_119_8.2.2.2.1
theorem dk_dX10_qTest_0 : dz_C cX10_qTest [(0, .iconst 1, 1), (1, .istore_n 1, 1), (2, .iload_n 1, 1), (3, .ifCond .eq 107, 3), (6, .aload_n 0, 1), (7, .getfield 279, 3), (10, .ifCond .ne 100, 3), (13, .aload_n 0, 1), (14, .invokevirtual 291, 3), (17, .istore_n 2, 1), (18, .iload_n 2, 1), (19, .bipush 91, 2), (21, .if_icmp .ne 26, 3), (24, .aload_n 0, 1), (25, .bipush 25, 2), (27, .aload_n 0, 1)] := dz_of (by decide +kernel)
theorem dX10_qTest_0 : decode cX10_qTest 0 = .ok (.iconst 1, 1) := dk_dX10_qTest_0.1
theorem dX10_qTest_1 : decode cX10_qTest 1 = .ok (.istore_n 1, 1) := dk_dX10_qTest_0.2.1
theorem dX10_qTest_2 : decode cX10_qTest 2 = .ok (.iload_n 1, 1) := dk_dX10_qTest_0.2.2.1
theorem dX10_qTest_3 : decode cX10_qTest 3 = .ok (.ifCond .eq 107, 3) := dk_dX10_qTest_0.2.2.2.1
theorem dX10_qTest_6 : decode cX10_qTest 6 = .ok (.aload_n 0, 1) := dk_dX10_qTest_0.2.2.2.2.1
theorem dX10_qTest_7 : decode cX10_qTest 7 = .ok (.getfield 279, 3) := dk_dX10_qTest_0.2.2.2.2.2.1
theorem dX10_qTest_10 : decode cX10_qTest 10 = .ok (.ifCond .ne 100, 3) := dk_dX10_qTest_0.2.2.2.2.2.2.1
theorem dX10_qTest_13 : decode cX10_qTest 13 = .ok (.aload_n 0, 1) := dk_dX10_qTest_0.2.2.2.2.2.2.2.1
theorem dk_dX10_qTest_0_8 : dz_C cX10_qTest [(14, .invokevirtual 291, 3), (17, .istore_n 2, 1), (18, .iload_n 2, 1), (19, .bipush 91, 2), (21, .if_icmp .ne 26, 3), (24, .aload_n 0, 1), (25, .bipush 25, 2), (27, .aload_n 0, 1)] := dk_dX10_qTest_0.2.2.2.2.2.2.2.2
theorem dX10_qTest_14 : decode cX10_qTest 14 = .ok (.invokevirtual 291, 3) := dk_dX10_qTest_0_8.1
theorem dX10_qTest_17 : decode cX10_qTest 17 = .ok (.istore_n 2, 1) := dk_dX10_qTest_0_8.2.1
theorem dX10_qTest_18 : decode cX10_qTest 18 = .ok (.iload_n 2, 1) := dk_dX10_qTest_0_8.2.2.1
theorem dX10_qTest_19 : decode cX10_qTest 19 = .ok (.bipush 91, 2) := dk_dX10_qTest_0_8.2.2.2.1
theorem dX10_qTest_21 : decode cX10_qTest 21 = .ok (.if_icmp .ne 26, 3) := dk_dX10_qTest_0_8.2.2.2.2.1
theorem dX10_qTest_24 : decode cX10_qTest 24 = .ok (.aload_n 0, 1) := dk_dX10_qTest_0_8.2.2.2.2.2.1
theorem dX10_qTest_25 : decode cX10_qTest 25 = .ok (.bipush 25, 2) := dk_dX10_qTest_0_8.2.2.2.2.2.2.1
theorem dX10_qTest_27 : decode cX10_qTest 27 = .ok (.aload_n 0, 1) := dk_dX10_qTest_0_8.2.2.2.2.2.2.2.1
theorem dk_dX10_qTest_28 : dz_C cX10_qTest [(28, .getfield 285, 3), (31, .invokevirtual 626, 3), (34, .aload_n 0, 1), (35, .dup, 1), (36, .getfield 285, 3), (39, .iconst 1, 1), (40, .iadd, 1), (41, .putfield 285, 3), (44, .goto (-42), 3), (47, .aload_n 0, 1), (48, .aload_n 0, 1), (49, .getfield 207, 3), (52, .invokevirtual 302, 3), (55, .ifCond .eq 24, 3), (58, .aload_n 0, 1), (59, .bipush 12, 2)] := dz_of (by decide +kernel)
theorem dX10_qTest_28 : decode cX10_qTest 28 = .ok (.getfield 285, 3) := dk_dX10_qTest_28.1
theorem dX10_qTest_31 : decode cX10_qTest 31 = .ok (.invokevirtual 626, 3) := dk_dX10_qTest_28.2.1
theorem dX10_qTest_34 : decode cX10_qTest 34 = .ok (.aload_n 0, 1) := dk_dX10_qTest_28.2.2.1
theorem dX10_qTest_35 : decode cX10_qTest 35 = .ok (.dup, 1) := dk_dX10_qTest_28.2.2.2.1
theorem dX10_qTest_36 : decode cX10_qTest 36 = .ok (.getfield 285, 3) := dk_dX10_qTest_28.2.2.2.2.1
theorem dX10_qTest_39 : decode cX10_qTest 39 = .ok (.iconst 1, 1) := dk_dX10_qTest_28.2.2.2.2.2.1
theorem dX10_qTest_40 : decode cX10_qTest 40 = .ok (.iadd, 1) := dk_dX10_qTest_28.2.2.2.2.2.2.1
theorem dX10_qTest_41 : decode cX10_qTest 41 = .ok (.putfield 285, 3) := dk_dX10_qTest_28.2.2.2.2.2.2.2.1
theorem dk_dX10_qTest_28_8 : dz_C cX10_qTest [(44, .goto (-42), 3), (47, .aload_n 0, 1), (48, .aload_n 0, 1), (49, .getfield 207, 3), (52, .invokevirtual 302, 3), (55, .ifCond .eq 24, 3), (58, .aload_n 0, 1), (59, .bipush 12, 2)] := dk_dX10_qTest_28.2.2.2.2.2.2.2.2
theorem dX10_qTest_44 : decode cX10_qTest 44 = .ok (.goto (-42), 3) := dk_dX10_qTest_28_8.1
theorem dX10_qTest_47 : decode cX10_qTest 47 = .ok (.aload_n 0, 1) := dk_dX10_qTest_28_8.2.1
theorem dX10_qTest_48 : decode cX10_qTest 48 = .ok (.aload_n 0, 1) := dk_dX10_qTest_28_8.2.2.1
theorem dX10_qTest_49 : decode cX10_qTest 49 = .ok (.getfield 207, 3) := dk_dX10_qTest_28_8.2.2.2.1
theorem dX10_qTest_52 : decode cX10_qTest 52 = .ok (.invokevirtual 302, 3) := dk_dX10_qTest_28_8.2.2.2.2.1
theorem dX10_qTest_55 : decode cX10_qTest 55 = .ok (.ifCond .eq 24, 3) := dk_dX10_qTest_28_8.2.2.2.2.2.1
theorem dX10_qTest_58 : decode cX10_qTest 58 = .ok (.aload_n 0, 1) := dk_dX10_qTest_28_8.2.2.2.2.2.2.1
theorem dX10_qTest_59 : decode cX10_qTest 59 = .ok (.bipush 12, 2) := dk_dX10_qTest_28_8.2.2.2.2.2.2.2.1
theorem dk_dX10_qTest_61 : dz_C cX10_qTest [(61, .aload_n 0, 1), (62, .getfield 285, 3), (65, .invokevirtual 626, 3), (68, .aload_n 0, 1), (69, .aload_n 0, 1), (70, .getfield 207, 3), (73, .invokevirtual 350, 3), (76, .goto (-74), 3), (79, .aload_n 0, 1), (80, .invokevirtual 650, 3), (83, .aload_n 0, 1), (84, .invokevirtual 653, 3), (87, .aload_n 0, 1), (88, .getfield 279, 3), (91, .ifCond .ne 14, 3), (94, .aload_n 0, 1)] := dz_of (by decide +kernel)
theorem dX10_qTest_61 : decode cX10_qTest 61 = .ok (.aload_n 0, 1) := dk_dX10_qTest_61.1
theorem dX10_qTest_62 : decode cX10_qTest 62 = .ok (.getfield 285, 3) := dk_dX10_qTest_61.2.1
theorem dX10_qTest_65 : decode cX10_qTest 65 = .ok (.invokevirtual 626, 3) := dk_dX10_qTest_61.2.2.1
theorem dX10_qTest_68 : decode cX10_qTest 68 = .ok (.aload_n 0, 1) := dk_dX10_qTest_61.2.2.2.1
theorem dX10_qTest_69 : decode cX10_qTest 69 = .ok (.aload_n 0, 1) := dk_dX10_qTest_61.2.2.2.2.1
theorem dX10_qTest_70 : decode cX10_qTest 70 = .ok (.getfield 207, 3) := dk_dX10_qTest_61.2.2.2.2.2.1
theorem dX10_qTest_73 : decode cX10_qTest 73 = .ok (.invokevirtual 350, 3) := dk_dX10_qTest_61.2.2.2.2.2.2.1
theorem dX10_qTest_76 : decode cX10_qTest 76 = .ok (.goto (-74), 3) := dk_dX10_qTest_61.2.2.2.2.2.2.2.1
theorem dk_dX10_qTest_61_8 : dz_C cX10_qTest [(79, .aload_n 0, 1), (80, .invokevirtual 650, 3), (83, .aload_n 0, 1), (84, .invokevirtual 653, 3), (87, .aload_n 0, 1), (88, .getfield 279, 3), (91, .ifCond .ne 14, 3), (94, .aload_n 0, 1)] := dk_dX10_qTest_61.2.2.2.2.2.2.2.2
theorem dX10_qTest_79 : decode cX10_qTest 79 = .ok (.aload_n 0, 1) := dk_dX10_qTest_61_8.1
theorem dX10_qTest_80 : decode cX10_qTest 80 = .ok (.invokevirtual 650, 3) := dk_dX10_qTest_61_8.2.1
theorem dX10_qTest_83 : decode cX10_qTest 83 = .ok (.aload_n 0, 1) := dk_dX10_qTest_61_8.2.2.1
theorem dX10_qTest_84 : decode cX10_qTest 84 = .ok (.invokevirtual 653, 3) := dk_dX10_qTest_61_8.2.2.2.1
theorem dX10_qTest_87 : decode cX10_qTest 87 = .ok (.aload_n 0, 1) := dk_dX10_qTest_61_8.2.2.2.2.1
theorem dX10_qTest_88 : decode cX10_qTest 88 = .ok (.getfield 279, 3) := dk_dX10_qTest_61_8.2.2.2.2.2.1
theorem dX10_qTest_91 : decode cX10_qTest 91 = .ok (.ifCond .ne 14, 3) := dk_dX10_qTest_61_8.2.2.2.2.2.2.1
theorem dX10_qTest_94 : decode cX10_qTest 94 = .ok (.aload_n 0, 1) := dk_dX10_qTest_61_8.2.2.2.2.2.2.2.1
theorem dk_dX10_qTest_95 : dz_C cX10_qTest [(95, .invokevirtual 656, 3), (98, .ifCond .eq 7, 3), (101, .iconst 1, 1), (102, .goto 4, 3), (105, .iconst 0, 1), (106, .istore_n 1, 1), (107, .goto (-105), 3), (110, .aload_n 0, 1), (111, .getfield 279, 3), (114, .ifCond .ne 17, 3), (117, .aload_n 0, 1), (118, .getfield 372, 3), (121, .ifCond .le 10, 3), (124, .aload_n 0, 1), (125, .invokevirtual 614, 3), (128, .goto (-18), 3)] := dz_of (by decide +kernel)
theorem dX10_qTest_95 : decode cX10_qTest 95 = .ok (.invokevirtual 656, 3) := dk_dX10_qTest_95.1
theorem dX10_qTest_98 : decode cX10_qTest 98 = .ok (.ifCond .eq 7, 3) := dk_dX10_qTest_95.2.1
theorem dX10_qTest_101 : decode cX10_qTest 101 = .ok (.iconst 1, 1) := dk_dX10_qTest_95.2.2.1
theorem dX10_qTest_102 : decode cX10_qTest 102 = .ok (.goto 4, 3) := dk_dX10_qTest_95.2.2.2.1
theorem dX10_qTest_105 : decode cX10_qTest 105 = .ok (.iconst 0, 1) := dk_dX10_qTest_95.2.2.2.2.1
theorem dX10_qTest_106 : decode cX10_qTest 106 = .ok (.istore_n 1, 1) := dk_dX10_qTest_95.2.2.2.2.2.1
theorem dX10_qTest_107 : decode cX10_qTest 107 = .ok (.goto (-105), 3) := dk_dX10_qTest_95.2.2.2.2.2.2.1
theorem dX10_qTest_110 : decode cX10_qTest 110 = .ok (.aload_n 0, 1) := dk_dX10_qTest_95.2.2.2.2.2.2.2.1
theorem dk_dX10_qTest_95_8 : dz_C cX10_qTest [(111, .getfield 279, 3), (114, .ifCond .ne 17, 3), (117, .aload_n 0, 1), (118, .getfield 372, 3), (121, .ifCond .le 10, 3), (124, .aload_n 0, 1), (125, .invokevirtual 614, 3), (128, .goto (-18), 3)] := dk_dX10_qTest_95.2.2.2.2.2.2.2.2
theorem dX10_qTest_111 : decode cX10_qTest 111 = .ok (.getfield 279, 3) := dk_dX10_qTest_95_8.1
theorem dX10_qTest_114 : decode cX10_qTest 114 = .ok (.ifCond .ne 17, 3) := dk_dX10_qTest_95_8.2.1
theorem dX10_qTest_117 : decode cX10_qTest 117 = .ok (.aload_n 0, 1) := dk_dX10_qTest_95_8.2.2.1
theorem dX10_qTest_118 : decode cX10_qTest 118 = .ok (.getfield 372, 3) := dk_dX10_qTest_95_8.2.2.2.1
theorem dX10_qTest_121 : decode cX10_qTest 121 = .ok (.ifCond .le 10, 3) := dk_dX10_qTest_95_8.2.2.2.2.1
theorem dX10_qTest_124 : decode cX10_qTest 124 = .ok (.aload_n 0, 1) := dk_dX10_qTest_95_8.2.2.2.2.2.1
theorem dX10_qTest_125 : decode cX10_qTest 125 = .ok (.invokevirtual 614, 3) := dk_dX10_qTest_95_8.2.2.2.2.2.2.1
theorem dX10_qTest_128 : decode cX10_qTest 128 = .ok (.goto (-18), 3) := dk_dX10_qTest_95_8.2.2.2.2.2.2.2.1
theorem dk_dX10_qTest_131 : dz_C cX10_qTest [(131, .return_, 1)] := dz_of (by decide +kernel)
theorem dX10_qTest_131 : decode cX10_qTest 131 = .ok (.return_, 1) := dk_dX10_qTest_131.1
theorem dk_dX10_qTold_0 : dz_C cX10_qTold [(0, .aload_n 0, 1), (1, .iconst 0, 1), (2, .putfield 440, 3), (5, .iconst 0, 1), (6, .istore_n 2, 1), (7, .iload_n 2, 1), (8, .aload_n 0, 1), (9, .getfield 369, 3), (12, .if_icmp .ge 156, 3), (15, .aload_n 0, 1), (16, .getfield 264, 3), (19, .iload_n 2, 1), (20, .iaload, 1), (21, .istore_n 3, 1), (22, .iload_n 3, 1), (23, .sipush 1000, 3)] := dz_of (by decide +kernel)
theorem dX10_qTold_0 : decode cX10_qTold 0 = .ok (.aload_n 0, 1) := dk_dX10_qTold_0.1
theorem dX10_qTold_1 : decode cX10_qTold 1 = .ok (.iconst 0, 1) := dk_dX10_qTold_0.2.1
theorem dX10_qTold_2 : decode cX10_qTold 2 = .ok (.putfield 440, 3) := dk_dX10_qTold_0.2.2.1
theorem dX10_qTold_5 : decode cX10_qTold 5 = .ok (.iconst 0, 1) := dk_dX10_qTold_0.2.2.2.1
theorem dX10_qTold_6 : decode cX10_qTold 6 = .ok (.istore_n 2, 1) := dk_dX10_qTold_0.2.2.2.2.1
theorem dX10_qTold_7 : decode cX10_qTold 7 = .ok (.iload_n 2, 1) := dk_dX10_qTold_0.2.2.2.2.2.1
theorem dX10_qTold_8 : decode cX10_qTold 8 = .ok (.aload_n 0, 1) := dk_dX10_qTold_0.2.2.2.2.2.2.1
theorem dX10_qTold_9 : decode cX10_qTold 9 = .ok (.getfield 369, 3) := dk_dX10_qTold_0.2.2.2.2.2.2.2.1
theorem dk_dX10_qTold_0_8 : dz_C cX10_qTold [(12, .if_icmp .ge 156, 3), (15, .aload_n 0, 1), (16, .getfield 264, 3), (19, .iload_n 2, 1), (20, .iaload, 1), (21, .istore_n 3, 1), (22, .iload_n 3, 1), (23, .sipush 1000, 3)] := dk_dX10_qTold_0.2.2.2.2.2.2.2.2
theorem dX10_qTold_12 : decode cX10_qTold 12 = .ok (.if_icmp .ge 156, 3) := dk_dX10_qTold_0_8.1
theorem dX10_qTold_15 : decode cX10_qTold 15 = .ok (.aload_n 0, 1) := dk_dX10_qTold_0_8.2.1
theorem dX10_qTold_16 : decode cX10_qTold 16 = .ok (.getfield 264, 3) := dk_dX10_qTold_0_8.2.2.1
theorem dX10_qTold_19 : decode cX10_qTold 19 = .ok (.iload_n 2, 1) := dk_dX10_qTold_0_8.2.2.2.1
theorem dX10_qTold_20 : decode cX10_qTold 20 = .ok (.iaload, 1) := dk_dX10_qTold_0_8.2.2.2.2.1
theorem dX10_qTold_21 : decode cX10_qTold 21 = .ok (.istore_n 3, 1) := dk_dX10_qTold_0_8.2.2.2.2.2.1
theorem dX10_qTold_22 : decode cX10_qTold 22 = .ok (.iload_n 3, 1) := dk_dX10_qTold_0_8.2.2.2.2.2.2.1
theorem dX10_qTold_23 : decode cX10_qTold 23 = .ok (.sipush 1000, 3) := dk_dX10_qTold_0_8.2.2.2.2.2.2.2.1
theorem dk_dX10_qTold_26 : dz_C cX10_qTold [(26, .if_icmp .lt 16, 3), (29, .aload_n 0, 1), (30, .iload_n 3, 1), (31, .sipush 1000, 3), (34, .isub, 1), (35, .i2l, 1), (36, .invokevirtual 443, 3), (39, .goto 123, 3), (42, .iload_n 3, 1), (43, .bipush 60, 2), (45, .if_icmp .lt 40, 3), (48, .aload_n 0, 1), (49, .getfield 270, 3), (52, .aload_n 0, 1), (53, .getfield 440, 3), (56, .iconst 1, 1)] := dz_of (by decide +kernel)
theorem dX10_qTold_26 : decode cX10_qTold 26 = .ok (.if_icmp .lt 16, 3) := dk_dX10_qTold_26.1
theorem dX10_qTold_29 : decode cX10_qTold 29 = .ok (.aload_n 0, 1) := dk_dX10_qTold_26.2.1
theorem dX10_qTold_30 : decode cX10_qTold 30 = .ok (.iload_n 3, 1) := dk_dX10_qTold_26.2.2.1
theorem dX10_qTold_31 : decode cX10_qTold 31 = .ok (.sipush 1000, 3) := dk_dX10_qTold_26.2.2.2.1
theorem dX10_qTold_34 : decode cX10_qTold 34 = .ok (.isub, 1) := dk_dX10_qTold_26.2.2.2.2.1
theorem dX10_qTold_35 : decode cX10_qTold 35 = .ok (.i2l, 1) := dk_dX10_qTold_26.2.2.2.2.2.1
theorem dX10_qTold_36 : decode cX10_qTold 36 = .ok (.invokevirtual 443, 3) := dk_dX10_qTold_26.2.2.2.2.2.2.1
theorem dX10_qTold_39 : decode cX10_qTold 39 = .ok (.goto 123, 3) := dk_dX10_qTold_26.2.2.2.2.2.2.2.1
theorem dk_dX10_qTold_26_8 : dz_C cX10_qTold [(42, .iload_n 3, 1), (43, .bipush 60, 2), (45, .if_icmp .lt 40, 3), (48, .aload_n 0, 1), (49, .getfield 270, 3), (52, .aload_n 0, 1), (53, .getfield 440, 3), (56, .iconst 1, 1)] := dk_dX10_qTold_26.2.2.2.2.2.2.2.2
theorem dX10_qTold_42 : decode cX10_qTold 42 = .ok (.iload_n 3, 1) := dk_dX10_qTold_26_8.1
theorem dX10_qTold_43 : decode cX10_qTold 43 = .ok (.bipush 60, 2) := dk_dX10_qTold_26_8.2.1
theorem dX10_qTold_45 : decode cX10_qTold 45 = .ok (.if_icmp .lt 40, 3) := dk_dX10_qTold_26_8.2.2.1
theorem dX10_qTold_48 : decode cX10_qTold 48 = .ok (.aload_n 0, 1) := dk_dX10_qTold_26_8.2.2.2.1
theorem dX10_qTold_49 : decode cX10_qTold 49 = .ok (.getfield 270, 3) := dk_dX10_qTold_26_8.2.2.2.2.1
theorem dX10_qTold_52 : decode cX10_qTold 52 = .ok (.aload_n 0, 1) := dk_dX10_qTold_26_8.2.2.2.2.2.1
theorem dX10_qTold_53 : decode cX10_qTold 53 = .ok (.getfield 440, 3) := dk_dX10_qTold_26_8.2.2.2.2.2.2.1
theorem dX10_qTold_56 : decode cX10_qTold 56 = .ok (.iconst 1, 1) := dk_dX10_qTold_26_8.2.2.2.2.2.2.2.1
theorem dk_dX10_qTold_57 : dz_C cX10_qTold [(57, .isub, 1), (58, .aload_n 0, 1), (59, .iload_n 3, 1), (60, .bipush 60, 2), (62, .isub, 1), (63, .aload_n 0, 1), (64, .getfield 270, 3), (67, .aload_n 0, 1), (68, .getfield 440, 3), (71, .iconst 1, 1), (72, .isub, 1), (73, .laload, 1), (74, .iload_n 1, 1), (75, .invokevirtual 674, 3), (78, .invokestatic 666, 3), (81, .lastore, 1)] := dz_of (by decide +kernel)
theorem dX10_qTold_57 : decode cX10_qTold 57 = .ok (.isub, 1) := dk_dX10_qTold_57.1
theorem dX10_qTold_58 : decode cX10_qTold 58 = .ok (.aload_n 0, 1) := dk_dX10_qTold_57.2.1
theorem dX10_qTold_59 : decode cX10_qTold 59 = .ok (.iload_n 3, 1) := dk_dX10_qTold_57.2.2.1
theorem dX10_qTold_60 : decode cX10_qTold 60 = .ok (.bipush 60, 2) := dk_dX10_qTold_57.2.2.2.1
theorem dX10_qTold_62 : decode cX10_qTold 62 = .ok (.isub, 1) := dk_dX10_qTold_57.2.2.2.2.1
theorem dX10_qTold_63 : decode cX10_qTold 63 = .ok (.aload_n 0, 1) := dk_dX10_qTold_57.2.2.2.2.2.1
theorem dX10_qTold_64 : decode cX10_qTold 64 = .ok (.getfield 270, 3) := dk_dX10_qTold_57.2.2.2.2.2.2.1
theorem dX10_qTold_67 : decode cX10_qTold 67 = .ok (.aload_n 0, 1) := dk_dX10_qTold_57.2.2.2.2.2.2.2.1
theorem dk_dX10_qTold_57_8 : dz_C cX10_qTold [(68, .getfield 440, 3), (71, .iconst 1, 1), (72, .isub, 1), (73, .laload, 1), (74, .iload_n 1, 1), (75, .invokevirtual 674, 3), (78, .invokestatic 666, 3), (81, .lastore, 1)] := dk_dX10_qTold_57.2.2.2.2.2.2.2.2
theorem dX10_qTold_68 : decode cX10_qTold 68 = .ok (.getfield 440, 3) := dk_dX10_qTold_57_8.1
theorem dX10_qTold_71 : decode cX10_qTold 71 = .ok (.iconst 1, 1) := dk_dX10_qTold_57_8.2.1
theorem dX10_qTold_72 : decode cX10_qTold 72 = .ok (.isub, 1) := dk_dX10_qTold_57_8.2.2.1
theorem dX10_qTold_73 : decode cX10_qTold 73 = .ok (.laload, 1) := dk_dX10_qTold_57_8.2.2.2.1
theorem dX10_qTold_74 : decode cX10_qTold 74 = .ok (.iload_n 1, 1) := dk_dX10_qTold_57_8.2.2.2.2.1
theorem dX10_qTold_75 : decode cX10_qTold 75 = .ok (.invokevirtual 674, 3) := dk_dX10_qTold_57_8.2.2.2.2.2.1
theorem dX10_qTold_78 : decode cX10_qTold 78 = .ok (.invokestatic 666, 3) := dk_dX10_qTold_57_8.2.2.2.2.2.2.1
theorem dX10_qTold_81 : decode cX10_qTold 81 = .ok (.lastore, 1) := dk_dX10_qTold_57_8.2.2.2.2.2.2.2.1
theorem dk_dX10_qTold_82 : dz_C cX10_qTold [(82, .goto 80, 3), (85, .iload_n 3, 1), (86, .bipush 40, 2), (88, .if_icmp .lt 22, 3), (91, .aload_n 0, 1), (92, .aload_n 0, 1), (93, .iload_n 3, 1), (94, .bipush 40, 2), (96, .isub, 1), (97, .iload_n 1, 1), (98, .invokevirtual 447, 3), (101, .invokestatic 666, 3), (104, .invokevirtual 443, 3), (107, .goto 55, 3), (110, .iload_n 3, 1), (111, .bipush 13, 2)] := dz_of (by decide +kernel)
theorem dX10_qTold_82 : decode cX10_qTold 82 = .ok (.goto 80, 3) := dk_dX10_qTold_82.1
theorem dX10_qTold_85 : decode cX10_qTold 85 = .ok (.iload_n 3, 1) := dk_dX10_qTold_82.2.1
theorem dX10_qTold_86 : decode cX10_qTold 86 = .ok (.bipush 40, 2) := dk_dX10_qTold_82.2.2.1
theorem dX10_qTold_88 : decode cX10_qTold 88 = .ok (.if_icmp .lt 22, 3) := dk_dX10_qTold_82.2.2.2.1
theorem dX10_qTold_91 : decode cX10_qTold 91 = .ok (.aload_n 0, 1) := dk_dX10_qTold_82.2.2.2.2.1
theorem dX10_qTold_92 : decode cX10_qTold 92 = .ok (.aload_n 0, 1) := dk_dX10_qTold_82.2.2.2.2.2.1
theorem dX10_qTold_93 : decode cX10_qTold 93 = .ok (.iload_n 3, 1) := dk_dX10_qTold_82.2.2.2.2.2.2.1
theorem dX10_qTold_94 : decode cX10_qTold 94 = .ok (.bipush 40, 2) := dk_dX10_qTold_82.2.2.2.2.2.2.2.1
theorem dk_dX10_qTold_82_8 : dz_C cX10_qTold [(96, .isub, 1), (97, .iload_n 1, 1), (98, .invokevirtual 447, 3), (101, .invokestatic 666, 3), (104, .invokevirtual 443, 3), (107, .goto 55, 3), (110, .iload_n 3, 1), (111, .bipush 13, 2)] := dk_dX10_qTold_82.2.2.2.2.2.2.2.2
theorem dX10_qTold_96 : decode cX10_qTold 96 = .ok (.isub, 1) := dk_dX10_qTold_82_8.1
theorem dX10_qTold_97 : decode cX10_qTold 97 = .ok (.iload_n 1, 1) := dk_dX10_qTold_82_8.2.1
theorem dX10_qTold_98 : decode cX10_qTold 98 = .ok (.invokevirtual 447, 3) := dk_dX10_qTold_82_8.2.2.1
theorem dX10_qTold_101 : decode cX10_qTold 101 = .ok (.invokestatic 666, 3) := dk_dX10_qTold_82_8.2.2.2.1
theorem dX10_qTold_104 : decode cX10_qTold 104 = .ok (.invokevirtual 443, 3) := dk_dX10_qTold_82_8.2.2.2.2.1
theorem dX10_qTold_107 : decode cX10_qTold 107 = .ok (.goto 55, 3) := dk_dX10_qTold_82_8.2.2.2.2.2.1
theorem dX10_qTold_110 : decode cX10_qTold 110 = .ok (.iload_n 3, 1) := dk_dX10_qTold_82_8.2.2.2.2.2.2.1
theorem dX10_qTold_111 : decode cX10_qTold 111 = .ok (.bipush 13, 2) := dk_dX10_qTold_82_8.2.2.2.2.2.2.2.1
theorem dk_dX10_qTold_113 : dz_C cX10_qTold [(113, .if_icmp .ne 11, 3), (116, .aload_n 0, 1), (117, .lconst 1, 1), (118, .invokevirtual 443, 3), (121, .goto 41, 3), (124, .iload_n 3, 1), (125, .bipush 12, 2), (127, .if_icmp .ne 30, 3), (130, .aload_n 0, 1), (131, .getfield 270, 3), (134, .aload_n 0, 1), (135, .getfield 440, 3), (138, .iconst 1, 1), (139, .isub, 1), (140, .lconst 1, 1), (141, .aload_n 0, 1)] := dz_of (by decide +kernel)
theorem dX10_qTold_113 : decode cX10_qTold 113 = .ok (.if_icmp .ne 11, 3) := dk_dX10_qTold_113.1
theorem dX10_qTold_116 : decode cX10_qTold 116 = .ok (.aload_n 0, 1) := dk_dX10_qTold_113.2.1
theorem dX10_qTold_117 : decode cX10_qTold 117 = .ok (.lconst 1, 1) := dk_dX10_qTold_113.2.2.1
theorem dX10_qTold_118 : decode cX10_qTold 118 = .ok (.invokevirtual 443, 3) := dk_dX10_qTold_113.2.2.2.1
theorem dX10_qTold_121 : decode cX10_qTold 121 = .ok (.goto 41, 3) := dk_dX10_qTold_113.2.2.2.2.1
theorem dX10_qTold_124 : decode cX10_qTold 124 = .ok (.iload_n 3, 1) := dk_dX10_qTold_113.2.2.2.2.2.1
theorem dX10_qTold_125 : decode cX10_qTold 125 = .ok (.bipush 12, 2) := dk_dX10_qTold_113.2.2.2.2.2.2.1
theorem dX10_qTold_127 : decode cX10_qTold 127 = .ok (.if_icmp .ne 30, 3) := dk_dX10_qTold_113.2.2.2.2.2.2.2.1
theorem dk_dX10_qTold_113_8 : dz_C cX10_qTold [(130, .aload_n 0, 1), (131, .getfield 270, 3), (134, .aload_n 0, 1), (135, .getfield 440, 3), (138, .iconst 1, 1), (139, .isub, 1), (140, .lconst 1, 1), (141, .aload_n 0, 1)] := dk_dX10_qTold_113.2.2.2.2.2.2.2.2
theorem dX10_qTold_130 : decode cX10_qTold 130 = .ok (.aload_n 0, 1) := dk_dX10_qTold_113_8.1
theorem dX10_qTold_131 : decode cX10_qTold 131 = .ok (.getfield 270, 3) := dk_dX10_qTold_113_8.2.1
theorem dX10_qTold_134 : decode cX10_qTold 134 = .ok (.aload_n 0, 1) := dk_dX10_qTold_113_8.2.2.1
theorem dX10_qTold_135 : decode cX10_qTold 135 = .ok (.getfield 440, 3) := dk_dX10_qTold_113_8.2.2.2.1
theorem dX10_qTold_138 : decode cX10_qTold 138 = .ok (.iconst 1, 1) := dk_dX10_qTold_113_8.2.2.2.2.1
theorem dX10_qTold_139 : decode cX10_qTold 139 = .ok (.isub, 1) := dk_dX10_qTold_113_8.2.2.2.2.2.1
theorem dX10_qTold_140 : decode cX10_qTold 140 = .ok (.lconst 1, 1) := dk_dX10_qTold_113_8.2.2.2.2.2.2.1
theorem dX10_qTold_141 : decode cX10_qTold 141 = .ok (.aload_n 0, 1) := dk_dX10_qTold_113_8.2.2.2.2.2.2.2.1
theorem dk_dX10_qTold_142 : dz_C cX10_qTold [(142, .getfield 270, 3), (145, .aload_n 0, 1), (146, .getfield 440, 3), (149, .iconst 1, 1), (150, .isub, 1), (151, .laload, 1), (152, .lsub, 1), (153, .lastore, 1), (154, .goto 8, 3), (157, .aload_n 0, 1), (158, .iload_n 3, 1), (159, .invokevirtual 451, 3), (162, .iinc 2 1, 3), (165, .goto (-158), 3), (168, .aload_n 0, 1), (169, .getfield 270, 3)] := dz_of (by decide +kernel)
theorem dX10_qTold_142 : decode cX10_qTold 142 = .ok (.getfield 270, 3) := dk_dX10_qTold_142.1
theorem dX10_qTold_145 : decode cX10_qTold 145 = .ok (.aload_n 0, 1) := dk_dX10_qTold_142.2.1
theorem dX10_qTold_146 : decode cX10_qTold 146 = .ok (.getfield 440, 3) := dk_dX10_qTold_142.2.2.1
theorem dX10_qTold_149 : decode cX10_qTold 149 = .ok (.iconst 1, 1) := dk_dX10_qTold_142.2.2.2.1
theorem dX10_qTold_150 : decode cX10_qTold 150 = .ok (.isub, 1) := dk_dX10_qTold_142.2.2.2.2.1
theorem dX10_qTold_151 : decode cX10_qTold 151 = .ok (.laload, 1) := dk_dX10_qTold_142.2.2.2.2.2.1
theorem dX10_qTold_152 : decode cX10_qTold 152 = .ok (.lsub, 1) := dk_dX10_qTold_142.2.2.2.2.2.2.1
theorem dX10_qTold_153 : decode cX10_qTold 153 = .ok (.lastore, 1) := dk_dX10_qTold_142.2.2.2.2.2.2.2.1
theorem dk_dX10_qTold_142_8 : dz_C cX10_qTold [(154, .goto 8, 3), (157, .aload_n 0, 1), (158, .iload_n 3, 1), (159, .invokevirtual 451, 3), (162, .iinc 2 1, 3), (165, .goto (-158), 3), (168, .aload_n 0, 1), (169, .getfield 270, 3)] := dk_dX10_qTold_142.2.2.2.2.2.2.2.2
theorem dX10_qTold_154 : decode cX10_qTold 154 = .ok (.goto 8, 3) := dk_dX10_qTold_142_8.1
theorem dX10_qTold_157 : decode cX10_qTold 157 = .ok (.aload_n 0, 1) := dk_dX10_qTold_142_8.2.1
theorem dX10_qTold_158 : decode cX10_qTold 158 = .ok (.iload_n 3, 1) := dk_dX10_qTold_142_8.2.2.1
theorem dX10_qTold_159 : decode cX10_qTold 159 = .ok (.invokevirtual 451, 3) := dk_dX10_qTold_142_8.2.2.2.1
theorem dX10_qTold_162 : decode cX10_qTold 162 = .ok (.iinc 2 1, 3) := dk_dX10_qTold_142_8.2.2.2.2.1
theorem dX10_qTold_165 : decode cX10_qTold 165 = .ok (.goto (-158), 3) := dk_dX10_qTold_142_8.2.2.2.2.2.1
theorem dX10_qTold_168 : decode cX10_qTold 168 = .ok (.aload_n 0, 1) := dk_dX10_qTold_142_8.2.2.2.2.2.2.1
theorem dX10_qTold_169 : decode cX10_qTold 169 = .ok (.getfield 270, 3) := dk_dX10_qTold_142_8.2.2.2.2.2.2.2.1
theorem dk_dX10_qTold_172 : dz_C cX10_qTold [(172, .iconst 0, 1), (173, .laload, 1), (174, .lreturn, 1)] := dz_of (by decide +kernel)
theorem dX10_qTold_172 : decode cX10_qTold 172 = .ok (.iconst 0, 1) := dk_dX10_qTold_172.1
theorem dX10_qTold_173 : decode cX10_qTold 173 = .ok (.laload, 1) := dk_dX10_qTold_172.2.1
theorem dX10_qTold_174 : decode cX10_qTold 174 = .ok (.lreturn, 1) := dk_dX10_qTold_172.2.2.1
theorem dk_dX10_qWordHere_0 : dz_C cX10_qWordHere [(0, .aload_n 0, 1), (1, .aload_n 0, 1), (2, .getfield 225, 3), (5, .invokevirtual 302, 3), (8, .ifCond .eq 5, 3), (11, .iconst 0, 1), (12, .ireturn, 1), (13, .aload_n 0, 1), (14, .aload_n 0, 1), (15, .getfield 228, 3), (18, .invokevirtual 302, 3), (21, .ifCond .eq 5, 3), (24, .iconst 1, 1), (25, .ireturn, 1), (26, .aload_n 0, 1), (27, .aload_n 0, 1)] := dz_of (by decide +kernel)
theorem dX10_qWordHere_0 : decode cX10_qWordHere 0 = .ok (.aload_n 0, 1) := dk_dX10_qWordHere_0.1
theorem dX10_qWordHere_1 : decode cX10_qWordHere 1 = .ok (.aload_n 0, 1) := dk_dX10_qWordHere_0.2.1
theorem dX10_qWordHere_2 : decode cX10_qWordHere 2 = .ok (.getfield 225, 3) := dk_dX10_qWordHere_0.2.2.1
theorem dX10_qWordHere_5 : decode cX10_qWordHere 5 = .ok (.invokevirtual 302, 3) := dk_dX10_qWordHere_0.2.2.2.1
theorem dX10_qWordHere_8 : decode cX10_qWordHere 8 = .ok (.ifCond .eq 5, 3) := dk_dX10_qWordHere_0.2.2.2.2.1
theorem dX10_qWordHere_11 : decode cX10_qWordHere 11 = .ok (.iconst 0, 1) := dk_dX10_qWordHere_0.2.2.2.2.2.1
theorem dX10_qWordHere_12 : decode cX10_qWordHere 12 = .ok (.ireturn, 1) := dk_dX10_qWordHere_0.2.2.2.2.2.2.1
theorem dX10_qWordHere_13 : decode cX10_qWordHere 13 = .ok (.aload_n 0, 1) := dk_dX10_qWordHere_0.2.2.2.2.2.2.2.1
theorem dk_dX10_qWordHere_0_8 : dz_C cX10_qWordHere [(14, .aload_n 0, 1), (15, .getfield 228, 3), (18, .invokevirtual 302, 3), (21, .ifCond .eq 5, 3), (24, .iconst 1, 1), (25, .ireturn, 1), (26, .aload_n 0, 1), (27, .aload_n 0, 1)] := dk_dX10_qWordHere_0.2.2.2.2.2.2.2.2
theorem dX10_qWordHere_14 : decode cX10_qWordHere 14 = .ok (.aload_n 0, 1) := dk_dX10_qWordHere_0_8.1
theorem dX10_qWordHere_15 : decode cX10_qWordHere 15 = .ok (.getfield 228, 3) := dk_dX10_qWordHere_0_8.2.1
theorem dX10_qWordHere_18 : decode cX10_qWordHere 18 = .ok (.invokevirtual 302, 3) := dk_dX10_qWordHere_0_8.2.2.1
theorem dX10_qWordHere_21 : decode cX10_qWordHere 21 = .ok (.ifCond .eq 5, 3) := dk_dX10_qWordHere_0_8.2.2.2.1
theorem dX10_qWordHere_24 : decode cX10_qWordHere 24 = .ok (.iconst 1, 1) := dk_dX10_qWordHere_0_8.2.2.2.2.1
theorem dX10_qWordHere_25 : decode cX10_qWordHere 25 = .ok (.ireturn, 1) := dk_dX10_qWordHere_0_8.2.2.2.2.2.1
theorem dX10_qWordHere_26 : decode cX10_qWordHere 26 = .ok (.aload_n 0, 1) := dk_dX10_qWordHere_0_8.2.2.2.2.2.2.1
theorem dX10_qWordHere_27 : decode cX10_qWordHere 27 = .ok (.aload_n 0, 1) := dk_dX10_qWordHere_0_8.2.2.2.2.2.2.2.1
theorem dk_dX10_qWordHere_28 : dz_C cX10_qWordHere [(28, .getfield 231, 3), (31, .invokevirtual 302, 3), (34, .ifCond .eq 5, 3), (37, .iconst 2, 1), (38, .ireturn, 1), (39, .aload_n 0, 1), (40, .aload_n 0, 1), (41, .getfield 234, 3), (44, .invokevirtual 302, 3), (47, .ifCond .eq 5, 3), (50, .iconst 3, 1), (51, .ireturn, 1), (52, .aload_n 0, 1), (53, .aload_n 0, 1), (54, .getfield 237, 3), (57, .invokevirtual 302, 3)] := dz_of (by decide +kernel)
theorem dX10_qWordHere_28 : decode cX10_qWordHere 28 = .ok (.getfield 231, 3) := dk_dX10_qWordHere_28.1
theorem dX10_qWordHere_31 : decode cX10_qWordHere 31 = .ok (.invokevirtual 302, 3) := dk_dX10_qWordHere_28.2.1
theorem dX10_qWordHere_34 : decode cX10_qWordHere 34 = .ok (.ifCond .eq 5, 3) := dk_dX10_qWordHere_28.2.2.1
theorem dX10_qWordHere_37 : decode cX10_qWordHere 37 = .ok (.iconst 2, 1) := dk_dX10_qWordHere_28.2.2.2.1
theorem dX10_qWordHere_38 : decode cX10_qWordHere 38 = .ok (.ireturn, 1) := dk_dX10_qWordHere_28.2.2.2.2.1
theorem dX10_qWordHere_39 : decode cX10_qWordHere 39 = .ok (.aload_n 0, 1) := dk_dX10_qWordHere_28.2.2.2.2.2.1
theorem dX10_qWordHere_40 : decode cX10_qWordHere 40 = .ok (.aload_n 0, 1) := dk_dX10_qWordHere_28.2.2.2.2.2.2.1
theorem dX10_qWordHere_41 : decode cX10_qWordHere 41 = .ok (.getfield 234, 3) := dk_dX10_qWordHere_28.2.2.2.2.2.2.2.1
theorem dk_dX10_qWordHere_28_8 : dz_C cX10_qWordHere [(44, .invokevirtual 302, 3), (47, .ifCond .eq 5, 3), (50, .iconst 3, 1), (51, .ireturn, 1), (52, .aload_n 0, 1), (53, .aload_n 0, 1), (54, .getfield 237, 3), (57, .invokevirtual 302, 3)] := dk_dX10_qWordHere_28.2.2.2.2.2.2.2.2
theorem dX10_qWordHere_44 : decode cX10_qWordHere 44 = .ok (.invokevirtual 302, 3) := dk_dX10_qWordHere_28_8.1
theorem dX10_qWordHere_47 : decode cX10_qWordHere 47 = .ok (.ifCond .eq 5, 3) := dk_dX10_qWordHere_28_8.2.1
theorem dX10_qWordHere_50 : decode cX10_qWordHere 50 = .ok (.iconst 3, 1) := dk_dX10_qWordHere_28_8.2.2.1
theorem dX10_qWordHere_51 : decode cX10_qWordHere 51 = .ok (.ireturn, 1) := dk_dX10_qWordHere_28_8.2.2.2.1
theorem dX10_qWordHere_52 : decode cX10_qWordHere 52 = .ok (.aload_n 0, 1) := dk_dX10_qWordHere_28_8.2.2.2.2.1
theorem dX10_qWordHere_53 : decode cX10_qWordHere 53 = .ok (.aload_n 0, 1) := dk_dX10_qWordHere_28_8.2.2.2.2.2.1
theorem dX10_qWordHere_54 : decode cX10_qWordHere 54 = .ok (.getfield 237, 3) := dk_dX10_qWordHere_28_8.2.2.2.2.2.2.1
theorem dX10_qWordHere_57 : decode cX10_qWordHere 57 = .ok (.invokevirtual 302, 3) := dk_dX10_qWordHere_28_8.2.2.2.2.2.2.2.1
theorem dk_dX10_qWordHere_60 : dz_C cX10_qWordHere [(60, .ifCond .eq 5, 3), (63, .iconst 4, 1), (64, .ireturn, 1), (65, .aload_n 0, 1), (66, .aload_n 0, 1), (67, .getfield 240, 3), (70, .invokevirtual 302, 3), (73, .ifCond .eq 5, 3), (76, .iconst 5, 1), (77, .ireturn, 1), (78, .aload_n 0, 1), (79, .aload_n 0, 1), (80, .getfield 243, 3), (83, .invokevirtual 302, 3), (86, .ifCond .eq 6, 3), (89, .bipush 6, 2)] := dz_of (by decide +kernel)
theorem dX10_qWordHere_60 : decode cX10_qWordHere 60 = .ok (.ifCond .eq 5, 3) := dk_dX10_qWordHere_60.1
theorem dX10_qWordHere_63 : decode cX10_qWordHere 63 = .ok (.iconst 4, 1) := dk_dX10_qWordHere_60.2.1
theorem dX10_qWordHere_64 : decode cX10_qWordHere 64 = .ok (.ireturn, 1) := dk_dX10_qWordHere_60.2.2.1
theorem dX10_qWordHere_65 : decode cX10_qWordHere 65 = .ok (.aload_n 0, 1) := dk_dX10_qWordHere_60.2.2.2.1
theorem dX10_qWordHere_66 : decode cX10_qWordHere 66 = .ok (.aload_n 0, 1) := dk_dX10_qWordHere_60.2.2.2.2.1
theorem dX10_qWordHere_67 : decode cX10_qWordHere 67 = .ok (.getfield 240, 3) := dk_dX10_qWordHere_60.2.2.2.2.2.1
theorem dX10_qWordHere_70 : decode cX10_qWordHere 70 = .ok (.invokevirtual 302, 3) := dk_dX10_qWordHere_60.2.2.2.2.2.2.1
theorem dX10_qWordHere_73 : decode cX10_qWordHere 73 = .ok (.ifCond .eq 5, 3) := dk_dX10_qWordHere_60.2.2.2.2.2.2.2.1
theorem dk_dX10_qWordHere_60_8 : dz_C cX10_qWordHere [(76, .iconst 5, 1), (77, .ireturn, 1), (78, .aload_n 0, 1), (79, .aload_n 0, 1), (80, .getfield 243, 3), (83, .invokevirtual 302, 3), (86, .ifCond .eq 6, 3), (89, .bipush 6, 2)] := dk_dX10_qWordHere_60.2.2.2.2.2.2.2.2
theorem dX10_qWordHere_76 : decode cX10_qWordHere 76 = .ok (.iconst 5, 1) := dk_dX10_qWordHere_60_8.1
theorem dX10_qWordHere_77 : decode cX10_qWordHere 77 = .ok (.ireturn, 1) := dk_dX10_qWordHere_60_8.2.1
theorem dX10_qWordHere_78 : decode cX10_qWordHere 78 = .ok (.aload_n 0, 1) := dk_dX10_qWordHere_60_8.2.2.1
theorem dX10_qWordHere_79 : decode cX10_qWordHere 79 = .ok (.aload_n 0, 1) := dk_dX10_qWordHere_60_8.2.2.2.1
theorem dX10_qWordHere_80 : decode cX10_qWordHere 80 = .ok (.getfield 243, 3) := dk_dX10_qWordHere_60_8.2.2.2.2.1
theorem dX10_qWordHere_83 : decode cX10_qWordHere 83 = .ok (.invokevirtual 302, 3) := dk_dX10_qWordHere_60_8.2.2.2.2.2.1
theorem dX10_qWordHere_86 : decode cX10_qWordHere 86 = .ok (.ifCond .eq 6, 3) := dk_dX10_qWordHere_60_8.2.2.2.2.2.2.1
theorem dX10_qWordHere_89 : decode cX10_qWordHere 89 = .ok (.bipush 6, 2) := dk_dX10_qWordHere_60_8.2.2.2.2.2.2.2.1
theorem dk_dX10_qWordHere_91 : dz_C cX10_qWordHere [(91, .ireturn, 1), (92, .aload_n 0, 1), (93, .aload_n 0, 1), (94, .getfield 246, 3), (97, .invokevirtual 302, 3), (100, .ifCond .eq 6, 3), (103, .bipush 7, 2), (105, .ireturn, 1), (106, .aload_n 0, 1), (107, .aload_n 0, 1), (108, .getfield 249, 3), (111, .invokevirtual 302, 3), (114, .ifCond .eq 6, 3), (117, .bipush 8, 2), (119, .ireturn, 1), (120, .aload_n 0, 1)] := dz_of (by decide +kernel)
theorem dX10_qWordHere_91 : decode cX10_qWordHere 91 = .ok (.ireturn, 1) := dk_dX10_qWordHere_91.1
theorem dX10_qWordHere_92 : decode cX10_qWordHere 92 = .ok (.aload_n 0, 1) := dk_dX10_qWordHere_91.2.1
theorem dX10_qWordHere_93 : decode cX10_qWordHere 93 = .ok (.aload_n 0, 1) := dk_dX10_qWordHere_91.2.2.1
theorem dX10_qWordHere_94 : decode cX10_qWordHere 94 = .ok (.getfield 246, 3) := dk_dX10_qWordHere_91.2.2.2.1
theorem dX10_qWordHere_97 : decode cX10_qWordHere 97 = .ok (.invokevirtual 302, 3) := dk_dX10_qWordHere_91.2.2.2.2.1
theorem dX10_qWordHere_100 : decode cX10_qWordHere 100 = .ok (.ifCond .eq 6, 3) := dk_dX10_qWordHere_91.2.2.2.2.2.1
theorem dX10_qWordHere_103 : decode cX10_qWordHere 103 = .ok (.bipush 7, 2) := dk_dX10_qWordHere_91.2.2.2.2.2.2.1
theorem dX10_qWordHere_105 : decode cX10_qWordHere 105 = .ok (.ireturn, 1) := dk_dX10_qWordHere_91.2.2.2.2.2.2.2.1
theorem dk_dX10_qWordHere_91_8 : dz_C cX10_qWordHere [(106, .aload_n 0, 1), (107, .aload_n 0, 1), (108, .getfield 249, 3), (111, .invokevirtual 302, 3), (114, .ifCond .eq 6, 3), (117, .bipush 8, 2), (119, .ireturn, 1), (120, .aload_n 0, 1)] := dk_dX10_qWordHere_91.2.2.2.2.2.2.2.2
theorem dX10_qWordHere_106 : decode cX10_qWordHere 106 = .ok (.aload_n 0, 1) := dk_dX10_qWordHere_91_8.1
theorem dX10_qWordHere_107 : decode cX10_qWordHere 107 = .ok (.aload_n 0, 1) := dk_dX10_qWordHere_91_8.2.1
theorem dX10_qWordHere_108 : decode cX10_qWordHere 108 = .ok (.getfield 249, 3) := dk_dX10_qWordHere_91_8.2.2.1
theorem dX10_qWordHere_111 : decode cX10_qWordHere 111 = .ok (.invokevirtual 302, 3) := dk_dX10_qWordHere_91_8.2.2.2.1
theorem dX10_qWordHere_114 : decode cX10_qWordHere 114 = .ok (.ifCond .eq 6, 3) := dk_dX10_qWordHere_91_8.2.2.2.2.1
theorem dX10_qWordHere_117 : decode cX10_qWordHere 117 = .ok (.bipush 8, 2) := dk_dX10_qWordHere_91_8.2.2.2.2.2.1
theorem dX10_qWordHere_119 : decode cX10_qWordHere 119 = .ok (.ireturn, 1) := dk_dX10_qWordHere_91_8.2.2.2.2.2.2.1
theorem dX10_qWordHere_120 : decode cX10_qWordHere 120 = .ok (.aload_n 0, 1) := dk_dX10_qWordHere_91_8.2.2.2.2.2.2.2.1
theorem dk_dX10_qWordHere_121 : dz_C cX10_qWordHere [(121, .aload_n 0, 1), (122, .getfield 252, 3), (125, .invokevirtual 302, 3), (128, .ifCond .eq 6, 3), (131, .bipush 9, 2), (133, .ireturn, 1), (134, .aload_n 0, 1), (135, .aload_n 0, 1), (136, .getfield 255, 3), (139, .invokevirtual 302, 3), (142, .ifCond .eq 6, 3), (145, .bipush 10, 2), (147, .ireturn, 1), (148, .aload_n 0, 1), (149, .aload_n 0, 1), (150, .getfield 258, 3)] := dz_of (by decide +kernel)
theorem dX10_qWordHere_121 : decode cX10_qWordHere 121 = .ok (.aload_n 0, 1) := dk_dX10_qWordHere_121.1
theorem dX10_qWordHere_122 : decode cX10_qWordHere 122 = .ok (.getfield 252, 3) := dk_dX10_qWordHere_121.2.1
theorem dX10_qWordHere_125 : decode cX10_qWordHere 125 = .ok (.invokevirtual 302, 3) := dk_dX10_qWordHere_121.2.2.1
theorem dX10_qWordHere_128 : decode cX10_qWordHere 128 = .ok (.ifCond .eq 6, 3) := dk_dX10_qWordHere_121.2.2.2.1
theorem dX10_qWordHere_131 : decode cX10_qWordHere 131 = .ok (.bipush 9, 2) := dk_dX10_qWordHere_121.2.2.2.2.1
theorem dX10_qWordHere_133 : decode cX10_qWordHere 133 = .ok (.ireturn, 1) := dk_dX10_qWordHere_121.2.2.2.2.2.1
theorem dX10_qWordHere_134 : decode cX10_qWordHere 134 = .ok (.aload_n 0, 1) := dk_dX10_qWordHere_121.2.2.2.2.2.2.1
theorem dX10_qWordHere_135 : decode cX10_qWordHere 135 = .ok (.aload_n 0, 1) := dk_dX10_qWordHere_121.2.2.2.2.2.2.2.1
theorem dk_dX10_qWordHere_121_8 : dz_C cX10_qWordHere [(136, .getfield 255, 3), (139, .invokevirtual 302, 3), (142, .ifCond .eq 6, 3), (145, .bipush 10, 2), (147, .ireturn, 1), (148, .aload_n 0, 1), (149, .aload_n 0, 1), (150, .getfield 258, 3)] := dk_dX10_qWordHere_121.2.2.2.2.2.2.2.2
theorem dX10_qWordHere_136 : decode cX10_qWordHere 136 = .ok (.getfield 255, 3) := dk_dX10_qWordHere_121_8.1
theorem dX10_qWordHere_139 : decode cX10_qWordHere 139 = .ok (.invokevirtual 302, 3) := dk_dX10_qWordHere_121_8.2.1
theorem dX10_qWordHere_142 : decode cX10_qWordHere 142 = .ok (.ifCond .eq 6, 3) := dk_dX10_qWordHere_121_8.2.2.1
theorem dX10_qWordHere_145 : decode cX10_qWordHere 145 = .ok (.bipush 10, 2) := dk_dX10_qWordHere_121_8.2.2.2.1
theorem dX10_qWordHere_147 : decode cX10_qWordHere 147 = .ok (.ireturn, 1) := dk_dX10_qWordHere_121_8.2.2.2.2.1
theorem dX10_qWordHere_148 : decode cX10_qWordHere 148 = .ok (.aload_n 0, 1) := dk_dX10_qWordHere_121_8.2.2.2.2.2.1
theorem dX10_qWordHere_149 : decode cX10_qWordHere 149 = .ok (.aload_n 0, 1) := dk_dX10_qWordHere_121_8.2.2.2.2.2.2.1
theorem dX10_qWordHere_150 : decode cX10_qWordHere 150 = .ok (.getfield 258, 3) := dk_dX10_qWordHere_121_8.2.2.2.2.2.2.2.1
theorem dk_dX10_qWordHere_153 : dz_C cX10_qWordHere [(153, .invokevirtual 302, 3), (156, .ifCond .eq 6, 3), (159, .bipush 11, 2), (161, .ireturn, 1), (162, .aload_n 0, 1), (163, .aload_n 0, 1), (164, .getfield 261, 3), (167, .invokevirtual 302, 3), (170, .ifCond .eq 6, 3), (173, .bipush 12, 2), (175, .ireturn, 1), (176, .iconst (-1), 1), (177, .ireturn, 1)] := dz_of (by decide +kernel)
theorem dX10_qWordHere_153 : decode cX10_qWordHere 153 = .ok (.invokevirtual 302, 3) := dk_dX10_qWordHere_153.1
theorem dX10_qWordHere_156 : decode cX10_qWordHere 156 = .ok (.ifCond .eq 6, 3) := dk_dX10_qWordHere_153.2.1
theorem dX10_qWordHere_159 : decode cX10_qWordHere 159 = .ok (.bipush 11, 2) := dk_dX10_qWordHere_153.2.2.1
theorem dX10_qWordHere_161 : decode cX10_qWordHere 161 = .ok (.ireturn, 1) := dk_dX10_qWordHere_153.2.2.2.1
theorem dX10_qWordHere_162 : decode cX10_qWordHere 162 = .ok (.aload_n 0, 1) := dk_dX10_qWordHere_153.2.2.2.2.1
theorem dX10_qWordHere_163 : decode cX10_qWordHere 163 = .ok (.aload_n 0, 1) := dk_dX10_qWordHere_153.2.2.2.2.2.1
theorem dX10_qWordHere_164 : decode cX10_qWordHere 164 = .ok (.getfield 261, 3) := dk_dX10_qWordHere_153.2.2.2.2.2.2.1
theorem dX10_qWordHere_167 : decode cX10_qWordHere 167 = .ok (.invokevirtual 302, 3) := dk_dX10_qWordHere_153.2.2.2.2.2.2.2.1
theorem dk_dX10_qWordHere_153_8 : dz_C cX10_qWordHere [(170, .ifCond .eq 6, 3), (173, .bipush 12, 2), (175, .ireturn, 1), (176, .iconst (-1), 1), (177, .ireturn, 1)] := dk_dX10_qWordHere_153.2.2.2.2.2.2.2.2
theorem dX10_qWordHere_170 : decode cX10_qWordHere 170 = .ok (.ifCond .eq 6, 3) := dk_dX10_qWordHere_153_8.1
theorem dX10_qWordHere_173 : decode cX10_qWordHere 173 = .ok (.bipush 12, 2) := dk_dX10_qWordHere_153_8.2.1
theorem dX10_qWordHere_175 : decode cX10_qWordHere 175 = .ok (.ireturn, 1) := dk_dX10_qWordHere_153_8.2.2.1
theorem dX10_qWordHere_176 : decode cX10_qWordHere 176 = .ok (.iconst (-1), 1) := dk_dX10_qWordHere_153_8.2.2.2.1
theorem dX10_qWordHere_177 : decode cX10_qWordHere 177 = .ok (.ireturn, 1) := dk_dX10_qWordHere_153_8.2.2.2.2.1
theorem dk_dX10_qWordOf_0 : dz_C cX10_qWordOf [(0, .aload_n 0, 1), (1, .invokevirtual 617, 3), (4, .istore_n 3, 1), (5, .iload_n 3, 1), (6, .iload_n 1, 1), (7, .if_icmp .lt 20, 3), (10, .iload_n 3, 1), (11, .iload_n 2, 1), (12, .if_icmp .ge 15, 3), (15, .aload_n 0, 1), (16, .iload_n 3, 1), (17, .invokevirtual 620, 3), (20, .ifCond .eq 7, 3), (23, .iload_n 3, 1), (24, .goto 4, 3), (27, .iconst (-1), 1)] := dz_of (by decide +kernel)
theorem dX10_qWordOf_0 : decode cX10_qWordOf 0 = .ok (.aload_n 0, 1) := dk_dX10_qWordOf_0.1
theorem dX10_qWordOf_1 : decode cX10_qWordOf 1 = .ok (.invokevirtual 617, 3) := dk_dX10_qWordOf_0.2.1
theorem dX10_qWordOf_4 : decode cX10_qWordOf 4 = .ok (.istore_n 3, 1) := dk_dX10_qWordOf_0.2.2.1
theorem dX10_qWordOf_5 : decode cX10_qWordOf 5 = .ok (.iload_n 3, 1) := dk_dX10_qWordOf_0.2.2.2.1
theorem dX10_qWordOf_6 : decode cX10_qWordOf 6 = .ok (.iload_n 1, 1) := dk_dX10_qWordOf_0.2.2.2.2.1
theorem dX10_qWordOf_7 : decode cX10_qWordOf 7 = .ok (.if_icmp .lt 20, 3) := dk_dX10_qWordOf_0.2.2.2.2.2.1
theorem dX10_qWordOf_10 : decode cX10_qWordOf 10 = .ok (.iload_n 3, 1) := dk_dX10_qWordOf_0.2.2.2.2.2.2.1
theorem dX10_qWordOf_11 : decode cX10_qWordOf 11 = .ok (.iload_n 2, 1) := dk_dX10_qWordOf_0.2.2.2.2.2.2.2.1
theorem dk_dX10_qWordOf_0_8 : dz_C cX10_qWordOf [(12, .if_icmp .ge 15, 3), (15, .aload_n 0, 1), (16, .iload_n 3, 1), (17, .invokevirtual 620, 3), (20, .ifCond .eq 7, 3), (23, .iload_n 3, 1), (24, .goto 4, 3), (27, .iconst (-1), 1)] := dk_dX10_qWordOf_0.2.2.2.2.2.2.2.2
theorem dX10_qWordOf_12 : decode cX10_qWordOf 12 = .ok (.if_icmp .ge 15, 3) := dk_dX10_qWordOf_0_8.1
theorem dX10_qWordOf_15 : decode cX10_qWordOf 15 = .ok (.aload_n 0, 1) := dk_dX10_qWordOf_0_8.2.1
theorem dX10_qWordOf_16 : decode cX10_qWordOf 16 = .ok (.iload_n 3, 1) := dk_dX10_qWordOf_0_8.2.2.1
theorem dX10_qWordOf_17 : decode cX10_qWordOf 17 = .ok (.invokevirtual 620, 3) := dk_dX10_qWordOf_0_8.2.2.2.1
theorem dX10_qWordOf_20 : decode cX10_qWordOf 20 = .ok (.ifCond .eq 7, 3) := dk_dX10_qWordOf_0_8.2.2.2.2.1
theorem dX10_qWordOf_23 : decode cX10_qWordOf 23 = .ok (.iload_n 3, 1) := dk_dX10_qWordOf_0_8.2.2.2.2.2.1
theorem dX10_qWordOf_24 : decode cX10_qWordOf 24 = .ok (.goto 4, 3) := dk_dX10_qWordOf_0_8.2.2.2.2.2.2.1
theorem dX10_qWordOf_27 : decode cX10_qWordOf 27 = .ok (.iconst (-1), 1) := dk_dX10_qWordOf_0_8.2.2.2.2.2.2.2.1
theorem dk_dX10_qWordOf_28 : dz_C cX10_qWordOf [(28, .ireturn, 1)] := dz_of (by decide +kernel)
theorem dX10_qWordOf_28 : decode cX10_qWordOf 28 = .ok (.ireturn, 1) := dk_dX10_qWordOf_28.1
theorem dk_dX10_refuses_0 : dz_C cX10_refuses [(0, .aload_n 0, 1), (1, .getfield 17, 3), (4, .iload_n 1, 1), (5, .dup2, 1), (6, .iaload, 1), (7, .iconst 1, 1), (8, .iadd, 1), (9, .iastore, 1), (10, .iconst (-1), 1), (11, .ireturn, 1)] := dz_of (by decide +kernel)
theorem dX10_refuses_0 : decode cX10_refuses 0 = .ok (.aload_n 0, 1) := dk_dX10_refuses_0.1
theorem dX10_refuses_1 : decode cX10_refuses 1 = .ok (.getfield 17, 3) := dk_dX10_refuses_0.2.1
theorem dX10_refuses_4 : decode cX10_refuses 4 = .ok (.iload_n 1, 1) := dk_dX10_refuses_0.2.2.1
theorem dX10_refuses_5 : decode cX10_refuses 5 = .ok (.dup2, 1) := dk_dX10_refuses_0.2.2.2.1
theorem dX10_refuses_6 : decode cX10_refuses 6 = .ok (.iaload, 1) := dk_dX10_refuses_0.2.2.2.2.1
theorem dX10_refuses_7 : decode cX10_refuses 7 = .ok (.iconst 1, 1) := dk_dX10_refuses_0.2.2.2.2.2.1
theorem dX10_refuses_8 : decode cX10_refuses 8 = .ok (.iadd, 1) := dk_dX10_refuses_0.2.2.2.2.2.2.1
theorem dX10_refuses_9 : decode cX10_refuses 9 = .ok (.iastore, 1) := dk_dX10_refuses_0.2.2.2.2.2.2.2.1
theorem dk_dX10_refuses_0_8 : dz_C cX10_refuses [(10, .iconst (-1), 1), (11, .ireturn, 1)] := dk_dX10_refuses_0.2.2.2.2.2.2.2.2
theorem dX10_refuses_10 : decode cX10_refuses 10 = .ok (.iconst (-1), 1) := dk_dX10_refuses_0_8.1
theorem dX10_refuses_11 : decode cX10_refuses 11 = .ok (.ireturn, 1) := dk_dX10_refuses_0_8.2.1
theorem dk_dX10_rule_0 : dz_C cX10_rule [(0, .aload_n 0, 1), (1, .getfield 417, 3), (4, .ifCond .eq 25, 3), (7, .iload_n 1, 1), (8, .i2l, 1), (9, .lconst 0, 1), (10, .ldc2_w 546, 3), (13, .invokestatic 318, 3), (16, .ifCond .eq 13, 3), (19, .aload_n 0, 1), (20, .getfield 139, 3), (23, .iconst 1, 1), (24, .iaload, 1), (25, .iload_n 1, 1), (26, .if_icmp .ne 8, 3), (29, .aload_n 0, 1)] := dz_of (by decide +kernel)
theorem dX10_rule_0 : decode cX10_rule 0 = .ok (.aload_n 0, 1) := dk_dX10_rule_0.1
theorem dX10_rule_1 : decode cX10_rule 1 = .ok (.getfield 417, 3) := dk_dX10_rule_0.2.1
theorem dX10_rule_4 : decode cX10_rule 4 = .ok (.ifCond .eq 25, 3) := dk_dX10_rule_0.2.2.1
theorem dX10_rule_7 : decode cX10_rule 7 = .ok (.iload_n 1, 1) := dk_dX10_rule_0.2.2.2.1
theorem dX10_rule_8 : decode cX10_rule 8 = .ok (.i2l, 1) := dk_dX10_rule_0.2.2.2.2.1
theorem dX10_rule_9 : decode cX10_rule 9 = .ok (.lconst 0, 1) := dk_dX10_rule_0.2.2.2.2.2.1
theorem dX10_rule_10 : decode cX10_rule 10 = .ok (.ldc2_w 546, 3) := dk_dX10_rule_0.2.2.2.2.2.2.1
theorem dX10_rule_13 : decode cX10_rule 13 = .ok (.invokestatic 318, 3) := dk_dX10_rule_0.2.2.2.2.2.2.2.1
theorem dk_dX10_rule_0_8 : dz_C cX10_rule [(16, .ifCond .eq 13, 3), (19, .aload_n 0, 1), (20, .getfield 139, 3), (23, .iconst 1, 1), (24, .iaload, 1), (25, .iload_n 1, 1), (26, .if_icmp .ne 8, 3), (29, .aload_n 0, 1)] := dk_dX10_rule_0.2.2.2.2.2.2.2.2
theorem dX10_rule_16 : decode cX10_rule 16 = .ok (.ifCond .eq 13, 3) := dk_dX10_rule_0_8.1
theorem dX10_rule_19 : decode cX10_rule 19 = .ok (.aload_n 0, 1) := dk_dX10_rule_0_8.2.1
theorem dX10_rule_20 : decode cX10_rule 20 = .ok (.getfield 139, 3) := dk_dX10_rule_0_8.2.2.1
theorem dX10_rule_23 : decode cX10_rule 23 = .ok (.iconst 1, 1) := dk_dX10_rule_0_8.2.2.2.1
theorem dX10_rule_24 : decode cX10_rule 24 = .ok (.iaload, 1) := dk_dX10_rule_0_8.2.2.2.2.1
theorem dX10_rule_25 : decode cX10_rule 25 = .ok (.iload_n 1, 1) := dk_dX10_rule_0_8.2.2.2.2.2.1
theorem dX10_rule_26 : decode cX10_rule 26 = .ok (.if_icmp .ne 8, 3) := dk_dX10_rule_0_8.2.2.2.2.2.2.1
theorem dX10_rule_29 : decode cX10_rule 29 = .ok (.aload_n 0, 1) := dk_dX10_rule_0_8.2.2.2.2.2.2.2.1
theorem dk_dX10_rule_30 : dz_C cX10_rule [(30, .invokevirtual 591, 3), (33, .ireturn, 1), (34, .aload_n 0, 1), (35, .invokevirtual 594, 3), (38, .aload_n 0, 1), (39, .getfield 139, 3), (42, .iconst 1, 1), (43, .iload_n 1, 1), (44, .iastore, 1), (45, .iconst 1, 1), (46, .ireturn, 1)] := dz_of (by decide +kernel)
theorem dX10_rule_30 : decode cX10_rule 30 = .ok (.invokevirtual 591, 3) := dk_dX10_rule_30.1
theorem dX10_rule_33 : decode cX10_rule 33 = .ok (.ireturn, 1) := dk_dX10_rule_30.2.1
theorem dX10_rule_34 : decode cX10_rule 34 = .ok (.aload_n 0, 1) := dk_dX10_rule_30.2.2.1
theorem dX10_rule_35 : decode cX10_rule 35 = .ok (.invokevirtual 594, 3) := dk_dX10_rule_30.2.2.2.1
theorem dX10_rule_38 : decode cX10_rule 38 = .ok (.aload_n 0, 1) := dk_dX10_rule_30.2.2.2.2.1
theorem dX10_rule_39 : decode cX10_rule 39 = .ok (.getfield 139, 3) := dk_dX10_rule_30.2.2.2.2.2.1
theorem dX10_rule_42 : decode cX10_rule 42 = .ok (.iconst 1, 1) := dk_dX10_rule_30.2.2.2.2.2.2.1
theorem dX10_rule_43 : decode cX10_rule 43 = .ok (.iload_n 1, 1) := dk_dX10_rule_30.2.2.2.2.2.2.2.1
theorem dk_dX10_rule_30_8 : dz_C cX10_rule [(44, .iastore, 1), (45, .iconst 1, 1), (46, .ireturn, 1)] := dk_dX10_rule_30.2.2.2.2.2.2.2.2
theorem dX10_rule_44 : decode cX10_rule 44 = .ok (.iastore, 1) := dk_dX10_rule_30_8.1
theorem dX10_rule_45 : decode cX10_rule 45 = .ok (.iconst 1, 1) := dk_dX10_rule_30_8.2.1
theorem dX10_rule_46 : decode cX10_rule 46 = .ok (.ireturn, 1) := dk_dX10_rule_30_8.2.2.1
theorem dk_dX10_secondOf_0 : dz_C cX10_secondOf [(0, .aload_n 0, 1), (1, .getfield 127, 3), (4, .bipush 25, 2), (6, .iconst 2, 1), (7, .iload_n 1, 1), (8, .imul, 1), (9, .iadd, 1), (10, .iaload, 1), (11, .ireturn, 1)] := dz_of (by decide +kernel)
theorem dX10_secondOf_0 : decode cX10_secondOf 0 = .ok (.aload_n 0, 1) := dk_dX10_secondOf_0.1
theorem dX10_secondOf_1 : decode cX10_secondOf 1 = .ok (.getfield 127, 3) := dk_dX10_secondOf_0.2.1
theorem dX10_secondOf_4 : decode cX10_secondOf 4 = .ok (.bipush 25, 2) := dk_dX10_secondOf_0.2.2.1
theorem dX10_secondOf_6 : decode cX10_secondOf 6 = .ok (.iconst 2, 1) := dk_dX10_secondOf_0.2.2.2.1
theorem dX10_secondOf_7 : decode cX10_secondOf 7 = .ok (.iload_n 1, 1) := dk_dX10_secondOf_0.2.2.2.2.1
theorem dX10_secondOf_8 : decode cX10_secondOf 8 = .ok (.imul, 1) := dk_dX10_secondOf_0.2.2.2.2.2.1
theorem dX10_secondOf_9 : decode cX10_secondOf 9 = .ok (.iadd, 1) := dk_dX10_secondOf_0.2.2.2.2.2.2.1
theorem dX10_secondOf_10 : decode cX10_secondOf 10 = .ok (.iaload, 1) := dk_dX10_secondOf_0.2.2.2.2.2.2.2.1
theorem dk_dX10_secondOf_0_8 : dz_C cX10_secondOf [(11, .ireturn, 1)] := dk_dX10_secondOf_0.2.2.2.2.2.2.2.2
theorem dX10_secondOf_11 : decode cX10_secondOf 11 = .ok (.ireturn, 1) := dk_dX10_secondOf_0_8.1
theorem dk_dX10_see_0 : dz_C cX10_see [(0, .aload_n 0, 1), (1, .getfield 276, 3), (4, .istore_n 1, 1), (5, .aload_n 0, 1), (6, .iconst 0, 1), (7, .putfield 276, 3), (10, .iload_n 1, 1), (11, .ifCond .le 21, 3), (14, .iload_n 1, 1), (15, .iconst 3, 1), (16, .irem, 1), (17, .ifCond .ne 15, 3), (20, .iload_n 1, 1), (21, .iconst 3, 1), (22, .idiv, 1), (23, .bipush 16, 2)] := dz_of (by decide +kernel)
theorem dX10_see_0 : decode cX10_see 0 = .ok (.aload_n 0, 1) := dk_dX10_see_0.1
theorem dX10_see_1 : decode cX10_see 1 = .ok (.getfield 276, 3) := dk_dX10_see_0.2.1
theorem dX10_see_4 : decode cX10_see 4 = .ok (.istore_n 1, 1) := dk_dX10_see_0.2.2.1
theorem dX10_see_5 : decode cX10_see 5 = .ok (.aload_n 0, 1) := dk_dX10_see_0.2.2.2.1
theorem dX10_see_6 : decode cX10_see 6 = .ok (.iconst 0, 1) := dk_dX10_see_0.2.2.2.2.1
theorem dX10_see_7 : decode cX10_see 7 = .ok (.putfield 276, 3) := dk_dX10_see_0.2.2.2.2.2.1
theorem dX10_see_10 : decode cX10_see 10 = .ok (.iload_n 1, 1) := dk_dX10_see_0.2.2.2.2.2.2.1
theorem dX10_see_11 : decode cX10_see 11 = .ok (.ifCond .le 21, 3) := dk_dX10_see_0.2.2.2.2.2.2.2.1
theorem dk_dX10_see_0_8 : dz_C cX10_see [(14, .iload_n 1, 1), (15, .iconst 3, 1), (16, .irem, 1), (17, .ifCond .ne 15, 3), (20, .iload_n 1, 1), (21, .iconst 3, 1), (22, .idiv, 1), (23, .bipush 16, 2)] := dk_dX10_see_0.2.2.2.2.2.2.2.2
theorem dX10_see_14 : decode cX10_see 14 = .ok (.iload_n 1, 1) := dk_dX10_see_0_8.1
theorem dX10_see_15 : decode cX10_see 15 = .ok (.iconst 3, 1) := dk_dX10_see_0_8.2.1
theorem dX10_see_16 : decode cX10_see 16 = .ok (.irem, 1) := dk_dX10_see_0_8.2.2.1
theorem dX10_see_17 : decode cX10_see 17 = .ok (.ifCond .ne 15, 3) := dk_dX10_see_0_8.2.2.2.1
theorem dX10_see_20 : decode cX10_see 20 = .ok (.iload_n 1, 1) := dk_dX10_see_0_8.2.2.2.2.1
theorem dX10_see_21 : decode cX10_see 21 = .ok (.iconst 3, 1) := dk_dX10_see_0_8.2.2.2.2.2.1
theorem dX10_see_22 : decode cX10_see 22 = .ok (.idiv, 1) := dk_dX10_see_0_8.2.2.2.2.2.2.1
theorem dX10_see_23 : decode cX10_see 23 = .ok (.bipush 16, 2) := dk_dX10_see_0_8.2.2.2.2.2.2.2.1
theorem dk_dX10_see_25 : dz_C cX10_see [(25, .if_icmp .gt 7, 3), (28, .iconst 1, 1), (29, .goto 4, 3), (32, .iconst 0, 1), (33, .istore_n 2, 1), (34, .iconst 0, 1), (35, .istore_n 3, 1), (36, .iload_n 3, 1), (37, .iload_n 1, 1), (38, .if_icmp .ge 71, 3), (41, .iload_n 2, 1), (42, .ifCond .eq 67, 3), (45, .sipush 256, 3), (48, .aload_n 0, 1), (49, .getfield 7, 3), (52, .iload_n 3, 1)] := dz_of (by decide +kernel)
theorem dX10_see_25 : decode cX10_see 25 = .ok (.if_icmp .gt 7, 3) := dk_dX10_see_25.1
theorem dX10_see_28 : decode cX10_see 28 = .ok (.iconst 1, 1) := dk_dX10_see_25.2.1
theorem dX10_see_29 : decode cX10_see 29 = .ok (.goto 4, 3) := dk_dX10_see_25.2.2.1
theorem dX10_see_32 : decode cX10_see 32 = .ok (.iconst 0, 1) := dk_dX10_see_25.2.2.2.1
theorem dX10_see_33 : decode cX10_see 33 = .ok (.istore_n 2, 1) := dk_dX10_see_25.2.2.2.2.1
theorem dX10_see_34 : decode cX10_see 34 = .ok (.iconst 0, 1) := dk_dX10_see_25.2.2.2.2.2.1
theorem dX10_see_35 : decode cX10_see 35 = .ok (.istore_n 3, 1) := dk_dX10_see_25.2.2.2.2.2.2.1
theorem dX10_see_36 : decode cX10_see 36 = .ok (.iload_n 3, 1) := dk_dX10_see_25.2.2.2.2.2.2.2.1
theorem dk_dX10_see_25_8 : dz_C cX10_see [(37, .iload_n 1, 1), (38, .if_icmp .ge 71, 3), (41, .iload_n 2, 1), (42, .ifCond .eq 67, 3), (45, .sipush 256, 3), (48, .aload_n 0, 1), (49, .getfield 7, 3), (52, .iload_n 3, 1)] := dk_dX10_see_25.2.2.2.2.2.2.2.2
theorem dX10_see_37 : decode cX10_see 37 = .ok (.iload_n 1, 1) := dk_dX10_see_25_8.1
theorem dX10_see_38 : decode cX10_see 38 = .ok (.if_icmp .ge 71, 3) := dk_dX10_see_25_8.2.1
theorem dX10_see_41 : decode cX10_see 41 = .ok (.iload_n 2, 1) := dk_dX10_see_25_8.2.2.1
theorem dX10_see_42 : decode cX10_see 42 = .ok (.ifCond .eq 67, 3) := dk_dX10_see_25_8.2.2.2.1
theorem dX10_see_45 : decode cX10_see 45 = .ok (.sipush 256, 3) := dk_dX10_see_25_8.2.2.2.2.1
theorem dX10_see_48 : decode cX10_see 48 = .ok (.aload_n 0, 1) := dk_dX10_see_25_8.2.2.2.2.2.1
theorem dX10_see_49 : decode cX10_see 49 = .ok (.getfield 7, 3) := dk_dX10_see_25_8.2.2.2.2.2.2.1
theorem dX10_see_52 : decode cX10_see 52 = .ok (.iload_n 3, 1) := dk_dX10_see_25_8.2.2.2.2.2.2.2.1
theorem dk_dX10_see_53 : dz_C cX10_see [(53, .iconst 1, 1), (54, .iadd, 1), (55, .iaload, 1), (56, .imul, 1), (57, .aload_n 0, 1), (58, .getfield 7, 3), (61, .iload_n 3, 1), (62, .iconst 2, 1), (63, .iadd, 1), (64, .iaload, 1), (65, .iadd, 1), (66, .istore 4, 2), (68, .aload_n 0, 1), (69, .aload_n 0, 1), (70, .getfield 7, 3), (73, .iload_n 3, 1)] := dz_of (by decide +kernel)
theorem dX10_see_53 : decode cX10_see 53 = .ok (.iconst 1, 1) := dk_dX10_see_53.1
theorem dX10_see_54 : decode cX10_see 54 = .ok (.iadd, 1) := dk_dX10_see_53.2.1
theorem dX10_see_55 : decode cX10_see 55 = .ok (.iaload, 1) := dk_dX10_see_53.2.2.1
theorem dX10_see_56 : decode cX10_see 56 = .ok (.imul, 1) := dk_dX10_see_53.2.2.2.1
theorem dX10_see_57 : decode cX10_see 57 = .ok (.aload_n 0, 1) := dk_dX10_see_53.2.2.2.2.1
theorem dX10_see_58 : decode cX10_see 58 = .ok (.getfield 7, 3) := dk_dX10_see_53.2.2.2.2.2.1
theorem dX10_see_61 : decode cX10_see 61 = .ok (.iload_n 3, 1) := dk_dX10_see_53.2.2.2.2.2.2.1
theorem dX10_see_62 : decode cX10_see 62 = .ok (.iconst 2, 1) := dk_dX10_see_53.2.2.2.2.2.2.2.1
theorem dk_dX10_see_53_8 : dz_C cX10_see [(63, .iadd, 1), (64, .iaload, 1), (65, .iadd, 1), (66, .istore 4, 2), (68, .aload_n 0, 1), (69, .aload_n 0, 1), (70, .getfield 7, 3), (73, .iload_n 3, 1)] := dk_dX10_see_53.2.2.2.2.2.2.2.2
theorem dX10_see_63 : decode cX10_see 63 = .ok (.iadd, 1) := dk_dX10_see_53_8.1
theorem dX10_see_64 : decode cX10_see 64 = .ok (.iaload, 1) := dk_dX10_see_53_8.2.1
theorem dX10_see_65 : decode cX10_see 65 = .ok (.iadd, 1) := dk_dX10_see_53_8.2.2.1
theorem dX10_see_66 : decode cX10_see 66 = .ok (.istore 4, 2) := dk_dX10_see_53_8.2.2.2.1
theorem dX10_see_68 : decode cX10_see 68 = .ok (.aload_n 0, 1) := dk_dX10_see_53_8.2.2.2.2.1
theorem dX10_see_69 : decode cX10_see 69 = .ok (.aload_n 0, 1) := dk_dX10_see_53_8.2.2.2.2.2.1
theorem dX10_see_70 : decode cX10_see 70 = .ok (.getfield 7, 3) := dk_dX10_see_53_8.2.2.2.2.2.2.1
theorem dX10_see_73 : decode cX10_see 73 = .ok (.iload_n 3, 1) := dk_dX10_see_53_8.2.2.2.2.2.2.2.1
theorem dk_dX10_see_74 : dz_C cX10_see [(74, .iaload, 1), (75, .invokevirtual 531, 3), (78, .ifCond .eq 23, 3), (81, .iload 4, 2), (83, .sipush 300, 3), (86, .if_icmp .lt 11, 3), (89, .iload 4, 2), (91, .ldc_w 566, 3), (94, .if_icmp .ne 7, 3), (97, .iconst 1, 1), (98, .goto 4, 3), (101, .iconst 0, 1), (102, .istore_n 2, 1), (103, .iinc 3 3, 3), (106, .goto (-70), 3), (109, .iload_n 2, 1)] := dz_of (by decide +kernel)
theorem dX10_see_74 : decode cX10_see 74 = .ok (.iaload, 1) := dk_dX10_see_74.1
theorem dX10_see_75 : decode cX10_see 75 = .ok (.invokevirtual 531, 3) := dk_dX10_see_74.2.1
theorem dX10_see_78 : decode cX10_see 78 = .ok (.ifCond .eq 23, 3) := dk_dX10_see_74.2.2.1
theorem dX10_see_81 : decode cX10_see 81 = .ok (.iload 4, 2) := dk_dX10_see_74.2.2.2.1
theorem dX10_see_83 : decode cX10_see 83 = .ok (.sipush 300, 3) := dk_dX10_see_74.2.2.2.2.1
theorem dX10_see_86 : decode cX10_see 86 = .ok (.if_icmp .lt 11, 3) := dk_dX10_see_74.2.2.2.2.2.1
theorem dX10_see_89 : decode cX10_see 89 = .ok (.iload 4, 2) := dk_dX10_see_74.2.2.2.2.2.2.1
theorem dX10_see_91 : decode cX10_see 91 = .ok (.ldc_w 566, 3) := dk_dX10_see_74.2.2.2.2.2.2.2.1
theorem dk_dX10_see_74_8 : dz_C cX10_see [(94, .if_icmp .ne 7, 3), (97, .iconst 1, 1), (98, .goto 4, 3), (101, .iconst 0, 1), (102, .istore_n 2, 1), (103, .iinc 3 3, 3), (106, .goto (-70), 3), (109, .iload_n 2, 1)] := dk_dX10_see_74.2.2.2.2.2.2.2.2
theorem dX10_see_94 : decode cX10_see 94 = .ok (.if_icmp .ne 7, 3) := dk_dX10_see_74_8.1
theorem dX10_see_97 : decode cX10_see 97 = .ok (.iconst 1, 1) := dk_dX10_see_74_8.2.1
theorem dX10_see_98 : decode cX10_see 98 = .ok (.goto 4, 3) := dk_dX10_see_74_8.2.2.1
theorem dX10_see_101 : decode cX10_see 101 = .ok (.iconst 0, 1) := dk_dX10_see_74_8.2.2.2.1
theorem dX10_see_102 : decode cX10_see 102 = .ok (.istore_n 2, 1) := dk_dX10_see_74_8.2.2.2.2.1
theorem dX10_see_103 : decode cX10_see 103 = .ok (.iinc 3 3, 3) := dk_dX10_see_74_8.2.2.2.2.2.1
theorem dX10_see_106 : decode cX10_see 106 = .ok (.goto (-70), 3) := dk_dX10_see_74_8.2.2.2.2.2.2.1
theorem dX10_see_109 : decode cX10_see 109 = .ok (.iload_n 2, 1) := dk_dX10_see_74_8.2.2.2.2.2.2.2.1
theorem dk_dX10_see_110 : dz_C cX10_see [(110, .ifCond .ne 9, 3), (113, .aload_n 0, 1), (114, .iconst 1, 1), (115, .invokevirtual 567, 3), (118, .ireturn, 1), (119, .iconst 0, 1), (120, .istore_n 3, 1), (121, .iload_n 3, 1), (122, .iload_n 1, 1), (123, .iconst 3, 1), (124, .idiv, 1), (125, .if_icmp .ge 76, 3), (128, .sipush 256, 3), (131, .aload_n 0, 1), (132, .getfield 7, 3), (135, .iconst 3, 1)] := dz_of (by decide +kernel)
theorem dX10_see_110 : decode cX10_see 110 = .ok (.ifCond .ne 9, 3) := dk_dX10_see_110.1
theorem dX10_see_113 : decode cX10_see 113 = .ok (.aload_n 0, 1) := dk_dX10_see_110.2.1
theorem dX10_see_114 : decode cX10_see 114 = .ok (.iconst 1, 1) := dk_dX10_see_110.2.2.1
theorem dX10_see_115 : decode cX10_see 115 = .ok (.invokevirtual 567, 3) := dk_dX10_see_110.2.2.2.1
theorem dX10_see_118 : decode cX10_see 118 = .ok (.ireturn, 1) := dk_dX10_see_110.2.2.2.2.1
theorem dX10_see_119 : decode cX10_see 119 = .ok (.iconst 0, 1) := dk_dX10_see_110.2.2.2.2.2.1
theorem dX10_see_120 : decode cX10_see 120 = .ok (.istore_n 3, 1) := dk_dX10_see_110.2.2.2.2.2.2.1
theorem dX10_see_121 : decode cX10_see 121 = .ok (.iload_n 3, 1) := dk_dX10_see_110.2.2.2.2.2.2.2.1
theorem dk_dX10_see_110_8 : dz_C cX10_see [(122, .iload_n 1, 1), (123, .iconst 3, 1), (124, .idiv, 1), (125, .if_icmp .ge 76, 3), (128, .sipush 256, 3), (131, .aload_n 0, 1), (132, .getfield 7, 3), (135, .iconst 3, 1)] := dk_dX10_see_110.2.2.2.2.2.2.2.2
theorem dX10_see_122 : decode cX10_see 122 = .ok (.iload_n 1, 1) := dk_dX10_see_110_8.1
theorem dX10_see_123 : decode cX10_see 123 = .ok (.iconst 3, 1) := dk_dX10_see_110_8.2.1
theorem dX10_see_124 : decode cX10_see 124 = .ok (.idiv, 1) := dk_dX10_see_110_8.2.2.1
theorem dX10_see_125 : decode cX10_see 125 = .ok (.if_icmp .ge 76, 3) := dk_dX10_see_110_8.2.2.2.1
theorem dX10_see_128 : decode cX10_see 128 = .ok (.sipush 256, 3) := dk_dX10_see_110_8.2.2.2.2.1
theorem dX10_see_131 : decode cX10_see 131 = .ok (.aload_n 0, 1) := dk_dX10_see_110_8.2.2.2.2.2.1
theorem dX10_see_132 : decode cX10_see 132 = .ok (.getfield 7, 3) := dk_dX10_see_110_8.2.2.2.2.2.2.1
theorem dX10_see_135 : decode cX10_see 135 = .ok (.iconst 3, 1) := dk_dX10_see_110_8.2.2.2.2.2.2.2.1
theorem dk_dX10_see_136 : dz_C cX10_see [(136, .iload_n 3, 1), (137, .imul, 1), (138, .iconst 1, 1), (139, .iadd, 1), (140, .iaload, 1), (141, .imul, 1), (142, .aload_n 0, 1), (143, .getfield 7, 3), (146, .iconst 3, 1), (147, .iload_n 3, 1), (148, .imul, 1), (149, .iconst 2, 1), (150, .iadd, 1), (151, .iaload, 1), (152, .iadd, 1), (153, .istore 4, 2)] := dz_of (by decide +kernel)
theorem dX10_see_136 : decode cX10_see 136 = .ok (.iload_n 3, 1) := dk_dX10_see_136.1
theorem dX10_see_137 : decode cX10_see 137 = .ok (.imul, 1) := dk_dX10_see_136.2.1
theorem dX10_see_138 : decode cX10_see 138 = .ok (.iconst 1, 1) := dk_dX10_see_136.2.2.1
theorem dX10_see_139 : decode cX10_see 139 = .ok (.iadd, 1) := dk_dX10_see_136.2.2.2.1
theorem dX10_see_140 : decode cX10_see 140 = .ok (.iaload, 1) := dk_dX10_see_136.2.2.2.2.1
theorem dX10_see_141 : decode cX10_see 141 = .ok (.imul, 1) := dk_dX10_see_136.2.2.2.2.2.1
theorem dX10_see_142 : decode cX10_see 142 = .ok (.aload_n 0, 1) := dk_dX10_see_136.2.2.2.2.2.2.1
theorem dX10_see_143 : decode cX10_see 143 = .ok (.getfield 7, 3) := dk_dX10_see_136.2.2.2.2.2.2.2.1
theorem dk_dX10_see_136_8 : dz_C cX10_see [(146, .iconst 3, 1), (147, .iload_n 3, 1), (148, .imul, 1), (149, .iconst 2, 1), (150, .iadd, 1), (151, .iaload, 1), (152, .iadd, 1), (153, .istore 4, 2)] := dk_dX10_see_136.2.2.2.2.2.2.2.2
theorem dX10_see_146 : decode cX10_see 146 = .ok (.iconst 3, 1) := dk_dX10_see_136_8.1
theorem dX10_see_147 : decode cX10_see 147 = .ok (.iload_n 3, 1) := dk_dX10_see_136_8.2.1
theorem dX10_see_148 : decode cX10_see 148 = .ok (.imul, 1) := dk_dX10_see_136_8.2.2.1
theorem dX10_see_149 : decode cX10_see 149 = .ok (.iconst 2, 1) := dk_dX10_see_136_8.2.2.2.1
theorem dX10_see_150 : decode cX10_see 150 = .ok (.iadd, 1) := dk_dX10_see_136_8.2.2.2.2.1
theorem dX10_see_151 : decode cX10_see 151 = .ok (.iaload, 1) := dk_dX10_see_136_8.2.2.2.2.2.1
theorem dX10_see_152 : decode cX10_see 152 = .ok (.iadd, 1) := dk_dX10_see_136_8.2.2.2.2.2.2.1
theorem dX10_see_153 : decode cX10_see 153 = .ok (.istore 4, 2) := dk_dX10_see_136_8.2.2.2.2.2.2.2.1
theorem dk_dX10_see_155 : dz_C cX10_see [(155, .aload_n 0, 1), (156, .getfield 176, 3), (159, .iconst 2, 1), (160, .iload_n 3, 1), (161, .imul, 1), (162, .aload_n 0, 1), (163, .getfield 7, 3), (166, .iconst 3, 1), (167, .iload_n 3, 1), (168, .imul, 1), (169, .iaload, 1), (170, .iastore, 1), (171, .aload_n 0, 1), (172, .getfield 176, 3), (175, .iconst 2, 1), (176, .iload_n 3, 1)] := dz_of (by decide +kernel)
theorem dX10_see_155 : decode cX10_see 155 = .ok (.aload_n 0, 1) := dk_dX10_see_155.1
theorem dX10_see_156 : decode cX10_see 156 = .ok (.getfield 176, 3) := dk_dX10_see_155.2.1
theorem dX10_see_159 : decode cX10_see 159 = .ok (.iconst 2, 1) := dk_dX10_see_155.2.2.1
theorem dX10_see_160 : decode cX10_see 160 = .ok (.iload_n 3, 1) := dk_dX10_see_155.2.2.2.1
theorem dX10_see_161 : decode cX10_see 161 = .ok (.imul, 1) := dk_dX10_see_155.2.2.2.2.1
theorem dX10_see_162 : decode cX10_see 162 = .ok (.aload_n 0, 1) := dk_dX10_see_155.2.2.2.2.2.1
theorem dX10_see_163 : decode cX10_see 163 = .ok (.getfield 7, 3) := dk_dX10_see_155.2.2.2.2.2.2.1
theorem dX10_see_166 : decode cX10_see 166 = .ok (.iconst 3, 1) := dk_dX10_see_155.2.2.2.2.2.2.2.1
theorem dk_dX10_see_155_8 : dz_C cX10_see [(167, .iload_n 3, 1), (168, .imul, 1), (169, .iaload, 1), (170, .iastore, 1), (171, .aload_n 0, 1), (172, .getfield 176, 3), (175, .iconst 2, 1), (176, .iload_n 3, 1)] := dk_dX10_see_155.2.2.2.2.2.2.2.2
theorem dX10_see_167 : decode cX10_see 167 = .ok (.iload_n 3, 1) := dk_dX10_see_155_8.1
theorem dX10_see_168 : decode cX10_see 168 = .ok (.imul, 1) := dk_dX10_see_155_8.2.1
theorem dX10_see_169 : decode cX10_see 169 = .ok (.iaload, 1) := dk_dX10_see_155_8.2.2.1
theorem dX10_see_170 : decode cX10_see 170 = .ok (.iastore, 1) := dk_dX10_see_155_8.2.2.2.1
theorem dX10_see_171 : decode cX10_see 171 = .ok (.aload_n 0, 1) := dk_dX10_see_155_8.2.2.2.2.1
theorem dX10_see_172 : decode cX10_see 172 = .ok (.getfield 176, 3) := dk_dX10_see_155_8.2.2.2.2.2.1
theorem dX10_see_175 : decode cX10_see 175 = .ok (.iconst 2, 1) := dk_dX10_see_155_8.2.2.2.2.2.2.1
theorem dX10_see_176 : decode cX10_see 176 = .ok (.iload_n 3, 1) := dk_dX10_see_155_8.2.2.2.2.2.2.2.1
theorem dk_dX10_see_177 : dz_C cX10_see [(177, .imul, 1), (178, .iconst 1, 1), (179, .iadd, 1), (180, .iload 4, 2), (182, .ldc_w 566, 3), (185, .if_icmp .ne 7, 3), (188, .iconst (-1), 1), (189, .goto 5, 3), (192, .iload 4, 2), (194, .iastore, 1), (195, .iinc 3 1, 3), (198, .goto (-77), 3), (201, .aload_n 0, 1), (202, .iload_n 1, 1), (203, .iconst 3, 1), (204, .idiv, 1)] := dz_of (by decide +kernel)
theorem dX10_see_177 : decode cX10_see 177 = .ok (.imul, 1) := dk_dX10_see_177.1
theorem dX10_see_178 : decode cX10_see 178 = .ok (.iconst 1, 1) := dk_dX10_see_177.2.1
theorem dX10_see_179 : decode cX10_see 179 = .ok (.iadd, 1) := dk_dX10_see_177.2.2.1
theorem dX10_see_180 : decode cX10_see 180 = .ok (.iload 4, 2) := dk_dX10_see_177.2.2.2.1
theorem dX10_see_182 : decode cX10_see 182 = .ok (.ldc_w 566, 3) := dk_dX10_see_177.2.2.2.2.1
theorem dX10_see_185 : decode cX10_see 185 = .ok (.if_icmp .ne 7, 3) := dk_dX10_see_177.2.2.2.2.2.1
theorem dX10_see_188 : decode cX10_see 188 = .ok (.iconst (-1), 1) := dk_dX10_see_177.2.2.2.2.2.2.1
theorem dX10_see_189 : decode cX10_see 189 = .ok (.goto 5, 3) := dk_dX10_see_177.2.2.2.2.2.2.2.1
theorem dk_dX10_see_177_8 : dz_C cX10_see [(192, .iload 4, 2), (194, .iastore, 1), (195, .iinc 3 1, 3), (198, .goto (-77), 3), (201, .aload_n 0, 1), (202, .iload_n 1, 1), (203, .iconst 3, 1), (204, .idiv, 1)] := dk_dX10_see_177.2.2.2.2.2.2.2.2
theorem dX10_see_192 : decode cX10_see 192 = .ok (.iload 4, 2) := dk_dX10_see_177_8.1
theorem dX10_see_194 : decode cX10_see 194 = .ok (.iastore, 1) := dk_dX10_see_177_8.2.1
theorem dX10_see_195 : decode cX10_see 195 = .ok (.iinc 3 1, 3) := dk_dX10_see_177_8.2.2.1
theorem dX10_see_198 : decode cX10_see 198 = .ok (.goto (-77), 3) := dk_dX10_see_177_8.2.2.2.1
theorem dX10_see_201 : decode cX10_see 201 = .ok (.aload_n 0, 1) := dk_dX10_see_177_8.2.2.2.2.1
theorem dX10_see_202 : decode cX10_see 202 = .ok (.iload_n 1, 1) := dk_dX10_see_177_8.2.2.2.2.2.1
theorem dX10_see_203 : decode cX10_see 203 = .ok (.iconst 3, 1) := dk_dX10_see_177_8.2.2.2.2.2.2.1
theorem dX10_see_204 : decode cX10_see 204 = .ok (.idiv, 1) := dk_dX10_see_177_8.2.2.2.2.2.2.2.1
theorem dk_dX10_see_205 : dz_C cX10_see [(205, .putfield 427, 3), (208, .aload_n 0, 1), (209, .getfield 427, 3), (212, .ireturn, 1)] := dz_of (by decide +kernel)
theorem dX10_see_205 : decode cX10_see 205 = .ok (.putfield 427, 3) := dk_dX10_see_205.1
theorem dX10_see_208 : decode cX10_see 208 = .ok (.aload_n 0, 1) := dk_dX10_see_205.2.1
theorem dX10_see_209 : decode cX10_see 209 = .ok (.getfield 427, 3) := dk_dX10_see_205.2.2.1
theorem dX10_see_212 : decode cX10_see 212 = .ok (.ireturn, 1) := dk_dX10_see_205.2.2.2.1
theorem dk_dX10_seed_0 : dz_C cX10_seed [(0, .iload_n 1, 1), (1, .ifCond .ge 15, 3), (4, .aload_n 0, 1), (5, .getfield 17, 3), (8, .iconst 5, 1), (9, .dup2, 1), (10, .iaload, 1), (11, .iconst 1, 1), (12, .iadd, 1), (13, .iastore, 1), (14, .iconst 0, 1), (15, .ireturn, 1), (16, .aload_n 0, 1), (17, .iload_n 1, 1), (18, .i2l, 1), (19, .putfield 185, 3)] := dz_of (by decide +kernel)
theorem dX10_seed_0 : decode cX10_seed 0 = .ok (.iload_n 1, 1) := dk_dX10_seed_0.1
theorem dX10_seed_1 : decode cX10_seed 1 = .ok (.ifCond .ge 15, 3) := dk_dX10_seed_0.2.1
theorem dX10_seed_4 : decode cX10_seed 4 = .ok (.aload_n 0, 1) := dk_dX10_seed_0.2.2.1
theorem dX10_seed_5 : decode cX10_seed 5 = .ok (.getfield 17, 3) := dk_dX10_seed_0.2.2.2.1
theorem dX10_seed_8 : decode cX10_seed 8 = .ok (.iconst 5, 1) := dk_dX10_seed_0.2.2.2.2.1
theorem dX10_seed_9 : decode cX10_seed 9 = .ok (.dup2, 1) := dk_dX10_seed_0.2.2.2.2.2.1
theorem dX10_seed_10 : decode cX10_seed 10 = .ok (.iaload, 1) := dk_dX10_seed_0.2.2.2.2.2.2.1
theorem dX10_seed_11 : decode cX10_seed 11 = .ok (.iconst 1, 1) := dk_dX10_seed_0.2.2.2.2.2.2.2.1
theorem dk_dX10_seed_0_8 : dz_C cX10_seed [(12, .iadd, 1), (13, .iastore, 1), (14, .iconst 0, 1), (15, .ireturn, 1), (16, .aload_n 0, 1), (17, .iload_n 1, 1), (18, .i2l, 1), (19, .putfield 185, 3)] := dk_dX10_seed_0.2.2.2.2.2.2.2.2
theorem dX10_seed_12 : decode cX10_seed 12 = .ok (.iadd, 1) := dk_dX10_seed_0_8.1
theorem dX10_seed_13 : decode cX10_seed 13 = .ok (.iastore, 1) := dk_dX10_seed_0_8.2.1
theorem dX10_seed_14 : decode cX10_seed 14 = .ok (.iconst 0, 1) := dk_dX10_seed_0_8.2.2.1
theorem dX10_seed_15 : decode cX10_seed 15 = .ok (.ireturn, 1) := dk_dX10_seed_0_8.2.2.2.1
theorem dX10_seed_16 : decode cX10_seed 16 = .ok (.aload_n 0, 1) := dk_dX10_seed_0_8.2.2.2.2.1
theorem dX10_seed_17 : decode cX10_seed 17 = .ok (.iload_n 1, 1) := dk_dX10_seed_0_8.2.2.2.2.2.1
theorem dX10_seed_18 : decode cX10_seed 18 = .ok (.i2l, 1) := dk_dX10_seed_0_8.2.2.2.2.2.2.1
theorem dX10_seed_19 : decode cX10_seed 19 = .ok (.putfield 185, 3) := dk_dX10_seed_0_8.2.2.2.2.2.2.2.1
theorem dk_dX10_seed_22 : dz_C cX10_seed [(22, .iconst 1, 1), (23, .ireturn, 1)] := dz_of (by decide +kernel)
theorem dX10_seed_22 : decode cX10_seed 22 = .ok (.iconst 1, 1) := dk_dX10_seed_22.1
theorem dX10_seed_23 : decode cX10_seed 23 = .ok (.ireturn, 1) := dk_dX10_seed_22.2.1
theorem dk_dX10_stands_0 : dz_C cX10_stands [(0, .aload_n 0, 1), (1, .iconst 1, 1), (2, .putfield 417, 3), (5, .iconst 0, 1), (6, .istore_n 1, 1), (7, .iload_n 1, 1), (8, .iconst 2, 1), (9, .if_icmp .ge 23, 3), (12, .aload_n 0, 1), (13, .getfield 111, 3), (16, .iconst 2, 1), (17, .iload_n 1, 1), (18, .iadd, 1), (19, .aload_n 0, 1), (20, .getfield 111, 3), (23, .iload_n 1, 1)] := dz_of (by decide +kernel)
theorem dX10_stands_0 : decode cX10_stands 0 = .ok (.aload_n 0, 1) := dk_dX10_stands_0.1
theorem dX10_stands_1 : decode cX10_stands 1 = .ok (.iconst 1, 1) := dk_dX10_stands_0.2.1
theorem dX10_stands_2 : decode cX10_stands 2 = .ok (.putfield 417, 3) := dk_dX10_stands_0.2.2.1
theorem dX10_stands_5 : decode cX10_stands 5 = .ok (.iconst 0, 1) := dk_dX10_stands_0.2.2.2.1
theorem dX10_stands_6 : decode cX10_stands 6 = .ok (.istore_n 1, 1) := dk_dX10_stands_0.2.2.2.2.1
theorem dX10_stands_7 : decode cX10_stands 7 = .ok (.iload_n 1, 1) := dk_dX10_stands_0.2.2.2.2.2.1
theorem dX10_stands_8 : decode cX10_stands 8 = .ok (.iconst 2, 1) := dk_dX10_stands_0.2.2.2.2.2.2.1
theorem dX10_stands_9 : decode cX10_stands 9 = .ok (.if_icmp .ge 23, 3) := dk_dX10_stands_0.2.2.2.2.2.2.2.1
theorem dk_dX10_stands_0_8 : dz_C cX10_stands [(12, .aload_n 0, 1), (13, .getfield 111, 3), (16, .iconst 2, 1), (17, .iload_n 1, 1), (18, .iadd, 1), (19, .aload_n 0, 1), (20, .getfield 111, 3), (23, .iload_n 1, 1)] := dk_dX10_stands_0.2.2.2.2.2.2.2.2
theorem dX10_stands_12 : decode cX10_stands 12 = .ok (.aload_n 0, 1) := dk_dX10_stands_0_8.1
theorem dX10_stands_13 : decode cX10_stands 13 = .ok (.getfield 111, 3) := dk_dX10_stands_0_8.2.1
theorem dX10_stands_16 : decode cX10_stands 16 = .ok (.iconst 2, 1) := dk_dX10_stands_0_8.2.2.1
theorem dX10_stands_17 : decode cX10_stands 17 = .ok (.iload_n 1, 1) := dk_dX10_stands_0_8.2.2.2.1
theorem dX10_stands_18 : decode cX10_stands 18 = .ok (.iadd, 1) := dk_dX10_stands_0_8.2.2.2.2.1
theorem dX10_stands_19 : decode cX10_stands 19 = .ok (.aload_n 0, 1) := dk_dX10_stands_0_8.2.2.2.2.2.1
theorem dX10_stands_20 : decode cX10_stands 20 = .ok (.getfield 111, 3) := dk_dX10_stands_0_8.2.2.2.2.2.2.1
theorem dX10_stands_23 : decode cX10_stands 23 = .ok (.iload_n 1, 1) := dk_dX10_stands_0_8.2.2.2.2.2.2.2.1
theorem dk_dX10_stands_24 : dz_C cX10_stands [(24, .iaload, 1), (25, .iastore, 1), (26, .iinc 1 1, 3), (29, .goto (-22), 3), (32, .iconst 0, 1), (33, .istore_n 1, 1), (34, .iload_n 1, 1), (35, .bipush 24, 2), (37, .if_icmp .ge 39, 3), (40, .aload_n 0, 1), (41, .getfield 114, 3), (44, .bipush 24, 2), (46, .iload_n 1, 1), (47, .iadd, 1), (48, .aload_n 0, 1), (49, .getfield 114, 3)] := dz_of (by decide +kernel)
theorem dX10_stands_24 : decode cX10_stands 24 = .ok (.iaload, 1) := dk_dX10_stands_24.1
theorem dX10_stands_25 : decode cX10_stands 25 = .ok (.iastore, 1) := dk_dX10_stands_24.2.1
theorem dX10_stands_26 : decode cX10_stands 26 = .ok (.iinc 1 1, 3) := dk_dX10_stands_24.2.2.1
theorem dX10_stands_29 : decode cX10_stands 29 = .ok (.goto (-22), 3) := dk_dX10_stands_24.2.2.2.1
theorem dX10_stands_32 : decode cX10_stands 32 = .ok (.iconst 0, 1) := dk_dX10_stands_24.2.2.2.2.1
theorem dX10_stands_33 : decode cX10_stands 33 = .ok (.istore_n 1, 1) := dk_dX10_stands_24.2.2.2.2.2.1
theorem dX10_stands_34 : decode cX10_stands 34 = .ok (.iload_n 1, 1) := dk_dX10_stands_24.2.2.2.2.2.2.1
theorem dX10_stands_35 : decode cX10_stands 35 = .ok (.bipush 24, 2) := dk_dX10_stands_24.2.2.2.2.2.2.2.1
theorem dk_dX10_stands_24_8 : dz_C cX10_stands [(37, .if_icmp .ge 39, 3), (40, .aload_n 0, 1), (41, .getfield 114, 3), (44, .bipush 24, 2), (46, .iload_n 1, 1), (47, .iadd, 1), (48, .aload_n 0, 1), (49, .getfield 114, 3)] := dk_dX10_stands_24.2.2.2.2.2.2.2.2
theorem dX10_stands_37 : decode cX10_stands 37 = .ok (.if_icmp .ge 39, 3) := dk_dX10_stands_24_8.1
theorem dX10_stands_40 : decode cX10_stands 40 = .ok (.aload_n 0, 1) := dk_dX10_stands_24_8.2.1
theorem dX10_stands_41 : decode cX10_stands 41 = .ok (.getfield 114, 3) := dk_dX10_stands_24_8.2.2.1
theorem dX10_stands_44 : decode cX10_stands 44 = .ok (.bipush 24, 2) := dk_dX10_stands_24_8.2.2.2.1
theorem dX10_stands_46 : decode cX10_stands 46 = .ok (.iload_n 1, 1) := dk_dX10_stands_24_8.2.2.2.2.1
theorem dX10_stands_47 : decode cX10_stands 47 = .ok (.iadd, 1) := dk_dX10_stands_24_8.2.2.2.2.2.1
theorem dX10_stands_48 : decode cX10_stands 48 = .ok (.aload_n 0, 1) := dk_dX10_stands_24_8.2.2.2.2.2.2.1
theorem dX10_stands_49 : decode cX10_stands 49 = .ok (.getfield 114, 3) := dk_dX10_stands_24_8.2.2.2.2.2.2.2.1
theorem dk_dX10_stands_52 : dz_C cX10_stands [(52, .iload_n 1, 1), (53, .laload, 1), (54, .lastore, 1), (55, .aload_n 0, 1), (56, .getfield 127, 3), (59, .bipush 24, 2), (61, .iload_n 1, 1), (62, .iadd, 1), (63, .aload_n 0, 1), (64, .getfield 127, 3), (67, .iload_n 1, 1), (68, .iaload, 1), (69, .iastore, 1), (70, .iinc 1 1, 3), (73, .goto (-39), 3), (76, .iconst 0, 1)] := dz_of (by decide +kernel)
theorem dX10_stands_52 : decode cX10_stands 52 = .ok (.iload_n 1, 1) := dk_dX10_stands_52.1
theorem dX10_stands_53 : decode cX10_stands 53 = .ok (.laload, 1) := dk_dX10_stands_52.2.1
theorem dX10_stands_54 : decode cX10_stands 54 = .ok (.lastore, 1) := dk_dX10_stands_52.2.2.1
theorem dX10_stands_55 : decode cX10_stands 55 = .ok (.aload_n 0, 1) := dk_dX10_stands_52.2.2.2.1
theorem dX10_stands_56 : decode cX10_stands 56 = .ok (.getfield 127, 3) := dk_dX10_stands_52.2.2.2.2.1
theorem dX10_stands_59 : decode cX10_stands 59 = .ok (.bipush 24, 2) := dk_dX10_stands_52.2.2.2.2.2.1
theorem dX10_stands_61 : decode cX10_stands 61 = .ok (.iload_n 1, 1) := dk_dX10_stands_52.2.2.2.2.2.2.1
theorem dX10_stands_62 : decode cX10_stands 62 = .ok (.iadd, 1) := dk_dX10_stands_52.2.2.2.2.2.2.2.1
theorem dk_dX10_stands_52_8 : dz_C cX10_stands [(63, .aload_n 0, 1), (64, .getfield 127, 3), (67, .iload_n 1, 1), (68, .iaload, 1), (69, .iastore, 1), (70, .iinc 1 1, 3), (73, .goto (-39), 3), (76, .iconst 0, 1)] := dk_dX10_stands_52.2.2.2.2.2.2.2.2
theorem dX10_stands_63 : decode cX10_stands 63 = .ok (.aload_n 0, 1) := dk_dX10_stands_52_8.1
theorem dX10_stands_64 : decode cX10_stands 64 = .ok (.getfield 127, 3) := dk_dX10_stands_52_8.2.1
theorem dX10_stands_67 : decode cX10_stands 67 = .ok (.iload_n 1, 1) := dk_dX10_stands_52_8.2.2.1
theorem dX10_stands_68 : decode cX10_stands 68 = .ok (.iaload, 1) := dk_dX10_stands_52_8.2.2.2.1
theorem dX10_stands_69 : decode cX10_stands 69 = .ok (.iastore, 1) := dk_dX10_stands_52_8.2.2.2.2.1
theorem dX10_stands_70 : decode cX10_stands 70 = .ok (.iinc 1 1, 3) := dk_dX10_stands_52_8.2.2.2.2.2.1
theorem dX10_stands_73 : decode cX10_stands 73 = .ok (.goto (-39), 3) := dk_dX10_stands_52_8.2.2.2.2.2.2.1
theorem dX10_stands_76 : decode cX10_stands 76 = .ok (.iconst 0, 1) := dk_dX10_stands_52_8.2.2.2.2.2.2.2.1
theorem dk_dX10_stands_77 : dz_C cX10_stands [(77, .istore_n 1, 1), (78, .iload_n 1, 1), (79, .iconst 4, 1), (80, .if_icmp .ge 23, 3), (83, .aload_n 0, 1), (84, .getfield 118, 3), (87, .iconst 4, 1), (88, .iload_n 1, 1), (89, .iadd, 1), (90, .aload_n 0, 1), (91, .getfield 118, 3), (94, .iload_n 1, 1), (95, .iaload, 1), (96, .iastore, 1), (97, .iinc 1 1, 3), (100, .goto (-22), 3)] := dz_of (by decide +kernel)
theorem dX10_stands_77 : decode cX10_stands 77 = .ok (.istore_n 1, 1) := dk_dX10_stands_77.1
theorem dX10_stands_78 : decode cX10_stands 78 = .ok (.iload_n 1, 1) := dk_dX10_stands_77.2.1
theorem dX10_stands_79 : decode cX10_stands 79 = .ok (.iconst 4, 1) := dk_dX10_stands_77.2.2.1
theorem dX10_stands_80 : decode cX10_stands 80 = .ok (.if_icmp .ge 23, 3) := dk_dX10_stands_77.2.2.2.1
theorem dX10_stands_83 : decode cX10_stands 83 = .ok (.aload_n 0, 1) := dk_dX10_stands_77.2.2.2.2.1
theorem dX10_stands_84 : decode cX10_stands 84 = .ok (.getfield 118, 3) := dk_dX10_stands_77.2.2.2.2.2.1
theorem dX10_stands_87 : decode cX10_stands 87 = .ok (.iconst 4, 1) := dk_dX10_stands_77.2.2.2.2.2.2.1
theorem dX10_stands_88 : decode cX10_stands 88 = .ok (.iload_n 1, 1) := dk_dX10_stands_77.2.2.2.2.2.2.2.1
theorem dk_dX10_stands_77_8 : dz_C cX10_stands [(89, .iadd, 1), (90, .aload_n 0, 1), (91, .getfield 118, 3), (94, .iload_n 1, 1), (95, .iaload, 1), (96, .iastore, 1), (97, .iinc 1 1, 3), (100, .goto (-22), 3)] := dk_dX10_stands_77.2.2.2.2.2.2.2.2
theorem dX10_stands_89 : decode cX10_stands 89 = .ok (.iadd, 1) := dk_dX10_stands_77_8.1
theorem dX10_stands_90 : decode cX10_stands 90 = .ok (.aload_n 0, 1) := dk_dX10_stands_77_8.2.1
theorem dX10_stands_91 : decode cX10_stands 91 = .ok (.getfield 118, 3) := dk_dX10_stands_77_8.2.2.1
theorem dX10_stands_94 : decode cX10_stands 94 = .ok (.iload_n 1, 1) := dk_dX10_stands_77_8.2.2.2.1
theorem dX10_stands_95 : decode cX10_stands 95 = .ok (.iaload, 1) := dk_dX10_stands_77_8.2.2.2.2.1
theorem dX10_stands_96 : decode cX10_stands 96 = .ok (.iastore, 1) := dk_dX10_stands_77_8.2.2.2.2.2.1
theorem dX10_stands_97 : decode cX10_stands 97 = .ok (.iinc 1 1, 3) := dk_dX10_stands_77_8.2.2.2.2.2.2.1
theorem dX10_stands_100 : decode cX10_stands 100 = .ok (.goto (-22), 3) := dk_dX10_stands_77_8.2.2.2.2.2.2.2.1
theorem dk_dX10_stands_103 : dz_C cX10_stands [(103, .iconst 0, 1), (104, .istore_n 1, 1), (105, .iload_n 1, 1), (106, .bipush 12, 2), (108, .if_icmp .ge 24, 3), (111, .aload_n 0, 1), (112, .getfield 121, 3), (115, .bipush 12, 2), (117, .iload_n 1, 1), (118, .iadd, 1), (119, .aload_n 0, 1), (120, .getfield 121, 3), (123, .iload_n 1, 1), (124, .iaload, 1), (125, .iastore, 1), (126, .iinc 1 1, 3)] := dz_of (by decide +kernel)
theorem dX10_stands_103 : decode cX10_stands 103 = .ok (.iconst 0, 1) := dk_dX10_stands_103.1
theorem dX10_stands_104 : decode cX10_stands 104 = .ok (.istore_n 1, 1) := dk_dX10_stands_103.2.1
theorem dX10_stands_105 : decode cX10_stands 105 = .ok (.iload_n 1, 1) := dk_dX10_stands_103.2.2.1
theorem dX10_stands_106 : decode cX10_stands 106 = .ok (.bipush 12, 2) := dk_dX10_stands_103.2.2.2.1
theorem dX10_stands_108 : decode cX10_stands 108 = .ok (.if_icmp .ge 24, 3) := dk_dX10_stands_103.2.2.2.2.1
theorem dX10_stands_111 : decode cX10_stands 111 = .ok (.aload_n 0, 1) := dk_dX10_stands_103.2.2.2.2.2.1
theorem dX10_stands_112 : decode cX10_stands 112 = .ok (.getfield 121, 3) := dk_dX10_stands_103.2.2.2.2.2.2.1
theorem dX10_stands_115 : decode cX10_stands 115 = .ok (.bipush 12, 2) := dk_dX10_stands_103.2.2.2.2.2.2.2.1
theorem dk_dX10_stands_103_8 : dz_C cX10_stands [(117, .iload_n 1, 1), (118, .iadd, 1), (119, .aload_n 0, 1), (120, .getfield 121, 3), (123, .iload_n 1, 1), (124, .iaload, 1), (125, .iastore, 1), (126, .iinc 1 1, 3)] := dk_dX10_stands_103.2.2.2.2.2.2.2.2
theorem dX10_stands_117 : decode cX10_stands 117 = .ok (.iload_n 1, 1) := dk_dX10_stands_103_8.1
theorem dX10_stands_118 : decode cX10_stands 118 = .ok (.iadd, 1) := dk_dX10_stands_103_8.2.1
theorem dX10_stands_119 : decode cX10_stands 119 = .ok (.aload_n 0, 1) := dk_dX10_stands_103_8.2.2.1
theorem dX10_stands_120 : decode cX10_stands 120 = .ok (.getfield 121, 3) := dk_dX10_stands_103_8.2.2.2.1
theorem dX10_stands_123 : decode cX10_stands 123 = .ok (.iload_n 1, 1) := dk_dX10_stands_103_8.2.2.2.2.1
theorem dX10_stands_124 : decode cX10_stands 124 = .ok (.iaload, 1) := dk_dX10_stands_103_8.2.2.2.2.2.1
theorem dX10_stands_125 : decode cX10_stands 125 = .ok (.iastore, 1) := dk_dX10_stands_103_8.2.2.2.2.2.2.1
theorem dX10_stands_126 : decode cX10_stands 126 = .ok (.iinc 1 1, 3) := dk_dX10_stands_103_8.2.2.2.2.2.2.2.1
theorem dk_dX10_stands_129 : dz_C cX10_stands [(129, .goto (-24), 3), (132, .aload_n 0, 1), (133, .aload_n 0, 1), (134, .getfield 402, 3), (137, .putfield 421, 3), (140, .iconst 0, 1), (141, .istore_n 1, 1), (142, .iload_n 1, 1), (143, .iconst 3, 1), (144, .if_icmp .ge 37, 3), (147, .aload_n 0, 1), (148, .getfield 130, 3), (151, .iconst 3, 1), (152, .iload_n 1, 1), (153, .iadd, 1), (154, .aload_n 0, 1)] := dz_of (by decide +kernel)
theorem dX10_stands_129 : decode cX10_stands 129 = .ok (.goto (-24), 3) := dk_dX10_stands_129.1
theorem dX10_stands_132 : decode cX10_stands 132 = .ok (.aload_n 0, 1) := dk_dX10_stands_129.2.1
theorem dX10_stands_133 : decode cX10_stands 133 = .ok (.aload_n 0, 1) := dk_dX10_stands_129.2.2.1
theorem dX10_stands_134 : decode cX10_stands 134 = .ok (.getfield 402, 3) := dk_dX10_stands_129.2.2.2.1
theorem dX10_stands_137 : decode cX10_stands 137 = .ok (.putfield 421, 3) := dk_dX10_stands_129.2.2.2.2.1
theorem dX10_stands_140 : decode cX10_stands 140 = .ok (.iconst 0, 1) := dk_dX10_stands_129.2.2.2.2.2.1
theorem dX10_stands_141 : decode cX10_stands 141 = .ok (.istore_n 1, 1) := dk_dX10_stands_129.2.2.2.2.2.2.1
theorem dX10_stands_142 : decode cX10_stands 142 = .ok (.iload_n 1, 1) := dk_dX10_stands_129.2.2.2.2.2.2.2.1
theorem dk_dX10_stands_129_8 : dz_C cX10_stands [(143, .iconst 3, 1), (144, .if_icmp .ge 37, 3), (147, .aload_n 0, 1), (148, .getfield 130, 3), (151, .iconst 3, 1), (152, .iload_n 1, 1), (153, .iadd, 1), (154, .aload_n 0, 1)] := dk_dX10_stands_129.2.2.2.2.2.2.2.2
theorem dX10_stands_143 : decode cX10_stands 143 = .ok (.iconst 3, 1) := dk_dX10_stands_129_8.1
theorem dX10_stands_144 : decode cX10_stands 144 = .ok (.if_icmp .ge 37, 3) := dk_dX10_stands_129_8.2.1
theorem dX10_stands_147 : decode cX10_stands 147 = .ok (.aload_n 0, 1) := dk_dX10_stands_129_8.2.2.1
theorem dX10_stands_148 : decode cX10_stands 148 = .ok (.getfield 130, 3) := dk_dX10_stands_129_8.2.2.2.1
theorem dX10_stands_151 : decode cX10_stands 151 = .ok (.iconst 3, 1) := dk_dX10_stands_129_8.2.2.2.2.1
theorem dX10_stands_152 : decode cX10_stands 152 = .ok (.iload_n 1, 1) := dk_dX10_stands_129_8.2.2.2.2.2.1
theorem dX10_stands_153 : decode cX10_stands 153 = .ok (.iadd, 1) := dk_dX10_stands_129_8.2.2.2.2.2.2.1
theorem dX10_stands_154 : decode cX10_stands 154 = .ok (.aload_n 0, 1) := dk_dX10_stands_129_8.2.2.2.2.2.2.2.1
theorem dk_dX10_stands_155 : dz_C cX10_stands [(155, .getfield 130, 3), (158, .iload_n 1, 1), (159, .iaload, 1), (160, .iastore, 1), (161, .aload_n 0, 1), (162, .getfield 133, 3), (165, .iconst 3, 1), (166, .iload_n 1, 1), (167, .iadd, 1), (168, .aload_n 0, 1), (169, .getfield 133, 3), (172, .iload_n 1, 1), (173, .iaload, 1), (174, .iastore, 1), (175, .iinc 1 1, 3), (178, .goto (-36), 3)] := dz_of (by decide +kernel)
theorem dX10_stands_155 : decode cX10_stands 155 = .ok (.getfield 130, 3) := dk_dX10_stands_155.1
theorem dX10_stands_158 : decode cX10_stands 158 = .ok (.iload_n 1, 1) := dk_dX10_stands_155.2.1
theorem dX10_stands_159 : decode cX10_stands 159 = .ok (.iaload, 1) := dk_dX10_stands_155.2.2.1
theorem dX10_stands_160 : decode cX10_stands 160 = .ok (.iastore, 1) := dk_dX10_stands_155.2.2.2.1
theorem dX10_stands_161 : decode cX10_stands 161 = .ok (.aload_n 0, 1) := dk_dX10_stands_155.2.2.2.2.1
theorem dX10_stands_162 : decode cX10_stands 162 = .ok (.getfield 133, 3) := dk_dX10_stands_155.2.2.2.2.2.1
theorem dX10_stands_165 : decode cX10_stands 165 = .ok (.iconst 3, 1) := dk_dX10_stands_155.2.2.2.2.2.2.1
theorem dX10_stands_166 : decode cX10_stands 166 = .ok (.iload_n 1, 1) := dk_dX10_stands_155.2.2.2.2.2.2.2.1
theorem dk_dX10_stands_155_8 : dz_C cX10_stands [(167, .iadd, 1), (168, .aload_n 0, 1), (169, .getfield 133, 3), (172, .iload_n 1, 1), (173, .iaload, 1), (174, .iastore, 1), (175, .iinc 1 1, 3), (178, .goto (-36), 3)] := dk_dX10_stands_155.2.2.2.2.2.2.2.2
theorem dX10_stands_167 : decode cX10_stands 167 = .ok (.iadd, 1) := dk_dX10_stands_155_8.1
theorem dX10_stands_168 : decode cX10_stands 168 = .ok (.aload_n 0, 1) := dk_dX10_stands_155_8.2.1
theorem dX10_stands_169 : decode cX10_stands 169 = .ok (.getfield 133, 3) := dk_dX10_stands_155_8.2.2.1
theorem dX10_stands_172 : decode cX10_stands 172 = .ok (.iload_n 1, 1) := dk_dX10_stands_155_8.2.2.2.1
theorem dX10_stands_173 : decode cX10_stands 173 = .ok (.iaload, 1) := dk_dX10_stands_155_8.2.2.2.2.1
theorem dX10_stands_174 : decode cX10_stands 174 = .ok (.iastore, 1) := dk_dX10_stands_155_8.2.2.2.2.2.1
theorem dX10_stands_175 : decode cX10_stands 175 = .ok (.iinc 1 1, 3) := dk_dX10_stands_155_8.2.2.2.2.2.2.1
theorem dX10_stands_178 : decode cX10_stands 178 = .ok (.goto (-36), 3) := dk_dX10_stands_155_8.2.2.2.2.2.2.2.1
theorem dk_dX10_stands_181 : dz_C cX10_stands [(181, .iconst 0, 1), (182, .istore_n 1, 1), (183, .iload_n 1, 1), (184, .aload_n 0, 1), (185, .getfield 387, 3), (188, .if_icmp .ge 25, 3), (191, .aload_n 0, 1), (192, .getfield 136, 3), (195, .sipush 1600, 3), (198, .iload_n 1, 1), (199, .iadd, 1), (200, .aload_n 0, 1), (201, .getfield 136, 3), (204, .iload_n 1, 1), (205, .iaload, 1), (206, .iastore, 1)] := dz_of (by decide +kernel)
theorem dX10_stands_181 : decode cX10_stands 181 = .ok (.iconst 0, 1) := dk_dX10_stands_181.1
theorem dX10_stands_182 : decode cX10_stands 182 = .ok (.istore_n 1, 1) := dk_dX10_stands_181.2.1
theorem dX10_stands_183 : decode cX10_stands 183 = .ok (.iload_n 1, 1) := dk_dX10_stands_181.2.2.1
theorem dX10_stands_184 : decode cX10_stands 184 = .ok (.aload_n 0, 1) := dk_dX10_stands_181.2.2.2.1
theorem dX10_stands_185 : decode cX10_stands 185 = .ok (.getfield 387, 3) := dk_dX10_stands_181.2.2.2.2.1
theorem dX10_stands_188 : decode cX10_stands 188 = .ok (.if_icmp .ge 25, 3) := dk_dX10_stands_181.2.2.2.2.2.1
theorem dX10_stands_191 : decode cX10_stands 191 = .ok (.aload_n 0, 1) := dk_dX10_stands_181.2.2.2.2.2.2.1
theorem dX10_stands_192 : decode cX10_stands 192 = .ok (.getfield 136, 3) := dk_dX10_stands_181.2.2.2.2.2.2.2.1
theorem dk_dX10_stands_181_8 : dz_C cX10_stands [(195, .sipush 1600, 3), (198, .iload_n 1, 1), (199, .iadd, 1), (200, .aload_n 0, 1), (201, .getfield 136, 3), (204, .iload_n 1, 1), (205, .iaload, 1), (206, .iastore, 1)] := dk_dX10_stands_181.2.2.2.2.2.2.2.2
theorem dX10_stands_195 : decode cX10_stands 195 = .ok (.sipush 1600, 3) := dk_dX10_stands_181_8.1
theorem dX10_stands_198 : decode cX10_stands 198 = .ok (.iload_n 1, 1) := dk_dX10_stands_181_8.2.1
theorem dX10_stands_199 : decode cX10_stands 199 = .ok (.iadd, 1) := dk_dX10_stands_181_8.2.2.1
theorem dX10_stands_200 : decode cX10_stands 200 = .ok (.aload_n 0, 1) := dk_dX10_stands_181_8.2.2.2.1
theorem dX10_stands_201 : decode cX10_stands 201 = .ok (.getfield 136, 3) := dk_dX10_stands_181_8.2.2.2.2.1
theorem dX10_stands_204 : decode cX10_stands 204 = .ok (.iload_n 1, 1) := dk_dX10_stands_181_8.2.2.2.2.2.1
theorem dX10_stands_205 : decode cX10_stands 205 = .ok (.iaload, 1) := dk_dX10_stands_181_8.2.2.2.2.2.2.1
theorem dX10_stands_206 : decode cX10_stands 206 = .ok (.iastore, 1) := dk_dX10_stands_181_8.2.2.2.2.2.2.2.1
theorem dk_dX10_stands_207 : dz_C cX10_stands [(207, .iinc 1 1, 3), (210, .goto (-27), 3), (213, .aload_n 0, 1), (214, .getfield 139, 3), (217, .iconst 0, 1), (218, .iconst 0, 1), (219, .iastore, 1), (220, .aload_n 0, 1), (221, .getfield 139, 3), (224, .iconst 1, 1), (225, .aload_n 0, 1), (226, .getfield 118, 3), (229, .iconst 2, 1), (230, .iaload, 1), (231, .iastore, 1), (232, .aload_n 0, 1)] := dz_of (by decide +kernel)
theorem dX10_stands_207 : decode cX10_stands 207 = .ok (.iinc 1 1, 3) := dk_dX10_stands_207.1
theorem dX10_stands_210 : decode cX10_stands 210 = .ok (.goto (-27), 3) := dk_dX10_stands_207.2.1
theorem dX10_stands_213 : decode cX10_stands 213 = .ok (.aload_n 0, 1) := dk_dX10_stands_207.2.2.1
theorem dX10_stands_214 : decode cX10_stands 214 = .ok (.getfield 139, 3) := dk_dX10_stands_207.2.2.2.1
theorem dX10_stands_217 : decode cX10_stands 217 = .ok (.iconst 0, 1) := dk_dX10_stands_207.2.2.2.2.1
theorem dX10_stands_218 : decode cX10_stands 218 = .ok (.iconst 0, 1) := dk_dX10_stands_207.2.2.2.2.2.1
theorem dX10_stands_219 : decode cX10_stands 219 = .ok (.iastore, 1) := dk_dX10_stands_207.2.2.2.2.2.2.1
theorem dX10_stands_220 : decode cX10_stands 220 = .ok (.aload_n 0, 1) := dk_dX10_stands_207.2.2.2.2.2.2.2.1
theorem dk_dX10_stands_207_8 : dz_C cX10_stands [(221, .getfield 139, 3), (224, .iconst 1, 1), (225, .aload_n 0, 1), (226, .getfield 118, 3), (229, .iconst 2, 1), (230, .iaload, 1), (231, .iastore, 1), (232, .aload_n 0, 1)] := dk_dX10_stands_207.2.2.2.2.2.2.2.2
theorem dX10_stands_221 : decode cX10_stands 221 = .ok (.getfield 139, 3) := dk_dX10_stands_207_8.1
theorem dX10_stands_224 : decode cX10_stands 224 = .ok (.iconst 1, 1) := dk_dX10_stands_207_8.2.1
theorem dX10_stands_225 : decode cX10_stands 225 = .ok (.aload_n 0, 1) := dk_dX10_stands_207_8.2.2.1
theorem dX10_stands_226 : decode cX10_stands 226 = .ok (.getfield 118, 3) := dk_dX10_stands_207_8.2.2.2.1
theorem dX10_stands_229 : decode cX10_stands 229 = .ok (.iconst 2, 1) := dk_dX10_stands_207_8.2.2.2.2.1
theorem dX10_stands_230 : decode cX10_stands 230 = .ok (.iaload, 1) := dk_dX10_stands_207_8.2.2.2.2.2.1
theorem dX10_stands_231 : decode cX10_stands 231 = .ok (.iastore, 1) := dk_dX10_stands_207_8.2.2.2.2.2.2.1
theorem dX10_stands_232 : decode cX10_stands 232 = .ok (.aload_n 0, 1) := dk_dX10_stands_207_8.2.2.2.2.2.2.2.1
theorem dk_dX10_stands_233 : dz_C cX10_stands [(233, .getfield 139, 3), (236, .iconst 2, 1), (237, .aload_n 0, 1), (238, .getfield 118, 3), (241, .iconst 1, 1), (242, .iaload, 1), (243, .iastore, 1), (244, .iconst 0, 1), (245, .istore_n 1, 1), (246, .iload_n 1, 1), (247, .bipush 6, 2), (249, .if_icmp .ge 23, 3), (252, .aload_n 0, 1), (253, .getfield 139, 3), (256, .iconst 3, 1), (257, .iload_n 1, 1)] := dz_of (by decide +kernel)
theorem dX10_stands_233 : decode cX10_stands 233 = .ok (.getfield 139, 3) := dk_dX10_stands_233.1
theorem dX10_stands_236 : decode cX10_stands 236 = .ok (.iconst 2, 1) := dk_dX10_stands_233.2.1
theorem dX10_stands_237 : decode cX10_stands 237 = .ok (.aload_n 0, 1) := dk_dX10_stands_233.2.2.1
theorem dX10_stands_238 : decode cX10_stands 238 = .ok (.getfield 118, 3) := dk_dX10_stands_233.2.2.2.1
theorem dX10_stands_241 : decode cX10_stands 241 = .ok (.iconst 1, 1) := dk_dX10_stands_233.2.2.2.2.1
theorem dX10_stands_242 : decode cX10_stands 242 = .ok (.iaload, 1) := dk_dX10_stands_233.2.2.2.2.2.1
theorem dX10_stands_243 : decode cX10_stands 243 = .ok (.iastore, 1) := dk_dX10_stands_233.2.2.2.2.2.2.1
theorem dX10_stands_244 : decode cX10_stands 244 = .ok (.iconst 0, 1) := dk_dX10_stands_233.2.2.2.2.2.2.2.1
theorem dk_dX10_stands_233_8 : dz_C cX10_stands [(245, .istore_n 1, 1), (246, .iload_n 1, 1), (247, .bipush 6, 2), (249, .if_icmp .ge 23, 3), (252, .aload_n 0, 1), (253, .getfield 139, 3), (256, .iconst 3, 1), (257, .iload_n 1, 1)] := dk_dX10_stands_233.2.2.2.2.2.2.2.2
theorem dX10_stands_245 : decode cX10_stands 245 = .ok (.istore_n 1, 1) := dk_dX10_stands_233_8.1
theorem dX10_stands_246 : decode cX10_stands 246 = .ok (.iload_n 1, 1) := dk_dX10_stands_233_8.2.1
theorem dX10_stands_247 : decode cX10_stands 247 = .ok (.bipush 6, 2) := dk_dX10_stands_233_8.2.2.1
theorem dX10_stands_249 : decode cX10_stands 249 = .ok (.if_icmp .ge 23, 3) := dk_dX10_stands_233_8.2.2.2.1
theorem dX10_stands_252 : decode cX10_stands 252 = .ok (.aload_n 0, 1) := dk_dX10_stands_233_8.2.2.2.2.1
theorem dX10_stands_253 : decode cX10_stands 253 = .ok (.getfield 139, 3) := dk_dX10_stands_233_8.2.2.2.2.2.1
theorem dX10_stands_256 : decode cX10_stands 256 = .ok (.iconst 3, 1) := dk_dX10_stands_233_8.2.2.2.2.2.2.1
theorem dX10_stands_257 : decode cX10_stands 257 = .ok (.iload_n 1, 1) := dk_dX10_stands_233_8.2.2.2.2.2.2.2.1
theorem dk_dX10_stands_258 : dz_C cX10_stands [(258, .iadd, 1), (259, .aload_n 0, 1), (260, .getfield 124, 3), (263, .iload_n 1, 1), (264, .iaload, 1), (265, .iastore, 1), (266, .iinc 1 1, 3), (269, .goto (-23), 3), (272, .aload_n 0, 1), (273, .iconst 0, 1), (274, .putfield 424, 3), (277, .aload_n 0, 1), (278, .iconst 0, 1), (279, .putfield 427, 3), (282, .return_, 1)] := dz_of (by decide +kernel)
theorem dX10_stands_258 : decode cX10_stands 258 = .ok (.iadd, 1) := dk_dX10_stands_258.1
theorem dX10_stands_259 : decode cX10_stands 259 = .ok (.aload_n 0, 1) := dk_dX10_stands_258.2.1
theorem dX10_stands_260 : decode cX10_stands 260 = .ok (.getfield 124, 3) := dk_dX10_stands_258.2.2.1
theorem dX10_stands_263 : decode cX10_stands 263 = .ok (.iload_n 1, 1) := dk_dX10_stands_258.2.2.2.1
theorem dX10_stands_264 : decode cX10_stands 264 = .ok (.iaload, 1) := dk_dX10_stands_258.2.2.2.2.1
theorem dX10_stands_265 : decode cX10_stands 265 = .ok (.iastore, 1) := dk_dX10_stands_258.2.2.2.2.2.1
theorem dX10_stands_266 : decode cX10_stands 266 = .ok (.iinc 1 1, 3) := dk_dX10_stands_258.2.2.2.2.2.2.1
theorem dX10_stands_269 : decode cX10_stands 269 = .ok (.goto (-23), 3) := dk_dX10_stands_258.2.2.2.2.2.2.2.1
theorem dk_dX10_stands_258_8 : dz_C cX10_stands [(272, .aload_n 0, 1), (273, .iconst 0, 1), (274, .putfield 424, 3), (277, .aload_n 0, 1), (278, .iconst 0, 1), (279, .putfield 427, 3), (282, .return_, 1)] := dk_dX10_stands_258.2.2.2.2.2.2.2.2
theorem dX10_stands_272 : decode cX10_stands 272 = .ok (.aload_n 0, 1) := dk_dX10_stands_258_8.1
theorem dX10_stands_273 : decode cX10_stands 273 = .ok (.iconst 0, 1) := dk_dX10_stands_258_8.2.1
theorem dX10_stands_274 : decode cX10_stands 274 = .ok (.putfield 424, 3) := dk_dX10_stands_258_8.2.2.1
theorem dX10_stands_277 : decode cX10_stands 277 = .ok (.aload_n 0, 1) := dk_dX10_stands_258_8.2.2.2.1
theorem dX10_stands_278 : decode cX10_stands 278 = .ok (.iconst 0, 1) := dk_dX10_stands_258_8.2.2.2.2.1
theorem dX10_stands_279 : decode cX10_stands 279 = .ok (.putfield 427, 3) := dk_dX10_stands_258_8.2.2.2.2.2.1
theorem dX10_stands_282 : decode cX10_stands 282 = .ok (.return_, 1) := dk_dX10_stands_258_8.2.2.2.2.2.2.1
theorem dk_dX10_statementTold_0 : dz_C cX10_statementTold [(0, .aload_n 0, 1), (1, .getfield 285, 3), (4, .istore_n 1, 1), (5, .aload_n 0, 1), (6, .getfield 390, 3), (9, .bipush 80, 2), (11, .if_icmp .ne 10, 3), (14, .aload_n 0, 1), (15, .iconst 5, 1), (16, .iload_n 1, 1), (17, .invokevirtual 308, 3), (20, .return_, 1), (21, .aload_n 0, 1), (22, .aload_n 0, 1), (23, .getfield 33, 3), (26, .invokevirtual 305, 3)] := dz_of (by decide +kernel)
theorem dX10_statementTold_0 : decode cX10_statementTold 0 = .ok (.aload_n 0, 1) := dk_dX10_statementTold_0.1
theorem dX10_statementTold_1 : decode cX10_statementTold 1 = .ok (.getfield 285, 3) := dk_dX10_statementTold_0.2.1
theorem dX10_statementTold_4 : decode cX10_statementTold 4 = .ok (.istore_n 1, 1) := dk_dX10_statementTold_0.2.2.1
theorem dX10_statementTold_5 : decode cX10_statementTold 5 = .ok (.aload_n 0, 1) := dk_dX10_statementTold_0.2.2.2.1
theorem dX10_statementTold_6 : decode cX10_statementTold 6 = .ok (.getfield 390, 3) := dk_dX10_statementTold_0.2.2.2.2.1
theorem dX10_statementTold_9 : decode cX10_statementTold 9 = .ok (.bipush 80, 2) := dk_dX10_statementTold_0.2.2.2.2.2.1
theorem dX10_statementTold_11 : decode cX10_statementTold 11 = .ok (.if_icmp .ne 10, 3) := dk_dX10_statementTold_0.2.2.2.2.2.2.1
theorem dX10_statementTold_14 : decode cX10_statementTold 14 = .ok (.aload_n 0, 1) := dk_dX10_statementTold_0.2.2.2.2.2.2.2.1
theorem dk_dX10_statementTold_0_8 : dz_C cX10_statementTold [(15, .iconst 5, 1), (16, .iload_n 1, 1), (17, .invokevirtual 308, 3), (20, .return_, 1), (21, .aload_n 0, 1), (22, .aload_n 0, 1), (23, .getfield 33, 3), (26, .invokevirtual 305, 3)] := dk_dX10_statementTold_0.2.2.2.2.2.2.2.2
theorem dX10_statementTold_15 : decode cX10_statementTold 15 = .ok (.iconst 5, 1) := dk_dX10_statementTold_0_8.1
theorem dX10_statementTold_16 : decode cX10_statementTold 16 = .ok (.iload_n 1, 1) := dk_dX10_statementTold_0_8.2.1
theorem dX10_statementTold_17 : decode cX10_statementTold 17 = .ok (.invokevirtual 308, 3) := dk_dX10_statementTold_0_8.2.2.1
theorem dX10_statementTold_20 : decode cX10_statementTold 20 = .ok (.return_, 1) := dk_dX10_statementTold_0_8.2.2.2.1
theorem dX10_statementTold_21 : decode cX10_statementTold 21 = .ok (.aload_n 0, 1) := dk_dX10_statementTold_0_8.2.2.2.2.1
theorem dX10_statementTold_22 : decode cX10_statementTold 22 = .ok (.aload_n 0, 1) := dk_dX10_statementTold_0_8.2.2.2.2.2.1
theorem dX10_statementTold_23 : decode cX10_statementTold 23 = .ok (.getfield 33, 3) := dk_dX10_statementTold_0_8.2.2.2.2.2.2.1
theorem dX10_statementTold_26 : decode cX10_statementTold 26 = .ok (.invokevirtual 305, 3) := dk_dX10_statementTold_0_8.2.2.2.2.2.2.2.1
theorem dk_dX10_statementTold_29 : dz_C cX10_statementTold [(29, .ifCond .eq 11, 3), (32, .aload_n 0, 1), (33, .iload_n 1, 1), (34, .invokevirtual 393, 3), (37, .goto 101, 3), (40, .aload_n 0, 1), (41, .aload_n 0, 1), (42, .getfield 45, 3), (45, .invokevirtual 305, 3), (48, .ifCond .eq 11, 3), (51, .aload_n 0, 1), (52, .iload_n 1, 1), (53, .invokevirtual 396, 3), (56, .goto 82, 3), (59, .aload_n 0, 1), (60, .aload_n 0, 1)] := dz_of (by decide +kernel)
theorem dX10_statementTold_29 : decode cX10_statementTold 29 = .ok (.ifCond .eq 11, 3) := dk_dX10_statementTold_29.1
theorem dX10_statementTold_32 : decode cX10_statementTold 32 = .ok (.aload_n 0, 1) := dk_dX10_statementTold_29.2.1
theorem dX10_statementTold_33 : decode cX10_statementTold 33 = .ok (.iload_n 1, 1) := dk_dX10_statementTold_29.2.2.1
theorem dX10_statementTold_34 : decode cX10_statementTold 34 = .ok (.invokevirtual 393, 3) := dk_dX10_statementTold_29.2.2.2.1
theorem dX10_statementTold_37 : decode cX10_statementTold 37 = .ok (.goto 101, 3) := dk_dX10_statementTold_29.2.2.2.2.1
theorem dX10_statementTold_40 : decode cX10_statementTold 40 = .ok (.aload_n 0, 1) := dk_dX10_statementTold_29.2.2.2.2.2.1
theorem dX10_statementTold_41 : decode cX10_statementTold 41 = .ok (.aload_n 0, 1) := dk_dX10_statementTold_29.2.2.2.2.2.2.1
theorem dX10_statementTold_42 : decode cX10_statementTold 42 = .ok (.getfield 45, 3) := dk_dX10_statementTold_29.2.2.2.2.2.2.2.1
theorem dk_dX10_statementTold_29_8 : dz_C cX10_statementTold [(45, .invokevirtual 305, 3), (48, .ifCond .eq 11, 3), (51, .aload_n 0, 1), (52, .iload_n 1, 1), (53, .invokevirtual 396, 3), (56, .goto 82, 3), (59, .aload_n 0, 1), (60, .aload_n 0, 1)] := dk_dX10_statementTold_29.2.2.2.2.2.2.2.2
theorem dX10_statementTold_45 : decode cX10_statementTold 45 = .ok (.invokevirtual 305, 3) := dk_dX10_statementTold_29_8.1
theorem dX10_statementTold_48 : decode cX10_statementTold 48 = .ok (.ifCond .eq 11, 3) := dk_dX10_statementTold_29_8.2.1
theorem dX10_statementTold_51 : decode cX10_statementTold 51 = .ok (.aload_n 0, 1) := dk_dX10_statementTold_29_8.2.2.1
theorem dX10_statementTold_52 : decode cX10_statementTold 52 = .ok (.iload_n 1, 1) := dk_dX10_statementTold_29_8.2.2.2.1
theorem dX10_statementTold_53 : decode cX10_statementTold 53 = .ok (.invokevirtual 396, 3) := dk_dX10_statementTold_29_8.2.2.2.2.1
theorem dX10_statementTold_56 : decode cX10_statementTold 56 = .ok (.goto 82, 3) := dk_dX10_statementTold_29_8.2.2.2.2.2.1
theorem dX10_statementTold_59 : decode cX10_statementTold 59 = .ok (.aload_n 0, 1) := dk_dX10_statementTold_29_8.2.2.2.2.2.2.1
theorem dX10_statementTold_60 : decode cX10_statementTold 60 = .ok (.aload_n 0, 1) := dk_dX10_statementTold_29_8.2.2.2.2.2.2.2.1
theorem dk_dX10_statementTold_61 : dz_C cX10_statementTold [(61, .getfield 54, 3), (64, .invokevirtual 305, 3), (67, .ifCond .eq 12, 3), (70, .aload_n 0, 1), (71, .iconst 0, 1), (72, .iload_n 1, 1), (73, .invokevirtual 399, 3), (76, .goto 62, 3), (79, .aload_n 0, 1), (80, .aload_n 0, 1), (81, .getfield 57, 3), (84, .invokevirtual 305, 3), (87, .ifCond .eq 12, 3), (90, .aload_n 0, 1), (91, .iconst 1, 1), (92, .iload_n 1, 1)] := dz_of (by decide +kernel)
theorem dX10_statementTold_61 : decode cX10_statementTold 61 = .ok (.getfield 54, 3) := dk_dX10_statementTold_61.1
theorem dX10_statementTold_64 : decode cX10_statementTold 64 = .ok (.invokevirtual 305, 3) := dk_dX10_statementTold_61.2.1
theorem dX10_statementTold_67 : decode cX10_statementTold 67 = .ok (.ifCond .eq 12, 3) := dk_dX10_statementTold_61.2.2.1
theorem dX10_statementTold_70 : decode cX10_statementTold 70 = .ok (.aload_n 0, 1) := dk_dX10_statementTold_61.2.2.2.1
theorem dX10_statementTold_71 : decode cX10_statementTold 71 = .ok (.iconst 0, 1) := dk_dX10_statementTold_61.2.2.2.2.1
theorem dX10_statementTold_72 : decode cX10_statementTold 72 = .ok (.iload_n 1, 1) := dk_dX10_statementTold_61.2.2.2.2.2.1
theorem dX10_statementTold_73 : decode cX10_statementTold 73 = .ok (.invokevirtual 399, 3) := dk_dX10_statementTold_61.2.2.2.2.2.2.1
theorem dX10_statementTold_76 : decode cX10_statementTold 76 = .ok (.goto 62, 3) := dk_dX10_statementTold_61.2.2.2.2.2.2.2.1
theorem dk_dX10_statementTold_61_8 : dz_C cX10_statementTold [(79, .aload_n 0, 1), (80, .aload_n 0, 1), (81, .getfield 57, 3), (84, .invokevirtual 305, 3), (87, .ifCond .eq 12, 3), (90, .aload_n 0, 1), (91, .iconst 1, 1), (92, .iload_n 1, 1)] := dk_dX10_statementTold_61.2.2.2.2.2.2.2.2
theorem dX10_statementTold_79 : decode cX10_statementTold 79 = .ok (.aload_n 0, 1) := dk_dX10_statementTold_61_8.1
theorem dX10_statementTold_80 : decode cX10_statementTold 80 = .ok (.aload_n 0, 1) := dk_dX10_statementTold_61_8.2.1
theorem dX10_statementTold_81 : decode cX10_statementTold 81 = .ok (.getfield 57, 3) := dk_dX10_statementTold_61_8.2.2.1
theorem dX10_statementTold_84 : decode cX10_statementTold 84 = .ok (.invokevirtual 305, 3) := dk_dX10_statementTold_61_8.2.2.2.1
theorem dX10_statementTold_87 : decode cX10_statementTold 87 = .ok (.ifCond .eq 12, 3) := dk_dX10_statementTold_61_8.2.2.2.2.1
theorem dX10_statementTold_90 : decode cX10_statementTold 90 = .ok (.aload_n 0, 1) := dk_dX10_statementTold_61_8.2.2.2.2.2.1
theorem dX10_statementTold_91 : decode cX10_statementTold 91 = .ok (.iconst 1, 1) := dk_dX10_statementTold_61_8.2.2.2.2.2.2.1
theorem dX10_statementTold_92 : decode cX10_statementTold 92 = .ok (.iload_n 1, 1) := dk_dX10_statementTold_61_8.2.2.2.2.2.2.2.1
theorem dk_dX10_statementTold_93 : dz_C cX10_statementTold [(93, .invokevirtual 399, 3), (96, .goto 42, 3), (99, .aload_n 0, 1), (100, .aload_n 0, 1), (101, .getfield 60, 3), (104, .invokevirtual 305, 3), (107, .ifCond .eq 12, 3), (110, .aload_n 0, 1), (111, .iconst 2, 1), (112, .iload_n 1, 1), (113, .invokevirtual 399, 3), (116, .goto 22, 3), (119, .aload_n 0, 1), (120, .aload_n 0, 1), (121, .getfield 63, 3), (124, .invokevirtual 350, 3)] := dz_of (by decide +kernel)
theorem dX10_statementTold_93 : decode cX10_statementTold 93 = .ok (.invokevirtual 399, 3) := dk_dX10_statementTold_93.1
theorem dX10_statementTold_96 : decode cX10_statementTold 96 = .ok (.goto 42, 3) := dk_dX10_statementTold_93.2.1
theorem dX10_statementTold_99 : decode cX10_statementTold 99 = .ok (.aload_n 0, 1) := dk_dX10_statementTold_93.2.2.1
theorem dX10_statementTold_100 : decode cX10_statementTold 100 = .ok (.aload_n 0, 1) := dk_dX10_statementTold_93.2.2.2.1
theorem dX10_statementTold_101 : decode cX10_statementTold 101 = .ok (.getfield 60, 3) := dk_dX10_statementTold_93.2.2.2.2.1
theorem dX10_statementTold_104 : decode cX10_statementTold 104 = .ok (.invokevirtual 305, 3) := dk_dX10_statementTold_93.2.2.2.2.2.1
theorem dX10_statementTold_107 : decode cX10_statementTold 107 = .ok (.ifCond .eq 12, 3) := dk_dX10_statementTold_93.2.2.2.2.2.2.1
theorem dX10_statementTold_110 : decode cX10_statementTold 110 = .ok (.aload_n 0, 1) := dk_dX10_statementTold_93.2.2.2.2.2.2.2.1
theorem dk_dX10_statementTold_93_8 : dz_C cX10_statementTold [(111, .iconst 2, 1), (112, .iload_n 1, 1), (113, .invokevirtual 399, 3), (116, .goto 22, 3), (119, .aload_n 0, 1), (120, .aload_n 0, 1), (121, .getfield 63, 3), (124, .invokevirtual 350, 3)] := dk_dX10_statementTold_93.2.2.2.2.2.2.2.2
theorem dX10_statementTold_111 : decode cX10_statementTold 111 = .ok (.iconst 2, 1) := dk_dX10_statementTold_93_8.1
theorem dX10_statementTold_112 : decode cX10_statementTold 112 = .ok (.iload_n 1, 1) := dk_dX10_statementTold_93_8.2.1
theorem dX10_statementTold_113 : decode cX10_statementTold 113 = .ok (.invokevirtual 399, 3) := dk_dX10_statementTold_93_8.2.2.1
theorem dX10_statementTold_116 : decode cX10_statementTold 116 = .ok (.goto 22, 3) := dk_dX10_statementTold_93_8.2.2.2.1
theorem dX10_statementTold_119 : decode cX10_statementTold 119 = .ok (.aload_n 0, 1) := dk_dX10_statementTold_93_8.2.2.2.2.1
theorem dX10_statementTold_120 : decode cX10_statementTold 120 = .ok (.aload_n 0, 1) := dk_dX10_statementTold_93_8.2.2.2.2.2.1
theorem dX10_statementTold_121 : decode cX10_statementTold 121 = .ok (.getfield 63, 3) := dk_dX10_statementTold_93_8.2.2.2.2.2.2.1
theorem dX10_statementTold_124 : decode cX10_statementTold 124 = .ok (.invokevirtual 350, 3) := dk_dX10_statementTold_93_8.2.2.2.2.2.2.2.1
theorem dk_dX10_statementTold_127 : dz_C cX10_statementTold [(127, .aload_n 0, 1), (128, .aload_n 0, 1), (129, .iconst 0, 1), (130, .bipush 100, 2), (132, .invokevirtual 354, 3), (135, .putfield 402, 3), (138, .aload_n 0, 1), (139, .bipush 59, 2), (141, .invokevirtual 358, 3), (144, .aload_n 0, 1), (145, .dup, 1), (146, .getfield 390, 3), (149, .iconst 1, 1), (150, .iadd, 1), (151, .putfield 390, 3), (154, .return_, 1)] := dz_of (by decide +kernel)
theorem dX10_statementTold_127 : decode cX10_statementTold 127 = .ok (.aload_n 0, 1) := dk_dX10_statementTold_127.1
theorem dX10_statementTold_128 : decode cX10_statementTold 128 = .ok (.aload_n 0, 1) := dk_dX10_statementTold_127.2.1
theorem dX10_statementTold_129 : decode cX10_statementTold 129 = .ok (.iconst 0, 1) := dk_dX10_statementTold_127.2.2.1
theorem dX10_statementTold_130 : decode cX10_statementTold 130 = .ok (.bipush 100, 2) := dk_dX10_statementTold_127.2.2.2.1
theorem dX10_statementTold_132 : decode cX10_statementTold 132 = .ok (.invokevirtual 354, 3) := dk_dX10_statementTold_127.2.2.2.2.1
theorem dX10_statementTold_135 : decode cX10_statementTold 135 = .ok (.putfield 402, 3) := dk_dX10_statementTold_127.2.2.2.2.2.1
theorem dX10_statementTold_138 : decode cX10_statementTold 138 = .ok (.aload_n 0, 1) := dk_dX10_statementTold_127.2.2.2.2.2.2.1
theorem dX10_statementTold_139 : decode cX10_statementTold 139 = .ok (.bipush 59, 2) := dk_dX10_statementTold_127.2.2.2.2.2.2.2.1
theorem dk_dX10_statementTold_127_8 : dz_C cX10_statementTold [(141, .invokevirtual 358, 3), (144, .aload_n 0, 1), (145, .dup, 1), (146, .getfield 390, 3), (149, .iconst 1, 1), (150, .iadd, 1), (151, .putfield 390, 3), (154, .return_, 1)] := dk_dX10_statementTold_127.2.2.2.2.2.2.2.2
theorem dX10_statementTold_141 : decode cX10_statementTold 141 = .ok (.invokevirtual 358, 3) := dk_dX10_statementTold_127_8.1
theorem dX10_statementTold_144 : decode cX10_statementTold 144 = .ok (.aload_n 0, 1) := dk_dX10_statementTold_127_8.2.1
theorem dX10_statementTold_145 : decode cX10_statementTold 145 = .ok (.dup, 1) := dk_dX10_statementTold_127_8.2.2.1
theorem dX10_statementTold_146 : decode cX10_statementTold 146 = .ok (.getfield 390, 3) := dk_dX10_statementTold_127_8.2.2.2.1
theorem dX10_statementTold_149 : decode cX10_statementTold 149 = .ok (.iconst 1, 1) := dk_dX10_statementTold_127_8.2.2.2.2.1
theorem dX10_statementTold_150 : decode cX10_statementTold 150 = .ok (.iadd, 1) := dk_dX10_statementTold_127_8.2.2.2.2.2.1
theorem dX10_statementTold_151 : decode cX10_statementTold 151 = .ok (.putfield 390, 3) := dk_dX10_statementTold_127_8.2.2.2.2.2.2.1
theorem dX10_statementTold_154 : decode cX10_statementTold 154 = .ok (.return_, 1) := dk_dX10_statementTold_127_8.2.2.2.2.2.2.2.1
theorem dk_dX10_status_0 : dz_C cX10_status [(0, .iload_n 1, 1), (1, .i2l, 1), (2, .lconst 0, 1), (3, .ldc2_w 526, 3), (6, .invokestatic 318, 3), (9, .ifCond .eq 12, 3), (12, .aload_n 0, 1), (13, .getfield 17, 3), (16, .iload_n 1, 1), (17, .iaload, 1), (18, .goto 4, 3), (21, .iconst (-1), 1), (22, .ireturn, 1)] := dz_of (by decide +kernel)
theorem dX10_status_0 : decode cX10_status 0 = .ok (.iload_n 1, 1) := dk_dX10_status_0.1
theorem dX10_status_1 : decode cX10_status 1 = .ok (.i2l, 1) := dk_dX10_status_0.2.1
theorem dX10_status_2 : decode cX10_status 2 = .ok (.lconst 0, 1) := dk_dX10_status_0.2.2.1
theorem dX10_status_3 : decode cX10_status 3 = .ok (.ldc2_w 526, 3) := dk_dX10_status_0.2.2.2.1
theorem dX10_status_6 : decode cX10_status 6 = .ok (.invokestatic 318, 3) := dk_dX10_status_0.2.2.2.2.1
theorem dX10_status_9 : decode cX10_status 9 = .ok (.ifCond .eq 12, 3) := dk_dX10_status_0.2.2.2.2.2.1
theorem dX10_status_12 : decode cX10_status 12 = .ok (.aload_n 0, 1) := dk_dX10_status_0.2.2.2.2.2.2.1
theorem dX10_status_13 : decode cX10_status 13 = .ok (.getfield 17, 3) := dk_dX10_status_0.2.2.2.2.2.2.2.1
theorem dk_dX10_status_0_8 : dz_C cX10_status [(16, .iload_n 1, 1), (17, .iaload, 1), (18, .goto 4, 3), (21, .iconst (-1), 1), (22, .ireturn, 1)] := dk_dX10_status_0.2.2.2.2.2.2.2.2
theorem dX10_status_16 : decode cX10_status 16 = .ok (.iload_n 1, 1) := dk_dX10_status_0_8.1
theorem dX10_status_17 : decode cX10_status 17 = .ok (.iaload, 1) := dk_dX10_status_0_8.2.1
theorem dX10_status_18 : decode cX10_status 18 = .ok (.goto 4, 3) := dk_dX10_status_0_8.2.2.1
theorem dX10_status_21 : decode cX10_status 21 = .ok (.iconst (-1), 1) := dk_dX10_status_0_8.2.2.2.1
theorem dX10_status_22 : decode cX10_status 22 = .ok (.ireturn, 1) := dk_dX10_status_0_8.2.2.2.2.1
theorem dk_dX10_takes_0 : dz_C cX10_takes [(0, .aload_n 0, 1), (1, .aload_n 1, 1), (2, .invokevirtual 302, 3), (5, .ifCond .ne 5, 3), (8, .iconst 0, 1), (9, .ireturn, 1), (10, .aload_n 0, 1), (11, .dup, 1), (12, .getfield 285, 3), (15, .aload_n 1, 1), (16, .arraylength, 1), (17, .iadd, 1), (18, .putfield 285, 3), (21, .aload_n 0, 1), (22, .aload_n 0, 1), (23, .getfield 285, 3)] := dz_of (by decide +kernel)
theorem dX10_takes_0 : decode cX10_takes 0 = .ok (.aload_n 0, 1) := dk_dX10_takes_0.1
theorem dX10_takes_1 : decode cX10_takes 1 = .ok (.aload_n 1, 1) := dk_dX10_takes_0.2.1
theorem dX10_takes_2 : decode cX10_takes 2 = .ok (.invokevirtual 302, 3) := dk_dX10_takes_0.2.2.1
theorem dX10_takes_5 : decode cX10_takes 5 = .ok (.ifCond .ne 5, 3) := dk_dX10_takes_0.2.2.2.1
theorem dX10_takes_8 : decode cX10_takes 8 = .ok (.iconst 0, 1) := dk_dX10_takes_0.2.2.2.2.1
theorem dX10_takes_9 : decode cX10_takes 9 = .ok (.ireturn, 1) := dk_dX10_takes_0.2.2.2.2.2.1
theorem dX10_takes_10 : decode cX10_takes 10 = .ok (.aload_n 0, 1) := dk_dX10_takes_0.2.2.2.2.2.2.1
theorem dX10_takes_11 : decode cX10_takes 11 = .ok (.dup, 1) := dk_dX10_takes_0.2.2.2.2.2.2.2.1
theorem dk_dX10_takes_0_8 : dz_C cX10_takes [(12, .getfield 285, 3), (15, .aload_n 1, 1), (16, .arraylength, 1), (17, .iadd, 1), (18, .putfield 285, 3), (21, .aload_n 0, 1), (22, .aload_n 0, 1), (23, .getfield 285, 3)] := dk_dX10_takes_0.2.2.2.2.2.2.2.2
theorem dX10_takes_12 : decode cX10_takes 12 = .ok (.getfield 285, 3) := dk_dX10_takes_0_8.1
theorem dX10_takes_15 : decode cX10_takes 15 = .ok (.aload_n 1, 1) := dk_dX10_takes_0_8.2.1
theorem dX10_takes_16 : decode cX10_takes 16 = .ok (.arraylength, 1) := dk_dX10_takes_0_8.2.2.1
theorem dX10_takes_17 : decode cX10_takes 17 = .ok (.iadd, 1) := dk_dX10_takes_0_8.2.2.2.1
theorem dX10_takes_18 : decode cX10_takes 18 = .ok (.putfield 285, 3) := dk_dX10_takes_0_8.2.2.2.2.1
theorem dX10_takes_21 : decode cX10_takes 21 = .ok (.aload_n 0, 1) := dk_dX10_takes_0_8.2.2.2.2.2.1
theorem dX10_takes_22 : decode cX10_takes 22 = .ok (.aload_n 0, 1) := dk_dX10_takes_0_8.2.2.2.2.2.2.1
theorem dX10_takes_23 : decode cX10_takes 23 = .ok (.getfield 285, 3) := dk_dX10_takes_0_8.2.2.2.2.2.2.2.1
theorem dk_dX10_takes_26 : dz_C cX10_takes [(26, .putfield 299, 3), (29, .iconst 1, 1), (30, .ireturn, 1)] := dz_of (by decide +kernel)
theorem dX10_takes_26 : decode cX10_takes 26 = .ok (.putfield 299, 3) := dk_dX10_takes_26.1
theorem dX10_takes_29 : decode cX10_takes 29 = .ok (.iconst 1, 1) := dk_dX10_takes_26.2.1
theorem dX10_takes_30 : decode cX10_takes 30 = .ok (.ireturn, 1) := dk_dX10_takes_26.2.2.1
theorem dk_dX10_takesBack_0 : dz_C cX10_takesBack [(0, .iconst 0, 1), (1, .istore_n 1, 1), (2, .iload_n 1, 1), (3, .bipush 9, 2), (5, .if_icmp .ge 21, 3), (8, .aload_n 0, 1), (9, .getfield 139, 3), (12, .iload_n 1, 1), (13, .aload_n 0, 1), (14, .getfield 142, 3), (17, .iload_n 1, 1), (18, .iaload, 1), (19, .iastore, 1), (20, .iinc 1 1, 3), (23, .goto (-21), 3), (26, .return_, 1)] := dz_of (by decide +kernel)
theorem dX10_takesBack_0 : decode cX10_takesBack 0 = .ok (.iconst 0, 1) := dk_dX10_takesBack_0.1
theorem dX10_takesBack_1 : decode cX10_takesBack 1 = .ok (.istore_n 1, 1) := dk_dX10_takesBack_0.2.1
theorem dX10_takesBack_2 : decode cX10_takesBack 2 = .ok (.iload_n 1, 1) := dk_dX10_takesBack_0.2.2.1
theorem dX10_takesBack_3 : decode cX10_takesBack 3 = .ok (.bipush 9, 2) := dk_dX10_takesBack_0.2.2.2.1
theorem dX10_takesBack_5 : decode cX10_takesBack 5 = .ok (.if_icmp .ge 21, 3) := dk_dX10_takesBack_0.2.2.2.2.1
theorem dX10_takesBack_8 : decode cX10_takesBack 8 = .ok (.aload_n 0, 1) := dk_dX10_takesBack_0.2.2.2.2.2.1
theorem dX10_takesBack_9 : decode cX10_takesBack 9 = .ok (.getfield 139, 3) := dk_dX10_takesBack_0.2.2.2.2.2.2.1
theorem dX10_takesBack_12 : decode cX10_takesBack 12 = .ok (.iload_n 1, 1) := dk_dX10_takesBack_0.2.2.2.2.2.2.2.1
theorem dk_dX10_takesBack_0_8 : dz_C cX10_takesBack [(13, .aload_n 0, 1), (14, .getfield 142, 3), (17, .iload_n 1, 1), (18, .iaload, 1), (19, .iastore, 1), (20, .iinc 1 1, 3), (23, .goto (-21), 3), (26, .return_, 1)] := dk_dX10_takesBack_0.2.2.2.2.2.2.2.2
theorem dX10_takesBack_13 : decode cX10_takesBack 13 = .ok (.aload_n 0, 1) := dk_dX10_takesBack_0_8.1
theorem dX10_takesBack_14 : decode cX10_takesBack 14 = .ok (.getfield 142, 3) := dk_dX10_takesBack_0_8.2.1
theorem dX10_takesBack_17 : decode cX10_takesBack 17 = .ok (.iload_n 1, 1) := dk_dX10_takesBack_0_8.2.2.1
theorem dX10_takesBack_18 : decode cX10_takesBack 18 = .ok (.iaload, 1) := dk_dX10_takesBack_0_8.2.2.2.1
theorem dX10_takesBack_19 : decode cX10_takesBack 19 = .ok (.iastore, 1) := dk_dX10_takesBack_0_8.2.2.2.2.1
theorem dX10_takesBack_20 : decode cX10_takesBack 20 = .ok (.iinc 1 1, 3) := dk_dX10_takesBack_0_8.2.2.2.2.2.1
theorem dX10_takesBack_23 : decode cX10_takesBack 23 = .ok (.goto (-21), 3) := dk_dX10_takesBack_0_8.2.2.2.2.2.2.1
theorem dX10_takesBack_26 : decode cX10_takesBack 26 = .ok (.return_, 1) := dk_dX10_takesBack_0_8.2.2.2.2.2.2.2.1
theorem dk_dX10_takesSign_0 : dz_C cX10_takesSign [(0, .aload_n 0, 1), (1, .getfield 279, 3), (4, .ifCond .ne 11, 3), (7, .aload_n 0, 1), (8, .invokevirtual 291, 3), (11, .iload_n 1, 1), (12, .if_icmp .eq 5, 3), (15, .iconst 0, 1), (16, .ireturn, 1), (17, .aload_n 0, 1), (18, .dup, 1), (19, .getfield 285, 3), (22, .iconst 1, 1), (23, .iadd, 1), (24, .putfield 285, 3), (27, .iconst 1, 1)] := dz_of (by decide +kernel)
theorem dX10_takesSign_0 : decode cX10_takesSign 0 = .ok (.aload_n 0, 1) := dk_dX10_takesSign_0.1
theorem dX10_takesSign_1 : decode cX10_takesSign 1 = .ok (.getfield 279, 3) := dk_dX10_takesSign_0.2.1
theorem dX10_takesSign_4 : decode cX10_takesSign 4 = .ok (.ifCond .ne 11, 3) := dk_dX10_takesSign_0.2.2.1
theorem dX10_takesSign_7 : decode cX10_takesSign 7 = .ok (.aload_n 0, 1) := dk_dX10_takesSign_0.2.2.2.1
theorem dX10_takesSign_8 : decode cX10_takesSign 8 = .ok (.invokevirtual 291, 3) := dk_dX10_takesSign_0.2.2.2.2.1
theorem dX10_takesSign_11 : decode cX10_takesSign 11 = .ok (.iload_n 1, 1) := dk_dX10_takesSign_0.2.2.2.2.2.1
theorem dX10_takesSign_12 : decode cX10_takesSign 12 = .ok (.if_icmp .eq 5, 3) := dk_dX10_takesSign_0.2.2.2.2.2.2.1
theorem dX10_takesSign_15 : decode cX10_takesSign 15 = .ok (.iconst 0, 1) := dk_dX10_takesSign_0.2.2.2.2.2.2.2.1
theorem dk_dX10_takesSign_0_8 : dz_C cX10_takesSign [(16, .ireturn, 1), (17, .aload_n 0, 1), (18, .dup, 1), (19, .getfield 285, 3), (22, .iconst 1, 1), (23, .iadd, 1), (24, .putfield 285, 3), (27, .iconst 1, 1)] := dk_dX10_takesSign_0.2.2.2.2.2.2.2.2
theorem dX10_takesSign_16 : decode cX10_takesSign 16 = .ok (.ireturn, 1) := dk_dX10_takesSign_0_8.1
theorem dX10_takesSign_17 : decode cX10_takesSign 17 = .ok (.aload_n 0, 1) := dk_dX10_takesSign_0_8.2.1
theorem dX10_takesSign_18 : decode cX10_takesSign 18 = .ok (.dup, 1) := dk_dX10_takesSign_0_8.2.2.1
theorem dX10_takesSign_19 : decode cX10_takesSign 19 = .ok (.getfield 285, 3) := dk_dX10_takesSign_0_8.2.2.2.1
theorem dX10_takesSign_22 : decode cX10_takesSign 22 = .ok (.iconst 1, 1) := dk_dX10_takesSign_0_8.2.2.2.2.1
theorem dX10_takesSign_23 : decode cX10_takesSign 23 = .ok (.iadd, 1) := dk_dX10_takesSign_0_8.2.2.2.2.2.1
theorem dX10_takesSign_24 : decode cX10_takesSign 24 = .ok (.putfield 285, 3) := dk_dX10_takesSign_0_8.2.2.2.2.2.2.1
theorem dX10_takesSign_27 : decode cX10_takesSign 27 = .ok (.iconst 1, 1) := dk_dX10_takesSign_0_8.2.2.2.2.2.2.2.1
theorem dk_dX10_takesSign_28 : dz_C cX10_takesSign [(28, .ireturn, 1)] := dz_of (by decide +kernel)
theorem dX10_takesSign_28 : decode cX10_takesSign 28 = .ok (.ireturn, 1) := dk_dX10_takesSign_28.1
theorem dk_dX10_toldOfDay_0 : dz_C cX10_toldOfDay [(0, .iload_n 1, 1), (36, .aload_n 0, 1), (37, .invokevirtual 508, 3), (40, .ireturn, 1), (41, .aload_n 0, 1), (42, .getfield 164, 3), (45, .aload_n 0, 1), (46, .invokevirtual 433, 3), (49, .invokestatic 511, 3), (52, .ireturn, 1), (53, .aload_n 0, 1), (54, .getfield 167, 3), (57, .aload_n 0, 1), (58, .invokevirtual 433, 3), (61, .invokestatic 511, 3), (64, .ireturn, 1)] := dz_of (by decide +kernel)
theorem dX10_toldOfDay_0 : decode cX10_toldOfDay 0 = .ok (.iload_n 1, 1) := dk_dX10_toldOfDay_0.1
theorem dX10_toldOfDay_36 : decode cX10_toldOfDay 36 = .ok (.aload_n 0, 1) := dk_dX10_toldOfDay_0.2.1
theorem dX10_toldOfDay_37 : decode cX10_toldOfDay 37 = .ok (.invokevirtual 508, 3) := dk_dX10_toldOfDay_0.2.2.1
theorem dX10_toldOfDay_40 : decode cX10_toldOfDay 40 = .ok (.ireturn, 1) := dk_dX10_toldOfDay_0.2.2.2.1
theorem dX10_toldOfDay_41 : decode cX10_toldOfDay 41 = .ok (.aload_n 0, 1) := dk_dX10_toldOfDay_0.2.2.2.2.1
theorem dX10_toldOfDay_42 : decode cX10_toldOfDay 42 = .ok (.getfield 164, 3) := dk_dX10_toldOfDay_0.2.2.2.2.2.1
theorem dX10_toldOfDay_45 : decode cX10_toldOfDay 45 = .ok (.aload_n 0, 1) := dk_dX10_toldOfDay_0.2.2.2.2.2.2.1
theorem dX10_toldOfDay_46 : decode cX10_toldOfDay 46 = .ok (.invokevirtual 433, 3) := dk_dX10_toldOfDay_0.2.2.2.2.2.2.2.1
theorem dk_dX10_toldOfDay_0_8 : dz_C cX10_toldOfDay [(49, .invokestatic 511, 3), (52, .ireturn, 1), (53, .aload_n 0, 1), (54, .getfield 167, 3), (57, .aload_n 0, 1), (58, .invokevirtual 433, 3), (61, .invokestatic 511, 3), (64, .ireturn, 1)] := dk_dX10_toldOfDay_0.2.2.2.2.2.2.2.2
theorem dX10_toldOfDay_49 : decode cX10_toldOfDay 49 = .ok (.invokestatic 511, 3) := dk_dX10_toldOfDay_0_8.1
theorem dX10_toldOfDay_52 : decode cX10_toldOfDay 52 = .ok (.ireturn, 1) := dk_dX10_toldOfDay_0_8.2.1
theorem dX10_toldOfDay_53 : decode cX10_toldOfDay 53 = .ok (.aload_n 0, 1) := dk_dX10_toldOfDay_0_8.2.2.1
theorem dX10_toldOfDay_54 : decode cX10_toldOfDay 54 = .ok (.getfield 167, 3) := dk_dX10_toldOfDay_0_8.2.2.2.1
theorem dX10_toldOfDay_57 : decode cX10_toldOfDay 57 = .ok (.aload_n 0, 1) := dk_dX10_toldOfDay_0_8.2.2.2.2.1
theorem dX10_toldOfDay_58 : decode cX10_toldOfDay 58 = .ok (.invokevirtual 433, 3) := dk_dX10_toldOfDay_0_8.2.2.2.2.2.1
theorem dX10_toldOfDay_61 : decode cX10_toldOfDay 61 = .ok (.invokestatic 511, 3) := dk_dX10_toldOfDay_0_8.2.2.2.2.2.2.1
theorem dX10_toldOfDay_64 : decode cX10_toldOfDay 64 = .ok (.ireturn, 1) := dk_dX10_toldOfDay_0_8.2.2.2.2.2.2.2.1
theorem dX10_toldOfDay_1 : decode cX10_toldOfDay 1 = .ok (.tableswitch 74 0 4 #[35, 40, 52, 64, 69], 35) := by decide +kernel
theorem dk_dX10_toldOfDay_65 : dz_C cX10_toldOfDay [(65, .aload_n 0, 1), (66, .invokevirtual 515, 3), (69, .ireturn, 1), (70, .aload_n 0, 1), (71, .invokevirtual 518, 3), (74, .ireturn, 1), (75, .aload_n 0, 1), (76, .getfield 170, 3), (79, .aload_n 0, 1), (80, .invokevirtual 433, 3), (83, .invokestatic 511, 3), (86, .ireturn, 1)] := dz_of (by decide +kernel)
theorem dX10_toldOfDay_65 : decode cX10_toldOfDay 65 = .ok (.aload_n 0, 1) := dk_dX10_toldOfDay_65.1
theorem dX10_toldOfDay_66 : decode cX10_toldOfDay 66 = .ok (.invokevirtual 515, 3) := dk_dX10_toldOfDay_65.2.1
theorem dX10_toldOfDay_69 : decode cX10_toldOfDay 69 = .ok (.ireturn, 1) := dk_dX10_toldOfDay_65.2.2.1
theorem dX10_toldOfDay_70 : decode cX10_toldOfDay 70 = .ok (.aload_n 0, 1) := dk_dX10_toldOfDay_65.2.2.2.1
theorem dX10_toldOfDay_71 : decode cX10_toldOfDay 71 = .ok (.invokevirtual 518, 3) := dk_dX10_toldOfDay_65.2.2.2.2.1
theorem dX10_toldOfDay_74 : decode cX10_toldOfDay 74 = .ok (.ireturn, 1) := dk_dX10_toldOfDay_65.2.2.2.2.2.1
theorem dX10_toldOfDay_75 : decode cX10_toldOfDay 75 = .ok (.aload_n 0, 1) := dk_dX10_toldOfDay_65.2.2.2.2.2.2.1
theorem dX10_toldOfDay_76 : decode cX10_toldOfDay 76 = .ok (.getfield 170, 3) := dk_dX10_toldOfDay_65.2.2.2.2.2.2.2.1
theorem dk_dX10_toldOfDay_65_8 : dz_C cX10_toldOfDay [(79, .aload_n 0, 1), (80, .invokevirtual 433, 3), (83, .invokestatic 511, 3), (86, .ireturn, 1)] := dk_dX10_toldOfDay_65.2.2.2.2.2.2.2.2
theorem dX10_toldOfDay_79 : decode cX10_toldOfDay 79 = .ok (.aload_n 0, 1) := dk_dX10_toldOfDay_65_8.1
theorem dX10_toldOfDay_80 : decode cX10_toldOfDay 80 = .ok (.invokevirtual 433, 3) := dk_dX10_toldOfDay_65_8.2.1
theorem dX10_toldOfDay_83 : decode cX10_toldOfDay 83 = .ok (.invokestatic 511, 3) := dk_dX10_toldOfDay_65_8.2.2.1
theorem dX10_toldOfDay_86 : decode cX10_toldOfDay 86 = .ok (.ireturn, 1) := dk_dX10_toldOfDay_65_8.2.2.2.1
theorem dk_dX10_trust_0 : dz_C cX10_trust [(0, .aload_n 0, 1), (1, .iload_n 1, 1), (2, .invokevirtual 528, 3), (5, .ifCond .eq 24, 3), (8, .iload_n 2, 1), (9, .i2l, 1), (10, .lconst 0, 1), (11, .ldc2_w 521, 3), (14, .invokestatic 318, 3), (17, .ifCond .eq 12, 3), (20, .aload_n 0, 1), (21, .iload_n 1, 1), (22, .invokevirtual 463, 3), (25, .iload_n 2, 1), (26, .if_icmp .ne 8, 3), (29, .aload_n 0, 1)] := dz_of (by decide +kernel)
theorem dX10_trust_0 : decode cX10_trust 0 = .ok (.aload_n 0, 1) := dk_dX10_trust_0.1
theorem dX10_trust_1 : decode cX10_trust 1 = .ok (.iload_n 1, 1) := dk_dX10_trust_0.2.1
theorem dX10_trust_2 : decode cX10_trust 2 = .ok (.invokevirtual 528, 3) := dk_dX10_trust_0.2.2.1
theorem dX10_trust_5 : decode cX10_trust 5 = .ok (.ifCond .eq 24, 3) := dk_dX10_trust_0.2.2.2.1
theorem dX10_trust_8 : decode cX10_trust 8 = .ok (.iload_n 2, 1) := dk_dX10_trust_0.2.2.2.2.1
theorem dX10_trust_9 : decode cX10_trust 9 = .ok (.i2l, 1) := dk_dX10_trust_0.2.2.2.2.2.1
theorem dX10_trust_10 : decode cX10_trust 10 = .ok (.lconst 0, 1) := dk_dX10_trust_0.2.2.2.2.2.2.1
theorem dX10_trust_11 : decode cX10_trust 11 = .ok (.ldc2_w 521, 3) := dk_dX10_trust_0.2.2.2.2.2.2.2.1
theorem dk_dX10_trust_0_8 : dz_C cX10_trust [(14, .invokestatic 318, 3), (17, .ifCond .eq 12, 3), (20, .aload_n 0, 1), (21, .iload_n 1, 1), (22, .invokevirtual 463, 3), (25, .iload_n 2, 1), (26, .if_icmp .ne 8, 3), (29, .aload_n 0, 1)] := dk_dX10_trust_0.2.2.2.2.2.2.2.2
theorem dX10_trust_14 : decode cX10_trust 14 = .ok (.invokestatic 318, 3) := dk_dX10_trust_0_8.1
theorem dX10_trust_17 : decode cX10_trust 17 = .ok (.ifCond .eq 12, 3) := dk_dX10_trust_0_8.2.1
theorem dX10_trust_20 : decode cX10_trust 20 = .ok (.aload_n 0, 1) := dk_dX10_trust_0_8.2.2.1
theorem dX10_trust_21 : decode cX10_trust 21 = .ok (.iload_n 1, 1) := dk_dX10_trust_0_8.2.2.2.1
theorem dX10_trust_22 : decode cX10_trust 22 = .ok (.invokevirtual 463, 3) := dk_dX10_trust_0_8.2.2.2.2.1
theorem dX10_trust_25 : decode cX10_trust 25 = .ok (.iload_n 2, 1) := dk_dX10_trust_0_8.2.2.2.2.2.1
theorem dX10_trust_26 : decode cX10_trust 26 = .ok (.if_icmp .ne 8, 3) := dk_dX10_trust_0_8.2.2.2.2.2.2.1
theorem dX10_trust_29 : decode cX10_trust 29 = .ok (.aload_n 0, 1) := dk_dX10_trust_0_8.2.2.2.2.2.2.2.1
theorem dk_dX10_trust_30 : dz_C cX10_trust [(30, .invokevirtual 591, 3), (33, .ireturn, 1), (34, .aload_n 0, 1), (35, .invokevirtual 594, 3), (38, .aload_n 0, 1), (39, .getfield 139, 3), (42, .iconst 3, 1), (43, .iload_n 1, 1), (44, .iadd, 1), (45, .iload_n 2, 1), (46, .iastore, 1), (47, .iconst 1, 1), (48, .ireturn, 1)] := dz_of (by decide +kernel)
theorem dX10_trust_30 : decode cX10_trust 30 = .ok (.invokevirtual 591, 3) := dk_dX10_trust_30.1
theorem dX10_trust_33 : decode cX10_trust 33 = .ok (.ireturn, 1) := dk_dX10_trust_30.2.1
theorem dX10_trust_34 : decode cX10_trust 34 = .ok (.aload_n 0, 1) := dk_dX10_trust_30.2.2.1
theorem dX10_trust_35 : decode cX10_trust 35 = .ok (.invokevirtual 594, 3) := dk_dX10_trust_30.2.2.2.1
theorem dX10_trust_38 : decode cX10_trust 38 = .ok (.aload_n 0, 1) := dk_dX10_trust_30.2.2.2.2.1
theorem dX10_trust_39 : decode cX10_trust 39 = .ok (.getfield 139, 3) := dk_dX10_trust_30.2.2.2.2.2.1
theorem dX10_trust_42 : decode cX10_trust 42 = .ok (.iconst 3, 1) := dk_dX10_trust_30.2.2.2.2.2.2.1
theorem dX10_trust_43 : decode cX10_trust 43 = .ok (.iload_n 1, 1) := dk_dX10_trust_30.2.2.2.2.2.2.2.1
theorem dk_dX10_trust_30_8 : dz_C cX10_trust [(44, .iadd, 1), (45, .iload_n 2, 1), (46, .iastore, 1), (47, .iconst 1, 1), (48, .ireturn, 1)] := dk_dX10_trust_30.2.2.2.2.2.2.2.2
theorem dX10_trust_44 : decode cX10_trust 44 = .ok (.iadd, 1) := dk_dX10_trust_30_8.1
theorem dX10_trust_45 : decode cX10_trust 45 = .ok (.iload_n 2, 1) := dk_dX10_trust_30_8.2.1
theorem dX10_trust_46 : decode cX10_trust 46 = .ok (.iastore, 1) := dk_dX10_trust_30_8.2.2.1
theorem dX10_trust_47 : decode cX10_trust 47 = .ok (.iconst 1, 1) := dk_dX10_trust_30_8.2.2.2.1
theorem dX10_trust_48 : decode cX10_trust 48 = .ok (.ireturn, 1) := dk_dX10_trust_30_8.2.2.2.2.1
theorem dk_dX10_trustsOf_0 : dz_C cX10_trustsOf [(0, .aload_n 0, 1), (1, .getfield 139, 3), (4, .iconst 3, 1), (5, .iload_n 1, 1), (6, .iadd, 1), (7, .iaload, 1), (8, .ireturn, 1)] := dz_of (by decide +kernel)
theorem dX10_trustsOf_0 : decode cX10_trustsOf 0 = .ok (.aload_n 0, 1) := dk_dX10_trustsOf_0.1
theorem dX10_trustsOf_1 : decode cX10_trustsOf 1 = .ok (.getfield 139, 3) := dk_dX10_trustsOf_0.2.1
theorem dX10_trustsOf_4 : decode cX10_trustsOf 4 = .ok (.iconst 3, 1) := dk_dX10_trustsOf_0.2.2.1
theorem dX10_trustsOf_5 : decode cX10_trustsOf 5 = .ok (.iload_n 1, 1) := dk_dX10_trustsOf_0.2.2.2.1
theorem dX10_trustsOf_6 : decode cX10_trustsOf 6 = .ok (.iadd, 1) := dk_dX10_trustsOf_0.2.2.2.2.1
theorem dX10_trustsOf_7 : decode cX10_trustsOf 7 = .ok (.iaload, 1) := dk_dX10_trustsOf_0.2.2.2.2.2.1
theorem dX10_trustsOf_8 : decode cX10_trustsOf 8 = .ok (.ireturn, 1) := dk_dX10_trustsOf_0.2.2.2.2.2.2.1
theorem dk_dX10_undo_0 : dz_C cX10_undo [(0, .aload_n 0, 1), (1, .getfield 424, 3), (4, .ifCond .ne 15, 3), (7, .aload_n 0, 1), (8, .getfield 17, 3), (11, .iconst 4, 1), (12, .dup2, 1), (13, .iaload, 1), (14, .iconst 1, 1), (15, .iadd, 1), (16, .iastore, 1), (17, .iconst 0, 1), (18, .ireturn, 1), (19, .iconst 0, 1), (20, .istore_n 1, 1), (21, .iload_n 1, 1)] := dz_of (by decide +kernel)
theorem dX10_undo_0 : decode cX10_undo 0 = .ok (.aload_n 0, 1) := dk_dX10_undo_0.1
theorem dX10_undo_1 : decode cX10_undo 1 = .ok (.getfield 424, 3) := dk_dX10_undo_0.2.1
theorem dX10_undo_4 : decode cX10_undo 4 = .ok (.ifCond .ne 15, 3) := dk_dX10_undo_0.2.2.1
theorem dX10_undo_7 : decode cX10_undo 7 = .ok (.aload_n 0, 1) := dk_dX10_undo_0.2.2.2.1
theorem dX10_undo_8 : decode cX10_undo 8 = .ok (.getfield 17, 3) := dk_dX10_undo_0.2.2.2.2.1
theorem dX10_undo_11 : decode cX10_undo 11 = .ok (.iconst 4, 1) := dk_dX10_undo_0.2.2.2.2.2.1
theorem dX10_undo_12 : decode cX10_undo 12 = .ok (.dup2, 1) := dk_dX10_undo_0.2.2.2.2.2.2.1
theorem dX10_undo_13 : decode cX10_undo 13 = .ok (.iaload, 1) := dk_dX10_undo_0.2.2.2.2.2.2.2.1
theorem dk_dX10_undo_0_8 : dz_C cX10_undo [(14, .iconst 1, 1), (15, .iadd, 1), (16, .iastore, 1), (17, .iconst 0, 1), (18, .ireturn, 1), (19, .iconst 0, 1), (20, .istore_n 1, 1), (21, .iload_n 1, 1)] := dk_dX10_undo_0.2.2.2.2.2.2.2.2
theorem dX10_undo_14 : decode cX10_undo 14 = .ok (.iconst 1, 1) := dk_dX10_undo_0_8.1
theorem dX10_undo_15 : decode cX10_undo 15 = .ok (.iadd, 1) := dk_dX10_undo_0_8.2.1
theorem dX10_undo_16 : decode cX10_undo 16 = .ok (.iastore, 1) := dk_dX10_undo_0_8.2.2.1
theorem dX10_undo_17 : decode cX10_undo 17 = .ok (.iconst 0, 1) := dk_dX10_undo_0_8.2.2.2.1
theorem dX10_undo_18 : decode cX10_undo 18 = .ok (.ireturn, 1) := dk_dX10_undo_0_8.2.2.2.2.1
theorem dX10_undo_19 : decode cX10_undo 19 = .ok (.iconst 0, 1) := dk_dX10_undo_0_8.2.2.2.2.2.1
theorem dX10_undo_20 : decode cX10_undo 20 = .ok (.istore_n 1, 1) := dk_dX10_undo_0_8.2.2.2.2.2.2.1
theorem dX10_undo_21 : decode cX10_undo 21 = .ok (.iload_n 1, 1) := dk_dX10_undo_0_8.2.2.2.2.2.2.2.1
theorem dk_dX10_undo_22 : dz_C cX10_undo [(22, .bipush 9, 2), (24, .if_icmp .ge 29, 3), (27, .aload_n 0, 1), (28, .getfield 139, 3), (31, .iload_n 1, 1), (32, .aload_n 0, 1), (33, .getfield 182, 3), (36, .bipush 9, 2), (38, .aload_n 0, 1), (39, .getfield 588, 3), (42, .imul, 1), (43, .iload_n 1, 1), (44, .iadd, 1), (45, .iaload, 1), (46, .iastore, 1), (47, .iinc 1 1, 3)] := dz_of (by decide +kernel)
theorem dX10_undo_22 : decode cX10_undo 22 = .ok (.bipush 9, 2) := dk_dX10_undo_22.1
theorem dX10_undo_24 : decode cX10_undo 24 = .ok (.if_icmp .ge 29, 3) := dk_dX10_undo_22.2.1
theorem dX10_undo_27 : decode cX10_undo 27 = .ok (.aload_n 0, 1) := dk_dX10_undo_22.2.2.1
theorem dX10_undo_28 : decode cX10_undo 28 = .ok (.getfield 139, 3) := dk_dX10_undo_22.2.2.2.1
theorem dX10_undo_31 : decode cX10_undo 31 = .ok (.iload_n 1, 1) := dk_dX10_undo_22.2.2.2.2.1
theorem dX10_undo_32 : decode cX10_undo 32 = .ok (.aload_n 0, 1) := dk_dX10_undo_22.2.2.2.2.2.1
theorem dX10_undo_33 : decode cX10_undo 33 = .ok (.getfield 182, 3) := dk_dX10_undo_22.2.2.2.2.2.2.1
theorem dX10_undo_36 : decode cX10_undo 36 = .ok (.bipush 9, 2) := dk_dX10_undo_22.2.2.2.2.2.2.2.1
theorem dk_dX10_undo_22_8 : dz_C cX10_undo [(38, .aload_n 0, 1), (39, .getfield 588, 3), (42, .imul, 1), (43, .iload_n 1, 1), (44, .iadd, 1), (45, .iaload, 1), (46, .iastore, 1), (47, .iinc 1 1, 3)] := dk_dX10_undo_22.2.2.2.2.2.2.2.2
theorem dX10_undo_38 : decode cX10_undo 38 = .ok (.aload_n 0, 1) := dk_dX10_undo_22_8.1
theorem dX10_undo_39 : decode cX10_undo 39 = .ok (.getfield 588, 3) := dk_dX10_undo_22_8.2.1
theorem dX10_undo_42 : decode cX10_undo 42 = .ok (.imul, 1) := dk_dX10_undo_22_8.2.2.1
theorem dX10_undo_43 : decode cX10_undo 43 = .ok (.iload_n 1, 1) := dk_dX10_undo_22_8.2.2.2.1
theorem dX10_undo_44 : decode cX10_undo 44 = .ok (.iadd, 1) := dk_dX10_undo_22_8.2.2.2.2.1
theorem dX10_undo_45 : decode cX10_undo 45 = .ok (.iaload, 1) := dk_dX10_undo_22_8.2.2.2.2.2.1
theorem dX10_undo_46 : decode cX10_undo 46 = .ok (.iastore, 1) := dk_dX10_undo_22_8.2.2.2.2.2.2.1
theorem dX10_undo_47 : decode cX10_undo 47 = .ok (.iinc 1 1, 3) := dk_dX10_undo_22_8.2.2.2.2.2.2.2.1
theorem dk_dX10_undo_50 : dz_C cX10_undo [(50, .goto (-29), 3), (53, .aload_n 0, 1), (54, .aload_n 0, 1), (55, .getfield 588, 3), (58, .bipush 20, 2), (60, .iadd, 1), (61, .iconst 1, 1), (62, .isub, 1), (63, .bipush 20, 2), (65, .irem, 1), (66, .putfield 588, 3), (69, .aload_n 0, 1), (70, .dup, 1), (71, .getfield 424, 3), (74, .iconst 1, 1), (75, .isub, 1)] := dz_of (by decide +kernel)
theorem dX10_undo_50 : decode cX10_undo 50 = .ok (.goto (-29), 3) := dk_dX10_undo_50.1
theorem dX10_undo_53 : decode cX10_undo 53 = .ok (.aload_n 0, 1) := dk_dX10_undo_50.2.1
theorem dX10_undo_54 : decode cX10_undo 54 = .ok (.aload_n 0, 1) := dk_dX10_undo_50.2.2.1
theorem dX10_undo_55 : decode cX10_undo 55 = .ok (.getfield 588, 3) := dk_dX10_undo_50.2.2.2.1
theorem dX10_undo_58 : decode cX10_undo 58 = .ok (.bipush 20, 2) := dk_dX10_undo_50.2.2.2.2.1
theorem dX10_undo_60 : decode cX10_undo 60 = .ok (.iadd, 1) := dk_dX10_undo_50.2.2.2.2.2.1
theorem dX10_undo_61 : decode cX10_undo 61 = .ok (.iconst 1, 1) := dk_dX10_undo_50.2.2.2.2.2.2.1
theorem dX10_undo_62 : decode cX10_undo 62 = .ok (.isub, 1) := dk_dX10_undo_50.2.2.2.2.2.2.2.1
theorem dk_dX10_undo_50_8 : dz_C cX10_undo [(63, .bipush 20, 2), (65, .irem, 1), (66, .putfield 588, 3), (69, .aload_n 0, 1), (70, .dup, 1), (71, .getfield 424, 3), (74, .iconst 1, 1), (75, .isub, 1)] := dk_dX10_undo_50.2.2.2.2.2.2.2.2
theorem dX10_undo_63 : decode cX10_undo 63 = .ok (.bipush 20, 2) := dk_dX10_undo_50_8.1
theorem dX10_undo_65 : decode cX10_undo 65 = .ok (.irem, 1) := dk_dX10_undo_50_8.2.1
theorem dX10_undo_66 : decode cX10_undo 66 = .ok (.putfield 588, 3) := dk_dX10_undo_50_8.2.2.1
theorem dX10_undo_69 : decode cX10_undo 69 = .ok (.aload_n 0, 1) := dk_dX10_undo_50_8.2.2.2.1
theorem dX10_undo_70 : decode cX10_undo 70 = .ok (.dup, 1) := dk_dX10_undo_50_8.2.2.2.2.1
theorem dX10_undo_71 : decode cX10_undo 71 = .ok (.getfield 424, 3) := dk_dX10_undo_50_8.2.2.2.2.2.1
theorem dX10_undo_74 : decode cX10_undo 74 = .ok (.iconst 1, 1) := dk_dX10_undo_50_8.2.2.2.2.2.2.1
theorem dX10_undo_75 : decode cX10_undo 75 = .ok (.isub, 1) := dk_dX10_undo_50_8.2.2.2.2.2.2.2.1
theorem dk_dX10_undo_76 : dz_C cX10_undo [(76, .putfield 424, 3), (79, .iconst 1, 1), (80, .ireturn, 1)] := dz_of (by decide +kernel)
theorem dX10_undo_76 : decode cX10_undo 76 = .ok (.putfield 424, 3) := dk_dX10_undo_76.1
theorem dX10_undo_79 : decode cX10_undo 79 = .ok (.iconst 1, 1) := dk_dX10_undo_76.2.1
theorem dX10_undo_80 : decode cX10_undo 80 = .ok (.ireturn, 1) := dk_dX10_undo_76.2.2.1
theorem dk_dX10_waitedAll_0 : dz_C cX10_waitedAll [(0, .iconst 0, 1), (1, .istore_n 1, 1), (2, .iconst 0, 1), (3, .istore_n 2, 1), (4, .iload_n 2, 1), (5, .aload_n 0, 1), (6, .invokevirtual 433, 3), (9, .if_icmp .ge 18, 3), (12, .iload_n 1, 1), (13, .aload_n 0, 1), (14, .getfield 161, 3), (17, .iload_n 2, 1), (18, .iaload, 1), (19, .iadd, 1), (20, .istore_n 1, 1), (21, .iinc 2 1, 3)] := dz_of (by decide +kernel)
theorem dX10_waitedAll_0 : decode cX10_waitedAll 0 = .ok (.iconst 0, 1) := dk_dX10_waitedAll_0.1
theorem dX10_waitedAll_1 : decode cX10_waitedAll 1 = .ok (.istore_n 1, 1) := dk_dX10_waitedAll_0.2.1
theorem dX10_waitedAll_2 : decode cX10_waitedAll 2 = .ok (.iconst 0, 1) := dk_dX10_waitedAll_0.2.2.1
theorem dX10_waitedAll_3 : decode cX10_waitedAll 3 = .ok (.istore_n 2, 1) := dk_dX10_waitedAll_0.2.2.2.1
theorem dX10_waitedAll_4 : decode cX10_waitedAll 4 = .ok (.iload_n 2, 1) := dk_dX10_waitedAll_0.2.2.2.2.1
theorem dX10_waitedAll_5 : decode cX10_waitedAll 5 = .ok (.aload_n 0, 1) := dk_dX10_waitedAll_0.2.2.2.2.2.1
theorem dX10_waitedAll_6 : decode cX10_waitedAll 6 = .ok (.invokevirtual 433, 3) := dk_dX10_waitedAll_0.2.2.2.2.2.2.1
theorem dX10_waitedAll_9 : decode cX10_waitedAll 9 = .ok (.if_icmp .ge 18, 3) := dk_dX10_waitedAll_0.2.2.2.2.2.2.2.1
theorem dk_dX10_waitedAll_0_8 : dz_C cX10_waitedAll [(12, .iload_n 1, 1), (13, .aload_n 0, 1), (14, .getfield 161, 3), (17, .iload_n 2, 1), (18, .iaload, 1), (19, .iadd, 1), (20, .istore_n 1, 1), (21, .iinc 2 1, 3)] := dk_dX10_waitedAll_0.2.2.2.2.2.2.2.2
theorem dX10_waitedAll_12 : decode cX10_waitedAll 12 = .ok (.iload_n 1, 1) := dk_dX10_waitedAll_0_8.1
theorem dX10_waitedAll_13 : decode cX10_waitedAll 13 = .ok (.aload_n 0, 1) := dk_dX10_waitedAll_0_8.2.1
theorem dX10_waitedAll_14 : decode cX10_waitedAll 14 = .ok (.getfield 161, 3) := dk_dX10_waitedAll_0_8.2.2.1
theorem dX10_waitedAll_17 : decode cX10_waitedAll 17 = .ok (.iload_n 2, 1) := dk_dX10_waitedAll_0_8.2.2.2.1
theorem dX10_waitedAll_18 : decode cX10_waitedAll 18 = .ok (.iaload, 1) := dk_dX10_waitedAll_0_8.2.2.2.2.1
theorem dX10_waitedAll_19 : decode cX10_waitedAll 19 = .ok (.iadd, 1) := dk_dX10_waitedAll_0_8.2.2.2.2.2.1
theorem dX10_waitedAll_20 : decode cX10_waitedAll 20 = .ok (.istore_n 1, 1) := dk_dX10_waitedAll_0_8.2.2.2.2.2.2.1
theorem dX10_waitedAll_21 : decode cX10_waitedAll 21 = .ok (.iinc 2 1, 3) := dk_dX10_waitedAll_0_8.2.2.2.2.2.2.2.1
theorem dk_dX10_waitedAll_24 : dz_C cX10_waitedAll [(24, .goto (-20), 3), (27, .iload_n 1, 1), (28, .ireturn, 1)] := dz_of (by decide +kernel)
theorem dX10_waitedAll_24 : decode cX10_waitedAll 24 = .ok (.goto (-20), 3) := dk_dX10_waitedAll_24.1
theorem dX10_waitedAll_27 : decode cX10_waitedAll 27 = .ok (.iload_n 1, 1) := dk_dX10_waitedAll_24.2.1
theorem dX10_waitedAll_28 : decode cX10_waitedAll 28 = .ok (.ireturn, 1) := dk_dX10_waitedAll_24.2.2.1
theorem dk_dX10_walker_0 : dz_C cX10_walker [(0, .aload_n 0, 1), (1, .iload_n 1, 1), (2, .invokevirtual 531, 3), (5, .ifCond .ne 5, 3), (8, .iconst (-1), 1), (9, .ireturn, 1), (10, .aload_n 0, 1), (11, .invokevirtual 534, 3), (14, .iload_n 2, 1), (56, .aload_n 0, 1), (57, .iload_n 1, 1), (58, .invokevirtual 436, 3), (61, .ireturn, 1), (62, .aload_n 0, 1), (63, .iload_n 1, 1), (64, .invokevirtual 460, 3)] := dz_of (by decide +kernel)
theorem dX10_walker_0 : decode cX10_walker 0 = .ok (.aload_n 0, 1) := dk_dX10_walker_0.1
theorem dX10_walker_1 : decode cX10_walker 1 = .ok (.iload_n 1, 1) := dk_dX10_walker_0.2.1
theorem dX10_walker_2 : decode cX10_walker 2 = .ok (.invokevirtual 531, 3) := dk_dX10_walker_0.2.2.1
theorem dX10_walker_5 : decode cX10_walker 5 = .ok (.ifCond .ne 5, 3) := dk_dX10_walker_0.2.2.2.1
theorem dX10_walker_8 : decode cX10_walker 8 = .ok (.iconst (-1), 1) := dk_dX10_walker_0.2.2.2.2.1
theorem dX10_walker_9 : decode cX10_walker 9 = .ok (.ireturn, 1) := dk_dX10_walker_0.2.2.2.2.2.1
theorem dX10_walker_10 : decode cX10_walker 10 = .ok (.aload_n 0, 1) := dk_dX10_walker_0.2.2.2.2.2.2.1
theorem dX10_walker_11 : decode cX10_walker 11 = .ok (.invokevirtual 534, 3) := dk_dX10_walker_0.2.2.2.2.2.2.2.1
theorem dk_dX10_walker_0_8 : dz_C cX10_walker [(14, .iload_n 2, 1), (56, .aload_n 0, 1), (57, .iload_n 1, 1), (58, .invokevirtual 436, 3), (61, .ireturn, 1), (62, .aload_n 0, 1), (63, .iload_n 1, 1), (64, .invokevirtual 460, 3)] := dk_dX10_walker_0.2.2.2.2.2.2.2.2
theorem dX10_walker_14 : decode cX10_walker 14 = .ok (.iload_n 2, 1) := dk_dX10_walker_0_8.1
theorem dX10_walker_56 : decode cX10_walker 56 = .ok (.aload_n 0, 1) := dk_dX10_walker_0_8.2.1
theorem dX10_walker_57 : decode cX10_walker 57 = .ok (.iload_n 1, 1) := dk_dX10_walker_0_8.2.2.1
theorem dX10_walker_58 : decode cX10_walker 58 = .ok (.invokevirtual 436, 3) := dk_dX10_walker_0_8.2.2.2.1
theorem dX10_walker_61 : decode cX10_walker 61 = .ok (.ireturn, 1) := dk_dX10_walker_0_8.2.2.2.2.1
theorem dX10_walker_62 : decode cX10_walker 62 = .ok (.aload_n 0, 1) := dk_dX10_walker_0_8.2.2.2.2.2.1
theorem dX10_walker_63 : decode cX10_walker 63 = .ok (.iload_n 1, 1) := dk_dX10_walker_0_8.2.2.2.2.2.2.1
theorem dX10_walker_64 : decode cX10_walker 64 = .ok (.invokevirtual 460, 3) := dk_dX10_walker_0_8.2.2.2.2.2.2.2.1
theorem dX10_walker_15 : decode cX10_walker 15 = .ok (.tableswitch 112 0 6 #[41, 47, 53, 60, 67, 82, 97], 41) := by decide +kernel
theorem dk_dX10_walker_67 : dz_C cX10_walker [(67, .ireturn, 1), (68, .aload_n 0, 1), (69, .getfield 158, 3), (72, .iload_n 1, 1), (73, .iaload, 1), (74, .ireturn, 1), (75, .aload_n 0, 1), (76, .getfield 161, 3), (79, .iload_n 1, 1), (80, .iaload, 1), (81, .ireturn, 1), (82, .aload_n 0, 1), (83, .getfield 164, 3), (86, .iload_n 1, 1), (87, .baload, 1), (88, .ifCond .eq 7, 3)] := dz_of (by decide +kernel)
theorem dX10_walker_67 : decode cX10_walker 67 = .ok (.ireturn, 1) := dk_dX10_walker_67.1
theorem dX10_walker_68 : decode cX10_walker 68 = .ok (.aload_n 0, 1) := dk_dX10_walker_67.2.1
theorem dX10_walker_69 : decode cX10_walker 69 = .ok (.getfield 158, 3) := dk_dX10_walker_67.2.2.1
theorem dX10_walker_72 : decode cX10_walker 72 = .ok (.iload_n 1, 1) := dk_dX10_walker_67.2.2.2.1
theorem dX10_walker_73 : decode cX10_walker 73 = .ok (.iaload, 1) := dk_dX10_walker_67.2.2.2.2.1
theorem dX10_walker_74 : decode cX10_walker 74 = .ok (.ireturn, 1) := dk_dX10_walker_67.2.2.2.2.2.1
theorem dX10_walker_75 : decode cX10_walker 75 = .ok (.aload_n 0, 1) := dk_dX10_walker_67.2.2.2.2.2.2.1
theorem dX10_walker_76 : decode cX10_walker 76 = .ok (.getfield 161, 3) := dk_dX10_walker_67.2.2.2.2.2.2.2.1
theorem dk_dX10_walker_67_8 : dz_C cX10_walker [(79, .iload_n 1, 1), (80, .iaload, 1), (81, .ireturn, 1), (82, .aload_n 0, 1), (83, .getfield 164, 3), (86, .iload_n 1, 1), (87, .baload, 1), (88, .ifCond .eq 7, 3)] := dk_dX10_walker_67.2.2.2.2.2.2.2.2
theorem dX10_walker_79 : decode cX10_walker 79 = .ok (.iload_n 1, 1) := dk_dX10_walker_67_8.1
theorem dX10_walker_80 : decode cX10_walker 80 = .ok (.iaload, 1) := dk_dX10_walker_67_8.2.1
theorem dX10_walker_81 : decode cX10_walker 81 = .ok (.ireturn, 1) := dk_dX10_walker_67_8.2.2.1
theorem dX10_walker_82 : decode cX10_walker 82 = .ok (.aload_n 0, 1) := dk_dX10_walker_67_8.2.2.2.1
theorem dX10_walker_83 : decode cX10_walker 83 = .ok (.getfield 164, 3) := dk_dX10_walker_67_8.2.2.2.2.1
theorem dX10_walker_86 : decode cX10_walker 86 = .ok (.iload_n 1, 1) := dk_dX10_walker_67_8.2.2.2.2.2.1
theorem dX10_walker_87 : decode cX10_walker 87 = .ok (.baload, 1) := dk_dX10_walker_67_8.2.2.2.2.2.2.1
theorem dX10_walker_88 : decode cX10_walker 88 = .ok (.ifCond .eq 7, 3) := dk_dX10_walker_67_8.2.2.2.2.2.2.2.1
theorem dk_dX10_walker_91 : dz_C cX10_walker [(91, .iconst 1, 1), (92, .goto 4, 3), (95, .iconst 0, 1), (96, .ireturn, 1), (97, .aload_n 0, 1), (98, .getfield 167, 3), (101, .iload_n 1, 1), (102, .baload, 1), (103, .ifCond .eq 7, 3), (106, .iconst 1, 1), (107, .goto 4, 3), (110, .iconst 0, 1), (111, .ireturn, 1), (112, .aload_n 0, 1), (113, .getfield 170, 3), (116, .iload_n 1, 1)] := dz_of (by decide +kernel)
theorem dX10_walker_91 : decode cX10_walker 91 = .ok (.iconst 1, 1) := dk_dX10_walker_91.1
theorem dX10_walker_92 : decode cX10_walker 92 = .ok (.goto 4, 3) := dk_dX10_walker_91.2.1
theorem dX10_walker_95 : decode cX10_walker 95 = .ok (.iconst 0, 1) := dk_dX10_walker_91.2.2.1
theorem dX10_walker_96 : decode cX10_walker 96 = .ok (.ireturn, 1) := dk_dX10_walker_91.2.2.2.1
theorem dX10_walker_97 : decode cX10_walker 97 = .ok (.aload_n 0, 1) := dk_dX10_walker_91.2.2.2.2.1
theorem dX10_walker_98 : decode cX10_walker 98 = .ok (.getfield 167, 3) := dk_dX10_walker_91.2.2.2.2.2.1
theorem dX10_walker_101 : decode cX10_walker 101 = .ok (.iload_n 1, 1) := dk_dX10_walker_91.2.2.2.2.2.2.1
theorem dX10_walker_102 : decode cX10_walker 102 = .ok (.baload, 1) := dk_dX10_walker_91.2.2.2.2.2.2.2.1
theorem dk_dX10_walker_91_8 : dz_C cX10_walker [(103, .ifCond .eq 7, 3), (106, .iconst 1, 1), (107, .goto 4, 3), (110, .iconst 0, 1), (111, .ireturn, 1), (112, .aload_n 0, 1), (113, .getfield 170, 3), (116, .iload_n 1, 1)] := dk_dX10_walker_91.2.2.2.2.2.2.2.2
theorem dX10_walker_103 : decode cX10_walker 103 = .ok (.ifCond .eq 7, 3) := dk_dX10_walker_91_8.1
theorem dX10_walker_106 : decode cX10_walker 106 = .ok (.iconst 1, 1) := dk_dX10_walker_91_8.2.1
theorem dX10_walker_107 : decode cX10_walker 107 = .ok (.goto 4, 3) := dk_dX10_walker_91_8.2.2.1
theorem dX10_walker_110 : decode cX10_walker 110 = .ok (.iconst 0, 1) := dk_dX10_walker_91_8.2.2.2.1
theorem dX10_walker_111 : decode cX10_walker 111 = .ok (.ireturn, 1) := dk_dX10_walker_91_8.2.2.2.2.1
theorem dX10_walker_112 : decode cX10_walker 112 = .ok (.aload_n 0, 1) := dk_dX10_walker_91_8.2.2.2.2.2.1
theorem dX10_walker_113 : decode cX10_walker 113 = .ok (.getfield 170, 3) := dk_dX10_walker_91_8.2.2.2.2.2.2.1
theorem dX10_walker_116 : decode cX10_walker 116 = .ok (.iload_n 1, 1) := dk_dX10_walker_91_8.2.2.2.2.2.2.2.1
theorem dk_dX10_walker_117 : dz_C cX10_walker [(117, .baload, 1), (118, .ifCond .eq 7, 3), (121, .iconst 1, 1), (122, .goto 4, 3), (125, .iconst 0, 1), (126, .ireturn, 1), (127, .iconst (-1), 1), (128, .ireturn, 1)] := dz_of (by decide +kernel)
theorem dX10_walker_117 : decode cX10_walker 117 = .ok (.baload, 1) := dk_dX10_walker_117.1
theorem dX10_walker_118 : decode cX10_walker 118 = .ok (.ifCond .eq 7, 3) := dk_dX10_walker_117.2.1
theorem dX10_walker_121 : decode cX10_walker 121 = .ok (.iconst 1, 1) := dk_dX10_walker_117.2.2.1
theorem dX10_walker_122 : decode cX10_walker 122 = .ok (.goto 4, 3) := dk_dX10_walker_117.2.2.2.1
theorem dX10_walker_125 : decode cX10_walker 125 = .ok (.iconst 0, 1) := dk_dX10_walker_117.2.2.2.2.1
theorem dX10_walker_126 : decode cX10_walker 126 = .ok (.ireturn, 1) := dk_dX10_walker_117.2.2.2.2.2.1
theorem dX10_walker_127 : decode cX10_walker 127 = .ok (.iconst (-1), 1) := dk_dX10_walker_117.2.2.2.2.2.2.1
theorem dX10_walker_128 : decode cX10_walker 128 = .ok (.ireturn, 1) := dk_dX10_walker_117.2.2.2.2.2.2.2.1
theorem dk_dX10_walkerMany_0 : dz_C cX10_walkerMany [(0, .aload_n 0, 1), (1, .getfield 111, 3), (4, .iconst 3, 1), (5, .iaload, 1), (6, .ireturn, 1)] := dz_of (by decide +kernel)
theorem dX10_walkerMany_0 : decode cX10_walkerMany 0 = .ok (.aload_n 0, 1) := dk_dX10_walkerMany_0.1
theorem dX10_walkerMany_1 : decode cX10_walkerMany 1 = .ok (.getfield 111, 3) := dk_dX10_walkerMany_0.2.1
theorem dX10_walkerMany_4 : decode cX10_walkerMany 4 = .ok (.iconst 3, 1) := dk_dX10_walkerMany_0.2.2.1
theorem dX10_walkerMany_5 : decode cX10_walkerMany 5 = .ok (.iaload, 1) := dk_dX10_walkerMany_0.2.2.2.1
theorem dX10_walkerMany_6 : decode cX10_walkerMany 6 = .ok (.ireturn, 1) := dk_dX10_walkerMany_0.2.2.2.2.1
theorem dk_dX10_walkerTold_0 : dz_C cX10_walkerTold [(0, .aload_n 0, 1), (1, .iconst 1, 1), (2, .bipush 12, 2), (4, .iload_n 1, 1), (5, .invokevirtual 362, 3), (8, .ifCond .eq 4, 3), (11, .return_, 1), (12, .aload_n 0, 1), (13, .invokevirtual 366, 3), (16, .lstore_n 2, 1), (17, .aload_n 0, 1), (18, .aload_n 0, 1), (19, .getfield 48, 3), (22, .invokevirtual 350, 3), (25, .aload_n 0, 1), (26, .invokevirtual 342, 3)] := dz_of (by decide +kernel)
theorem dX10_walkerTold_0 : decode cX10_walkerTold 0 = .ok (.aload_n 0, 1) := dk_dX10_walkerTold_0.1
theorem dX10_walkerTold_1 : decode cX10_walkerTold 1 = .ok (.iconst 1, 1) := dk_dX10_walkerTold_0.2.1
theorem dX10_walkerTold_2 : decode cX10_walkerTold 2 = .ok (.bipush 12, 2) := dk_dX10_walkerTold_0.2.2.1
theorem dX10_walkerTold_4 : decode cX10_walkerTold 4 = .ok (.iload_n 1, 1) := dk_dX10_walkerTold_0.2.2.2.1
theorem dX10_walkerTold_5 : decode cX10_walkerTold 5 = .ok (.invokevirtual 362, 3) := dk_dX10_walkerTold_0.2.2.2.2.1
theorem dX10_walkerTold_8 : decode cX10_walkerTold 8 = .ok (.ifCond .eq 4, 3) := dk_dX10_walkerTold_0.2.2.2.2.2.1
theorem dX10_walkerTold_11 : decode cX10_walkerTold 11 = .ok (.return_, 1) := dk_dX10_walkerTold_0.2.2.2.2.2.2.1
theorem dX10_walkerTold_12 : decode cX10_walkerTold 12 = .ok (.aload_n 0, 1) := dk_dX10_walkerTold_0.2.2.2.2.2.2.2.1
theorem dk_dX10_walkerTold_0_8 : dz_C cX10_walkerTold [(13, .invokevirtual 366, 3), (16, .lstore_n 2, 1), (17, .aload_n 0, 1), (18, .aload_n 0, 1), (19, .getfield 48, 3), (22, .invokevirtual 350, 3), (25, .aload_n 0, 1), (26, .invokevirtual 342, 3)] := dk_dX10_walkerTold_0.2.2.2.2.2.2.2.2
theorem dX10_walkerTold_13 : decode cX10_walkerTold 13 = .ok (.invokevirtual 366, 3) := dk_dX10_walkerTold_0_8.1
theorem dX10_walkerTold_16 : decode cX10_walkerTold 16 = .ok (.lstore_n 2, 1) := dk_dX10_walkerTold_0_8.2.1
theorem dX10_walkerTold_17 : decode cX10_walkerTold 17 = .ok (.aload_n 0, 1) := dk_dX10_walkerTold_0_8.2.2.1
theorem dX10_walkerTold_18 : decode cX10_walkerTold 18 = .ok (.aload_n 0, 1) := dk_dX10_walkerTold_0_8.2.2.2.1
theorem dX10_walkerTold_19 : decode cX10_walkerTold 19 = .ok (.getfield 48, 3) := dk_dX10_walkerTold_0_8.2.2.2.2.1
theorem dX10_walkerTold_22 : decode cX10_walkerTold 22 = .ok (.invokevirtual 350, 3) := dk_dX10_walkerTold_0_8.2.2.2.2.2.1
theorem dX10_walkerTold_25 : decode cX10_walkerTold 25 = .ok (.aload_n 0, 1) := dk_dX10_walkerTold_0_8.2.2.2.2.2.2.1
theorem dX10_walkerTold_26 : decode cX10_walkerTold 26 = .ok (.invokevirtual 342, 3) := dk_dX10_walkerTold_0_8.2.2.2.2.2.2.2.1
theorem dk_dX10_walkerTold_29 : dz_C cX10_walkerTold [(29, .lstore 4, 2), (31, .aload_n 0, 1), (32, .iconst 0, 1), (33, .lload 4, 2), (35, .invokevirtual 346, 3), (38, .istore 6, 2), (40, .aload_n 0, 1), (41, .getfield 279, 3), (44, .ifCond .ne 18, 3), (47, .iload 6, 2), (49, .iconst (-1), 1), (50, .if_icmp .ne 12, 3), (53, .aload_n 0, 1), (54, .iconst 3, 1), (55, .aload_n 0, 1), (56, .getfield 326, 3)] := dz_of (by decide +kernel)
theorem dX10_walkerTold_29 : decode cX10_walkerTold 29 = .ok (.lstore 4, 2) := dk_dX10_walkerTold_29.1
theorem dX10_walkerTold_31 : decode cX10_walkerTold 31 = .ok (.aload_n 0, 1) := dk_dX10_walkerTold_29.2.1
theorem dX10_walkerTold_32 : decode cX10_walkerTold 32 = .ok (.iconst 0, 1) := dk_dX10_walkerTold_29.2.2.1
theorem dX10_walkerTold_33 : decode cX10_walkerTold 33 = .ok (.lload 4, 2) := dk_dX10_walkerTold_29.2.2.2.1
theorem dX10_walkerTold_35 : decode cX10_walkerTold 35 = .ok (.invokevirtual 346, 3) := dk_dX10_walkerTold_29.2.2.2.2.1
theorem dX10_walkerTold_38 : decode cX10_walkerTold 38 = .ok (.istore 6, 2) := dk_dX10_walkerTold_29.2.2.2.2.2.1
theorem dX10_walkerTold_40 : decode cX10_walkerTold 40 = .ok (.aload_n 0, 1) := dk_dX10_walkerTold_29.2.2.2.2.2.2.1
theorem dX10_walkerTold_41 : decode cX10_walkerTold 41 = .ok (.getfield 279, 3) := dk_dX10_walkerTold_29.2.2.2.2.2.2.2.1
theorem dk_dX10_walkerTold_29_8 : dz_C cX10_walkerTold [(44, .ifCond .ne 18, 3), (47, .iload 6, 2), (49, .iconst (-1), 1), (50, .if_icmp .ne 12, 3), (53, .aload_n 0, 1), (54, .iconst 3, 1), (55, .aload_n 0, 1), (56, .getfield 326, 3)] := dk_dX10_walkerTold_29.2.2.2.2.2.2.2.2
theorem dX10_walkerTold_44 : decode cX10_walkerTold 44 = .ok (.ifCond .ne 18, 3) := dk_dX10_walkerTold_29_8.1
theorem dX10_walkerTold_47 : decode cX10_walkerTold 47 = .ok (.iload 6, 2) := dk_dX10_walkerTold_29_8.2.1
theorem dX10_walkerTold_49 : decode cX10_walkerTold 49 = .ok (.iconst (-1), 1) := dk_dX10_walkerTold_29_8.2.2.1
theorem dX10_walkerTold_50 : decode cX10_walkerTold 50 = .ok (.if_icmp .ne 12, 3) := dk_dX10_walkerTold_29_8.2.2.2.1
theorem dX10_walkerTold_53 : decode cX10_walkerTold 53 = .ok (.aload_n 0, 1) := dk_dX10_walkerTold_29_8.2.2.2.2.1
theorem dX10_walkerTold_54 : decode cX10_walkerTold 54 = .ok (.iconst 3, 1) := dk_dX10_walkerTold_29_8.2.2.2.2.2.1
theorem dX10_walkerTold_55 : decode cX10_walkerTold 55 = .ok (.aload_n 0, 1) := dk_dX10_walkerTold_29_8.2.2.2.2.2.2.1
theorem dX10_walkerTold_56 : decode cX10_walkerTold 56 = .ok (.getfield 326, 3) := dk_dX10_walkerTold_29_8.2.2.2.2.2.2.2.1
theorem dk_dX10_walkerTold_59 : dz_C cX10_walkerTold [(59, .invokevirtual 308, 3), (62, .aload_n 0, 1), (63, .aload_n 0, 1), (64, .getfield 51, 3), (67, .invokevirtual 350, 3), (70, .aload_n 0, 1), (71, .iconst 0, 1), (72, .sipush 199, 3), (75, .invokevirtual 354, 3), (78, .istore 7, 2), (80, .aload_n 0, 1), (81, .getfield 279, 3), (84, .ifCond .eq 4, 3), (87, .return_, 1), (88, .aload_n 0, 1), (89, .getfield 114, 3)] := dz_of (by decide +kernel)
theorem dX10_walkerTold_59 : decode cX10_walkerTold 59 = .ok (.invokevirtual 308, 3) := dk_dX10_walkerTold_59.1
theorem dX10_walkerTold_62 : decode cX10_walkerTold 62 = .ok (.aload_n 0, 1) := dk_dX10_walkerTold_59.2.1
theorem dX10_walkerTold_63 : decode cX10_walkerTold 63 = .ok (.aload_n 0, 1) := dk_dX10_walkerTold_59.2.2.1
theorem dX10_walkerTold_64 : decode cX10_walkerTold 64 = .ok (.getfield 51, 3) := dk_dX10_walkerTold_59.2.2.2.1
theorem dX10_walkerTold_67 : decode cX10_walkerTold 67 = .ok (.invokevirtual 350, 3) := dk_dX10_walkerTold_59.2.2.2.2.1
theorem dX10_walkerTold_70 : decode cX10_walkerTold 70 = .ok (.aload_n 0, 1) := dk_dX10_walkerTold_59.2.2.2.2.2.1
theorem dX10_walkerTold_71 : decode cX10_walkerTold 71 = .ok (.iconst 0, 1) := dk_dX10_walkerTold_59.2.2.2.2.2.2.1
theorem dX10_walkerTold_72 : decode cX10_walkerTold 72 = .ok (.sipush 199, 3) := dk_dX10_walkerTold_59.2.2.2.2.2.2.2.1
theorem dk_dX10_walkerTold_59_8 : dz_C cX10_walkerTold [(75, .invokevirtual 354, 3), (78, .istore 7, 2), (80, .aload_n 0, 1), (81, .getfield 279, 3), (84, .ifCond .eq 4, 3), (87, .return_, 1), (88, .aload_n 0, 1), (89, .getfield 114, 3)] := dk_dX10_walkerTold_59.2.2.2.2.2.2.2.2
theorem dX10_walkerTold_75 : decode cX10_walkerTold 75 = .ok (.invokevirtual 354, 3) := dk_dX10_walkerTold_59_8.1
theorem dX10_walkerTold_78 : decode cX10_walkerTold 78 = .ok (.istore 7, 2) := dk_dX10_walkerTold_59_8.2.1
theorem dX10_walkerTold_80 : decode cX10_walkerTold 80 = .ok (.aload_n 0, 1) := dk_dX10_walkerTold_59_8.2.2.1
theorem dX10_walkerTold_81 : decode cX10_walkerTold 81 = .ok (.getfield 279, 3) := dk_dX10_walkerTold_59_8.2.2.2.1
theorem dX10_walkerTold_84 : decode cX10_walkerTold 84 = .ok (.ifCond .eq 4, 3) := dk_dX10_walkerTold_59_8.2.2.2.2.1
theorem dX10_walkerTold_87 : decode cX10_walkerTold 87 = .ok (.return_, 1) := dk_dX10_walkerTold_59_8.2.2.2.2.2.1
theorem dX10_walkerTold_88 : decode cX10_walkerTold 88 = .ok (.aload_n 0, 1) := dk_dX10_walkerTold_59_8.2.2.2.2.2.2.1
theorem dX10_walkerTold_89 : decode cX10_walkerTold 89 = .ok (.getfield 114, 3) := dk_dX10_walkerTold_59_8.2.2.2.2.2.2.2.1
theorem dk_dX10_walkerTold_92 : dz_C cX10_walkerTold [(92, .bipush 12, 2), (94, .aload_n 0, 1), (95, .getfield 111, 3), (98, .iconst 1, 1), (99, .iaload, 1), (100, .iadd, 1), (101, .lload_n 2, 1), (102, .lastore, 1), (103, .aload_n 0, 1), (104, .getfield 127, 3), (107, .iconst 2, 1), (108, .aload_n 0, 1), (109, .getfield 111, 3), (112, .iconst 1, 1), (113, .iaload, 1), (114, .imul, 1)] := dz_of (by decide +kernel)
theorem dX10_walkerTold_92 : decode cX10_walkerTold 92 = .ok (.bipush 12, 2) := dk_dX10_walkerTold_92.1
theorem dX10_walkerTold_94 : decode cX10_walkerTold 94 = .ok (.aload_n 0, 1) := dk_dX10_walkerTold_92.2.1
theorem dX10_walkerTold_95 : decode cX10_walkerTold 95 = .ok (.getfield 111, 3) := dk_dX10_walkerTold_92.2.2.1
theorem dX10_walkerTold_98 : decode cX10_walkerTold 98 = .ok (.iconst 1, 1) := dk_dX10_walkerTold_92.2.2.2.1
theorem dX10_walkerTold_99 : decode cX10_walkerTold 99 = .ok (.iaload, 1) := dk_dX10_walkerTold_92.2.2.2.2.1
theorem dX10_walkerTold_100 : decode cX10_walkerTold 100 = .ok (.iadd, 1) := dk_dX10_walkerTold_92.2.2.2.2.2.1
theorem dX10_walkerTold_101 : decode cX10_walkerTold 101 = .ok (.lload_n 2, 1) := dk_dX10_walkerTold_92.2.2.2.2.2.2.1
theorem dX10_walkerTold_102 : decode cX10_walkerTold 102 = .ok (.lastore, 1) := dk_dX10_walkerTold_92.2.2.2.2.2.2.2.1
theorem dk_dX10_walkerTold_92_8 : dz_C cX10_walkerTold [(103, .aload_n 0, 1), (104, .getfield 127, 3), (107, .iconst 2, 1), (108, .aload_n 0, 1), (109, .getfield 111, 3), (112, .iconst 1, 1), (113, .iaload, 1), (114, .imul, 1)] := dk_dX10_walkerTold_92.2.2.2.2.2.2.2.2
theorem dX10_walkerTold_103 : decode cX10_walkerTold 103 = .ok (.aload_n 0, 1) := dk_dX10_walkerTold_92_8.1
theorem dX10_walkerTold_104 : decode cX10_walkerTold 104 = .ok (.getfield 127, 3) := dk_dX10_walkerTold_92_8.2.1
theorem dX10_walkerTold_107 : decode cX10_walkerTold 107 = .ok (.iconst 2, 1) := dk_dX10_walkerTold_92_8.2.2.1
theorem dX10_walkerTold_108 : decode cX10_walkerTold 108 = .ok (.aload_n 0, 1) := dk_dX10_walkerTold_92_8.2.2.2.1
theorem dX10_walkerTold_109 : decode cX10_walkerTold 109 = .ok (.getfield 111, 3) := dk_dX10_walkerTold_92_8.2.2.2.2.1
theorem dX10_walkerTold_112 : decode cX10_walkerTold 112 = .ok (.iconst 1, 1) := dk_dX10_walkerTold_92_8.2.2.2.2.2.1
theorem dX10_walkerTold_113 : decode cX10_walkerTold 113 = .ok (.iaload, 1) := dk_dX10_walkerTold_92_8.2.2.2.2.2.2.1
theorem dX10_walkerTold_114 : decode cX10_walkerTold 114 = .ok (.imul, 1) := dk_dX10_walkerTold_92_8.2.2.2.2.2.2.2.1
theorem dk_dX10_walkerTold_115 : dz_C cX10_walkerTold [(115, .iload 6, 2), (117, .iastore, 1), (118, .aload_n 0, 1), (119, .getfield 127, 3), (122, .iconst 2, 1), (123, .aload_n 0, 1), (124, .getfield 111, 3), (127, .iconst 1, 1), (128, .iaload, 1), (129, .imul, 1), (130, .iconst 1, 1), (131, .iadd, 1), (132, .iload 7, 2), (134, .iastore, 1), (135, .aload_n 0, 1), (136, .getfield 111, 3)] := dz_of (by decide +kernel)
theorem dX10_walkerTold_115 : decode cX10_walkerTold 115 = .ok (.iload 6, 2) := dk_dX10_walkerTold_115.1
theorem dX10_walkerTold_117 : decode cX10_walkerTold 117 = .ok (.iastore, 1) := dk_dX10_walkerTold_115.2.1
theorem dX10_walkerTold_118 : decode cX10_walkerTold 118 = .ok (.aload_n 0, 1) := dk_dX10_walkerTold_115.2.2.1
theorem dX10_walkerTold_119 : decode cX10_walkerTold 119 = .ok (.getfield 127, 3) := dk_dX10_walkerTold_115.2.2.2.1
theorem dX10_walkerTold_122 : decode cX10_walkerTold 122 = .ok (.iconst 2, 1) := dk_dX10_walkerTold_115.2.2.2.2.1
theorem dX10_walkerTold_123 : decode cX10_walkerTold 123 = .ok (.aload_n 0, 1) := dk_dX10_walkerTold_115.2.2.2.2.2.1
theorem dX10_walkerTold_124 : decode cX10_walkerTold 124 = .ok (.getfield 111, 3) := dk_dX10_walkerTold_115.2.2.2.2.2.2.1
theorem dX10_walkerTold_127 : decode cX10_walkerTold 127 = .ok (.iconst 1, 1) := dk_dX10_walkerTold_115.2.2.2.2.2.2.2.1
theorem dk_dX10_walkerTold_115_8 : dz_C cX10_walkerTold [(128, .iaload, 1), (129, .imul, 1), (130, .iconst 1, 1), (131, .iadd, 1), (132, .iload 7, 2), (134, .iastore, 1), (135, .aload_n 0, 1), (136, .getfield 111, 3)] := dk_dX10_walkerTold_115.2.2.2.2.2.2.2.2
theorem dX10_walkerTold_128 : decode cX10_walkerTold 128 = .ok (.iaload, 1) := dk_dX10_walkerTold_115_8.1
theorem dX10_walkerTold_129 : decode cX10_walkerTold 129 = .ok (.imul, 1) := dk_dX10_walkerTold_115_8.2.1
theorem dX10_walkerTold_130 : decode cX10_walkerTold 130 = .ok (.iconst 1, 1) := dk_dX10_walkerTold_115_8.2.2.1
theorem dX10_walkerTold_131 : decode cX10_walkerTold 131 = .ok (.iadd, 1) := dk_dX10_walkerTold_115_8.2.2.2.1
theorem dX10_walkerTold_132 : decode cX10_walkerTold 132 = .ok (.iload 7, 2) := dk_dX10_walkerTold_115_8.2.2.2.2.1
theorem dX10_walkerTold_134 : decode cX10_walkerTold 134 = .ok (.iastore, 1) := dk_dX10_walkerTold_115_8.2.2.2.2.2.1
theorem dX10_walkerTold_135 : decode cX10_walkerTold 135 = .ok (.aload_n 0, 1) := dk_dX10_walkerTold_115_8.2.2.2.2.2.2.1
theorem dX10_walkerTold_136 : decode cX10_walkerTold 136 = .ok (.getfield 111, 3) := dk_dX10_walkerTold_115_8.2.2.2.2.2.2.2.1
theorem dk_dX10_walkerTold_139 : dz_C cX10_walkerTold [(139, .iconst 1, 1), (140, .dup2, 1), (141, .iaload, 1), (142, .iconst 1, 1), (143, .iadd, 1), (144, .iastore, 1), (145, .return_, 1)] := dz_of (by decide +kernel)
theorem dX10_walkerTold_139 : decode cX10_walkerTold 139 = .ok (.iconst 1, 1) := dk_dX10_walkerTold_139.1
theorem dX10_walkerTold_140 : decode cX10_walkerTold 140 = .ok (.dup2, 1) := dk_dX10_walkerTold_139.2.1
theorem dX10_walkerTold_141 : decode cX10_walkerTold 141 = .ok (.iaload, 1) := dk_dX10_walkerTold_139.2.2.1
theorem dX10_walkerTold_142 : decode cX10_walkerTold 142 = .ok (.iconst 1, 1) := dk_dX10_walkerTold_139.2.2.2.1
theorem dX10_walkerTold_143 : decode cX10_walkerTold 143 = .ok (.iadd, 1) := dk_dX10_walkerTold_139.2.2.2.2.1
theorem dX10_walkerTold_144 : decode cX10_walkerTold 144 = .ok (.iastore, 1) := dk_dX10_walkerTold_139.2.2.2.2.2.1
theorem dX10_walkerTold_145 : decode cX10_walkerTold 145 = .ok (.return_, 1) := dk_dX10_walkerTold_139.2.2.2.2.2.2.1
theorem dk_dX10_watched_0 : dz_C cX10_watched [(0, .aload_n 0, 1), (1, .getfield 417, 3), (4, .ifCond .eq 13, 3), (7, .iload_n 1, 1), (8, .i2l, 1), (9, .lconst 0, 1), (10, .lconst 1, 1), (11, .invokestatic 318, 3), (14, .ifCond .ne 5, 3), (17, .iconst (-1), 1), (18, .ireturn, 1), (19, .aload_n 0, 1), (20, .invokevirtual 582, 3), (23, .iconst (-1), 1), (24, .istore_n 2, 1), (25, .iconst 0, 1)] := dz_of (by decide +kernel)
theorem dX10_watched_0 : decode cX10_watched 0 = .ok (.aload_n 0, 1) := dk_dX10_watched_0.1
theorem dX10_watched_1 : decode cX10_watched 1 = .ok (.getfield 417, 3) := dk_dX10_watched_0.2.1
theorem dX10_watched_4 : decode cX10_watched 4 = .ok (.ifCond .eq 13, 3) := dk_dX10_watched_0.2.2.1
theorem dX10_watched_7 : decode cX10_watched 7 = .ok (.iload_n 1, 1) := dk_dX10_watched_0.2.2.2.1
theorem dX10_watched_8 : decode cX10_watched 8 = .ok (.i2l, 1) := dk_dX10_watched_0.2.2.2.2.1
theorem dX10_watched_9 : decode cX10_watched 9 = .ok (.lconst 0, 1) := dk_dX10_watched_0.2.2.2.2.2.1
theorem dX10_watched_10 : decode cX10_watched 10 = .ok (.lconst 1, 1) := dk_dX10_watched_0.2.2.2.2.2.2.1
theorem dX10_watched_11 : decode cX10_watched 11 = .ok (.invokestatic 318, 3) := dk_dX10_watched_0.2.2.2.2.2.2.2.1
theorem dk_dX10_watched_0_8 : dz_C cX10_watched [(14, .ifCond .ne 5, 3), (17, .iconst (-1), 1), (18, .ireturn, 1), (19, .aload_n 0, 1), (20, .invokevirtual 582, 3), (23, .iconst (-1), 1), (24, .istore_n 2, 1), (25, .iconst 0, 1)] := dk_dX10_watched_0.2.2.2.2.2.2.2.2
theorem dX10_watched_14 : decode cX10_watched 14 = .ok (.ifCond .ne 5, 3) := dk_dX10_watched_0_8.1
theorem dX10_watched_17 : decode cX10_watched 17 = .ok (.iconst (-1), 1) := dk_dX10_watched_0_8.2.1
theorem dX10_watched_18 : decode cX10_watched 18 = .ok (.ireturn, 1) := dk_dX10_watched_0_8.2.2.1
theorem dX10_watched_19 : decode cX10_watched 19 = .ok (.aload_n 0, 1) := dk_dX10_watched_0_8.2.2.2.1
theorem dX10_watched_20 : decode cX10_watched 20 = .ok (.invokevirtual 582, 3) := dk_dX10_watched_0_8.2.2.2.2.1
theorem dX10_watched_23 : decode cX10_watched 23 = .ok (.iconst (-1), 1) := dk_dX10_watched_0_8.2.2.2.2.2.1
theorem dX10_watched_24 : decode cX10_watched 24 = .ok (.istore_n 2, 1) := dk_dX10_watched_0_8.2.2.2.2.2.2.1
theorem dX10_watched_25 : decode cX10_watched 25 = .ok (.iconst 0, 1) := dk_dX10_watched_0_8.2.2.2.2.2.2.2.1
theorem dk_dX10_watched_26 : dz_C cX10_watched [(26, .istore_n 3, 1), (27, .iconst 0, 1), (28, .istore 4, 2), (30, .iload 4, 2), (32, .aload_n 0, 1), (33, .invokevirtual 433, 3), (36, .if_icmp .ge 44, 3), (39, .aload_n 0, 1), (40, .getfield 570, 3), (43, .ifCond .le 37, 3), (46, .aload_n 0, 1), (47, .iload 4, 2), (49, .invokevirtual 585, 3), (52, .istore 5, 2), (54, .iload_n 2, 1), (55, .iconst (-1), 1)] := dz_of (by decide +kernel)
theorem dX10_watched_26 : decode cX10_watched 26 = .ok (.istore_n 3, 1) := dk_dX10_watched_26.1
theorem dX10_watched_27 : decode cX10_watched 27 = .ok (.iconst 0, 1) := dk_dX10_watched_26.2.1
theorem dX10_watched_28 : decode cX10_watched 28 = .ok (.istore 4, 2) := dk_dX10_watched_26.2.2.1
theorem dX10_watched_30 : decode cX10_watched 30 = .ok (.iload 4, 2) := dk_dX10_watched_26.2.2.2.1
theorem dX10_watched_32 : decode cX10_watched 32 = .ok (.aload_n 0, 1) := dk_dX10_watched_26.2.2.2.2.1
theorem dX10_watched_33 : decode cX10_watched 33 = .ok (.invokevirtual 433, 3) := dk_dX10_watched_26.2.2.2.2.2.1
theorem dX10_watched_36 : decode cX10_watched 36 = .ok (.if_icmp .ge 44, 3) := dk_dX10_watched_26.2.2.2.2.2.2.1
theorem dX10_watched_39 : decode cX10_watched 39 = .ok (.aload_n 0, 1) := dk_dX10_watched_26.2.2.2.2.2.2.2.1
theorem dk_dX10_watched_26_8 : dz_C cX10_watched [(40, .getfield 570, 3), (43, .ifCond .le 37, 3), (46, .aload_n 0, 1), (47, .iload 4, 2), (49, .invokevirtual 585, 3), (52, .istore 5, 2), (54, .iload_n 2, 1), (55, .iconst (-1), 1)] := dk_dX10_watched_26.2.2.2.2.2.2.2.2
theorem dX10_watched_40 : decode cX10_watched 40 = .ok (.getfield 570, 3) := dk_dX10_watched_26_8.1
theorem dX10_watched_43 : decode cX10_watched 43 = .ok (.ifCond .le 37, 3) := dk_dX10_watched_26_8.2.1
theorem dX10_watched_46 : decode cX10_watched 46 = .ok (.aload_n 0, 1) := dk_dX10_watched_26_8.2.2.1
theorem dX10_watched_47 : decode cX10_watched 47 = .ok (.iload 4, 2) := dk_dX10_watched_26_8.2.2.2.1
theorem dX10_watched_49 : decode cX10_watched 49 = .ok (.invokevirtual 585, 3) := dk_dX10_watched_26_8.2.2.2.2.1
theorem dX10_watched_52 : decode cX10_watched 52 = .ok (.istore 5, 2) := dk_dX10_watched_26_8.2.2.2.2.2.1
theorem dX10_watched_54 : decode cX10_watched 54 = .ok (.iload_n 2, 1) := dk_dX10_watched_26_8.2.2.2.2.2.2.1
theorem dX10_watched_55 : decode cX10_watched 55 = .ok (.iconst (-1), 1) := dk_dX10_watched_26_8.2.2.2.2.2.2.2.1
theorem dk_dX10_watched_56 : dz_C cX10_watched [(56, .if_icmp .eq 12, 3), (59, .iload 5, 2), (61, .iload_n 3, 1), (62, .if_icmp .lt 6, 3), (65, .goto 9, 3), (68, .iload 4, 2), (70, .istore_n 2, 1), (71, .iload 5, 2), (73, .istore_n 3, 1), (74, .iinc 4 1, 3), (77, .goto (-47), 3), (80, .iload_n 2, 1), (81, .iconst (-1), 1), (82, .if_icmp .ne 7, 3), (85, .iconst (-1), 1), (86, .goto 12, 3)] := dz_of (by decide +kernel)
theorem dX10_watched_56 : decode cX10_watched 56 = .ok (.if_icmp .eq 12, 3) := dk_dX10_watched_56.1
theorem dX10_watched_59 : decode cX10_watched 59 = .ok (.iload 5, 2) := dk_dX10_watched_56.2.1
theorem dX10_watched_61 : decode cX10_watched 61 = .ok (.iload_n 3, 1) := dk_dX10_watched_56.2.2.1
theorem dX10_watched_62 : decode cX10_watched 62 = .ok (.if_icmp .lt 6, 3) := dk_dX10_watched_56.2.2.2.1
theorem dX10_watched_65 : decode cX10_watched 65 = .ok (.goto 9, 3) := dk_dX10_watched_56.2.2.2.2.1
theorem dX10_watched_68 : decode cX10_watched 68 = .ok (.iload 4, 2) := dk_dX10_watched_56.2.2.2.2.2.1
theorem dX10_watched_70 : decode cX10_watched 70 = .ok (.istore_n 2, 1) := dk_dX10_watched_56.2.2.2.2.2.2.1
theorem dX10_watched_71 : decode cX10_watched 71 = .ok (.iload 5, 2) := dk_dX10_watched_56.2.2.2.2.2.2.2.1
theorem dk_dX10_watched_56_8 : dz_C cX10_watched [(73, .istore_n 3, 1), (74, .iinc 4 1, 3), (77, .goto (-47), 3), (80, .iload_n 2, 1), (81, .iconst (-1), 1), (82, .if_icmp .ne 7, 3), (85, .iconst (-1), 1), (86, .goto 12, 3)] := dk_dX10_watched_56.2.2.2.2.2.2.2.2
theorem dX10_watched_73 : decode cX10_watched 73 = .ok (.istore_n 3, 1) := dk_dX10_watched_56_8.1
theorem dX10_watched_74 : decode cX10_watched 74 = .ok (.iinc 4 1, 3) := dk_dX10_watched_56_8.2.1
theorem dX10_watched_77 : decode cX10_watched 77 = .ok (.goto (-47), 3) := dk_dX10_watched_56_8.2.2.1
theorem dX10_watched_80 : decode cX10_watched 80 = .ok (.iload_n 2, 1) := dk_dX10_watched_56_8.2.2.2.1
theorem dX10_watched_81 : decode cX10_watched 81 = .ok (.iconst (-1), 1) := dk_dX10_watched_56_8.2.2.2.2.1
theorem dX10_watched_82 : decode cX10_watched 82 = .ok (.if_icmp .ne 7, 3) := dk_dX10_watched_56_8.2.2.2.2.2.1
theorem dX10_watched_85 : decode cX10_watched 85 = .ok (.iconst (-1), 1) := dk_dX10_watched_56_8.2.2.2.2.2.2.1
theorem dX10_watched_86 : decode cX10_watched 86 = .ok (.goto 12, 3) := dk_dX10_watched_56_8.2.2.2.2.2.2.2.1
theorem dk_dX10_watched_89 : dz_C cX10_watched [(89, .iload_n 1, 1), (90, .ifCond .ne 7, 3), (93, .iload_n 2, 1), (94, .goto 4, 3), (97, .iload_n 3, 1), (98, .ireturn, 1)] := dz_of (by decide +kernel)
theorem dX10_watched_89 : decode cX10_watched 89 = .ok (.iload_n 1, 1) := dk_dX10_watched_89.1
theorem dX10_watched_90 : decode cX10_watched 90 = .ok (.ifCond .ne 7, 3) := dk_dX10_watched_89.2.1
theorem dX10_watched_93 : decode cX10_watched 93 = .ok (.iload_n 2, 1) := dk_dX10_watched_89.2.2.1
theorem dX10_watched_94 : decode cX10_watched 94 = .ok (.goto 4, 3) := dk_dX10_watched_89.2.2.2.1
theorem dX10_watched_97 : decode cX10_watched 97 = .ok (.iload_n 3, 1) := dk_dX10_watched_89.2.2.2.2.1
theorem dX10_watched_98 : decode cX10_watched 98 = .ok (.ireturn, 1) := dk_dX10_watched_89.2.2.2.2.2.1
theorem dk_dX10_writes_0 : dz_C cX10_writes [(0, .aload_n 0, 1), (1, .getfield 273, 3), (4, .aload_n 0, 1), (5, .getfield 699, 3), (8, .iload_n 1, 1), (9, .iastore, 1), (10, .aload_n 0, 1), (11, .dup, 1), (12, .getfield 699, 3), (15, .iconst 1, 1), (16, .iadd, 1), (17, .putfield 699, 3), (20, .return_, 1)] := dz_of (by decide +kernel)
theorem dX10_writes_0 : decode cX10_writes 0 = .ok (.aload_n 0, 1) := dk_dX10_writes_0.1
theorem dX10_writes_1 : decode cX10_writes 1 = .ok (.getfield 273, 3) := dk_dX10_writes_0.2.1
theorem dX10_writes_4 : decode cX10_writes 4 = .ok (.aload_n 0, 1) := dk_dX10_writes_0.2.2.1
theorem dX10_writes_5 : decode cX10_writes 5 = .ok (.getfield 699, 3) := dk_dX10_writes_0.2.2.2.1
theorem dX10_writes_8 : decode cX10_writes 8 = .ok (.iload_n 1, 1) := dk_dX10_writes_0.2.2.2.2.1
theorem dX10_writes_9 : decode cX10_writes 9 = .ok (.iastore, 1) := dk_dX10_writes_0.2.2.2.2.2.1
theorem dX10_writes_10 : decode cX10_writes 10 = .ok (.aload_n 0, 1) := dk_dX10_writes_0.2.2.2.2.2.2.1
theorem dX10_writes_11 : decode cX10_writes 11 = .ok (.dup, 1) := dk_dX10_writes_0.2.2.2.2.2.2.2.1
theorem dk_dX10_writes_0_8 : dz_C cX10_writes [(12, .getfield 699, 3), (15, .iconst 1, 1), (16, .iadd, 1), (17, .putfield 699, 3), (20, .return_, 1)] := dk_dX10_writes_0.2.2.2.2.2.2.2.2
theorem dX10_writes_12 : decode cX10_writes 12 = .ok (.getfield 699, 3) := dk_dX10_writes_0_8.1
theorem dX10_writes_15 : decode cX10_writes 15 = .ok (.iconst 1, 1) := dk_dX10_writes_0_8.2.1
theorem dX10_writes_16 : decode cX10_writes 16 = .ok (.iadd, 1) := dk_dX10_writes_0_8.2.2.1
theorem dX10_writes_17 : decode cX10_writes 17 = .ok (.putfield 699, 3) := dk_dX10_writes_0_8.2.2.2.1
theorem dX10_writes_20 : decode cX10_writes 20 = .ok (.return_, 1) := dk_dX10_writes_0_8.2.2.2.2.1
