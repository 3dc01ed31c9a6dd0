theorem dX10_init_0 : decode cX10_init 0 = .ok (.aload_n 0, 1) := by decide +kernel
theorem dX10_init_1 : decode cX10_init 1 = .ok (.invokespecial 1, 3) := by decide +kernel
theorem dX10_init_4 : decode cX10_init 4 = .ok (.aload_n 0, 1) := by decide +kernel
theorem dX10_init_5 : decode cX10_init 5 = .ok (.sipush 1600, 3) := by decide +kernel
theorem dX10_init_8 : decode cX10_init 8 = .ok (.newarray .int, 2) := by decide +kernel
theorem dX10_init_10 : decode cX10_init 10 = .ok (.putfield 7, 3) := by decide +kernel
theorem dX10_init_13 : decode cX10_init 13 = .ok (.aload_n 0, 1) := by decide +kernel
theorem dX10_init_14 : decode cX10_init 14 = .ok (.iconst (-1), 1) := by decide +kernel
theorem dX10_init_15 : decode cX10_init 15 = .ok (.putfield 13, 3) := by decide +kernel
theorem dX10_init_18 : decode cX10_init 18 = .ok (.aload_n 0, 1) := by decide +kernel
theorem dX10_init_19 : decode cX10_init 19 = .ok (.bipush 6, 2) := by decide +kernel
theorem dX10_init_21 : decode cX10_init 21 = .ok (.newarray .int, 2) := by decide +kernel
theorem dX10_init_23 : decode cX10_init 23 = .ok (.putfield 17, 3) := by decide +kernel
theorem dX10_init_26 : decode cX10_init 26 = .ok (.aload_n 0, 1) := by decide +kernel
theorem dX10_init_27 : decode cX10_init 27 = .ok (.iconst 5, 1) := by decide +kernel
theorem dX10_init_28 : decode cX10_init 28 = .ok (.newarray .char, 2) := by decide +kernel
theorem dX10_init_30 : decode cX10_init 30 = .ok (.dup, 1) := by decide +kernel
theorem dX10_init_31 : decode cX10_init 31 = .ok (.iconst 0, 1) := by decide +kernel
theorem dX10_init_32 : decode cX10_init 32 = .ok (.bipush 99, 2) := by decide +kernel
theorem dX10_init_34 : decode cX10_init 34 = .ok (.castore, 1) := by decide +kernel
theorem dX10_init_35 : decode cX10_init 35 = .ok (.dup, 1) := by decide +kernel
theorem dX10_init_36 : decode cX10_init 36 = .ok (.iconst 1, 1) := by decide +kernel
theorem dX10_init_37 : decode cX10_init 37 = .ok (.bipush 121, 2) := by decide +kernel
theorem dX10_init_39 : decode cX10_init 39 = .ok (.castore, 1) := by decide +kernel
theorem dX10_init_40 : decode cX10_init 40 = .ok (.dup, 1) := by decide +kernel
theorem dX10_init_41 : decode cX10_init 41 = .ok (.iconst 2, 1) := by decide +kernel
theorem dX10_init_42 : decode cX10_init 42 = .ok (.bipush 99, 2) := by decide +kernel
theorem dX10_init_44 : decode cX10_init 44 = .ok (.castore, 1) := by decide +kernel
theorem dX10_init_45 : decode cX10_init 45 = .ok (.dup, 1) := by decide +kernel
theorem dX10_init_46 : decode cX10_init 46 = .ok (.iconst 3, 1) := by decide +kernel
theorem dX10_init_47 : decode cX10_init 47 = .ok (.bipush 108, 2) := by decide +kernel
theorem dX10_init_49 : decode cX10_init 49 = .ok (.castore, 1) := by decide +kernel
theorem dX10_init_50 : decode cX10_init 50 = .ok (.dup, 1) := by decide +kernel
theorem dX10_init_51 : decode cX10_init 51 = .ok (.iconst 4, 1) := by decide +kernel
theorem dX10_init_52 : decode cX10_init 52 = .ok (.bipush 101, 2) := by decide +kernel
theorem dX10_init_54 : decode cX10_init 54 = .ok (.castore, 1) := by decide +kernel
theorem dX10_init_55 : decode cX10_init 55 = .ok (.putfield 20, 3) := by decide +kernel
theorem dX10_init_58 : decode cX10_init 58 = .ok (.aload_n 0, 1) := by decide +kernel
theorem dX10_init_59 : decode cX10_init 59 = .ok (.iconst 5, 1) := by decide +kernel
theorem dX10_init_60 : decode cX10_init 60 = .ok (.newarray .char, 2) := by decide +kernel
theorem dX10_init_62 : decode cX10_init 62 = .ok (.dup, 1) := by decide +kernel
theorem dX10_init_63 : decode cX10_init 63 = .ok (.iconst 0, 1) := by decide +kernel
theorem dX10_init_64 : decode cX10_init 64 = .ok (.bipush 103, 2) := by decide +kernel
theorem dX10_init_66 : decode cX10_init 66 = .ok (.castore, 1) := by decide +kernel
theorem dX10_init_67 : decode cX10_init 67 = .ok (.dup, 1) := by decide +kernel
theorem dX10_init_68 : decode cX10_init 68 = .ok (.iconst 1, 1) := by decide +kernel
theorem dX10_init_69 : decode cX10_init 69 = .ok (.bipush 114, 2) := by decide +kernel
theorem dX10_init_71 : decode cX10_init 71 = .ok (.castore, 1) := by decide +kernel
theorem dX10_init_72 : decode cX10_init 72 = .ok (.dup, 1) := by decide +kernel
theorem dX10_init_73 : decode cX10_init 73 = .ok (.iconst 2, 1) := by decide +kernel
theorem dX10_init_74 : decode cX10_init 74 = .ok (.bipush 101, 2) := by decide +kernel
theorem dX10_init_76 : decode cX10_init 76 = .ok (.castore, 1) := by decide +kernel
theorem dX10_init_77 : decode cX10_init 77 = .ok (.dup, 1) := by decide +kernel
theorem dX10_init_78 : decode cX10_init 78 = .ok (.iconst 3, 1) := by decide +kernel
theorem dX10_init_79 : decode cX10_init 79 = .ok (.bipush 101, 2) := by decide +kernel
theorem dX10_init_81 : decode cX10_init 81 = .ok (.castore, 1) := by decide +kernel
theorem dX10_init_82 : decode cX10_init 82 = .ok (.dup, 1) := by decide +kernel
theorem dX10_init_83 : decode cX10_init 83 = .ok (.iconst 4, 1) := by decide +kernel
theorem dX10_init_84 : decode cX10_init 84 = .ok (.bipush 110, 2) := by decide +kernel
theorem dX10_init_86 : decode cX10_init 86 = .ok (.castore, 1) := by decide +kernel
theorem dX10_init_87 : decode cX10_init 87 = .ok (.putfield 24, 3) := by decide +kernel
theorem dX10_init_90 : decode cX10_init 90 = .ok (.aload_n 0, 1) := by decide +kernel
theorem dX10_init_91 : decode cX10_init 91 = .ok (.iconst 4, 1) := by decide +kernel
theorem dX10_init_92 : decode cX10_init 92 = .ok (.newarray .char, 2) := by decide +kernel
theorem dX10_init_94 : decode cX10_init 94 = .ok (.dup, 1) := by decide +kernel
theorem dX10_init_95 : decode cX10_init 95 = .ok (.iconst 0, 1) := by decide +kernel
theorem dX10_init_96 : decode cX10_init 96 = .ok (.bipush 114, 2) := by decide +kernel
theorem dX10_init_98 : decode cX10_init 98 = .ok (.castore, 1) := by decide +kernel
theorem dX10_init_99 : decode cX10_init 99 = .ok (.dup, 1) := by decide +kernel
theorem dX10_init_100 : decode cX10_init 100 = .ok (.iconst 1, 1) := by decide +kernel
theorem dX10_init_101 : decode cX10_init 101 = .ok (.bipush 117, 2) := by decide +kernel
theorem dX10_init_103 : decode cX10_init 103 = .ok (.castore, 1) := by decide +kernel
theorem dX10_init_104 : decode cX10_init 104 = .ok (.dup, 1) := by decide +kernel
theorem dX10_init_105 : decode cX10_init 105 = .ok (.iconst 2, 1) := by decide +kernel
theorem dX10_init_106 : decode cX10_init 106 = .ok (.bipush 108, 2) := by decide +kernel
theorem dX10_init_108 : decode cX10_init 108 = .ok (.castore, 1) := by decide +kernel
theorem dX10_init_109 : decode cX10_init 109 = .ok (.dup, 1) := by decide +kernel
theorem dX10_init_110 : decode cX10_init 110 = .ok (.iconst 3, 1) := by decide +kernel
theorem dX10_init_111 : decode cX10_init 111 = .ok (.bipush 101, 2) := by decide +kernel
theorem dX10_init_113 : decode cX10_init 113 = .ok (.castore, 1) := by decide +kernel
theorem dX10_init_114 : decode cX10_init 114 = .ok (.putfield 27, 3) := by decide +kernel
theorem dX10_init_117 : decode cX10_init 117 = .ok (.aload_n 0, 1) := by decide +kernel
theorem dX10_init_118 : decode cX10_init 118 = .ok (.iconst 5, 1) := by decide +kernel
theorem dX10_init_119 : decode cX10_init 119 = .ok (.newarray .char, 2) := by decide +kernel
theorem dX10_init_121 : decode cX10_init 121 = .ok (.dup, 1) := by decide +kernel
theorem dX10_init_122 : decode cX10_init 122 = .ok (.iconst 0, 1) := by decide +kernel
theorem dX10_init_123 : decode cX10_init 123 = .ok (.bipush 108, 2) := by decide +kernel
theorem dX10_init_125 : decode cX10_init 125 = .ok (.castore, 1) := by decide +kernel
theorem dX10_init_126 : decode cX10_init 126 = .ok (.dup, 1) := by decide +kernel
theorem dX10_init_127 : decode cX10_init 127 = .ok (.iconst 1, 1) := by decide +kernel
theorem dX10_init_128 : decode cX10_init 128 = .ok (.bipush 101, 2) := by decide +kernel
theorem dX10_init_130 : decode cX10_init 130 = .ok (.castore, 1) := by decide +kernel
theorem dX10_init_131 : decode cX10_init 131 = .ok (.dup, 1) := by decide +kernel
theorem dX10_init_132 : decode cX10_init 132 = .ok (.iconst 2, 1) := by decide +kernel
theorem dX10_init_133 : decode cX10_init 133 = .ok (.bipush 97, 2) := by decide +kernel
theorem dX10_init_135 : decode cX10_init 135 = .ok (.castore, 1) := by decide +kernel
theorem dX10_init_136 : decode cX10_init 136 = .ok (.dup, 1) := by decide +kernel
theorem dX10_init_137 : decode cX10_init 137 = .ok (.iconst 3, 1) := by decide +kernel
theorem dX10_init_138 : decode cX10_init 138 = .ok (.bipush 115, 2) := by decide +kernel
theorem dX10_init_140 : decode cX10_init 140 = .ok (.castore, 1) := by decide +kernel
theorem dX10_init_141 : decode cX10_init 141 = .ok (.dup, 1) := by decide +kernel
theorem dX10_init_142 : decode cX10_init 142 = .ok (.iconst 4, 1) := by decide +kernel
theorem dX10_init_143 : decode cX10_init 143 = .ok (.bipush 116, 2) := by decide +kernel
theorem dX10_init_145 : decode cX10_init 145 = .ok (.castore, 1) := by decide +kernel
theorem dX10_init_146 : decode cX10_init 146 = .ok (.putfield 30, 3) := by decide +kernel
theorem dX10_init_149 : decode cX10_init 149 = .ok (.aload_n 0, 1) := by decide +kernel
theorem dX10_init_150 : decode cX10_init 150 = .ok (.iconst 4, 1) := by decide +kernel
theorem dX10_init_151 : decode cX10_init 151 = .ok (.newarray .char, 2) := by decide +kernel
theorem dX10_init_153 : decode cX10_init 153 = .ok (.dup, 1) := by decide +kernel
theorem dX10_init_154 : decode cX10_init 154 = .ok (.iconst 0, 1) := by decide +kernel
theorem dX10_init_155 : decode cX10_init 155 = .ok (.bipush 107, 2) := by decide +kernel
theorem dX10_init_157 : decode cX10_init 157 = .ok (.castore, 1) := by decide +kernel
theorem dX10_init_158 : decode cX10_init 158 = .ok (.dup, 1) := by decide +kernel
theorem dX10_init_159 : decode cX10_init 159 = .ok (.iconst 1, 1) := by decide +kernel
theorem dX10_init_160 : decode cX10_init 160 = .ok (.bipush 105, 2) := by decide +kernel
theorem dX10_init_162 : decode cX10_init 162 = .ok (.castore, 1) := by decide +kernel
theorem dX10_init_163 : decode cX10_init 163 = .ok (.dup, 1) := by decide +kernel
theorem dX10_init_164 : decode cX10_init 164 = .ok (.iconst 2, 1) := by decide +kernel
theorem dX10_init_165 : decode cX10_init 165 = .ok (.bipush 110, 2) := by decide +kernel
theorem dX10_init_167 : decode cX10_init 167 = .ok (.castore, 1) := by decide +kernel
theorem dX10_init_168 : decode cX10_init 168 = .ok (.dup, 1) := by decide +kernel
theorem dX10_init_169 : decode cX10_init 169 = .ok (.iconst 3, 1) := by decide +kernel
theorem dX10_init_170 : decode cX10_init 170 = .ok (.bipush 100, 2) := by decide +kernel
theorem dX10_init_172 : decode cX10_init 172 = .ok (.castore, 1) := by decide +kernel
theorem dX10_init_173 : decode cX10_init 173 = .ok (.putfield 33, 3) := by decide +kernel
theorem dX10_init_176 : decode cX10_init 176 = .ok (.aload_n 0, 1) := by decide +kernel
theorem dX10_init_177 : decode cX10_init 177 = .ok (.iconst 4, 1) := by decide +kernel
theorem dX10_init_178 : decode cX10_init 178 = .ok (.newarray .char, 2) := by decide +kernel
theorem dX10_init_180 : decode cX10_init 180 = .ok (.dup, 1) := by decide +kernel
theorem dX10_init_181 : decode cX10_init 181 = .ok (.iconst 0, 1) := by decide +kernel
theorem dX10_init_182 : decode cX10_init 182 = .ok (.bipush 99, 2) := by decide +kernel
theorem dX10_init_184 : decode cX10_init 184 = .ok (.castore, 1) := by decide +kernel
theorem dX10_init_185 : decode cX10_init 185 = .ok (.dup, 1) := by decide +kernel
theorem dX10_init_186 : decode cX10_init 186 = .ok (.iconst 1, 1) := by decide +kernel
theorem dX10_init_187 : decode cX10_init 187 = .ok (.bipush 97, 2) := by decide +kernel
theorem dX10_init_189 : decode cX10_init 189 = .ok (.castore, 1) := by decide +kernel
theorem dX10_init_190 : decode cX10_init 190 = .ok (.dup, 1) := by decide +kernel
theorem dX10_init_191 : decode cX10_init 191 = .ok (.iconst 2, 1) := by decide +kernel
theorem dX10_init_192 : decode cX10_init 192 = .ok (.bipush 108, 2) := by decide +kernel
theorem dX10_init_194 : decode cX10_init 194 = .ok (.castore, 1) := by decide +kernel
theorem dX10_init_195 : decode cX10_init 195 = .ok (.dup, 1) := by decide +kernel
theorem dX10_init_196 : decode cX10_init 196 = .ok (.iconst 3, 1) := by decide +kernel
theorem dX10_init_197 : decode cX10_init 197 = .ok (.bipush 109, 2) := by decide +kernel
theorem dX10_init_199 : decode cX10_init 199 = .ok (.castore, 1) := by decide +kernel
theorem dX10_init_200 : decode cX10_init 200 = .ok (.putfield 36, 3) := by decide +kernel
theorem dX10_init_203 : decode cX10_init 203 = .ok (.aload_n 0, 1) := by decide +kernel
theorem dX10_init_204 : decode cX10_init 204 = .ok (.iconst 4, 1) := by decide +kernel
theorem dX10_init_205 : decode cX10_init 205 = .ok (.newarray .char, 2) := by decide +kernel
theorem dX10_init_207 : decode cX10_init 207 = .ok (.dup, 1) := by decide +kernel
theorem dX10_init_208 : decode cX10_init 208 = .ok (.iconst 0, 1) := by decide +kernel
theorem dX10_init_209 : decode cX10_init 209 = .ok (.bipush 112, 2) := by decide +kernel
theorem dX10_init_211 : decode cX10_init 211 = .ok (.castore, 1) := by decide +kernel
theorem dX10_init_212 : decode cX10_init 212 = .ok (.dup, 1) := by decide +kernel
theorem dX10_init_213 : decode cX10_init 213 = .ok (.iconst 1, 1) := by decide +kernel
theorem dX10_init_214 : decode cX10_init 214 = .ok (.bipush 97, 2) := by decide +kernel
theorem dX10_init_216 : decode cX10_init 216 = .ok (.castore, 1) := by decide +kernel
theorem dX10_init_217 : decode cX10_init 217 = .ok (.dup, 1) := by decide +kernel
theorem dX10_init_218 : decode cX10_init 218 = .ok (.iconst 2, 1) := by decide +kernel
theorem dX10_init_219 : decode cX10_init 219 = .ok (.bipush 99, 2) := by decide +kernel
theorem dX10_init_221 : decode cX10_init 221 = .ok (.castore, 1) := by decide +kernel
theorem dX10_init_222 : decode cX10_init 222 = .ok (.dup, 1) := by decide +kernel
theorem dX10_init_223 : decode cX10_init 223 = .ok (.iconst 3, 1) := by decide +kernel
theorem dX10_init_224 : decode cX10_init 224 = .ok (.bipush 101, 2) := by decide +kernel
theorem dX10_init_226 : decode cX10_init 226 = .ok (.castore, 1) := by decide +kernel
theorem dX10_init_227 : decode cX10_init 227 = .ok (.putfield 39, 3) := by decide +kernel
theorem dX10_init_230 : decode cX10_init 230 = .ok (.aload_n 0, 1) := by decide +kernel
theorem dX10_init_231 : decode cX10_init 231 = .ok (.bipush 6, 2) := by decide +kernel
theorem dX10_init_233 : decode cX10_init 233 = .ok (.newarray .char, 2) := by decide +kernel
theorem dX10_init_235 : decode cX10_init 235 = .ok (.dup, 1) := by decide +kernel
theorem dX10_init_236 : decode cX10_init 236 = .ok (.iconst 0, 1) := by decide +kernel
theorem dX10_init_237 : decode cX10_init 237 = .ok (.bipush 116, 2) := by decide +kernel
theorem dX10_init_239 : decode cX10_init 239 = .ok (.castore, 1) := by decide +kernel
theorem dX10_init_240 : decode cX10_init 240 = .ok (.dup, 1) := by decide +kernel
theorem dX10_init_241 : decode cX10_init 241 = .ok (.iconst 1, 1) := by decide +kernel
theorem dX10_init_242 : decode cX10_init 242 = .ok (.bipush 114, 2) := by decide +kernel
theorem dX10_init_244 : decode cX10_init 244 = .ok (.castore, 1) := by decide +kernel
theorem dX10_init_245 : decode cX10_init 245 = .ok (.dup, 1) := by decide +kernel
theorem dX10_init_246 : decode cX10_init 246 = .ok (.iconst 2, 1) := by decide +kernel
theorem dX10_init_247 : decode cX10_init 247 = .ok (.bipush 117, 2) := by decide +kernel
theorem dX10_init_249 : decode cX10_init 249 = .ok (.castore, 1) := by decide +kernel
theorem dX10_init_250 : decode cX10_init 250 = .ok (.dup, 1) := by decide +kernel
theorem dX10_init_251 : decode cX10_init 251 = .ok (.iconst 3, 1) := by decide +kernel
theorem dX10_init_252 : decode cX10_init 252 = .ok (.bipush 115, 2) := by decide +kernel
theorem dX10_init_254 : decode cX10_init 254 = .ok (.castore, 1) := by decide +kernel
theorem dX10_init_255 : decode cX10_init 255 = .ok (.dup, 1) := by decide +kernel
theorem dX10_init_256 : decode cX10_init 256 = .ok (.iconst 4, 1) := by decide +kernel
theorem dX10_init_257 : decode cX10_init 257 = .ok (.bipush 116, 2) := by decide +kernel
theorem dX10_init_259 : decode cX10_init 259 = .ok (.castore, 1) := by decide +kernel
theorem dX10_init_260 : decode cX10_init 260 = .ok (.dup, 1) := by decide +kernel
theorem dX10_init_261 : decode cX10_init 261 = .ok (.iconst 5, 1) := by decide +kernel
theorem dX10_init_262 : decode cX10_init 262 = .ok (.bipush 115, 2) := by decide +kernel
theorem dX10_init_264 : decode cX10_init 264 = .ok (.castore, 1) := by decide +kernel
theorem dX10_init_265 : decode cX10_init 265 = .ok (.putfield 42, 3) := by decide +kernel
theorem dX10_init_268 : decode cX10_init 268 = .ok (.aload_n 0, 1) := by decide +kernel
theorem dX10_init_269 : decode cX10_init 269 = .ok (.iconst 5, 1) := by decide +kernel
theorem dX10_init_270 : decode cX10_init 270 = .ok (.newarray .char, 2) := by decide +kernel
theorem dX10_init_272 : decode cX10_init 272 = .ok (.dup, 1) := by decide +kernel
theorem dX10_init_273 : decode cX10_init 273 = .ok (.iconst 0, 1) := by decide +kernel
theorem dX10_init_274 : decode cX10_init 274 = .ok (.bipush 99, 2) := by decide +kernel
theorem dX10_init_276 : decode cX10_init 276 = .ok (.castore, 1) := by decide +kernel
theorem dX10_init_277 : decode cX10_init 277 = .ok (.dup, 1) := by decide +kernel
theorem dX10_init_278 : decode cX10_init 278 = .ok (.iconst 1, 1) := by decide +kernel
theorem dX10_init_279 : decode cX10_init 279 = .ok (.bipush 111, 2) := by decide +kernel
theorem dX10_init_281 : decode cX10_init 281 = .ok (.castore, 1) := by decide +kernel
theorem dX10_init_282 : decode cX10_init 282 = .ok (.dup, 1) := by decide +kernel
theorem dX10_init_283 : decode cX10_init 283 = .ok (.iconst 2, 1) := by decide +kernel
theorem dX10_init_284 : decode cX10_init 284 = .ok (.bipush 109, 2) := by decide +kernel
theorem dX10_init_286 : decode cX10_init 286 = .ok (.castore, 1) := by decide +kernel
theorem dX10_init_287 : decode cX10_init 287 = .ok (.dup, 1) := by decide +kernel
theorem dX10_init_288 : decode cX10_init 288 = .ok (.iconst 3, 1) := by decide +kernel
theorem dX10_init_289 : decode cX10_init 289 = .ok (.bipush 101, 2) := by decide +kernel
theorem dX10_init_291 : decode cX10_init 291 = .ok (.castore, 1) := by decide +kernel
theorem dX10_init_292 : decode cX10_init 292 = .ok (.dup, 1) := by decide +kernel
theorem dX10_init_293 : decode cX10_init 293 = .ok (.iconst 4, 1) := by decide +kernel
theorem dX10_init_294 : decode cX10_init 294 = .ok (.bipush 115, 2) := by decide +kernel
theorem dX10_init_296 : decode cX10_init 296 = .ok (.castore, 1) := by decide +kernel
theorem dX10_init_297 : decode cX10_init 297 = .ok (.putfield 45, 3) := by decide +kernel
theorem dX10_init_300 : decode cX10_init 300 = .ok (.aload_n 0, 1) := by decide +kernel
theorem dX10_init_301 : decode cX10_init 301 = .ok (.iconst 2, 1) := by decide +kernel
theorem dX10_init_302 : decode cX10_init 302 = .ok (.newarray .char, 2) := by decide +kernel
theorem dX10_init_304 : decode cX10_init 304 = .ok (.dup, 1) := by decide +kernel
theorem dX10_init_305 : decode cX10_init 305 = .ok (.iconst 0, 1) := by decide +kernel
theorem dX10_init_306 : decode cX10_init 306 = .ok (.bipush 105, 2) := by decide +kernel
theorem dX10_init_308 : decode cX10_init 308 = .ok (.castore, 1) := by decide +kernel
theorem dX10_init_309 : decode cX10_init 309 = .ok (.dup, 1) := by decide +kernel
theorem dX10_init_310 : decode cX10_init 310 = .ok (.iconst 1, 1) := by decide +kernel
theorem dX10_init_311 : decode cX10_init 311 = .ok (.bipush 115, 2) := by decide +kernel
theorem dX10_init_313 : decode cX10_init 313 = .ok (.castore, 1) := by decide +kernel
theorem dX10_init_314 : decode cX10_init 314 = .ok (.putfield 48, 3) := by decide +kernel
theorem dX10_init_317 : decode cX10_init 317 = .ok (.aload_n 0, 1) := by decide +kernel
theorem dX10_init_318 : decode cX10_init 318 = .ok (.iconst 2, 1) := by decide +kernel
theorem dX10_init_319 : decode cX10_init 319 = .ok (.newarray .char, 2) := by decide +kernel
theorem dX10_init_321 : decode cX10_init 321 = .ok (.dup, 1) := by decide +kernel
theorem dX10_init_322 : decode cX10_init 322 = .ok (.iconst 0, 1) := by decide +kernel
theorem dX10_init_323 : decode cX10_init 323 = .ok (.bipush 97, 2) := by decide +kernel
theorem dX10_init_325 : decode cX10_init 325 = .ok (.castore, 1) := by decide +kernel
theorem dX10_init_326 : decode cX10_init 326 = .ok (.dup, 1) := by decide +kernel
theorem dX10_init_327 : decode cX10_init 327 = .ok (.iconst 1, 1) := by decide +kernel
theorem dX10_init_328 : decode cX10_init 328 = .ok (.bipush 116, 2) := by decide +kernel
theorem dX10_init_330 : decode cX10_init 330 = .ok (.castore, 1) := by decide +kernel
theorem dX10_init_331 : decode cX10_init 331 = .ok (.putfield 51, 3) := by decide +kernel
theorem dX10_init_334 : decode cX10_init 334 = .ok (.aload_n 0, 1) := by decide +kernel
theorem dX10_init_335 : decode cX10_init 335 = .ok (.iconst 3, 1) := by decide +kernel
theorem dX10_init_336 : decode cX10_init 336 = .ok (.newarray .char, 2) := by decide +kernel
theorem dX10_init_338 : decode cX10_init 338 = .ok (.dup, 1) := by decide +kernel
theorem dX10_init_339 : decode cX10_init 339 = .ok (.iconst 0, 1) := by decide +kernel
theorem dX10_init_340 : decode cX10_init 340 = .ok (.bipush 99, 2) := by decide +kernel
theorem dX10_init_342 : decode cX10_init 342 = .ok (.castore, 1) := by decide +kernel
theorem dX10_init_343 : decode cX10_init 343 = .ok (.dup, 1) := by decide +kernel
theorem dX10_init_344 : decode cX10_init 344 = .ok (.iconst 1, 1) := by decide +kernel
theorem dX10_init_345 : decode cX10_init 345 = .ok (.bipush 97, 2) := by decide +kernel
theorem dX10_init_347 : decode cX10_init 347 = .ok (.castore, 1) := by decide +kernel
theorem dX10_init_348 : decode cX10_init 348 = .ok (.dup, 1) := by decide +kernel
theorem dX10_init_349 : decode cX10_init 349 = .ok (.iconst 2, 1) := by decide +kernel
theorem dX10_init_350 : decode cX10_init 350 = .ok (.bipush 114, 2) := by decide +kernel
theorem dX10_init_352 : decode cX10_init 352 = .ok (.castore, 1) := by decide +kernel
theorem dX10_init_353 : decode cX10_init 353 = .ok (.putfield 54, 3) := by decide +kernel
theorem dX10_init_356 : decode cX10_init 356 = .ok (.aload_n 0, 1) := by decide +kernel
theorem dX10_init_357 : decode cX10_init 357 = .ok (.iconst 3, 1) := by decide +kernel
theorem dX10_init_358 : decode cX10_init 358 = .ok (.newarray .char, 2) := by decide +kernel
theorem dX10_init_360 : decode cX10_init 360 = .ok (.dup, 1) := by decide +kernel
theorem dX10_init_361 : decode cX10_init 361 = .ok (.iconst 0, 1) := by decide +kernel
theorem dX10_init_362 : decode cX10_init 362 = .ok (.bipush 114, 2) := by decide +kernel
theorem dX10_init_364 : decode cX10_init 364 = .ok (.castore, 1) := by decide +kernel
theorem dX10_init_365 : decode cX10_init 365 = .ok (.dup, 1) := by decide +kernel
theorem dX10_init_366 : decode cX10_init 366 = .ok (.iconst 1, 1) := by decide +kernel
theorem dX10_init_367 : decode cX10_init 367 = .ok (.bipush 101, 2) := by decide +kernel
theorem dX10_init_369 : decode cX10_init 369 = .ok (.castore, 1) := by decide +kernel
theorem dX10_init_370 : decode cX10_init 370 = .ok (.dup, 1) := by decide +kernel
theorem dX10_init_371 : decode cX10_init 371 = .ok (.iconst 2, 1) := by decide +kernel
theorem dX10_init_372 : decode cX10_init 372 = .ok (.bipush 100, 2) := by decide +kernel
theorem dX10_init_374 : decode cX10_init 374 = .ok (.castore, 1) := by decide +kernel
theorem dX10_init_375 : decode cX10_init 375 = .ok (.putfield 57, 3) := by decide +kernel
theorem dX10_init_378 : decode cX10_init 378 = .ok (.aload_n 0, 1) := by decide +kernel
theorem dX10_init_379 : decode cX10_init 379 = .ok (.bipush 6, 2) := by decide +kernel
theorem dX10_init_381 : decode cX10_init 381 = .ok (.newarray .char, 2) := by decide +kernel
theorem dX10_init_383 : decode cX10_init 383 = .ok (.dup, 1) := by decide +kernel
theorem dX10_init_384 : decode cX10_init 384 = .ok (.iconst 0, 1) := by decide +kernel
theorem dX10_init_385 : decode cX10_init 385 = .ok (.bipush 108, 2) := by decide +kernel
theorem dX10_init_387 : decode cX10_init 387 = .ok (.castore, 1) := by decide +kernel
theorem dX10_init_388 : decode cX10_init 388 = .ok (.dup, 1) := by decide +kernel
theorem dX10_init_389 : decode cX10_init 389 = .ok (.iconst 1, 1) := by decide +kernel
theorem dX10_init_390 : decode cX10_init 390 = .ok (.bipush 101, 2) := by decide +kernel
theorem dX10_init_392 : decode cX10_init 392 = .ok (.castore, 1) := by decide +kernel
theorem dX10_init_393 : decode cX10_init 393 = .ok (.dup, 1) := by decide +kernel
theorem dX10_init_394 : decode cX10_init 394 = .ok (.iconst 2, 1) := by decide +kernel
theorem dX10_init_395 : decode cX10_init 395 = .ok (.bipush 97, 2) := by decide +kernel
theorem dX10_init_397 : decode cX10_init 397 = .ok (.castore, 1) := by decide +kernel
theorem dX10_init_398 : decode cX10_init 398 = .ok (.dup, 1) := by decide +kernel
theorem dX10_init_399 : decode cX10_init 399 = .ok (.iconst 3, 1) := by decide +kernel
theorem dX10_init_400 : decode cX10_init 400 = .ok (.bipush 114, 2) := by decide +kernel
theorem dX10_init_402 : decode cX10_init 402 = .ok (.castore, 1) := by decide +kernel
theorem dX10_init_403 : decode cX10_init 403 = .ok (.dup, 1) := by decide +kernel
theorem dX10_init_404 : decode cX10_init 404 = .ok (.iconst 4, 1) := by decide +kernel
theorem dX10_init_405 : decode cX10_init 405 = .ok (.bipush 110, 2) := by decide +kernel
theorem dX10_init_407 : decode cX10_init 407 = .ok (.castore, 1) := by decide +kernel
theorem dX10_init_408 : decode cX10_init 408 = .ok (.dup, 1) := by decide +kernel
theorem dX10_init_409 : decode cX10_init 409 = .ok (.iconst 5, 1) := by decide +kernel
theorem dX10_init_410 : decode cX10_init 410 = .ok (.bipush 115, 2) := by decide +kernel
theorem dX10_init_412 : decode cX10_init 412 = .ok (.castore, 1) := by decide +kernel
theorem dX10_init_413 : decode cX10_init 413 = .ok (.putfield 60, 3) := by decide +kernel
theorem dX10_init_416 : decode cX10_init 416 = .ok (.aload_n 0, 1) := by decide +kernel
theorem dX10_init_417 : decode cX10_init 417 = .ok (.iconst 4, 1) := by decide +kernel
theorem dX10_init_418 : decode cX10_init 418 = .ok (.newarray .char, 2) := by decide +kernel
theorem dX10_init_420 : decode cX10_init 420 = .ok (.dup, 1) := by decide +kernel
theorem dX10_init_421 : decode cX10_init 421 = .ok (.iconst 0, 1) := by decide +kernel
theorem dX10_init_422 : decode cX10_init 422 = .ok (.bipush 97, 2) := by decide +kernel
theorem dX10_init_424 : decode cX10_init 424 = .ok (.castore, 1) := by decide +kernel
theorem dX10_init_425 : decode cX10_init 425 = .ok (.dup, 1) := by decide +kernel
theorem dX10_init_426 : decode cX10_init 426 = .ok (.iconst 1, 1) := by decide +kernel
theorem dX10_init_427 : decode cX10_init 427 = .ok (.bipush 119, 2) := by decide +kernel
theorem dX10_init_429 : decode cX10_init 429 = .ok (.castore, 1) := by decide +kernel
theorem dX10_init_430 : decode cX10_init 430 = .ok (.dup, 1) := by decide +kernel
theorem dX10_init_431 : decode cX10_init 431 = .ok (.iconst 2, 1) := by decide +kernel
theorem dX10_init_432 : decode cX10_init 432 = .ok (.bipush 97, 2) := by decide +kernel
theorem dX10_init_434 : decode cX10_init 434 = .ok (.castore, 1) := by decide +kernel
theorem dX10_init_435 : decode cX10_init 435 = .ok (.dup, 1) := by decide +kernel
theorem dX10_init_436 : decode cX10_init 436 = .ok (.iconst 3, 1) := by decide +kernel
theorem dX10_init_437 : decode cX10_init 437 = .ok (.bipush 121, 2) := by decide +kernel
theorem dX10_init_439 : decode cX10_init 439 = .ok (.castore, 1) := by decide +kernel
theorem dX10_init_440 : decode cX10_init 440 = .ok (.putfield 63, 3) := by decide +kernel
theorem dX10_init_443 : decode cX10_init 443 = .ok (.aload_n 0, 1) := by decide +kernel
theorem dX10_init_444 : decode cX10_init 444 = .ok (.bipush 6, 2) := by decide +kernel
theorem dX10_init_446 : decode cX10_init 446 = .ok (.newarray .char, 2) := by decide +kernel
theorem dX10_init_448 : decode cX10_init 448 = .ok (.dup, 1) := by decide +kernel
theorem dX10_init_449 : decode cX10_init 449 = .ok (.iconst 0, 1) := by decide +kernel
theorem dX10_init_450 : decode cX10_init 450 = .ok (.bipush 115, 2) := by decide +kernel
theorem dX10_init_452 : decode cX10_init 452 = .ok (.castore, 1) := by decide +kernel
theorem dX10_init_453 : decode cX10_init 453 = .ok (.dup, 1) := by decide +kernel
theorem dX10_init_454 : decode cX10_init 454 = .ok (.iconst 1, 1) := by decide +kernel
theorem dX10_init_455 : decode cX10_init 455 = .ok (.bipush 101, 2) := by decide +kernel
theorem dX10_init_457 : decode cX10_init 457 = .ok (.castore, 1) := by decide +kernel
theorem dX10_init_458 : decode cX10_init 458 = .ok (.dup, 1) := by decide +kernel
theorem dX10_init_459 : decode cX10_init 459 = .ok (.iconst 2, 1) := by decide +kernel
theorem dX10_init_460 : decode cX10_init 460 = .ok (.bipush 99, 2) := by decide +kernel
theorem dX10_init_462 : decode cX10_init 462 = .ok (.castore, 1) := by decide +kernel
theorem dX10_init_463 : decode cX10_init 463 = .ok (.dup, 1) := by decide +kernel
theorem dX10_init_464 : decode cX10_init 464 = .ok (.iconst 3, 1) := by decide +kernel
theorem dX10_init_465 : decode cX10_init 465 = .ok (.bipush 111, 2) := by decide +kernel
theorem dX10_init_467 : decode cX10_init 467 = .ok (.castore, 1) := by decide +kernel
theorem dX10_init_468 : decode cX10_init 468 = .ok (.dup, 1) := by decide +kernel
theorem dX10_init_469 : decode cX10_init 469 = .ok (.iconst 4, 1) := by decide +kernel
theorem dX10_init_470 : decode cX10_init 470 = .ok (.bipush 110, 2) := by decide +kernel
theorem dX10_init_472 : decode cX10_init 472 = .ok (.castore, 1) := by decide +kernel
theorem dX10_init_473 : decode cX10_init 473 = .ok (.dup, 1) := by decide +kernel
theorem dX10_init_474 : decode cX10_init 474 = .ok (.iconst 5, 1) := by decide +kernel
theorem dX10_init_475 : decode cX10_init 475 = .ok (.bipush 100, 2) := by decide +kernel
theorem dX10_init_477 : decode cX10_init 477 = .ok (.castore, 1) := by decide +kernel
theorem dX10_init_478 : decode cX10_init 478 = .ok (.putfield 66, 3) := by decide +kernel
theorem dX10_init_481 : decode cX10_init 481 = .ok (.aload_n 0, 1) := by decide +kernel
theorem dX10_init_482 : decode cX10_init 482 = .ok (.iconst 3, 1) := by decide +kernel
theorem dX10_init_483 : decode cX10_init 483 = .ok (.newarray .char, 2) := by decide +kernel
theorem dX10_init_485 : decode cX10_init 485 = .ok (.dup, 1) := by decide +kernel
theorem dX10_init_486 : decode cX10_init 486 = .ok (.iconst 0, 1) := by decide +kernel
theorem dX10_init_487 : decode cX10_init 487 = .ok (.bipush 100, 2) := by decide +kernel
theorem dX10_init_489 : decode cX10_init 489 = .ok (.castore, 1) := by decide +kernel
theorem dX10_init_490 : decode cX10_init 490 = .ok (.dup, 1) := by decide +kernel
theorem dX10_init_491 : decode cX10_init 491 = .ok (.iconst 1, 1) := by decide +kernel
theorem dX10_init_492 : decode cX10_init 492 = .ok (.bipush 97, 2) := by decide +kernel
theorem dX10_init_494 : decode cX10_init 494 = .ok (.castore, 1) := by decide +kernel
theorem dX10_init_495 : decode cX10_init 495 = .ok (.dup, 1) := by decide +kernel
theorem dX10_init_496 : decode cX10_init 496 = .ok (.iconst 2, 1) := by decide +kernel
theorem dX10_init_497 : decode cX10_init 497 = .ok (.bipush 121, 2) := by decide +kernel
theorem dX10_init_499 : decode cX10_init 499 = .ok (.castore, 1) := by decide +kernel
theorem dX10_init_500 : decode cX10_init 500 = .ok (.putfield 69, 3) := by decide +kernel
theorem dX10_init_503 : decode cX10_init 503 = .ok (.aload_n 0, 1) := by decide +kernel
theorem dX10_init_504 : decode cX10_init 504 = .ok (.iconst 5, 1) := by decide +kernel
theorem dX10_init_505 : decode cX10_init 505 = .ok (.newarray .char, 2) := by decide +kernel
theorem dX10_init_507 : decode cX10_init 507 = .ok (.dup, 1) := by decide +kernel
theorem dX10_init_508 : decode cX10_init 508 = .ok (.iconst 0, 1) := by decide +kernel
theorem dX10_init_509 : decode cX10_init 509 = .ok (.bipush 112, 2) := by decide +kernel
theorem dX10_init_511 : decode cX10_init 511 = .ok (.castore, 1) := by decide +kernel
theorem dX10_init_512 : decode cX10_init 512 = .ok (.dup, 1) := by decide +kernel
theorem dX10_init_513 : decode cX10_init 513 = .ok (.iconst 1, 1) := by decide +kernel
theorem dX10_init_514 : decode cX10_init 514 = .ok (.bipush 104, 2) := by decide +kernel
theorem dX10_init_516 : decode cX10_init 516 = .ok (.castore, 1) := by decide +kernel
theorem dX10_init_517 : decode cX10_init 517 = .ok (.dup, 1) := by decide +kernel
theorem dX10_init_518 : decode cX10_init 518 = .ok (.iconst 2, 1) := by decide +kernel
theorem dX10_init_519 : decode cX10_init 519 = .ok (.bipush 97, 2) := by decide +kernel
theorem dX10_init_521 : decode cX10_init 521 = .ok (.castore, 1) := by decide +kernel
theorem dX10_init_522 : decode cX10_init 522 = .ok (.dup, 1) := by decide +kernel
theorem dX10_init_523 : decode cX10_init 523 = .ok (.iconst 3, 1) := by decide +kernel
theorem dX10_init_524 : decode cX10_init 524 = .ok (.bipush 115, 2) := by decide +kernel
theorem dX10_init_526 : decode cX10_init 526 = .ok (.castore, 1) := by decide +kernel
theorem dX10_init_527 : decode cX10_init 527 = .ok (.dup, 1) := by decide +kernel
theorem dX10_init_528 : decode cX10_init 528 = .ok (.iconst 4, 1) := by decide +kernel
theorem dX10_init_529 : decode cX10_init 529 = .ok (.bipush 101, 2) := by decide +kernel
theorem dX10_init_531 : decode cX10_init 531 = .ok (.castore, 1) := by decide +kernel
theorem dX10_init_532 : decode cX10_init 532 = .ok (.putfield 72, 3) := by decide +kernel
theorem dX10_init_535 : decode cX10_init 535 = .ok (.aload_n 0, 1) := by decide +kernel
theorem dX10_init_536 : decode cX10_init 536 = .ok (.bipush 6, 2) := by decide +kernel
theorem dX10_init_538 : decode cX10_init 538 = .ok (.newarray .char, 2) := by decide +kernel
theorem dX10_init_540 : decode cX10_init 540 = .ok (.dup, 1) := by decide +kernel
theorem dX10_init_541 : decode cX10_init 541 = .ok (.iconst 0, 1) := by decide +kernel
theorem dX10_init_542 : decode cX10_init 542 = .ok (.bipush 119, 2) := by decide +kernel
theorem dX10_init_544 : decode cX10_init 544 = .ok (.castore, 1) := by decide +kernel
theorem dX10_init_545 : decode cX10_init 545 = .ok (.dup, 1) := by decide +kernel
theorem dX10_init_546 : decode cX10_init 546 = .ok (.iconst 1, 1) := by decide +kernel
theorem dX10_init_547 : decode cX10_init 547 = .ok (.bipush 97, 2) := by decide +kernel
theorem dX10_init_549 : decode cX10_init 549 = .ok (.castore, 1) := by decide +kernel
theorem dX10_init_550 : decode cX10_init 550 = .ok (.dup, 1) := by decide +kernel
theorem dX10_init_551 : decode cX10_init 551 = .ok (.iconst 2, 1) := by decide +kernel
theorem dX10_init_552 : decode cX10_init 552 = .ok (.bipush 105, 2) := by decide +kernel
theorem dX10_init_554 : decode cX10_init 554 = .ok (.castore, 1) := by decide +kernel
theorem dX10_init_555 : decode cX10_init 555 = .ok (.dup, 1) := by decide +kernel
theorem dX10_init_556 : decode cX10_init 556 = .ok (.iconst 3, 1) := by decide +kernel
theorem dX10_init_557 : decode cX10_init 557 = .ok (.bipush 116, 2) := by decide +kernel
theorem dX10_init_559 : decode cX10_init 559 = .ok (.castore, 1) := by decide +kernel
theorem dX10_init_560 : decode cX10_init 560 = .ok (.dup, 1) := by decide +kernel
theorem dX10_init_561 : decode cX10_init 561 = .ok (.iconst 4, 1) := by decide +kernel
theorem dX10_init_562 : decode cX10_init 562 = .ok (.bipush 101, 2) := by decide +kernel
theorem dX10_init_564 : decode cX10_init 564 = .ok (.castore, 1) := by decide +kernel
theorem dX10_init_565 : decode cX10_init 565 = .ok (.dup, 1) := by decide +kernel
theorem dX10_init_566 : decode cX10_init 566 = .ok (.iconst 5, 1) := by decide +kernel
theorem dX10_init_567 : decode cX10_init 567 = .ok (.bipush 100, 2) := by decide +kernel
theorem dX10_init_569 : decode cX10_init 569 = .ok (.castore, 1) := by decide +kernel
theorem dX10_init_570 : decode cX10_init 570 = .ok (.putfield 75, 3) := by decide +kernel
theorem dX10_init_573 : decode cX10_init 573 = .ok (.aload_n 0, 1) := by decide +kernel
theorem dX10_init_574 : decode cX10_init 574 = .ok (.iconst 3, 1) := by decide +kernel
theorem dX10_init_575 : decode cX10_init 575 = .ok (.newarray .char, 2) := by decide +kernel
theorem dX10_init_577 : decode cX10_init 577 = .ok (.dup, 1) := by decide +kernel
theorem dX10_init_578 : decode cX10_init 578 = .ok (.iconst 0, 1) := by decide +kernel
theorem dX10_init_579 : decode cX10_init 579 = .ok (.bipush 103, 2) := by decide +kernel
theorem dX10_init_581 : decode cX10_init 581 = .ok (.castore, 1) := by decide +kernel
theorem dX10_init_582 : decode cX10_init 582 = .ok (.dup, 1) := by decide +kernel
theorem dX10_init_583 : decode cX10_init 583 = .ok (.iconst 1, 1) := by decide +kernel
theorem dX10_init_584 : decode cX10_init 584 = .ok (.bipush 97, 2) := by decide +kernel
theorem dX10_init_586 : decode cX10_init 586 = .ok (.castore, 1) := by decide +kernel
theorem dX10_init_587 : decode cX10_init 587 = .ok (.dup, 1) := by decide +kernel
theorem dX10_init_588 : decode cX10_init 588 = .ok (.iconst 2, 1) := by decide +kernel
theorem dX10_init_589 : decode cX10_init 589 = .ok (.bipush 112, 2) := by decide +kernel
theorem dX10_init_591 : decode cX10_init 591 = .ok (.castore, 1) := by decide +kernel
theorem dX10_init_592 : decode cX10_init 592 = .ok (.putfield 78, 3) := by decide +kernel
theorem dX10_init_595 : decode cX10_init 595 = .ok (.aload_n 0, 1) := by decide +kernel
theorem dX10_init_596 : decode cX10_init 596 = .ok (.iconst 4, 1) := by decide +kernel
theorem dX10_init_597 : decode cX10_init 597 = .ok (.newarray .char, 2) := by decide +kernel
theorem dX10_init_599 : decode cX10_init 599 = .ok (.dup, 1) := by decide +kernel
theorem dX10_init_600 : decode cX10_init 600 = .ok (.iconst 0, 1) := by decide +kernel
theorem dX10_init_601 : decode cX10_init 601 = .ok (.bipush 114, 2) := by decide +kernel
theorem dX10_init_603 : decode cX10_init 603 = .ok (.castore, 1) := by decide +kernel
theorem dX10_init_604 : decode cX10_init 604 = .ok (.dup, 1) := by decide +kernel
theorem dX10_init_605 : decode cX10_init 605 = .ok (.iconst 1, 1) := by decide +kernel
theorem dX10_init_606 : decode cX10_init 606 = .ok (.bipush 101, 2) := by decide +kernel
theorem dX10_init_608 : decode cX10_init 608 = .ok (.castore, 1) := by decide +kernel
theorem dX10_init_609 : decode cX10_init 609 = .ok (.dup, 1) := by decide +kernel
theorem dX10_init_610 : decode cX10_init 610 = .ok (.iconst 2, 1) := by decide +kernel
theorem dX10_init_611 : decode cX10_init 611 = .ok (.bipush 100, 2) := by decide +kernel
theorem dX10_init_613 : decode cX10_init 613 = .ok (.castore, 1) := by decide +kernel
theorem dX10_init_614 : decode cX10_init 614 = .ok (.dup, 1) := by decide +kernel
theorem dX10_init_615 : decode cX10_init 615 = .ok (.iconst 3, 1) := by decide +kernel
theorem dX10_init_616 : decode cX10_init 616 = .ok (.bipush 115, 2) := by decide +kernel
theorem dX10_init_618 : decode cX10_init 618 = .ok (.castore, 1) := by decide +kernel
theorem dX10_init_619 : decode cX10_init 619 = .ok (.putfield 81, 3) := by decide +kernel
theorem dX10_init_622 : decode cX10_init 622 = .ok (.aload_n 0, 1) := by decide +kernel
theorem dX10_init_623 : decode cX10_init 623 = .ok (.bipush 6, 2) := by decide +kernel
theorem dX10_init_625 : decode cX10_init 625 = .ok (.newarray .char, 2) := by decide +kernel
theorem dX10_init_627 : decode cX10_init 627 = .ok (.dup, 1) := by decide +kernel
theorem dX10_init_628 : decode cX10_init 628 = .ok (.iconst 0, 1) := by decide +kernel
theorem dX10_init_629 : decode cX10_init 629 = .ok (.bipush 110, 2) := by decide +kernel
theorem dX10_init_631 : decode cX10_init 631 = .ok (.castore, 1) := by decide +kernel
theorem dX10_init_632 : decode cX10_init 632 = .ok (.dup, 1) := by decide +kernel
theorem dX10_init_633 : decode cX10_init 633 = .ok (.iconst 1, 1) := by decide +kernel
theorem dX10_init_634 : decode cX10_init 634 = .ok (.bipush 117, 2) := by decide +kernel
theorem dX10_init_636 : decode cX10_init 636 = .ok (.castore, 1) := by decide +kernel
theorem dX10_init_637 : decode cX10_init 637 = .ok (.dup, 1) := by decide +kernel
theorem dX10_init_638 : decode cX10_init 638 = .ok (.iconst 2, 1) := by decide +kernel
theorem dX10_init_639 : decode cX10_init 639 = .ok (.bipush 109, 2) := by decide +kernel
theorem dX10_init_641 : decode cX10_init 641 = .ok (.castore, 1) := by decide +kernel
theorem dX10_init_642 : decode cX10_init 642 = .ok (.dup, 1) := by decide +kernel
theorem dX10_init_643 : decode cX10_init 643 = .ok (.iconst 3, 1) := by decide +kernel
theorem dX10_init_644 : decode cX10_init 644 = .ok (.bipush 98, 2) := by decide +kernel
theorem dX10_init_646 : decode cX10_init 646 = .ok (.castore, 1) := by decide +kernel
theorem dX10_init_647 : decode cX10_init 647 = .ok (.dup, 1) := by decide +kernel
theorem dX10_init_648 : decode cX10_init 648 = .ok (.iconst 4, 1) := by decide +kernel
theorem dX10_init_649 : decode cX10_init 649 = .ok (.bipush 101, 2) := by decide +kernel
theorem dX10_init_651 : decode cX10_init 651 = .ok (.castore, 1) := by decide +kernel
theorem dX10_init_652 : decode cX10_init 652 = .ok (.dup, 1) := by decide +kernel
theorem dX10_init_653 : decode cX10_init 653 = .ok (.iconst 5, 1) := by decide +kernel
theorem dX10_init_654 : decode cX10_init 654 = .ok (.bipush 114, 2) := by decide +kernel
theorem dX10_init_656 : decode cX10_init 656 = .ok (.castore, 1) := by decide +kernel
theorem dX10_init_657 : decode cX10_init 657 = .ok (.putfield 84, 3) := by decide +kernel
theorem dX10_init_660 : decode cX10_init 660 = .ok (.aload_n 0, 1) := by decide +kernel
theorem dX10_init_661 : decode cX10_init 661 = .ok (.iconst 4, 1) := by decide +kernel
theorem dX10_init_662 : decode cX10_init 662 = .ok (.newarray .char, 2) := by decide +kernel
theorem dX10_init_664 : decode cX10_init 664 = .ok (.dup, 1) := by decide +kernel
theorem dX10_init_665 : decode cX10_init 665 = .ok (.iconst 0, 1) := by decide +kernel
theorem dX10_init_666 : decode cX10_init 666 = .ok (.bipush 119, 2) := by decide +kernel
theorem dX10_init_668 : decode cX10_init 668 = .ok (.castore, 1) := by decide +kernel
theorem dX10_init_669 : decode cX10_init 669 = .ok (.dup, 1) := by decide +kernel
theorem dX10_init_670 : decode cX10_init 670 = .ok (.iconst 1, 1) := by decide +kernel
theorem dX10_init_671 : decode cX10_init 671 = .ok (.bipush 101, 2) := by decide +kernel
theorem dX10_init_673 : decode cX10_init 673 = .ok (.castore, 1) := by decide +kernel
theorem dX10_init_674 : decode cX10_init 674 = .ok (.dup, 1) := by decide +kernel
theorem dX10_init_675 : decode cX10_init 675 = .ok (.iconst 2, 1) := by decide +kernel
theorem dX10_init_676 : decode cX10_init 676 = .ok (.bipush 110, 2) := by decide +kernel
theorem dX10_init_678 : decode cX10_init 678 = .ok (.castore, 1) := by decide +kernel
theorem dX10_init_679 : decode cX10_init 679 = .ok (.dup, 1) := by decide +kernel
theorem dX10_init_680 : decode cX10_init 680 = .ok (.iconst 3, 1) := by decide +kernel
theorem dX10_init_681 : decode cX10_init 681 = .ok (.bipush 116, 2) := by decide +kernel
theorem dX10_init_683 : decode cX10_init 683 = .ok (.castore, 1) := by decide +kernel
theorem dX10_init_684 : decode cX10_init 684 = .ok (.putfield 87, 3) := by decide +kernel
theorem dX10_init_687 : decode cX10_init 687 = .ok (.aload_n 0, 1) := by decide +kernel
theorem dX10_init_688 : decode cX10_init 688 = .ok (.iconst 4, 1) := by decide +kernel
theorem dX10_init_689 : decode cX10_init 689 = .ok (.newarray .char, 2) := by decide +kernel
theorem dX10_init_691 : decode cX10_init 691 = .ok (.dup, 1) := by decide +kernel
theorem dX10_init_692 : decode cX10_init 692 = .ok (.iconst 0, 1) := by decide +kernel
theorem dX10_init_693 : decode cX10_init 693 = .ok (.bipush 104, 2) := by decide +kernel
theorem dX10_init_695 : decode cX10_init 695 = .ok (.castore, 1) := by decide +kernel
theorem dX10_init_696 : decode cX10_init 696 = .ok (.dup, 1) := by decide +kernel
theorem dX10_init_697 : decode cX10_init 697 = .ok (.iconst 1, 1) := by decide +kernel
theorem dX10_init_698 : decode cX10_init 698 = .ok (.bipush 97, 2) := by decide +kernel
theorem dX10_init_700 : decode cX10_init 700 = .ok (.castore, 1) := by decide +kernel
theorem dX10_init_701 : decode cX10_init 701 = .ok (.dup, 1) := by decide +kernel
theorem dX10_init_702 : decode cX10_init 702 = .ok (.iconst 2, 1) := by decide +kernel
theorem dX10_init_703 : decode cX10_init 703 = .ok (.bipush 114, 2) := by decide +kernel
theorem dX10_init_705 : decode cX10_init 705 = .ok (.castore, 1) := by decide +kernel
theorem dX10_init_706 : decode cX10_init 706 = .ok (.dup, 1) := by decide +kernel
theorem dX10_init_707 : decode cX10_init 707 = .ok (.iconst 3, 1) := by decide +kernel
theorem dX10_init_708 : decode cX10_init 708 = .ok (.bipush 109, 2) := by decide +kernel
theorem dX10_init_710 : decode cX10_init 710 = .ok (.castore, 1) := by decide +kernel
theorem dX10_init_711 : decode cX10_init 711 = .ok (.putfield 90, 3) := by decide +kernel
theorem dX10_init_714 : decode cX10_init 714 = .ok (.aload_n 0, 1) := by decide +kernel
theorem dX10_init_715 : decode cX10_init 715 = .ok (.iconst 2, 1) := by decide +kernel
theorem dX10_init_716 : decode cX10_init 716 = .ok (.newarray .char, 2) := by decide +kernel
theorem dX10_init_718 : decode cX10_init 718 = .ok (.dup, 1) := by decide +kernel
theorem dX10_init_719 : decode cX10_init 719 = .ok (.iconst 0, 1) := by decide +kernel
theorem dX10_init_720 : decode cX10_init 720 = .ok (.bipush 111, 2) := by decide +kernel
theorem dX10_init_722 : decode cX10_init 722 = .ok (.castore, 1) := by decide +kernel
theorem dX10_init_723 : decode cX10_init 723 = .ok (.dup, 1) := by decide +kernel
theorem dX10_init_724 : decode cX10_init 724 = .ok (.iconst 1, 1) := by decide +kernel
theorem dX10_init_725 : decode cX10_init 725 = .ok (.bipush 114, 2) := by decide +kernel
theorem dX10_init_727 : decode cX10_init 727 = .ok (.castore, 1) := by decide +kernel
theorem dX10_init_728 : decode cX10_init 728 = .ok (.putfield 93, 3) := by decide +kernel
theorem dX10_init_731 : decode cX10_init 731 = .ok (.aload_n 0, 1) := by decide +kernel
theorem dX10_init_732 : decode cX10_init 732 = .ok (.iconst 3, 1) := by decide +kernel
theorem dX10_init_733 : decode cX10_init 733 = .ok (.newarray .char, 2) := by decide +kernel
theorem dX10_init_735 : decode cX10_init 735 = .ok (.dup, 1) := by decide +kernel
theorem dX10_init_736 : decode cX10_init 736 = .ok (.iconst 0, 1) := by decide +kernel
theorem dX10_init_737 : decode cX10_init 737 = .ok (.bipush 97, 2) := by decide +kernel
theorem dX10_init_739 : decode cX10_init 739 = .ok (.castore, 1) := by decide +kernel
theorem dX10_init_740 : decode cX10_init 740 = .ok (.dup, 1) := by decide +kernel
theorem dX10_init_741 : decode cX10_init 741 = .ok (.iconst 1, 1) := by decide +kernel
theorem dX10_init_742 : decode cX10_init 742 = .ok (.bipush 110, 2) := by decide +kernel
theorem dX10_init_744 : decode cX10_init 744 = .ok (.castore, 1) := by decide +kernel
theorem dX10_init_745 : decode cX10_init 745 = .ok (.dup, 1) := by decide +kernel
theorem dX10_init_746 : decode cX10_init 746 = .ok (.iconst 2, 1) := by decide +kernel
theorem dX10_init_747 : decode cX10_init 747 = .ok (.bipush 100, 2) := by decide +kernel
theorem dX10_init_749 : decode cX10_init 749 = .ok (.castore, 1) := by decide +kernel
theorem dX10_init_750 : decode cX10_init 750 = .ok (.putfield 96, 3) := by decide +kernel
theorem dX10_init_753 : decode cX10_init 753 = .ok (.aload_n 0, 1) := by decide +kernel
theorem dX10_init_754 : decode cX10_init 754 = .ok (.iconst 3, 1) := by decide +kernel
theorem dX10_init_755 : decode cX10_init 755 = .ok (.newarray .char, 2) := by decide +kernel
theorem dX10_init_757 : decode cX10_init 757 = .ok (.dup, 1) := by decide +kernel
theorem dX10_init_758 : decode cX10_init 758 = .ok (.iconst 0, 1) := by decide +kernel
theorem dX10_init_759 : decode cX10_init 759 = .ok (.bipush 110, 2) := by decide +kernel
theorem dX10_init_761 : decode cX10_init 761 = .ok (.castore, 1) := by decide +kernel
theorem dX10_init_762 : decode cX10_init 762 = .ok (.dup, 1) := by decide +kernel
theorem dX10_init_763 : decode cX10_init 763 = .ok (.iconst 1, 1) := by decide +kernel
theorem dX10_init_764 : decode cX10_init 764 = .ok (.bipush 111, 2) := by decide +kernel
theorem dX10_init_766 : decode cX10_init 766 = .ok (.castore, 1) := by decide +kernel
theorem dX10_init_767 : decode cX10_init 767 = .ok (.dup, 1) := by decide +kernel
theorem dX10_init_768 : decode cX10_init 768 = .ok (.iconst 2, 1) := by decide +kernel
theorem dX10_init_769 : decode cX10_init 769 = .ok (.bipush 116, 2) := by decide +kernel
theorem dX10_init_771 : decode cX10_init 771 = .ok (.castore, 1) := by decide +kernel
theorem dX10_init_772 : decode cX10_init 772 = .ok (.putfield 99, 3) := by decide +kernel
theorem dX10_init_775 : decode cX10_init 775 = .ok (.aload_n 0, 1) := by decide +kernel
theorem dX10_init_776 : decode cX10_init 776 = .ok (.iconst 3, 1) := by decide +kernel
theorem dX10_init_777 : decode cX10_init 777 = .ok (.newarray .char, 2) := by decide +kernel
theorem dX10_init_779 : decode cX10_init 779 = .ok (.dup, 1) := by decide +kernel
theorem dX10_init_780 : decode cX10_init 780 = .ok (.iconst 0, 1) := by decide +kernel
theorem dX10_init_781 : decode cX10_init 781 = .ok (.bipush 97, 2) := by decide +kernel
theorem dX10_init_783 : decode cX10_init 783 = .ok (.castore, 1) := by decide +kernel
theorem dX10_init_784 : decode cX10_init 784 = .ok (.dup, 1) := by decide +kernel
theorem dX10_init_785 : decode cX10_init 785 = .ok (.iconst 1, 1) := by decide +kernel
theorem dX10_init_786 : decode cX10_init 786 = .ok (.bipush 108, 2) := by decide +kernel
theorem dX10_init_788 : decode cX10_init 788 = .ok (.castore, 1) := by decide +kernel
theorem dX10_init_789 : decode cX10_init 789 = .ok (.dup, 1) := by decide +kernel
theorem dX10_init_790 : decode cX10_init 790 = .ok (.iconst 2, 1) := by decide +kernel
theorem dX10_init_791 : decode cX10_init 791 = .ok (.bipush 108, 2) := by decide +kernel
theorem dX10_init_793 : decode cX10_init 793 = .ok (.castore, 1) := by decide +kernel
theorem dX10_init_794 : decode cX10_init 794 = .ok (.putfield 102, 3) := by decide +kernel
theorem dX10_init_797 : decode cX10_init 797 = .ok (.aload_n 0, 1) := by decide +kernel
theorem dX10_init_798 : decode cX10_init 798 = .ok (.iconst 3, 1) := by decide +kernel
theorem dX10_init_799 : decode cX10_init 799 = .ok (.newarray .char, 2) := by decide +kernel
theorem dX10_init_801 : decode cX10_init 801 = .ok (.dup, 1) := by decide +kernel
theorem dX10_init_802 : decode cX10_init 802 = .ok (.iconst 0, 1) := by decide +kernel
theorem dX10_init_803 : decode cX10_init 803 = .ok (.bipush 109, 2) := by decide +kernel
theorem dX10_init_805 : decode cX10_init 805 = .ok (.castore, 1) := by decide +kernel
theorem dX10_init_806 : decode cX10_init 806 = .ok (.dup, 1) := by decide +kernel
theorem dX10_init_807 : decode cX10_init 807 = .ok (.iconst 1, 1) := by decide +kernel
theorem dX10_init_808 : decode cX10_init 808 = .ok (.bipush 105, 2) := by decide +kernel
theorem dX10_init_810 : decode cX10_init 810 = .ok (.castore, 1) := by decide +kernel
theorem dX10_init_811 : decode cX10_init 811 = .ok (.dup, 1) := by decide +kernel
theorem dX10_init_812 : decode cX10_init 812 = .ok (.iconst 2, 1) := by decide +kernel
theorem dX10_init_813 : decode cX10_init 813 = .ok (.bipush 110, 2) := by decide +kernel
theorem dX10_init_815 : decode cX10_init 815 = .ok (.castore, 1) := by decide +kernel
theorem dX10_init_816 : decode cX10_init 816 = .ok (.putfield 105, 3) := by decide +kernel
theorem dX10_init_819 : decode cX10_init 819 = .ok (.aload_n 0, 1) := by decide +kernel
theorem dX10_init_820 : decode cX10_init 820 = .ok (.iconst 3, 1) := by decide +kernel
theorem dX10_init_821 : decode cX10_init 821 = .ok (.newarray .char, 2) := by decide +kernel
theorem dX10_init_823 : decode cX10_init 823 = .ok (.dup, 1) := by decide +kernel
theorem dX10_init_824 : decode cX10_init 824 = .ok (.iconst 0, 1) := by decide +kernel
theorem dX10_init_825 : decode cX10_init 825 = .ok (.bipush 109, 2) := by decide +kernel
theorem dX10_init_827 : decode cX10_init 827 = .ok (.castore, 1) := by decide +kernel
theorem dX10_init_828 : decode cX10_init 828 = .ok (.dup, 1) := by decide +kernel
theorem dX10_init_829 : decode cX10_init 829 = .ok (.iconst 1, 1) := by decide +kernel
theorem dX10_init_830 : decode cX10_init 830 = .ok (.bipush 97, 2) := by decide +kernel
theorem dX10_init_832 : decode cX10_init 832 = .ok (.castore, 1) := by decide +kernel
theorem dX10_init_833 : decode cX10_init 833 = .ok (.dup, 1) := by decide +kernel
theorem dX10_init_834 : decode cX10_init 834 = .ok (.iconst 2, 1) := by decide +kernel
theorem dX10_init_835 : decode cX10_init 835 = .ok (.bipush 120, 2) := by decide +kernel
theorem dX10_init_837 : decode cX10_init 837 = .ok (.castore, 1) := by decide +kernel
theorem dX10_init_838 : decode cX10_init 838 = .ok (.putfield 108, 3) := by decide +kernel
theorem dX10_init_841 : decode cX10_init 841 = .ok (.aload_n 0, 1) := by decide +kernel
theorem dX10_init_842 : decode cX10_init 842 = .ok (.iconst 4, 1) := by decide +kernel
theorem dX10_init_843 : decode cX10_init 843 = .ok (.newarray .int, 2) := by decide +kernel
theorem dX10_init_845 : decode cX10_init 845 = .ok (.putfield 111, 3) := by decide +kernel
theorem dX10_init_848 : decode cX10_init 848 = .ok (.aload_n 0, 1) := by decide +kernel
theorem dX10_init_849 : decode cX10_init 849 = .ok (.bipush 48, 2) := by decide +kernel
theorem dX10_init_851 : decode cX10_init 851 = .ok (.newarray .long, 2) := by decide +kernel
theorem dX10_init_853 : decode cX10_init 853 = .ok (.putfield 114, 3) := by decide +kernel
theorem dX10_init_856 : decode cX10_init 856 = .ok (.aload_n 0, 1) := by decide +kernel
theorem dX10_init_857 : decode cX10_init 857 = .ok (.bipush 8, 2) := by decide +kernel
theorem dX10_init_859 : decode cX10_init 859 = .ok (.newarray .int, 2) := by decide +kernel
theorem dX10_init_861 : decode cX10_init 861 = .ok (.putfield 118, 3) := by decide +kernel
theorem dX10_init_864 : decode cX10_init 864 = .ok (.aload_n 0, 1) := by decide +kernel
theorem dX10_init_865 : decode cX10_init 865 = .ok (.bipush 24, 2) := by decide +kernel
theorem dX10_init_867 : decode cX10_init 867 = .ok (.newarray .int, 2) := by decide +kernel
theorem dX10_init_869 : decode cX10_init 869 = .ok (.putfield 121, 3) := by decide +kernel
theorem dX10_init_872 : decode cX10_init 872 = .ok (.aload_n 0, 1) := by decide +kernel
theorem dX10_init_873 : decode cX10_init 873 = .ok (.bipush 6, 2) := by decide +kernel
theorem dX10_init_875 : decode cX10_init 875 = .ok (.newarray .int, 2) := by decide +kernel
theorem dX10_init_877 : decode cX10_init 877 = .ok (.putfield 124, 3) := by decide +kernel
theorem dX10_init_880 : decode cX10_init 880 = .ok (.aload_n 0, 1) := by decide +kernel
theorem dX10_init_881 : decode cX10_init 881 = .ok (.bipush 48, 2) := by decide +kernel
theorem dX10_init_883 : decode cX10_init 883 = .ok (.newarray .int, 2) := by decide +kernel
theorem dX10_init_885 : decode cX10_init 885 = .ok (.putfield 127, 3) := by decide +kernel
theorem dX10_init_888 : decode cX10_init 888 = .ok (.aload_n 0, 1) := by decide +kernel
theorem dX10_init_889 : decode cX10_init 889 = .ok (.bipush 6, 2) := by decide +kernel
theorem dX10_init_891 : decode cX10_init 891 = .ok (.newarray .int, 2) := by decide +kernel
theorem dX10_init_893 : decode cX10_init 893 = .ok (.dup, 1) := by decide +kernel
theorem dX10_init_894 : decode cX10_init 894 = .ok (.iconst 0, 1) := by decide +kernel
theorem dX10_init_895 : decode cX10_init 895 = .ok (.iconst (-1), 1) := by decide +kernel
theorem dX10_init_896 : decode cX10_init 896 = .ok (.iastore, 1) := by decide +kernel
theorem dX10_init_897 : decode cX10_init 897 = .ok (.dup, 1) := by decide +kernel
theorem dX10_init_898 : decode cX10_init 898 = .ok (.iconst 1, 1) := by decide +kernel
theorem dX10_init_899 : decode cX10_init 899 = .ok (.iconst (-1), 1) := by decide +kernel
theorem dX10_init_900 : decode cX10_init 900 = .ok (.iastore, 1) := by decide +kernel
theorem dX10_init_901 : decode cX10_init 901 = .ok (.dup, 1) := by decide +kernel
theorem dX10_init_902 : decode cX10_init 902 = .ok (.iconst 2, 1) := by decide +kernel
theorem dX10_init_903 : decode cX10_init 903 = .ok (.iconst (-1), 1) := by decide +kernel
theorem dX10_init_904 : decode cX10_init 904 = .ok (.iastore, 1) := by decide +kernel
theorem dX10_init_905 : decode cX10_init 905 = .ok (.dup, 1) := by decide +kernel
theorem dX10_init_906 : decode cX10_init 906 = .ok (.iconst 3, 1) := by decide +kernel
theorem dX10_init_907 : decode cX10_init 907 = .ok (.iconst (-1), 1) := by decide +kernel
theorem dX10_init_908 : decode cX10_init 908 = .ok (.iastore, 1) := by decide +kernel
theorem dX10_init_909 : decode cX10_init 909 = .ok (.dup, 1) := by decide +kernel
theorem dX10_init_910 : decode cX10_init 910 = .ok (.iconst 4, 1) := by decide +kernel
theorem dX10_init_911 : decode cX10_init 911 = .ok (.iconst (-1), 1) := by decide +kernel
theorem dX10_init_912 : decode cX10_init 912 = .ok (.iastore, 1) := by decide +kernel
theorem dX10_init_913 : decode cX10_init 913 = .ok (.dup, 1) := by decide +kernel
theorem dX10_init_914 : decode cX10_init 914 = .ok (.iconst 5, 1) := by decide +kernel
theorem dX10_init_915 : decode cX10_init 915 = .ok (.iconst (-1), 1) := by decide +kernel
theorem dX10_init_916 : decode cX10_init 916 = .ok (.iastore, 1) := by decide +kernel
theorem dX10_init_917 : decode cX10_init 917 = .ok (.putfield 130, 3) := by decide +kernel
theorem dX10_init_920 : decode cX10_init 920 = .ok (.aload_n 0, 1) := by decide +kernel
theorem dX10_init_921 : decode cX10_init 921 = .ok (.bipush 6, 2) := by decide +kernel
theorem dX10_init_923 : decode cX10_init 923 = .ok (.newarray .int, 2) := by decide +kernel
theorem dX10_init_925 : decode cX10_init 925 = .ok (.putfield 133, 3) := by decide +kernel
theorem dX10_init_928 : decode cX10_init 928 = .ok (.aload_n 0, 1) := by decide +kernel
theorem dX10_init_929 : decode cX10_init 929 = .ok (.sipush 3200, 3) := by decide +kernel
theorem dX10_init_932 : decode cX10_init 932 = .ok (.newarray .int, 2) := by decide +kernel
theorem dX10_init_934 : decode cX10_init 934 = .ok (.putfield 136, 3) := by decide +kernel
theorem dX10_init_937 : decode cX10_init 937 = .ok (.aload_n 0, 1) := by decide +kernel
theorem dX10_init_938 : decode cX10_init 938 = .ok (.bipush 9, 2) := by decide +kernel
theorem dX10_init_940 : decode cX10_init 940 = .ok (.newarray .int, 2) := by decide +kernel
theorem dX10_init_942 : decode cX10_init 942 = .ok (.putfield 139, 3) := by decide +kernel
theorem dX10_init_945 : decode cX10_init 945 = .ok (.aload_n 0, 1) := by decide +kernel
theorem dX10_init_946 : decode cX10_init 946 = .ok (.bipush 9, 2) := by decide +kernel
theorem dX10_init_948 : decode cX10_init 948 = .ok (.newarray .int, 2) := by decide +kernel
theorem dX10_init_950 : decode cX10_init 950 = .ok (.putfield 142, 3) := by decide +kernel
theorem dX10_init_953 : decode cX10_init 953 = .ok (.aload_n 0, 1) := by decide +kernel
theorem dX10_init_954 : decode cX10_init 954 = .ok (.sipush 320, 3) := by decide +kernel
theorem dX10_init_957 : decode cX10_init 957 = .ok (.newarray .boolean, 2) := by decide +kernel
theorem dX10_init_959 : decode cX10_init 959 = .ok (.putfield 145, 3) := by decide +kernel
theorem dX10_init_962 : decode cX10_init 962 = .ok (.aload_n 0, 1) := by decide +kernel
theorem dX10_init_963 : decode cX10_init 963 = .ok (.sipush 300, 3) := by decide +kernel
theorem dX10_init_966 : decode cX10_init 966 = .ok (.newarray .int, 2) := by decide +kernel
theorem dX10_init_968 : decode cX10_init 968 = .ok (.putfield 149, 3) := by decide +kernel
theorem dX10_init_971 : decode cX10_init 971 = .ok (.aload_n 0, 1) := by decide +kernel
theorem dX10_init_972 : decode cX10_init 972 = .ok (.sipush 300, 3) := by decide +kernel
theorem dX10_init_975 : decode cX10_init 975 = .ok (.newarray .boolean, 2) := by decide +kernel
theorem dX10_init_977 : decode cX10_init 977 = .ok (.putfield 152, 3) := by decide +kernel
theorem dX10_init_980 : decode cX10_init 980 = .ok (.aload_n 0, 1) := by decide +kernel
theorem dX10_init_981 : decode cX10_init 981 = .ok (.bipush 12, 2) := by decide +kernel
theorem dX10_init_983 : decode cX10_init 983 = .ok (.newarray .boolean, 2) := by decide +kernel
theorem dX10_init_985 : decode cX10_init 985 = .ok (.putfield 155, 3) := by decide +kernel
theorem dX10_init_988 : decode cX10_init 988 = .ok (.aload_n 0, 1) := by decide +kernel
theorem dX10_init_989 : decode cX10_init 989 = .ok (.bipush 12, 2) := by decide +kernel
theorem dX10_init_991 : decode cX10_init 991 = .ok (.newarray .int, 2) := by decide +kernel
theorem dX10_init_993 : decode cX10_init 993 = .ok (.putfield 158, 3) := by decide +kernel
theorem dX10_init_996 : decode cX10_init 996 = .ok (.aload_n 0, 1) := by decide +kernel
theorem dX10_init_997 : decode cX10_init 997 = .ok (.bipush 12, 2) := by decide +kernel
theorem dX10_init_999 : decode cX10_init 999 = .ok (.newarray .int, 2) := by decide +kernel
theorem dX10_init_1001 : decode cX10_init 1001 = .ok (.putfield 161, 3) := by decide +kernel
theorem dX10_init_1004 : decode cX10_init 1004 = .ok (.aload_n 0, 1) := by decide +kernel
theorem dX10_init_1005 : decode cX10_init 1005 = .ok (.bipush 12, 2) := by decide +kernel
theorem dX10_init_1007 : decode cX10_init 1007 = .ok (.newarray .boolean, 2) := by decide +kernel
theorem dX10_init_1009 : decode cX10_init 1009 = .ok (.putfield 164, 3) := by decide +kernel
theorem dX10_init_1012 : decode cX10_init 1012 = .ok (.aload_n 0, 1) := by decide +kernel
theorem dX10_init_1013 : decode cX10_init 1013 = .ok (.bipush 12, 2) := by decide +kernel
theorem dX10_init_1015 : decode cX10_init 1015 = .ok (.newarray .boolean, 2) := by decide +kernel
theorem dX10_init_1017 : decode cX10_init 1017 = .ok (.putfield 167, 3) := by decide +kernel
theorem dX10_init_1020 : decode cX10_init 1020 = .ok (.aload_n 0, 1) := by decide +kernel
theorem dX10_init_1021 : decode cX10_init 1021 = .ok (.bipush 12, 2) := by decide +kernel
theorem dX10_init_1023 : decode cX10_init 1023 = .ok (.newarray .boolean, 2) := by decide +kernel
theorem dX10_init_1025 : decode cX10_init 1025 = .ok (.putfield 170, 3) := by decide +kernel
theorem dX10_init_1028 : decode cX10_init 1028 = .ok (.aload_n 0, 1) := by decide +kernel
theorem dX10_init_1029 : decode cX10_init 1029 = .ok (.sipush 300, 3) := by decide +kernel
theorem dX10_init_1032 : decode cX10_init 1032 = .ok (.newarray .boolean, 2) := by decide +kernel
theorem dX10_init_1034 : decode cX10_init 1034 = .ok (.putfield 173, 3) := by decide +kernel
theorem dX10_init_1037 : decode cX10_init 1037 = .ok (.aload_n 0, 1) := by decide +kernel
theorem dX10_init_1038 : decode cX10_init 1038 = .ok (.bipush 32, 2) := by decide +kernel
theorem dX10_init_1040 : decode cX10_init 1040 = .ok (.newarray .int, 2) := by decide +kernel
theorem dX10_init_1042 : decode cX10_init 1042 = .ok (.putfield 176, 3) := by decide +kernel
theorem dX10_init_1045 : decode cX10_init 1045 = .ok (.aload_n 0, 1) := by decide +kernel
theorem dX10_init_1046 : decode cX10_init 1046 = .ok (.sipush 720, 3) := by decide +kernel
theorem dX10_init_1049 : decode cX10_init 1049 = .ok (.newarray .int, 2) := by decide +kernel
theorem dX10_init_1051 : decode cX10_init 1051 = .ok (.putfield 179, 3) := by decide +kernel
theorem dX10_init_1054 : decode cX10_init 1054 = .ok (.aload_n 0, 1) := by decide +kernel
theorem dX10_init_1055 : decode cX10_init 1055 = .ok (.sipush 180, 3) := by decide +kernel
theorem dX10_init_1058 : decode cX10_init 1058 = .ok (.newarray .int, 2) := by decide +kernel
theorem dX10_init_1060 : decode cX10_init 1060 = .ok (.putfield 182, 3) := by decide +kernel
theorem dX10_init_1063 : decode cX10_init 1063 = .ok (.aload_n 0, 1) := by decide +kernel
theorem dX10_init_1064 : decode cX10_init 1064 = .ok (.lconst 1, 1) := by decide +kernel
theorem dX10_init_1065 : decode cX10_init 1065 = .ok (.putfield 185, 3) := by decide +kernel
theorem dX10_init_1068 : decode cX10_init 1068 = .ok (.aload_n 0, 1) := by decide +kernel
theorem dX10_init_1069 : decode cX10_init 1069 = .ok (.iconst 5, 1) := by decide +kernel
theorem dX10_init_1070 : decode cX10_init 1070 = .ok (.newarray .char, 2) := by decide +kernel
theorem dX10_init_1072 : decode cX10_init 1072 = .ok (.dup, 1) := by decide +kernel
theorem dX10_init_1073 : decode cX10_init 1073 = .ok (.iconst 0, 1) := by decide +kernel
theorem dX10_init_1074 : decode cX10_init 1074 = .ok (.bipush 102, 2) := by decide +kernel
theorem dX10_init_1076 : decode cX10_init 1076 = .ok (.castore, 1) := by decide +kernel
theorem dX10_init_1077 : decode cX10_init 1077 = .ok (.dup, 1) := by decide +kernel
theorem dX10_init_1078 : decode cX10_init 1078 = .ok (.iconst 1, 1) := by decide +kernel
theorem dX10_init_1079 : decode cX10_init 1079 = .ok (.bipush 105, 2) := by decide +kernel
theorem dX10_init_1081 : decode cX10_init 1081 = .ok (.castore, 1) := by decide +kernel
theorem dX10_init_1082 : decode cX10_init 1082 = .ok (.dup, 1) := by decide +kernel
theorem dX10_init_1083 : decode cX10_init 1083 = .ok (.iconst 2, 1) := by decide +kernel
theorem dX10_init_1084 : decode cX10_init 1084 = .ok (.bipush 114, 2) := by decide +kernel
theorem dX10_init_1086 : decode cX10_init 1086 = .ok (.castore, 1) := by decide +kernel
theorem dX10_init_1087 : decode cX10_init 1087 = .ok (.dup, 1) := by decide +kernel
theorem dX10_init_1088 : decode cX10_init 1088 = .ok (.iconst 3, 1) := by decide +kernel
theorem dX10_init_1089 : decode cX10_init 1089 = .ok (.bipush 115, 2) := by decide +kernel
theorem dX10_init_1091 : decode cX10_init 1091 = .ok (.castore, 1) := by decide +kernel
theorem dX10_init_1092 : decode cX10_init 1092 = .ok (.dup, 1) := by decide +kernel
theorem dX10_init_1093 : decode cX10_init 1093 = .ok (.iconst 4, 1) := by decide +kernel
theorem dX10_init_1094 : decode cX10_init 1094 = .ok (.bipush 116, 2) := by decide +kernel
theorem dX10_init_1096 : decode cX10_init 1096 = .ok (.castore, 1) := by decide +kernel
theorem dX10_init_1097 : decode cX10_init 1097 = .ok (.putfield 189, 3) := by decide +kernel
theorem dX10_init_1100 : decode cX10_init 1100 = .ok (.aload_n 0, 1) := by decide +kernel
theorem dX10_init_1101 : decode cX10_init 1101 = .ok (.iconst 4, 1) := by decide +kernel
theorem dX10_init_1102 : decode cX10_init 1102 = .ok (.newarray .char, 2) := by decide +kernel
theorem dX10_init_1104 : decode cX10_init 1104 = .ok (.dup, 1) := by decide +kernel
theorem dX10_init_1105 : decode cX10_init 1105 = .ok (.iconst 0, 1) := by decide +kernel
theorem dX10_init_1106 : decode cX10_init 1106 = .ok (.bipush 108, 2) := by decide +kernel
theorem dX10_init_1108 : decode cX10_init 1108 = .ok (.castore, 1) := by decide +kernel
theorem dX10_init_1109 : decode cX10_init 1109 = .ok (.dup, 1) := by decide +kernel
theorem dX10_init_1110 : decode cX10_init 1110 = .ok (.iconst 1, 1) := by decide +kernel
theorem dX10_init_1111 : decode cX10_init 1111 = .ok (.bipush 97, 2) := by decide +kernel
theorem dX10_init_1113 : decode cX10_init 1113 = .ok (.castore, 1) := by decide +kernel
theorem dX10_init_1114 : decode cX10_init 1114 = .ok (.dup, 1) := by decide +kernel
theorem dX10_init_1115 : decode cX10_init 1115 = .ok (.iconst 2, 1) := by decide +kernel
theorem dX10_init_1116 : decode cX10_init 1116 = .ok (.bipush 115, 2) := by decide +kernel
theorem dX10_init_1118 : decode cX10_init 1118 = .ok (.castore, 1) := by decide +kernel
theorem dX10_init_1119 : decode cX10_init 1119 = .ok (.dup, 1) := by decide +kernel
theorem dX10_init_1120 : decode cX10_init 1120 = .ok (.iconst 3, 1) := by decide +kernel
theorem dX10_init_1121 : decode cX10_init 1121 = .ok (.bipush 116, 2) := by decide +kernel
theorem dX10_init_1123 : decode cX10_init 1123 = .ok (.castore, 1) := by decide +kernel
theorem dX10_init_1124 : decode cX10_init 1124 = .ok (.putfield 192, 3) := by decide +kernel
theorem dX10_init_1127 : decode cX10_init 1127 = .ok (.aload_n 0, 1) := by decide +kernel
theorem dX10_init_1128 : decode cX10_init 1128 = .ok (.iconst 5, 1) := by decide +kernel
theorem dX10_init_1129 : decode cX10_init 1129 = .ok (.newarray .char, 2) := by decide +kernel
theorem dX10_init_1131 : decode cX10_init 1131 = .ok (.dup, 1) := by decide +kernel
theorem dX10_init_1132 : decode cX10_init 1132 = .ok (.iconst 0, 1) := by decide +kernel
theorem dX10_init_1133 : decode cX10_init 1133 = .ok (.bipush 111, 2) := by decide +kernel
theorem dX10_init_1135 : decode cX10_init 1135 = .ok (.castore, 1) := by decide +kernel
theorem dX10_init_1136 : decode cX10_init 1136 = .ok (.dup, 1) := by decide +kernel
theorem dX10_init_1137 : decode cX10_init 1137 = .ok (.iconst 1, 1) := by decide +kernel
theorem dX10_init_1138 : decode cX10_init 1138 = .ok (.bipush 102, 2) := by decide +kernel
theorem dX10_init_1140 : decode cX10_init 1140 = .ok (.castore, 1) := by decide +kernel
theorem dX10_init_1141 : decode cX10_init 1141 = .ok (.dup, 1) := by decide +kernel
theorem dX10_init_1142 : decode cX10_init 1142 = .ok (.iconst 2, 1) := by decide +kernel
theorem dX10_init_1143 : decode cX10_init 1143 = .ok (.bipush 116, 2) := by decide +kernel
theorem dX10_init_1145 : decode cX10_init 1145 = .ok (.castore, 1) := by decide +kernel
theorem dX10_init_1146 : decode cX10_init 1146 = .ok (.dup, 1) := by decide +kernel
theorem dX10_init_1147 : decode cX10_init 1147 = .ok (.iconst 3, 1) := by decide +kernel
theorem dX10_init_1148 : decode cX10_init 1148 = .ok (.bipush 101, 2) := by decide +kernel
theorem dX10_init_1150 : decode cX10_init 1150 = .ok (.castore, 1) := by decide +kernel
theorem dX10_init_1151 : decode cX10_init 1151 = .ok (.dup, 1) := by decide +kernel
theorem dX10_init_1152 : decode cX10_init 1152 = .ok (.iconst 4, 1) := by decide +kernel
theorem dX10_init_1153 : decode cX10_init 1153 = .ok (.bipush 110, 2) := by decide +kernel
theorem dX10_init_1155 : decode cX10_init 1155 = .ok (.castore, 1) := by decide +kernel
theorem dX10_init_1156 : decode cX10_init 1156 = .ok (.putfield 195, 3) := by decide +kernel
theorem dX10_init_1159 : decode cX10_init 1159 = .ok (.aload_n 0, 1) := by decide +kernel
theorem dX10_init_1160 : decode cX10_init 1160 = .ok (.iconst 5, 1) := by decide +kernel
theorem dX10_init_1161 : decode cX10_init 1161 = .ok (.newarray .char, 2) := by decide +kernel
theorem dX10_init_1163 : decode cX10_init 1163 = .ok (.dup, 1) := by decide +kernel
theorem dX10_init_1164 : decode cX10_init 1164 = .ok (.iconst 0, 1) := by decide +kernel
theorem dX10_init_1165 : decode cX10_init 1165 = .ok (.bipush 116, 2) := by decide +kernel
theorem dX10_init_1167 : decode cX10_init 1167 = .ok (.castore, 1) := by decide +kernel
theorem dX10_init_1168 : decode cX10_init 1168 = .ok (.dup, 1) := by decide +kernel
theorem dX10_init_1169 : decode cX10_init 1169 = .ok (.iconst 1, 1) := by decide +kernel
theorem dX10_init_1170 : decode cX10_init 1170 = .ok (.bipush 111, 2) := by decide +kernel
theorem dX10_init_1172 : decode cX10_init 1172 = .ok (.castore, 1) := by decide +kernel
theorem dX10_init_1173 : decode cX10_init 1173 = .ok (.dup, 1) := by decide +kernel
theorem dX10_init_1174 : decode cX10_init 1174 = .ok (.iconst 2, 1) := by decide +kernel
theorem dX10_init_1175 : decode cX10_init 1175 = .ok (.bipush 116, 2) := by decide +kernel
theorem dX10_init_1177 : decode cX10_init 1177 = .ok (.castore, 1) := by decide +kernel
theorem dX10_init_1178 : decode cX10_init 1178 = .ok (.dup, 1) := by decide +kernel
theorem dX10_init_1179 : decode cX10_init 1179 = .ok (.iconst 3, 1) := by decide +kernel
theorem dX10_init_1180 : decode cX10_init 1180 = .ok (.bipush 97, 2) := by decide +kernel
theorem dX10_init_1182 : decode cX10_init 1182 = .ok (.castore, 1) := by decide +kernel
theorem dX10_init_1183 : decode cX10_init 1183 = .ok (.dup, 1) := by decide +kernel
theorem dX10_init_1184 : decode cX10_init 1184 = .ok (.iconst 4, 1) := by decide +kernel
theorem dX10_init_1185 : decode cX10_init 1185 = .ok (.bipush 108, 2) := by decide +kernel
theorem dX10_init_1187 : decode cX10_init 1187 = .ok (.castore, 1) := by decide +kernel
theorem dX10_init_1188 : decode cX10_init 1188 = .ok (.putfield 198, 3) := by decide +kernel
theorem dX10_init_1191 : decode cX10_init 1191 = .ok (.aload_n 0, 1) := by decide +kernel
theorem dX10_init_1192 : decode cX10_init 1192 = .ok (.iconst 4, 1) := by decide +kernel
theorem dX10_init_1193 : decode cX10_init 1193 = .ok (.newarray .char, 2) := by decide +kernel
theorem dX10_init_1195 : decode cX10_init 1195 = .ok (.dup, 1) := by decide +kernel
theorem dX10_init_1196 : decode cX10_init 1196 = .ok (.iconst 0, 1) := by decide +kernel
theorem dX10_init_1197 : decode cX10_init 1197 = .ok (.bipush 109, 2) := by decide +kernel
theorem dX10_init_1199 : decode cX10_init 1199 = .ok (.castore, 1) := by decide +kernel
theorem dX10_init_1200 : decode cX10_init 1200 = .ok (.dup, 1) := by decide +kernel
theorem dX10_init_1201 : decode cX10_init 1201 = .ok (.iconst 1, 1) := by decide +kernel
theorem dX10_init_1202 : decode cX10_init 1202 = .ok (.bipush 111, 2) := by decide +kernel
theorem dX10_init_1204 : decode cX10_init 1204 = .ok (.castore, 1) := by decide +kernel
theorem dX10_init_1205 : decode cX10_init 1205 = .ok (.dup, 1) := by decide +kernel
theorem dX10_init_1206 : decode cX10_init 1206 = .ok (.iconst 2, 1) := by decide +kernel
theorem dX10_init_1207 : decode cX10_init 1207 = .ok (.bipush 115, 2) := by decide +kernel
theorem dX10_init_1209 : decode cX10_init 1209 = .ok (.castore, 1) := by decide +kernel
theorem dX10_init_1210 : decode cX10_init 1210 = .ok (.dup, 1) := by decide +kernel
theorem dX10_init_1211 : decode cX10_init 1211 = .ok (.iconst 3, 1) := by decide +kernel
theorem dX10_init_1212 : decode cX10_init 1212 = .ok (.bipush 116, 2) := by decide +kernel
theorem dX10_init_1214 : decode cX10_init 1214 = .ok (.castore, 1) := by decide +kernel
theorem dX10_init_1215 : decode cX10_init 1215 = .ok (.putfield 201, 3) := by decide +kernel
theorem dX10_init_1218 : decode cX10_init 1218 = .ok (.aload_n 0, 1) := by decide +kernel
theorem dX10_init_1219 : decode cX10_init 1219 = .ok (.iconst 5, 1) := by decide +kernel
theorem dX10_init_1220 : decode cX10_init 1220 = .ok (.newarray .char, 2) := by decide +kernel
theorem dX10_init_1222 : decode cX10_init 1222 = .ok (.dup, 1) := by decide +kernel
theorem dX10_init_1223 : decode cX10_init 1223 = .ok (.iconst 0, 1) := by decide +kernel
theorem dX10_init_1224 : decode cX10_init 1224 = .ok (.bipush 108, 2) := by decide +kernel
theorem dX10_init_1226 : decode cX10_init 1226 = .ok (.castore, 1) := by decide +kernel
theorem dX10_init_1227 : decode cX10_init 1227 = .ok (.dup, 1) := by decide +kernel
theorem dX10_init_1228 : decode cX10_init 1228 = .ok (.iconst 1, 1) := by decide +kernel
theorem dX10_init_1229 : decode cX10_init 1229 = .ok (.bipush 101, 2) := by decide +kernel
theorem dX10_init_1231 : decode cX10_init 1231 = .ok (.castore, 1) := by decide +kernel
theorem dX10_init_1232 : decode cX10_init 1232 = .ok (.dup, 1) := by decide +kernel
theorem dX10_init_1233 : decode cX10_init 1233 = .ok (.iconst 2, 1) := by decide +kernel
theorem dX10_init_1234 : decode cX10_init 1234 = .ok (.bipush 97, 2) := by decide +kernel
theorem dX10_init_1236 : decode cX10_init 1236 = .ok (.castore, 1) := by decide +kernel
theorem dX10_init_1237 : decode cX10_init 1237 = .ok (.dup, 1) := by decide +kernel
theorem dX10_init_1238 : decode cX10_init 1238 = .ok (.iconst 3, 1) := by decide +kernel
theorem dX10_init_1239 : decode cX10_init 1239 = .ok (.bipush 115, 2) := by decide +kernel
theorem dX10_init_1241 : decode cX10_init 1241 = .ok (.castore, 1) := by decide +kernel
theorem dX10_init_1242 : decode cX10_init 1242 = .ok (.dup, 1) := by decide +kernel
theorem dX10_init_1243 : decode cX10_init 1243 = .ok (.iconst 4, 1) := by decide +kernel
theorem dX10_init_1244 : decode cX10_init 1244 = .ok (.bipush 116, 2) := by decide +kernel
theorem dX10_init_1246 : decode cX10_init 1246 = .ok (.castore, 1) := by decide +kernel
theorem dX10_init_1247 : decode cX10_init 1247 = .ok (.putfield 204, 3) := by decide +kernel
theorem dX10_init_1250 : decode cX10_init 1250 = .ok (.aload_n 0, 1) := by decide +kernel
theorem dX10_init_1251 : decode cX10_init 1251 = .ok (.iconst 3, 1) := by decide +kernel
theorem dX10_init_1252 : decode cX10_init 1252 = .ok (.newarray .char, 2) := by decide +kernel
theorem dX10_init_1254 : decode cX10_init 1254 = .ok (.dup, 1) := by decide +kernel
theorem dX10_init_1255 : decode cX10_init 1255 = .ok (.iconst 0, 1) := by decide +kernel
theorem dX10_init_1256 : decode cX10_init 1256 = .ok (.bipush 110, 2) := by decide +kernel
theorem dX10_init_1258 : decode cX10_init 1258 = .ok (.castore, 1) := by decide +kernel
theorem dX10_init_1259 : decode cX10_init 1259 = .ok (.dup, 1) := by decide +kernel
theorem dX10_init_1260 : decode cX10_init 1260 = .ok (.iconst 1, 1) := by decide +kernel
theorem dX10_init_1261 : decode cX10_init 1261 = .ok (.bipush 111, 2) := by decide +kernel
theorem dX10_init_1263 : decode cX10_init 1263 = .ok (.castore, 1) := by decide +kernel
theorem dX10_init_1264 : decode cX10_init 1264 = .ok (.dup, 1) := by decide +kernel
theorem dX10_init_1265 : decode cX10_init 1265 = .ok (.iconst 2, 1) := by decide +kernel
theorem dX10_init_1266 : decode cX10_init 1266 = .ok (.bipush 116, 2) := by decide +kernel
theorem dX10_init_1268 : decode cX10_init 1268 = .ok (.castore, 1) := by decide +kernel
theorem dX10_init_1269 : decode cX10_init 1269 = .ok (.putfield 207, 3) := by decide +kernel
theorem dX10_init_1272 : decode cX10_init 1272 = .ok (.aload_n 0, 1) := by decide +kernel
theorem dX10_init_1273 : decode cX10_init 1273 = .ok (.iconst 3, 1) := by decide +kernel
theorem dX10_init_1274 : decode cX10_init 1274 = .ok (.newarray .char, 2) := by decide +kernel
theorem dX10_init_1276 : decode cX10_init 1276 = .ok (.dup, 1) := by decide +kernel
theorem dX10_init_1277 : decode cX10_init 1277 = .ok (.iconst 0, 1) := by decide +kernel
theorem dX10_init_1278 : decode cX10_init 1278 = .ok (.bipush 97, 2) := by decide +kernel
theorem dX10_init_1280 : decode cX10_init 1280 = .ok (.castore, 1) := by decide +kernel
theorem dX10_init_1281 : decode cX10_init 1281 = .ok (.dup, 1) := by decide +kernel
theorem dX10_init_1282 : decode cX10_init 1282 = .ok (.iconst 1, 1) := by decide +kernel
theorem dX10_init_1283 : decode cX10_init 1283 = .ok (.bipush 110, 2) := by decide +kernel
theorem dX10_init_1285 : decode cX10_init 1285 = .ok (.castore, 1) := by decide +kernel
theorem dX10_init_1286 : decode cX10_init 1286 = .ok (.dup, 1) := by decide +kernel
theorem dX10_init_1287 : decode cX10_init 1287 = .ok (.iconst 2, 1) := by decide +kernel
theorem dX10_init_1288 : decode cX10_init 1288 = .ok (.bipush 100, 2) := by decide +kernel
theorem dX10_init_1290 : decode cX10_init 1290 = .ok (.castore, 1) := by decide +kernel
theorem dX10_init_1291 : decode cX10_init 1291 = .ok (.putfield 210, 3) := by decide +kernel
theorem dX10_init_1294 : decode cX10_init 1294 = .ok (.aload_n 0, 1) := by decide +kernel
theorem dX10_init_1295 : decode cX10_init 1295 = .ok (.iconst 2, 1) := by decide +kernel
theorem dX10_init_1296 : decode cX10_init 1296 = .ok (.newarray .char, 2) := by decide +kernel
theorem dX10_init_1298 : decode cX10_init 1298 = .ok (.dup, 1) := by decide +kernel
theorem dX10_init_1299 : decode cX10_init 1299 = .ok (.iconst 0, 1) := by decide +kernel
theorem dX10_init_1300 : decode cX10_init 1300 = .ok (.bipush 111, 2) := by decide +kernel
theorem dX10_init_1302 : decode cX10_init 1302 = .ok (.castore, 1) := by decide +kernel
theorem dX10_init_1303 : decode cX10_init 1303 = .ok (.dup, 1) := by decide +kernel
theorem dX10_init_1304 : decode cX10_init 1304 = .ok (.iconst 1, 1) := by decide +kernel
theorem dX10_init_1305 : decode cX10_init 1305 = .ok (.bipush 114, 2) := by decide +kernel
theorem dX10_init_1307 : decode cX10_init 1307 = .ok (.castore, 1) := by decide +kernel
theorem dX10_init_1308 : decode cX10_init 1308 = .ok (.putfield 213, 3) := by decide +kernel
theorem dX10_init_1311 : decode cX10_init 1311 = .ok (.aload_n 0, 1) := by decide +kernel
theorem dX10_init_1312 : decode cX10_init 1312 = .ok (.iconst 3, 1) := by decide +kernel
theorem dX10_init_1313 : decode cX10_init 1313 = .ok (.newarray .char, 2) := by decide +kernel
theorem dX10_init_1315 : decode cX10_init 1315 = .ok (.dup, 1) := by decide +kernel
theorem dX10_init_1316 : decode cX10_init 1316 = .ok (.iconst 0, 1) := by decide +kernel
theorem dX10_init_1317 : decode cX10_init 1317 = .ok (.bipush 97, 2) := by decide +kernel
theorem dX10_init_1319 : decode cX10_init 1319 = .ok (.castore, 1) := by decide +kernel
theorem dX10_init_1320 : decode cX10_init 1320 = .ok (.dup, 1) := by decide +kernel
theorem dX10_init_1321 : decode cX10_init 1321 = .ok (.iconst 1, 1) := by decide +kernel
theorem dX10_init_1322 : decode cX10_init 1322 = .ok (.bipush 108, 2) := by decide +kernel
theorem dX10_init_1324 : decode cX10_init 1324 = .ok (.castore, 1) := by decide +kernel
theorem dX10_init_1325 : decode cX10_init 1325 = .ok (.dup, 1) := by decide +kernel
theorem dX10_init_1326 : decode cX10_init 1326 = .ok (.iconst 2, 1) := by decide +kernel
theorem dX10_init_1327 : decode cX10_init 1327 = .ok (.bipush 108, 2) := by decide +kernel
theorem dX10_init_1329 : decode cX10_init 1329 = .ok (.castore, 1) := by decide +kernel
theorem dX10_init_1330 : decode cX10_init 1330 = .ok (.putfield 216, 3) := by decide +kernel
theorem dX10_init_1333 : decode cX10_init 1333 = .ok (.aload_n 0, 1) := by decide +kernel
theorem dX10_init_1334 : decode cX10_init 1334 = .ok (.iconst 3, 1) := by decide +kernel
theorem dX10_init_1335 : decode cX10_init 1335 = .ok (.newarray .char, 2) := by decide +kernel
theorem dX10_init_1337 : decode cX10_init 1337 = .ok (.dup, 1) := by decide +kernel
theorem dX10_init_1338 : decode cX10_init 1338 = .ok (.iconst 0, 1) := by decide +kernel
theorem dX10_init_1339 : decode cX10_init 1339 = .ok (.bipush 109, 2) := by decide +kernel
theorem dX10_init_1341 : decode cX10_init 1341 = .ok (.castore, 1) := by decide +kernel
theorem dX10_init_1342 : decode cX10_init 1342 = .ok (.dup, 1) := by decide +kernel
theorem dX10_init_1343 : decode cX10_init 1343 = .ok (.iconst 1, 1) := by decide +kernel
theorem dX10_init_1344 : decode cX10_init 1344 = .ok (.bipush 105, 2) := by decide +kernel
theorem dX10_init_1346 : decode cX10_init 1346 = .ok (.castore, 1) := by decide +kernel
theorem dX10_init_1347 : decode cX10_init 1347 = .ok (.dup, 1) := by decide +kernel
theorem dX10_init_1348 : decode cX10_init 1348 = .ok (.iconst 2, 1) := by decide +kernel
theorem dX10_init_1349 : decode cX10_init 1349 = .ok (.bipush 110, 2) := by decide +kernel
theorem dX10_init_1351 : decode cX10_init 1351 = .ok (.castore, 1) := by decide +kernel
theorem dX10_init_1352 : decode cX10_init 1352 = .ok (.putfield 219, 3) := by decide +kernel
theorem dX10_init_1355 : decode cX10_init 1355 = .ok (.aload_n 0, 1) := by decide +kernel
theorem dX10_init_1356 : decode cX10_init 1356 = .ok (.iconst 3, 1) := by decide +kernel
theorem dX10_init_1357 : decode cX10_init 1357 = .ok (.newarray .char, 2) := by decide +kernel
theorem dX10_init_1359 : decode cX10_init 1359 = .ok (.dup, 1) := by decide +kernel
theorem dX10_init_1360 : decode cX10_init 1360 = .ok (.iconst 0, 1) := by decide +kernel
theorem dX10_init_1361 : decode cX10_init 1361 = .ok (.bipush 109, 2) := by decide +kernel
theorem dX10_init_1363 : decode cX10_init 1363 = .ok (.castore, 1) := by decide +kernel
theorem dX10_init_1364 : decode cX10_init 1364 = .ok (.dup, 1) := by decide +kernel
theorem dX10_init_1365 : decode cX10_init 1365 = .ok (.iconst 1, 1) := by decide +kernel
theorem dX10_init_1366 : decode cX10_init 1366 = .ok (.bipush 97, 2) := by decide +kernel
theorem dX10_init_1368 : decode cX10_init 1368 = .ok (.castore, 1) := by decide +kernel
theorem dX10_init_1369 : decode cX10_init 1369 = .ok (.dup, 1) := by decide +kernel
theorem dX10_init_1370 : decode cX10_init 1370 = .ok (.iconst 2, 1) := by decide +kernel
theorem dX10_init_1371 : decode cX10_init 1371 = .ok (.bipush 120, 2) := by decide +kernel
theorem dX10_init_1373 : decode cX10_init 1373 = .ok (.castore, 1) := by decide +kernel
theorem dX10_init_1374 : decode cX10_init 1374 = .ok (.putfield 222, 3) := by decide +kernel
theorem dX10_init_1377 : decode cX10_init 1377 = .ok (.aload_n 0, 1) := by decide +kernel
theorem dX10_init_1378 : decode cX10_init 1378 = .ok (.bipush 6, 2) := by decide +kernel
theorem dX10_init_1380 : decode cX10_init 1380 = .ok (.newarray .char, 2) := by decide +kernel
theorem dX10_init_1382 : decode cX10_init 1382 = .ok (.dup, 1) := by decide +kernel
theorem dX10_init_1383 : decode cX10_init 1383 = .ok (.iconst 0, 1) := by decide +kernel
theorem dX10_init_1384 : decode cX10_init 1384 = .ok (.bipush 115, 2) := by decide +kernel
theorem dX10_init_1386 : decode cX10_init 1386 = .ok (.castore, 1) := by decide +kernel
theorem dX10_init_1387 : decode cX10_init 1387 = .ok (.dup, 1) := by decide +kernel
theorem dX10_init_1388 : decode cX10_init 1388 = .ok (.iconst 1, 1) := by decide +kernel
theorem dX10_init_1389 : decode cX10_init 1389 = .ok (.bipush 101, 2) := by decide +kernel
theorem dX10_init_1391 : decode cX10_init 1391 = .ok (.castore, 1) := by decide +kernel
theorem dX10_init_1392 : decode cX10_init 1392 = .ok (.dup, 1) := by decide +kernel
theorem dX10_init_1393 : decode cX10_init 1393 = .ok (.iconst 2, 1) := by decide +kernel
theorem dX10_init_1394 : decode cX10_init 1394 = .ok (.bipush 99, 2) := by decide +kernel
theorem dX10_init_1396 : decode cX10_init 1396 = .ok (.castore, 1) := by decide +kernel
theorem dX10_init_1397 : decode cX10_init 1397 = .ok (.dup, 1) := by decide +kernel
theorem dX10_init_1398 : decode cX10_init 1398 = .ok (.iconst 3, 1) := by decide +kernel
theorem dX10_init_1399 : decode cX10_init 1399 = .ok (.bipush 111, 2) := by decide +kernel
theorem dX10_init_1401 : decode cX10_init 1401 = .ok (.castore, 1) := by decide +kernel
theorem dX10_init_1402 : decode cX10_init 1402 = .ok (.dup, 1) := by decide +kernel
theorem dX10_init_1403 : decode cX10_init 1403 = .ok (.iconst 4, 1) := by decide +kernel
theorem dX10_init_1404 : decode cX10_init 1404 = .ok (.bipush 110, 2) := by decide +kernel
theorem dX10_init_1406 : decode cX10_init 1406 = .ok (.castore, 1) := by decide +kernel
theorem dX10_init_1407 : decode cX10_init 1407 = .ok (.dup, 1) := by decide +kernel
theorem dX10_init_1408 : decode cX10_init 1408 = .ok (.iconst 5, 1) := by decide +kernel
theorem dX10_init_1409 : decode cX10_init 1409 = .ok (.bipush 100, 2) := by decide +kernel
theorem dX10_init_1411 : decode cX10_init 1411 = .ok (.castore, 1) := by decide +kernel
theorem dX10_init_1412 : decode cX10_init 1412 = .ok (.putfield 225, 3) := by decide +kernel
theorem dX10_init_1415 : decode cX10_init 1415 = .ok (.aload_n 0, 1) := by decide +kernel
theorem dX10_init_1416 : decode cX10_init 1416 = .ok (.iconst 3, 1) := by decide +kernel
theorem dX10_init_1417 : decode cX10_init 1417 = .ok (.newarray .char, 2) := by decide +kernel
theorem dX10_init_1419 : decode cX10_init 1419 = .ok (.dup, 1) := by decide +kernel
theorem dX10_init_1420 : decode cX10_init 1420 = .ok (.iconst 0, 1) := by decide +kernel
theorem dX10_init_1421 : decode cX10_init 1421 = .ok (.bipush 100, 2) := by decide +kernel
theorem dX10_init_1423 : decode cX10_init 1423 = .ok (.castore, 1) := by decide +kernel
theorem dX10_init_1424 : decode cX10_init 1424 = .ok (.dup, 1) := by decide +kernel
theorem dX10_init_1425 : decode cX10_init 1425 = .ok (.iconst 1, 1) := by decide +kernel
theorem dX10_init_1426 : decode cX10_init 1426 = .ok (.bipush 97, 2) := by decide +kernel
theorem dX10_init_1428 : decode cX10_init 1428 = .ok (.castore, 1) := by decide +kernel
theorem dX10_init_1429 : decode cX10_init 1429 = .ok (.dup, 1) := by decide +kernel
theorem dX10_init_1430 : decode cX10_init 1430 = .ok (.iconst 2, 1) := by decide +kernel
theorem dX10_init_1431 : decode cX10_init 1431 = .ok (.bipush 121, 2) := by decide +kernel
theorem dX10_init_1433 : decode cX10_init 1433 = .ok (.castore, 1) := by decide +kernel
theorem dX10_init_1434 : decode cX10_init 1434 = .ok (.putfield 228, 3) := by decide +kernel
theorem dX10_init_1437 : decode cX10_init 1437 = .ok (.aload_n 0, 1) := by decide +kernel
theorem dX10_init_1438 : decode cX10_init 1438 = .ok (.iconst 5, 1) := by decide +kernel
theorem dX10_init_1439 : decode cX10_init 1439 = .ok (.newarray .char, 2) := by decide +kernel
theorem dX10_init_1441 : decode cX10_init 1441 = .ok (.dup, 1) := by decide +kernel
theorem dX10_init_1442 : decode cX10_init 1442 = .ok (.iconst 0, 1) := by decide +kernel
theorem dX10_init_1443 : decode cX10_init 1443 = .ok (.bipush 112, 2) := by decide +kernel
theorem dX10_init_1445 : decode cX10_init 1445 = .ok (.castore, 1) := by decide +kernel
theorem dX10_init_1446 : decode cX10_init 1446 = .ok (.dup, 1) := by decide +kernel
theorem dX10_init_1447 : decode cX10_init 1447 = .ok (.iconst 1, 1) := by decide +kernel
theorem dX10_init_1448 : decode cX10_init 1448 = .ok (.bipush 104, 2) := by decide +kernel
theorem dX10_init_1450 : decode cX10_init 1450 = .ok (.castore, 1) := by decide +kernel
theorem dX10_init_1451 : decode cX10_init 1451 = .ok (.dup, 1) := by decide +kernel
theorem dX10_init_1452 : decode cX10_init 1452 = .ok (.iconst 2, 1) := by decide +kernel
theorem dX10_init_1453 : decode cX10_init 1453 = .ok (.bipush 97, 2) := by decide +kernel
theorem dX10_init_1455 : decode cX10_init 1455 = .ok (.castore, 1) := by decide +kernel
theorem dX10_init_1456 : decode cX10_init 1456 = .ok (.dup, 1) := by decide +kernel
theorem dX10_init_1457 : decode cX10_init 1457 = .ok (.iconst 3, 1) := by decide +kernel
theorem dX10_init_1458 : decode cX10_init 1458 = .ok (.bipush 115, 2) := by decide +kernel
theorem dX10_init_1460 : decode cX10_init 1460 = .ok (.castore, 1) := by decide +kernel
theorem dX10_init_1461 : decode cX10_init 1461 = .ok (.dup, 1) := by decide +kernel
theorem dX10_init_1462 : decode cX10_init 1462 = .ok (.iconst 4, 1) := by decide +kernel
theorem dX10_init_1463 : decode cX10_init 1463 = .ok (.bipush 101, 2) := by decide +kernel
theorem dX10_init_1465 : decode cX10_init 1465 = .ok (.castore, 1) := by decide +kernel
theorem dX10_init_1466 : decode cX10_init 1466 = .ok (.putfield 231, 3) := by decide +kernel
theorem dX10_init_1469 : decode cX10_init 1469 = .ok (.aload_n 0, 1) := by decide +kernel
theorem dX10_init_1470 : decode cX10_init 1470 = .ok (.bipush 6, 2) := by decide +kernel
theorem dX10_init_1472 : decode cX10_init 1472 = .ok (.newarray .char, 2) := by decide +kernel
theorem dX10_init_1474 : decode cX10_init 1474 = .ok (.dup, 1) := by decide +kernel
theorem dX10_init_1475 : decode cX10_init 1475 = .ok (.iconst 0, 1) := by decide +kernel
theorem dX10_init_1476 : decode cX10_init 1476 = .ok (.bipush 119, 2) := by decide +kernel
theorem dX10_init_1478 : decode cX10_init 1478 = .ok (.castore, 1) := by decide +kernel
theorem dX10_init_1479 : decode cX10_init 1479 = .ok (.dup, 1) := by decide +kernel
theorem dX10_init_1480 : decode cX10_init 1480 = .ok (.iconst 1, 1) := by decide +kernel
theorem dX10_init_1481 : decode cX10_init 1481 = .ok (.bipush 97, 2) := by decide +kernel
theorem dX10_init_1483 : decode cX10_init 1483 = .ok (.castore, 1) := by decide +kernel
theorem dX10_init_1484 : decode cX10_init 1484 = .ok (.dup, 1) := by decide +kernel
theorem dX10_init_1485 : decode cX10_init 1485 = .ok (.iconst 2, 1) := by decide +kernel
theorem dX10_init_1486 : decode cX10_init 1486 = .ok (.bipush 105, 2) := by decide +kernel
theorem dX10_init_1488 : decode cX10_init 1488 = .ok (.castore, 1) := by decide +kernel
theorem dX10_init_1489 : decode cX10_init 1489 = .ok (.dup, 1) := by decide +kernel
theorem dX10_init_1490 : decode cX10_init 1490 = .ok (.iconst 3, 1) := by decide +kernel
theorem dX10_init_1491 : decode cX10_init 1491 = .ok (.bipush 116, 2) := by decide +kernel
theorem dX10_init_1493 : decode cX10_init 1493 = .ok (.castore, 1) := by decide +kernel
theorem dX10_init_1494 : decode cX10_init 1494 = .ok (.dup, 1) := by decide +kernel
theorem dX10_init_1495 : decode cX10_init 1495 = .ok (.iconst 4, 1) := by decide +kernel
theorem dX10_init_1496 : decode cX10_init 1496 = .ok (.bipush 101, 2) := by decide +kernel
theorem dX10_init_1498 : decode cX10_init 1498 = .ok (.castore, 1) := by decide +kernel
theorem dX10_init_1499 : decode cX10_init 1499 = .ok (.dup, 1) := by decide +kernel
theorem dX10_init_1500 : decode cX10_init 1500 = .ok (.iconst 5, 1) := by decide +kernel
theorem dX10_init_1501 : decode cX10_init 1501 = .ok (.bipush 100, 2) := by decide +kernel
theorem dX10_init_1503 : decode cX10_init 1503 = .ok (.castore, 1) := by decide +kernel
theorem dX10_init_1504 : decode cX10_init 1504 = .ok (.putfield 234, 3) := by decide +kernel
theorem dX10_init_1507 : decode cX10_init 1507 = .ok (.aload_n 0, 1) := by decide +kernel
theorem dX10_init_1508 : decode cX10_init 1508 = .ok (.iconst 4, 1) := by decide +kernel
theorem dX10_init_1509 : decode cX10_init 1509 = .ok (.newarray .char, 2) := by decide +kernel
theorem dX10_init_1511 : decode cX10_init 1511 = .ok (.dup, 1) := by decide +kernel
theorem dX10_init_1512 : decode cX10_init 1512 = .ok (.iconst 0, 1) := by decide +kernel
theorem dX10_init_1513 : decode cX10_init 1513 = .ok (.bipush 99, 2) := by decide +kernel
theorem dX10_init_1515 : decode cX10_init 1515 = .ok (.castore, 1) := by decide +kernel
theorem dX10_init_1516 : decode cX10_init 1516 = .ok (.dup, 1) := by decide +kernel
theorem dX10_init_1517 : decode cX10_init 1517 = .ok (.iconst 1, 1) := by decide +kernel
theorem dX10_init_1518 : decode cX10_init 1518 = .ok (.bipush 97, 2) := by decide +kernel
theorem dX10_init_1520 : decode cX10_init 1520 = .ok (.castore, 1) := by decide +kernel
theorem dX10_init_1521 : decode cX10_init 1521 = .ok (.dup, 1) := by decide +kernel
theorem dX10_init_1522 : decode cX10_init 1522 = .ok (.iconst 2, 1) := by decide +kernel
theorem dX10_init_1523 : decode cX10_init 1523 = .ok (.bipush 108, 2) := by decide +kernel
theorem dX10_init_1525 : decode cX10_init 1525 = .ok (.castore, 1) := by decide +kernel
theorem dX10_init_1526 : decode cX10_init 1526 = .ok (.dup, 1) := by decide +kernel
theorem dX10_init_1527 : decode cX10_init 1527 = .ok (.iconst 3, 1) := by decide +kernel
theorem dX10_init_1528 : decode cX10_init 1528 = .ok (.bipush 109, 2) := by decide +kernel
theorem dX10_init_1530 : decode cX10_init 1530 = .ok (.castore, 1) := by decide +kernel
theorem dX10_init_1531 : decode cX10_init 1531 = .ok (.putfield 237, 3) := by decide +kernel
theorem dX10_init_1534 : decode cX10_init 1534 = .ok (.aload_n 0, 1) := by decide +kernel
theorem dX10_init_1535 : decode cX10_init 1535 = .ok (.iconst 4, 1) := by decide +kernel
theorem dX10_init_1536 : decode cX10_init 1536 = .ok (.newarray .char, 2) := by decide +kernel
theorem dX10_init_1538 : decode cX10_init 1538 = .ok (.dup, 1) := by decide +kernel
theorem dX10_init_1539 : decode cX10_init 1539 = .ok (.iconst 0, 1) := by decide +kernel
theorem dX10_init_1540 : decode cX10_init 1540 = .ok (.bipush 112, 2) := by decide +kernel
theorem dX10_init_1542 : decode cX10_init 1542 = .ok (.castore, 1) := by decide +kernel
theorem dX10_init_1543 : decode cX10_init 1543 = .ok (.dup, 1) := by decide +kernel
theorem dX10_init_1544 : decode cX10_init 1544 = .ok (.iconst 1, 1) := by decide +kernel
theorem dX10_init_1545 : decode cX10_init 1545 = .ok (.bipush 97, 2) := by decide +kernel
theorem dX10_init_1547 : decode cX10_init 1547 = .ok (.castore, 1) := by decide +kernel
theorem dX10_init_1548 : decode cX10_init 1548 = .ok (.dup, 1) := by decide +kernel
theorem dX10_init_1549 : decode cX10_init 1549 = .ok (.iconst 2, 1) := by decide +kernel
theorem dX10_init_1550 : decode cX10_init 1550 = .ok (.bipush 99, 2) := by decide +kernel
theorem dX10_init_1552 : decode cX10_init 1552 = .ok (.castore, 1) := by decide +kernel
theorem dX10_init_1553 : decode cX10_init 1553 = .ok (.dup, 1) := by decide +kernel
theorem dX10_init_1554 : decode cX10_init 1554 = .ok (.iconst 3, 1) := by decide +kernel
theorem dX10_init_1555 : decode cX10_init 1555 = .ok (.bipush 101, 2) := by decide +kernel
theorem dX10_init_1557 : decode cX10_init 1557 = .ok (.castore, 1) := by decide +kernel
theorem dX10_init_1558 : decode cX10_init 1558 = .ok (.putfield 240, 3) := by decide +kernel
theorem dX10_init_1561 : decode cX10_init 1561 = .ok (.aload_n 0, 1) := by decide +kernel
theorem dX10_init_1562 : decode cX10_init 1562 = .ok (.bipush 6, 2) := by decide +kernel
theorem dX10_init_1564 : decode cX10_init 1564 = .ok (.newarray .char, 2) := by decide +kernel
theorem dX10_init_1566 : decode cX10_init 1566 = .ok (.dup, 1) := by decide +kernel
theorem dX10_init_1567 : decode cX10_init 1567 = .ok (.iconst 0, 1) := by decide +kernel
theorem dX10_init_1568 : decode cX10_init 1568 = .ok (.bipush 116, 2) := by decide +kernel
theorem dX10_init_1570 : decode cX10_init 1570 = .ok (.castore, 1) := by decide +kernel
theorem dX10_init_1571 : decode cX10_init 1571 = .ok (.dup, 1) := by decide +kernel
theorem dX10_init_1572 : decode cX10_init 1572 = .ok (.iconst 1, 1) := by decide +kernel
theorem dX10_init_1573 : decode cX10_init 1573 = .ok (.bipush 114, 2) := by decide +kernel
theorem dX10_init_1575 : decode cX10_init 1575 = .ok (.castore, 1) := by decide +kernel
theorem dX10_init_1576 : decode cX10_init 1576 = .ok (.dup, 1) := by decide +kernel
theorem dX10_init_1577 : decode cX10_init 1577 = .ok (.iconst 2, 1) := by decide +kernel
theorem dX10_init_1578 : decode cX10_init 1578 = .ok (.bipush 117, 2) := by decide +kernel
theorem dX10_init_1580 : decode cX10_init 1580 = .ok (.castore, 1) := by decide +kernel
theorem dX10_init_1581 : decode cX10_init 1581 = .ok (.dup, 1) := by decide +kernel
theorem dX10_init_1582 : decode cX10_init 1582 = .ok (.iconst 3, 1) := by decide +kernel
theorem dX10_init_1583 : decode cX10_init 1583 = .ok (.bipush 115, 2) := by decide +kernel
theorem dX10_init_1585 : decode cX10_init 1585 = .ok (.castore, 1) := by decide +kernel
theorem dX10_init_1586 : decode cX10_init 1586 = .ok (.dup, 1) := by decide +kernel
theorem dX10_init_1587 : decode cX10_init 1587 = .ok (.iconst 4, 1) := by decide +kernel
theorem dX10_init_1588 : decode cX10_init 1588 = .ok (.bipush 116, 2) := by decide +kernel
theorem dX10_init_1590 : decode cX10_init 1590 = .ok (.castore, 1) := by decide +kernel
theorem dX10_init_1591 : decode cX10_init 1591 = .ok (.dup, 1) := by decide +kernel
theorem dX10_init_1592 : decode cX10_init 1592 = .ok (.iconst 5, 1) := by decide +kernel
theorem dX10_init_1593 : decode cX10_init 1593 = .ok (.bipush 115, 2) := by decide +kernel
theorem dX10_init_1595 : decode cX10_init 1595 = .ok (.castore, 1) := by decide +kernel
theorem dX10_init_1596 : decode cX10_init 1596 = .ok (.putfield 243, 3) := by decide +kernel
theorem dX10_init_1599 : decode cX10_init 1599 = .ok (.aload_n 0, 1) := by decide +kernel
theorem dX10_init_1600 : decode cX10_init 1600 = .ok (.iconst 3, 1) := by decide +kernel
theorem dX10_init_1601 : decode cX10_init 1601 = .ok (.newarray .char, 2) := by decide +kernel
theorem dX10_init_1603 : decode cX10_init 1603 = .ok (.dup, 1) := by decide +kernel
theorem dX10_init_1604 : decode cX10_init 1604 = .ok (.iconst 0, 1) := by decide +kernel
theorem dX10_init_1605 : decode cX10_init 1605 = .ok (.bipush 103, 2) := by decide +kernel
theorem dX10_init_1607 : decode cX10_init 1607 = .ok (.castore, 1) := by decide +kernel
theorem dX10_init_1608 : decode cX10_init 1608 = .ok (.dup, 1) := by decide +kernel
theorem dX10_init_1609 : decode cX10_init 1609 = .ok (.iconst 1, 1) := by decide +kernel
theorem dX10_init_1610 : decode cX10_init 1610 = .ok (.bipush 97, 2) := by decide +kernel
theorem dX10_init_1612 : decode cX10_init 1612 = .ok (.castore, 1) := by decide +kernel
theorem dX10_init_1613 : decode cX10_init 1613 = .ok (.dup, 1) := by decide +kernel
theorem dX10_init_1614 : decode cX10_init 1614 = .ok (.iconst 2, 1) := by decide +kernel
theorem dX10_init_1615 : decode cX10_init 1615 = .ok (.bipush 112, 2) := by decide +kernel
theorem dX10_init_1617 : decode cX10_init 1617 = .ok (.castore, 1) := by decide +kernel
theorem dX10_init_1618 : decode cX10_init 1618 = .ok (.putfield 246, 3) := by decide +kernel
theorem dX10_init_1621 : decode cX10_init 1621 = .ok (.aload_n 0, 1) := by decide +kernel
theorem dX10_init_1622 : decode cX10_init 1622 = .ok (.iconst 4, 1) := by decide +kernel
theorem dX10_init_1623 : decode cX10_init 1623 = .ok (.newarray .char, 2) := by decide +kernel
theorem dX10_init_1625 : decode cX10_init 1625 = .ok (.dup, 1) := by decide +kernel
theorem dX10_init_1626 : decode cX10_init 1626 = .ok (.iconst 0, 1) := by decide +kernel
theorem dX10_init_1627 : decode cX10_init 1627 = .ok (.bipush 114, 2) := by decide +kernel
theorem dX10_init_1629 : decode cX10_init 1629 = .ok (.castore, 1) := by decide +kernel
theorem dX10_init_1630 : decode cX10_init 1630 = .ok (.dup, 1) := by decide +kernel
theorem dX10_init_1631 : decode cX10_init 1631 = .ok (.iconst 1, 1) := by decide +kernel
theorem dX10_init_1632 : decode cX10_init 1632 = .ok (.bipush 101, 2) := by decide +kernel
theorem dX10_init_1634 : decode cX10_init 1634 = .ok (.castore, 1) := by decide +kernel
theorem dX10_init_1635 : decode cX10_init 1635 = .ok (.dup, 1) := by decide +kernel
theorem dX10_init_1636 : decode cX10_init 1636 = .ok (.iconst 2, 1) := by decide +kernel
theorem dX10_init_1637 : decode cX10_init 1637 = .ok (.bipush 100, 2) := by decide +kernel
theorem dX10_init_1639 : decode cX10_init 1639 = .ok (.castore, 1) := by decide +kernel
theorem dX10_init_1640 : decode cX10_init 1640 = .ok (.dup, 1) := by decide +kernel
theorem dX10_init_1641 : decode cX10_init 1641 = .ok (.iconst 3, 1) := by decide +kernel
theorem dX10_init_1642 : decode cX10_init 1642 = .ok (.bipush 115, 2) := by decide +kernel
theorem dX10_init_1644 : decode cX10_init 1644 = .ok (.castore, 1) := by decide +kernel
theorem dX10_init_1645 : decode cX10_init 1645 = .ok (.putfield 249, 3) := by decide +kernel
theorem dX10_init_1648 : decode cX10_init 1648 = .ok (.aload_n 0, 1) := by decide +kernel
theorem dX10_init_1649 : decode cX10_init 1649 = .ok (.bipush 6, 2) := by decide +kernel
theorem dX10_init_1651 : decode cX10_init 1651 = .ok (.newarray .char, 2) := by decide +kernel
theorem dX10_init_1653 : decode cX10_init 1653 = .ok (.dup, 1) := by decide +kernel
theorem dX10_init_1654 : decode cX10_init 1654 = .ok (.iconst 0, 1) := by decide +kernel
theorem dX10_init_1655 : decode cX10_init 1655 = .ok (.bipush 110, 2) := by decide +kernel
theorem dX10_init_1657 : decode cX10_init 1657 = .ok (.castore, 1) := by decide +kernel
theorem dX10_init_1658 : decode cX10_init 1658 = .ok (.dup, 1) := by decide +kernel
theorem dX10_init_1659 : decode cX10_init 1659 = .ok (.iconst 1, 1) := by decide +kernel
theorem dX10_init_1660 : decode cX10_init 1660 = .ok (.bipush 117, 2) := by decide +kernel
theorem dX10_init_1662 : decode cX10_init 1662 = .ok (.castore, 1) := by decide +kernel
theorem dX10_init_1663 : decode cX10_init 1663 = .ok (.dup, 1) := by decide +kernel
theorem dX10_init_1664 : decode cX10_init 1664 = .ok (.iconst 2, 1) := by decide +kernel
theorem dX10_init_1665 : decode cX10_init 1665 = .ok (.bipush 109, 2) := by decide +kernel
theorem dX10_init_1667 : decode cX10_init 1667 = .ok (.castore, 1) := by decide +kernel
theorem dX10_init_1668 : decode cX10_init 1668 = .ok (.dup, 1) := by decide +kernel
theorem dX10_init_1669 : decode cX10_init 1669 = .ok (.iconst 3, 1) := by decide +kernel
theorem dX10_init_1670 : decode cX10_init 1670 = .ok (.bipush 98, 2) := by decide +kernel
theorem dX10_init_1672 : decode cX10_init 1672 = .ok (.castore, 1) := by decide +kernel
theorem dX10_init_1673 : decode cX10_init 1673 = .ok (.dup, 1) := by decide +kernel
theorem dX10_init_1674 : decode cX10_init 1674 = .ok (.iconst 4, 1) := by decide +kernel
theorem dX10_init_1675 : decode cX10_init 1675 = .ok (.bipush 101, 2) := by decide +kernel
theorem dX10_init_1677 : decode cX10_init 1677 = .ok (.castore, 1) := by decide +kernel
theorem dX10_init_1678 : decode cX10_init 1678 = .ok (.dup, 1) := by decide +kernel
theorem dX10_init_1679 : decode cX10_init 1679 = .ok (.iconst 5, 1) := by decide +kernel
theorem dX10_init_1680 : decode cX10_init 1680 = .ok (.bipush 114, 2) := by decide +kernel
theorem dX10_init_1682 : decode cX10_init 1682 = .ok (.castore, 1) := by decide +kernel
theorem dX10_init_1683 : decode cX10_init 1683 = .ok (.putfield 252, 3) := by decide +kernel
theorem dX10_init_1686 : decode cX10_init 1686 = .ok (.aload_n 0, 1) := by decide +kernel
theorem dX10_init_1687 : decode cX10_init 1687 = .ok (.iconst 4, 1) := by decide +kernel
theorem dX10_init_1688 : decode cX10_init 1688 = .ok (.newarray .char, 2) := by decide +kernel
theorem dX10_init_1690 : decode cX10_init 1690 = .ok (.dup, 1) := by decide +kernel
theorem dX10_init_1691 : decode cX10_init 1691 = .ok (.iconst 0, 1) := by decide +kernel
theorem dX10_init_1692 : decode cX10_init 1692 = .ok (.bipush 119, 2) := by decide +kernel
theorem dX10_init_1694 : decode cX10_init 1694 = .ok (.castore, 1) := by decide +kernel
theorem dX10_init_1695 : decode cX10_init 1695 = .ok (.dup, 1) := by decide +kernel
theorem dX10_init_1696 : decode cX10_init 1696 = .ok (.iconst 1, 1) := by decide +kernel
theorem dX10_init_1697 : decode cX10_init 1697 = .ok (.bipush 101, 2) := by decide +kernel
theorem dX10_init_1699 : decode cX10_init 1699 = .ok (.castore, 1) := by decide +kernel
theorem dX10_init_1700 : decode cX10_init 1700 = .ok (.dup, 1) := by decide +kernel
theorem dX10_init_1701 : decode cX10_init 1701 = .ok (.iconst 2, 1) := by decide +kernel
theorem dX10_init_1702 : decode cX10_init 1702 = .ok (.bipush 110, 2) := by decide +kernel
theorem dX10_init_1704 : decode cX10_init 1704 = .ok (.castore, 1) := by decide +kernel
theorem dX10_init_1705 : decode cX10_init 1705 = .ok (.dup, 1) := by decide +kernel
theorem dX10_init_1706 : decode cX10_init 1706 = .ok (.iconst 3, 1) := by decide +kernel
theorem dX10_init_1707 : decode cX10_init 1707 = .ok (.bipush 116, 2) := by decide +kernel
theorem dX10_init_1709 : decode cX10_init 1709 = .ok (.castore, 1) := by decide +kernel
theorem dX10_init_1710 : decode cX10_init 1710 = .ok (.putfield 255, 3) := by decide +kernel
theorem dX10_init_1713 : decode cX10_init 1713 = .ok (.aload_n 0, 1) := by decide +kernel
theorem dX10_init_1714 : decode cX10_init 1714 = .ok (.iconst 4, 1) := by decide +kernel
theorem dX10_init_1715 : decode cX10_init 1715 = .ok (.newarray .char, 2) := by decide +kernel
theorem dX10_init_1717 : decode cX10_init 1717 = .ok (.dup, 1) := by decide +kernel
theorem dX10_init_1718 : decode cX10_init 1718 = .ok (.iconst 0, 1) := by decide +kernel
theorem dX10_init_1719 : decode cX10_init 1719 = .ok (.bipush 104, 2) := by decide +kernel
theorem dX10_init_1721 : decode cX10_init 1721 = .ok (.castore, 1) := by decide +kernel
theorem dX10_init_1722 : decode cX10_init 1722 = .ok (.dup, 1) := by decide +kernel
theorem dX10_init_1723 : decode cX10_init 1723 = .ok (.iconst 1, 1) := by decide +kernel
theorem dX10_init_1724 : decode cX10_init 1724 = .ok (.bipush 97, 2) := by decide +kernel
theorem dX10_init_1726 : decode cX10_init 1726 = .ok (.castore, 1) := by decide +kernel
theorem dX10_init_1727 : decode cX10_init 1727 = .ok (.dup, 1) := by decide +kernel
theorem dX10_init_1728 : decode cX10_init 1728 = .ok (.iconst 2, 1) := by decide +kernel
theorem dX10_init_1729 : decode cX10_init 1729 = .ok (.bipush 114, 2) := by decide +kernel
theorem dX10_init_1731 : decode cX10_init 1731 = .ok (.castore, 1) := by decide +kernel
theorem dX10_init_1732 : decode cX10_init 1732 = .ok (.dup, 1) := by decide +kernel
theorem dX10_init_1733 : decode cX10_init 1733 = .ok (.iconst 3, 1) := by decide +kernel
theorem dX10_init_1734 : decode cX10_init 1734 = .ok (.bipush 109, 2) := by decide +kernel
theorem dX10_init_1736 : decode cX10_init 1736 = .ok (.castore, 1) := by decide +kernel
theorem dX10_init_1737 : decode cX10_init 1737 = .ok (.putfield 258, 3) := by decide +kernel
theorem dX10_init_1740 : decode cX10_init 1740 = .ok (.aload_n 0, 1) := by decide +kernel
theorem dX10_init_1741 : decode cX10_init 1741 = .ok (.iconst 4, 1) := by decide +kernel
theorem dX10_init_1742 : decode cX10_init 1742 = .ok (.newarray .char, 2) := by decide +kernel
theorem dX10_init_1744 : decode cX10_init 1744 = .ok (.dup, 1) := by decide +kernel
theorem dX10_init_1745 : decode cX10_init 1745 = .ok (.iconst 0, 1) := by decide +kernel
theorem dX10_init_1746 : decode cX10_init 1746 = .ok (.bipush 107, 2) := by decide +kernel
theorem dX10_init_1748 : decode cX10_init 1748 = .ok (.castore, 1) := by decide +kernel
theorem dX10_init_1749 : decode cX10_init 1749 = .ok (.dup, 1) := by decide +kernel
theorem dX10_init_1750 : decode cX10_init 1750 = .ok (.iconst 1, 1) := by decide +kernel
theorem dX10_init_1751 : decode cX10_init 1751 = .ok (.bipush 105, 2) := by decide +kernel
theorem dX10_init_1753 : decode cX10_init 1753 = .ok (.castore, 1) := by decide +kernel
theorem dX10_init_1754 : decode cX10_init 1754 = .ok (.dup, 1) := by decide +kernel
theorem dX10_init_1755 : decode cX10_init 1755 = .ok (.iconst 2, 1) := by decide +kernel
theorem dX10_init_1756 : decode cX10_init 1756 = .ok (.bipush 110, 2) := by decide +kernel
theorem dX10_init_1758 : decode cX10_init 1758 = .ok (.castore, 1) := by decide +kernel
theorem dX10_init_1759 : decode cX10_init 1759 = .ok (.dup, 1) := by decide +kernel
theorem dX10_init_1760 : decode cX10_init 1760 = .ok (.iconst 3, 1) := by decide +kernel
theorem dX10_init_1761 : decode cX10_init 1761 = .ok (.bipush 100, 2) := by decide +kernel
theorem dX10_init_1763 : decode cX10_init 1763 = .ok (.castore, 1) := by decide +kernel
theorem dX10_init_1764 : decode cX10_init 1764 = .ok (.putfield 261, 3) := by decide +kernel
theorem dX10_init_1767 : decode cX10_init 1767 = .ok (.aload_n 0, 1) := by decide +kernel
theorem dX10_init_1768 : decode cX10_init 1768 = .ok (.sipush 1700, 3) := by decide +kernel
theorem dX10_init_1771 : decode cX10_init 1771 = .ok (.newarray .int, 2) := by decide +kernel
theorem dX10_init_1773 : decode cX10_init 1773 = .ok (.putfield 264, 3) := by decide +kernel
theorem dX10_init_1776 : decode cX10_init 1776 = .ok (.aload_n 0, 1) := by decide +kernel
theorem dX10_init_1777 : decode cX10_init 1777 = .ok (.sipush 1700, 3) := by decide +kernel
theorem dX10_init_1780 : decode cX10_init 1780 = .ok (.newarray .int, 2) := by decide +kernel
theorem dX10_init_1782 : decode cX10_init 1782 = .ok (.putfield 267, 3) := by decide +kernel
theorem dX10_init_1785 : decode cX10_init 1785 = .ok (.aload_n 0, 1) := by decide +kernel
theorem dX10_init_1786 : decode cX10_init 1786 = .ok (.sipush 1700, 3) := by decide +kernel
theorem dX10_init_1789 : decode cX10_init 1789 = .ok (.newarray .long, 2) := by decide +kernel
theorem dX10_init_1791 : decode cX10_init 1791 = .ok (.putfield 270, 3) := by decide +kernel
theorem dX10_init_1794 : decode cX10_init 1794 = .ok (.aload_n 0, 1) := by decide +kernel
theorem dX10_init_1795 : decode cX10_init 1795 = .ok (.bipush 11, 2) := by decide +kernel
theorem dX10_init_1797 : decode cX10_init 1797 = .ok (.newarray .int, 2) := by decide +kernel
theorem dX10_init_1799 : decode cX10_init 1799 = .ok (.putfield 273, 3) := by decide +kernel
theorem dX10_init_1802 : decode cX10_init 1802 = .ok (.return_, 1) := by decide +kernel
