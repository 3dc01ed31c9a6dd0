theorem fp_X10_7 : k_fl RX10 7 10 0 true (.array .int) := ⟨RX10, TX10, 122, tyX10, cl_X10, by decide, wd158, rfl, tyX10_ok 0 (by decide), fun h => rfl⟩
theorem fp_X10_13 : k_fl RX10 13 10 8 false .int := ⟨RX10, TX10, 122, tyX10, cl_X10, by decide, wd159, rfl, tyX10_ok 8 (by decide), fun h => by cases h⟩
theorem fp_X10_17 : k_fl RX10 17 10 9 true (.array .int) := ⟨RX10, TX10, 122, tyX10, cl_X10, by decide, wd160, rfl, tyX10_ok 9 (by decide), fun h => rfl⟩
theorem fp_X10_20 : k_fl RX10 20 10 10 true (.array .char) := ⟨RX10, TX10, 122, tyX10, cl_X10, by decide, wd162, rfl, tyX10_ok 10 (by decide), fun h => rfl⟩
theorem fp_X10_24 : k_fl RX10 24 10 11 true (.array .char) := ⟨RX10, TX10, 122, tyX10, cl_X10, by decide, wd163, rfl, tyX10_ok 11 (by decide), fun h => rfl⟩
theorem fp_X10_27 : k_fl RX10 27 10 12 true (.array .char) := ⟨RX10, TX10, 122, tyX10, cl_X10, by decide, wd164, rfl, tyX10_ok 12 (by decide), fun h => rfl⟩
theorem fp_X10_30 : k_fl RX10 30 10 13 true (.array .char) := ⟨RX10, TX10, 122, tyX10, cl_X10, by decide, wd165, rfl, tyX10_ok 13 (by decide), fun h => rfl⟩
theorem fp_X10_33 : k_fl RX10 33 10 14 true (.array .char) := ⟨RX10, TX10, 122, tyX10, cl_X10, by decide, wd166, rfl, tyX10_ok 14 (by decide), fun h => rfl⟩
theorem fp_X10_36 : k_fl RX10 36 10 15 true (.array .char) := ⟨RX10, TX10, 122, tyX10, cl_X10, by decide, wd167, rfl, tyX10_ok 15 (by decide), fun h => rfl⟩
theorem fp_X10_39 : k_fl RX10 39 10 16 true (.array .char) := ⟨RX10, TX10, 122, tyX10, cl_X10, by decide, wd168, rfl, tyX10_ok 16 (by decide), fun h => rfl⟩
theorem fp_X10_42 : k_fl RX10 42 10 17 true (.array .char) := ⟨RX10, TX10, 122, tyX10, cl_X10, by decide, wd169, rfl, tyX10_ok 17 (by decide), fun h => rfl⟩
theorem fp_X10_45 : k_fl RX10 45 10 18 true (.array .char) := ⟨RX10, TX10, 122, tyX10, cl_X10, by decide, wd170, rfl, tyX10_ok 18 (by decide), fun h => rfl⟩
theorem fp_X10_48 : k_fl RX10 48 10 19 true (.array .char) := ⟨RX10, TX10, 122, tyX10, cl_X10, by decide, wd171, rfl, tyX10_ok 19 (by decide), fun h => rfl⟩
theorem fp_X10_51 : k_fl RX10 51 10 20 true (.array .char) := ⟨RX10, TX10, 122, tyX10, cl_X10, by decide, wd172, rfl, tyX10_ok 20 (by decide), fun h => rfl⟩
theorem fp_X10_54 : k_fl RX10 54 10 21 true (.array .char) := ⟨RX10, TX10, 122, tyX10, cl_X10, by decide, wd173, rfl, tyX10_ok 21 (by decide), fun h => rfl⟩
theorem fp_X10_57 : k_fl RX10 57 10 22 true (.array .char) := ⟨RX10, TX10, 122, tyX10, cl_X10, by decide, wd174, rfl, tyX10_ok 22 (by decide), fun h => rfl⟩
theorem fp_X10_60 : k_fl RX10 60 10 23 true (.array .char) := ⟨RX10, TX10, 122, tyX10, cl_X10, by decide, wd175, rfl, tyX10_ok 23 (by decide), fun h => rfl⟩
theorem fp_X10_63 : k_fl RX10 63 10 24 true (.array .char) := ⟨RX10, TX10, 122, tyX10, cl_X10, by decide, wd176, rfl, tyX10_ok 24 (by decide), fun h => rfl⟩
theorem fp_X10_66 : k_fl RX10 66 10 25 true (.array .char) := ⟨RX10, TX10, 122, tyX10, cl_X10, by decide, wd177, rfl, tyX10_ok 25 (by decide), fun h => rfl⟩
theorem fp_X10_69 : k_fl RX10 69 10 26 true (.array .char) := ⟨RX10, TX10, 122, tyX10, cl_X10, by decide, wd178, rfl, tyX10_ok 26 (by decide), fun h => rfl⟩
theorem fp_X10_72 : k_fl RX10 72 10 27 true (.array .char) := ⟨RX10, TX10, 122, tyX10, cl_X10, by decide, wd179, rfl, tyX10_ok 27 (by decide), fun h => rfl⟩
theorem fp_X10_75 : k_fl RX10 75 10 28 true (.array .char) := ⟨RX10, TX10, 122, tyX10, cl_X10, by decide, wd180, rfl, tyX10_ok 28 (by decide), fun h => rfl⟩
theorem fp_X10_78 : k_fl RX10 78 10 29 true (.array .char) := ⟨RX10, TX10, 122, tyX10, cl_X10, by decide, wd181, rfl, tyX10_ok 29 (by decide), fun h => rfl⟩
theorem fp_X10_81 : k_fl RX10 81 10 30 true (.array .char) := ⟨RX10, TX10, 122, tyX10, cl_X10, by decide, wd182, rfl, tyX10_ok 30 (by decide), fun h => rfl⟩
theorem fp_X10_84 : k_fl RX10 84 10 31 true (.array .char) := ⟨RX10, TX10, 122, tyX10, cl_X10, by decide, wd183, rfl, tyX10_ok 31 (by decide), fun h => rfl⟩
theorem fp_X10_87 : k_fl RX10 87 10 32 true (.array .char) := ⟨RX10, TX10, 122, tyX10, cl_X10, by decide, wd184, rfl, tyX10_ok 32 (by decide), fun h => rfl⟩
theorem fp_X10_90 : k_fl RX10 90 10 33 true (.array .char) := ⟨RX10, TX10, 122, tyX10, cl_X10, by decide, wd185, rfl, tyX10_ok 33 (by decide), fun h => rfl⟩
theorem fp_X10_93 : k_fl RX10 93 10 34 true (.array .char) := ⟨RX10, TX10, 122, tyX10, cl_X10, by decide, wd186, rfl, tyX10_ok 34 (by decide), fun h => rfl⟩
theorem fp_X10_96 : k_fl RX10 96 10 35 true (.array .char) := ⟨RX10, TX10, 122, tyX10, cl_X10, by decide, wd187, rfl, tyX10_ok 35 (by decide), fun h => rfl⟩
theorem fp_X10_99 : k_fl RX10 99 10 36 true (.array .char) := ⟨RX10, TX10, 122, tyX10, cl_X10, by decide, wd188, rfl, tyX10_ok 36 (by decide), fun h => rfl⟩
theorem fp_X10_102 : k_fl RX10 102 10 37 true (.array .char) := ⟨RX10, TX10, 122, tyX10, cl_X10, by decide, wd189, rfl, tyX10_ok 37 (by decide), fun h => rfl⟩
theorem fp_X10_105 : k_fl RX10 105 10 38 true (.array .char) := ⟨RX10, TX10, 122, tyX10, cl_X10, by decide, wd190, rfl, tyX10_ok 38 (by decide), fun h => rfl⟩
theorem fp_X10_108 : k_fl RX10 108 10 39 true (.array .char) := ⟨RX10, TX10, 122, tyX10, cl_X10, by decide, wd191, rfl, tyX10_ok 39 (by decide), fun h => rfl⟩
theorem fp_X10_111 : k_fl RX10 111 10 41 true (.array .int) := ⟨RX10, TX10, 122, tyX10, cl_X10, by decide, wd192, rfl, tyX10_ok 41 (by decide), fun h => rfl⟩
theorem fp_X10_114 : k_fl RX10 114 10 42 true (.array .long) := ⟨RX10, TX10, 122, tyX10, cl_X10, by decide, wd194, rfl, tyX10_ok 42 (by decide), fun h => rfl⟩
theorem fp_X10_118 : k_fl RX10 118 10 43 true (.array .int) := ⟨RX10, TX10, 122, tyX10, cl_X10, by decide, wd195, rfl, tyX10_ok 43 (by decide), fun h => rfl⟩
theorem fp_X10_121 : k_fl RX10 121 10 44 true (.array .int) := ⟨RX10, TX10, 122, tyX10, cl_X10, by decide, wd196, rfl, tyX10_ok 44 (by decide), fun h => rfl⟩
theorem fp_X10_124 : k_fl RX10 124 10 45 true (.array .int) := ⟨RX10, TX10, 122, tyX10, cl_X10, by decide, wd197, rfl, tyX10_ok 45 (by decide), fun h => rfl⟩
theorem fp_X10_127 : k_fl RX10 127 10 46 true (.array .int) := ⟨RX10, TX10, 122, tyX10, cl_X10, by decide, wd198, rfl, tyX10_ok 46 (by decide), fun h => rfl⟩
theorem fp_X10_130 : k_fl RX10 130 10 49 true (.array .int) := ⟨RX10, TX10, 122, tyX10, cl_X10, by decide, wd199, rfl, tyX10_ok 49 (by decide), fun h => rfl⟩
theorem fp_X10_133 : k_fl RX10 133 10 50 true (.array .int) := ⟨RX10, TX10, 122, tyX10, cl_X10, by decide, wd200, rfl, tyX10_ok 50 (by decide), fun h => rfl⟩
theorem fp_X10_136 : k_fl RX10 136 10 51 true (.array .int) := ⟨RX10, TX10, 122, tyX10, cl_X10, by decide, wd201, rfl, tyX10_ok 51 (by decide), fun h => rfl⟩
theorem fp_X10_139 : k_fl RX10 139 10 56 true (.array .int) := ⟨RX10, TX10, 122, tyX10, cl_X10, by decide, wd202, rfl, tyX10_ok 56 (by decide), fun h => rfl⟩
theorem fp_X10_142 : k_fl RX10 142 10 57 true (.array .int) := ⟨RX10, TX10, 122, tyX10, cl_X10, by decide, wd203, rfl, tyX10_ok 57 (by decide), fun h => rfl⟩
theorem fp_X10_145 : k_fl RX10 145 10 60 true (.array .boolean) := ⟨RX10, TX10, 122, tyX10, cl_X10, by decide, wd205, rfl, tyX10_ok 60 (by decide), fun h => rfl⟩
theorem fp_X10_149 : k_fl RX10 149 10 61 true (.array .int) := ⟨RX10, TX10, 122, tyX10, cl_X10, by decide, wd206, rfl, tyX10_ok 61 (by decide), fun h => rfl⟩
theorem fp_X10_152 : k_fl RX10 152 10 62 true (.array .boolean) := ⟨RX10, TX10, 122, tyX10, cl_X10, by decide, wd207, rfl, tyX10_ok 62 (by decide), fun h => rfl⟩
theorem fp_X10_155 : k_fl RX10 155 10 63 true (.array .boolean) := ⟨RX10, TX10, 122, tyX10, cl_X10, by decide, wd208, rfl, tyX10_ok 63 (by decide), fun h => rfl⟩
theorem fp_X10_158 : k_fl RX10 158 10 64 true (.array .int) := ⟨RX10, TX10, 122, tyX10, cl_X10, by decide, wd209, rfl, tyX10_ok 64 (by decide), fun h => rfl⟩
theorem fp_X10_161 : k_fl RX10 161 10 65 true (.array .int) := ⟨RX10, TX10, 122, tyX10, cl_X10, by decide, wd210, rfl, tyX10_ok 65 (by decide), fun h => rfl⟩
theorem fp_X10_164 : k_fl RX10 164 10 66 true (.array .boolean) := ⟨RX10, TX10, 122, tyX10, cl_X10, by decide, wd211, rfl, tyX10_ok 66 (by decide), fun h => rfl⟩
theorem fp_X10_167 : k_fl RX10 167 10 67 true (.array .boolean) := ⟨RX10, TX10, 122, tyX10, cl_X10, by decide, wd212, rfl, tyX10_ok 67 (by decide), fun h => rfl⟩
theorem fp_X10_170 : k_fl RX10 170 10 68 true (.array .boolean) := ⟨RX10, TX10, 122, tyX10, cl_X10, by decide, wd213, rfl, tyX10_ok 68 (by decide), fun h => rfl⟩
theorem fp_X10_173 : k_fl RX10 173 10 69 true (.array .boolean) := ⟨RX10, TX10, 122, tyX10, cl_X10, by decide, wd214, rfl, tyX10_ok 69 (by decide), fun h => rfl⟩
theorem fp_X10_176 : k_fl RX10 176 10 76 true (.array .int) := ⟨RX10, TX10, 122, tyX10, cl_X10, by decide, wd215, rfl, tyX10_ok 76 (by decide), fun h => rfl⟩
theorem fp_X10_179 : k_fl RX10 179 10 77 true (.array .int) := ⟨RX10, TX10, 122, tyX10, cl_X10, by decide, wd216, rfl, tyX10_ok 77 (by decide), fun h => rfl⟩
theorem fp_X10_182 : k_fl RX10 182 10 81 true (.array .int) := ⟨RX10, TX10, 122, tyX10, cl_X10, by decide, wd217, rfl, tyX10_ok 81 (by decide), fun h => rfl⟩
theorem fp_X10_185 : k_fl RX10 185 10 84 false .long := ⟨RX10, TX10, 122, tyX10, cl_X10, by decide, wd218, rfl, tyX10_ok 84 (by decide), fun h => by cases h⟩
theorem fp_X10_189 : k_fl RX10 189 10 85 true (.array .char) := ⟨RX10, TX10, 122, tyX10, cl_X10, by decide, wd219, rfl, tyX10_ok 85 (by decide), fun h => rfl⟩
theorem fp_X10_192 : k_fl RX10 192 10 86 true (.array .char) := ⟨RX10, TX10, 122, tyX10, cl_X10, by decide, wd220, rfl, tyX10_ok 86 (by decide), fun h => rfl⟩
theorem fp_X10_195 : k_fl RX10 195 10 87 true (.array .char) := ⟨RX10, TX10, 122, tyX10, cl_X10, by decide, wd221, rfl, tyX10_ok 87 (by decide), fun h => rfl⟩
theorem fp_X10_198 : k_fl RX10 198 10 88 true (.array .char) := ⟨RX10, TX10, 122, tyX10, cl_X10, by decide, wd222, rfl, tyX10_ok 88 (by decide), fun h => rfl⟩
theorem fp_X10_201 : k_fl RX10 201 10 89 true (.array .char) := ⟨RX10, TX10, 122, tyX10, cl_X10, by decide, wd223, rfl, tyX10_ok 89 (by decide), fun h => rfl⟩
theorem fp_X10_204 : k_fl RX10 204 10 90 true (.array .char) := ⟨RX10, TX10, 122, tyX10, cl_X10, by decide, wd224, rfl, tyX10_ok 90 (by decide), fun h => rfl⟩
theorem fp_X10_207 : k_fl RX10 207 10 91 true (.array .char) := ⟨RX10, TX10, 122, tyX10, cl_X10, by decide, wd225, rfl, tyX10_ok 91 (by decide), fun h => rfl⟩
theorem fp_X10_210 : k_fl RX10 210 10 92 true (.array .char) := ⟨RX10, TX10, 122, tyX10, cl_X10, by decide, wd226, rfl, tyX10_ok 92 (by decide), fun h => rfl⟩
theorem fp_X10_213 : k_fl RX10 213 10 93 true (.array .char) := ⟨RX10, TX10, 122, tyX10, cl_X10, by decide, wd227, rfl, tyX10_ok 93 (by decide), fun h => rfl⟩
theorem fp_X10_216 : k_fl RX10 216 10 94 true (.array .char) := ⟨RX10, TX10, 122, tyX10, cl_X10, by decide, wd228, rfl, tyX10_ok 94 (by decide), fun h => rfl⟩
theorem fp_X10_219 : k_fl RX10 219 10 95 true (.array .char) := ⟨RX10, TX10, 122, tyX10, cl_X10, by decide, wd229, rfl, tyX10_ok 95 (by decide), fun h => rfl⟩
theorem fp_X10_222 : k_fl RX10 222 10 96 true (.array .char) := ⟨RX10, TX10, 122, tyX10, cl_X10, by decide, wd230, rfl, tyX10_ok 96 (by decide), fun h => rfl⟩
theorem fp_X10_225 : k_fl RX10 225 10 97 true (.array .char) := ⟨RX10, TX10, 122, tyX10, cl_X10, by decide, wd231, rfl, tyX10_ok 97 (by decide), fun h => rfl⟩
theorem fp_X10_228 : k_fl RX10 228 10 98 true (.array .char) := ⟨RX10, TX10, 122, tyX10, cl_X10, by decide, wd232, rfl, tyX10_ok 98 (by decide), fun h => rfl⟩
theorem fp_X10_231 : k_fl RX10 231 10 99 true (.array .char) := ⟨RX10, TX10, 122, tyX10, cl_X10, by decide, wd233, rfl, tyX10_ok 99 (by decide), fun h => rfl⟩
theorem fp_X10_234 : k_fl RX10 234 10 100 true (.array .char) := ⟨RX10, TX10, 122, tyX10, cl_X10, by decide, wd234, rfl, tyX10_ok 100 (by decide), fun h => rfl⟩
theorem fp_X10_237 : k_fl RX10 237 10 101 true (.array .char) := ⟨RX10, TX10, 122, tyX10, cl_X10, by decide, wd235, rfl, tyX10_ok 101 (by decide), fun h => rfl⟩
theorem fp_X10_240 : k_fl RX10 240 10 102 true (.array .char) := ⟨RX10, TX10, 122, tyX10, cl_X10, by decide, wd236, rfl, tyX10_ok 102 (by decide), fun h => rfl⟩
theorem fp_X10_243 : k_fl RX10 243 10 103 true (.array .char) := ⟨RX10, TX10, 122, tyX10, cl_X10, by decide, wd237, rfl, tyX10_ok 103 (by decide), fun h => rfl⟩
theorem fp_X10_246 : k_fl RX10 246 10 104 true (.array .char) := ⟨RX10, TX10, 122, tyX10, cl_X10, by decide, wd238, rfl, tyX10_ok 104 (by decide), fun h => rfl⟩
theorem fp_X10_249 : k_fl RX10 249 10 105 true (.array .char) := ⟨RX10, TX10, 122, tyX10, cl_X10, by decide, wd239, rfl, tyX10_ok 105 (by decide), fun h => rfl⟩
theorem fp_X10_252 : k_fl RX10 252 10 106 true (.array .char) := ⟨RX10, TX10, 122, tyX10, cl_X10, by decide, wd240, rfl, tyX10_ok 106 (by decide), fun h => rfl⟩
theorem fp_X10_255 : k_fl RX10 255 10 107 true (.array .char) := ⟨RX10, TX10, 122, tyX10, cl_X10, by decide, wd241, rfl, tyX10_ok 107 (by decide), fun h => rfl⟩
theorem fp_X10_258 : k_fl RX10 258 10 108 true (.array .char) := ⟨RX10, TX10, 122, tyX10, cl_X10, by decide, wd242, rfl, tyX10_ok 108 (by decide), fun h => rfl⟩
theorem fp_X10_261 : k_fl RX10 261 10 109 true (.array .char) := ⟨RX10, TX10, 122, tyX10, cl_X10, by decide, wd243, rfl, tyX10_ok 109 (by decide), fun h => rfl⟩
theorem fp_X10_264 : k_fl RX10 264 10 110 true (.array .int) := ⟨RX10, TX10, 122, tyX10, cl_X10, by decide, wd244, rfl, tyX10_ok 110 (by decide), fun h => rfl⟩
theorem fp_X10_267 : k_fl RX10 267 10 112 true (.array .int) := ⟨RX10, TX10, 122, tyX10, cl_X10, by decide, wd245, rfl, tyX10_ok 112 (by decide), fun h => rfl⟩
theorem fp_X10_270 : k_fl RX10 270 10 116 true (.array .long) := ⟨RX10, TX10, 122, tyX10, cl_X10, by decide, wd246, rfl, tyX10_ok 116 (by decide), fun h => rfl⟩
theorem fp_X10_273 : k_fl RX10 273 10 120 true (.array .int) := ⟨RX10, TX10, 122, tyX10, cl_X10, by decide, wd247, rfl, tyX10_ok 120 (by decide), fun h => rfl⟩
theorem fg_X10_276 : k_fg RX10 276 10 1 := ⟨RX10, TX10, 122, tyX10, cl_X10, by decide, wd264⟩
theorem fg_X10_17 : k_fg RX10 17 10 9 := ⟨RX10, TX10, 122, tyX10, cl_X10, by decide, wd160⟩
theorem fg_X10_7 : k_fg RX10 7 10 0 := ⟨RX10, TX10, 122, tyX10, cl_X10, by decide, wd158⟩
theorem fp_X10_276 : k_fl RX10 276 10 1 false .int := ⟨RX10, TX10, 122, tyX10, cl_X10, by decide, wd264, rfl, tyX10_ok 1 (by decide), fun h => by cases h⟩
theorem fg_X10_279 : k_fg RX10 279 10 5 := ⟨RX10, TX10, 122, tyX10, cl_X10, by decide, wd554⟩
theorem fp_X10_279 : k_fl RX10 279 10 5 false .int := ⟨RX10, TX10, 122, tyX10, cl_X10, by decide, wd554, rfl, tyX10_ok 5 (by decide), fun h => by cases h⟩
theorem fp_X10_282 : k_fl RX10 282 10 6 false .int := ⟨RX10, TX10, 122, tyX10, cl_X10, by decide, wd555, rfl, tyX10_ok 6 (by decide), fun h => by cases h⟩
theorem fg_X10_285 : k_fg RX10 285 10 2 := ⟨RX10, TX10, 122, tyX10, cl_X10, by decide, wd552⟩
theorem fg_X10_288 : k_fg RX10 288 10 3 := ⟨RX10, TX10, 122, tyX10, cl_X10, by decide, wd551⟩
theorem fp_X10_285 : k_fl RX10 285 10 2 false .int := ⟨RX10, TX10, 122, tyX10, cl_X10, by decide, wd552, rfl, tyX10_ok 2 (by decide), fun h => by cases h⟩
theorem mV_X10_291 : k_mv RX10 291 RX10 yX10_look cX10_look 1 (some .int) 0 := ⟨wd576, wd577, wd578, wd5, wd579, by decide +kernel⟩
theorem mS_X10_295 : k_ms RX10 295 yX10_isLetter cX10_isLetter 1 (some .boolean) 1 := ⟨wd580, wd581, wd5, wd582, by decide +kernel⟩
theorem fg_X10_299 : k_fg RX10 299 10 4 := ⟨RX10, TX10, 122, tyX10, cl_X10, by decide, wd553⟩
theorem mV_X10_302 : k_mv RX10 302 RX10 yX10_isHere cX10_isHere 4 (some .boolean) 1 := ⟨wd572, wd573, wd574, wd5, wd575, by decide +kernel⟩
theorem fp_X10_299 : k_fl RX10 299 10 4 false .int := ⟨RX10, TX10, 122, tyX10, cl_X10, by decide, wd553, rfl, tyX10_ok 4 (by decide), fun h => by cases h⟩
theorem mV_X10_305 : k_mv RX10 305 RX10 yX10_takes cX10_takes 2 (some .boolean) 1 := ⟨wd568, wd569, wd570, wd5, wd571, by decide +kernel⟩
theorem mV_X10_308 : k_mv RX10 308 RX10 yX10_fail cX10_fail 3 none 2 := ⟨wd583, wd584, wd585, wd5, wd586, by decide +kernel⟩
theorem mV_X10_312 : k_mv RX10 312 RX10 yX10_takesSign cX10_takesSign 2 (some .boolean) 1 := ⟨wd601, wd602, wd603, wd5, wd604, by decide +kernel⟩
theorem mS_X10_315 : k_ms RX10 315 yX10_isDigit cX10_isDigit 1 (some .boolean) 1 := ⟨wd591, wd592, wd5, wd593, by decide +kernel⟩
theorem mS_X10_318 : k_ms RX10 318 yX10_isIn cX10_isIn 6 (some .boolean) 3 := ⟨wd594, wd595, wd5, wd596, by decide +kernel⟩
theorem fg_X10_20 : k_fg RX10 20 10 10 := ⟨RX10, TX10, 122, tyX10, cl_X10, by decide, wd162⟩
theorem fg_X10_24 : k_fg RX10 24 10 11 := ⟨RX10, TX10, 122, tyX10, cl_X10, by decide, wd163⟩
theorem fg_X10_27 : k_fg RX10 27 10 12 := ⟨RX10, TX10, 122, tyX10, cl_X10, by decide, wd164⟩
theorem fg_X10_30 : k_fg RX10 30 10 13 := ⟨RX10, TX10, 122, tyX10, cl_X10, by decide, wd165⟩
theorem fg_X10_33 : k_fg RX10 33 10 14 := ⟨RX10, TX10, 122, tyX10, cl_X10, by decide, wd166⟩
theorem fg_X10_36 : k_fg RX10 36 10 15 := ⟨RX10, TX10, 122, tyX10, cl_X10, by decide, wd167⟩
theorem fg_X10_39 : k_fg RX10 39 10 16 := ⟨RX10, TX10, 122, tyX10, cl_X10, by decide, wd168⟩
theorem fg_X10_42 : k_fg RX10 42 10 17 := ⟨RX10, TX10, 122, tyX10, cl_X10, by decide, wd169⟩
theorem fg_X10_45 : k_fg RX10 45 10 18 := ⟨RX10, TX10, 122, tyX10, cl_X10, by decide, wd170⟩
theorem fg_X10_48 : k_fg RX10 48 10 19 := ⟨RX10, TX10, 122, tyX10, cl_X10, by decide, wd171⟩
theorem fg_X10_51 : k_fg RX10 51 10 20 := ⟨RX10, TX10, 122, tyX10, cl_X10, by decide, wd172⟩
theorem fg_X10_54 : k_fg RX10 54 10 21 := ⟨RX10, TX10, 122, tyX10, cl_X10, by decide, wd173⟩
theorem fg_X10_57 : k_fg RX10 57 10 22 := ⟨RX10, TX10, 122, tyX10, cl_X10, by decide, wd174⟩
theorem fg_X10_60 : k_fg RX10 60 10 23 := ⟨RX10, TX10, 122, tyX10, cl_X10, by decide, wd175⟩
theorem fg_X10_63 : k_fg RX10 63 10 24 := ⟨RX10, TX10, 122, tyX10, cl_X10, by decide, wd176⟩
theorem fg_X10_66 : k_fg RX10 66 10 25 := ⟨RX10, TX10, 122, tyX10, cl_X10, by decide, wd177⟩
theorem fg_X10_69 : k_fg RX10 69 10 26 := ⟨RX10, TX10, 122, tyX10, cl_X10, by decide, wd178⟩
theorem fg_X10_72 : k_fg RX10 72 10 27 := ⟨RX10, TX10, 122, tyX10, cl_X10, by decide, wd179⟩
theorem fg_X10_75 : k_fg RX10 75 10 28 := ⟨RX10, TX10, 122, tyX10, cl_X10, by decide, wd180⟩
theorem fg_X10_78 : k_fg RX10 78 10 29 := ⟨RX10, TX10, 122, tyX10, cl_X10, by decide, wd181⟩
theorem fg_X10_81 : k_fg RX10 81 10 30 := ⟨RX10, TX10, 122, tyX10, cl_X10, by decide, wd182⟩
theorem fg_X10_84 : k_fg RX10 84 10 31 := ⟨RX10, TX10, 122, tyX10, cl_X10, by decide, wd183⟩
theorem fg_X10_87 : k_fg RX10 87 10 32 := ⟨RX10, TX10, 122, tyX10, cl_X10, by decide, wd184⟩
theorem fg_X10_90 : k_fg RX10 90 10 33 := ⟨RX10, TX10, 122, tyX10, cl_X10, by decide, wd185⟩
theorem fg_X10_93 : k_fg RX10 93 10 34 := ⟨RX10, TX10, 122, tyX10, cl_X10, by decide, wd186⟩
theorem fg_X10_96 : k_fg RX10 96 10 35 := ⟨RX10, TX10, 122, tyX10, cl_X10, by decide, wd187⟩
theorem fg_X10_99 : k_fg RX10 99 10 36 := ⟨RX10, TX10, 122, tyX10, cl_X10, by decide, wd188⟩
theorem fg_X10_102 : k_fg RX10 102 10 37 := ⟨RX10, TX10, 122, tyX10, cl_X10, by decide, wd189⟩
theorem fg_X10_105 : k_fg RX10 105 10 38 := ⟨RX10, TX10, 122, tyX10, cl_X10, by decide, wd190⟩
theorem fg_X10_108 : k_fg RX10 108 10 39 := ⟨RX10, TX10, 122, tyX10, cl_X10, by decide, wd191⟩
theorem mV_X10_322 : k_mv RX10 322 RX10 yX10_isOwnHere cX10_isOwnHere 2 (some .boolean) 0 := ⟨wd628, wd629, wd630, wd5, wd631, by decide +kernel⟩
theorem fp_X10_326 : k_fl RX10 326 10 40 false .int := ⟨RX10, TX10, 122, tyX10, cl_X10, by decide, wd621, rfl, tyX10_ok 40 (by decide), fun h => by cases h⟩
theorem fg_X10_326 : k_fg RX10 326 10 40 := ⟨RX10, TX10, 122, tyX10, cl_X10, by decide, wd621⟩
theorem fg_X10_333 : k_fg RX10 333 10 55 := ⟨RX10, TX10, 122, tyX10, cl_X10, by decide, wd644⟩
theorem fg_X10_111 : k_fg RX10 111 10 41 := ⟨RX10, TX10, 122, tyX10, cl_X10, by decide, wd192⟩
theorem fg_X10_114 : k_fg RX10 114 10 42 := ⟨RX10, TX10, 122, tyX10, cl_X10, by decide, wd194⟩
theorem mV_X10_342 : k_mv RX10 342 RX10 yX10_name cX10_name 3 (some .long) 0 := ⟨wd622, wd623, wd624, wd5, wd625, by decide +kernel⟩
theorem mV_X10_346 : k_mv RX10 346 RX10 yX10_nameOf cX10_nameOf 5 (some .int) 2 := ⟨wd632, wd633, wd634, wd5, wd635, by decide +kernel⟩
theorem mV_X10_350 : k_mv RX10 350 RX10 yX10_asks cX10_asks 2 none 1 := ⟨wd564, wd565, wd566, wd5, wd567, by decide +kernel⟩
theorem fg_X10_118 : k_fg RX10 118 10 43 := ⟨RX10, TX10, 122, tyX10, cl_X10, by decide, wd195⟩
theorem mV_X10_354 : k_mv RX10 354 RX10 yX10_number cX10_number 5 (some .int) 2 := ⟨wd587, wd588, wd589, wd5, wd590, by decide +kernel⟩
theorem mV_X10_358 : k_mv RX10 358 RX10 yX10_asksSign cX10_asksSign 2 none 1 := ⟨wd597, wd598, wd599, wd5, wd600, by decide +kernel⟩
theorem mV_X10_362 : k_mv RX10 362 RX10 yX10_isFull cX10_isFull 4 (some .boolean) 3 := ⟨wd613, wd614, wd615, wd5, wd616, by decide +kernel⟩
theorem mV_X10_366 : k_mv RX10 366 RX10 yX10_newName cX10_newName 4 (some .long) 0 := ⟨wd617, wd618, wd619, wd5, wd620, by decide +kernel⟩
theorem fg_X10_121 : k_fg RX10 121 10 44 := ⟨RX10, TX10, 122, tyX10, cl_X10, by decide, wd196⟩
theorem fg_X10_124 : k_fg RX10 124 10 45 := ⟨RX10, TX10, 122, tyX10, cl_X10, by decide, wd197⟩
theorem fg_X10_127 : k_fg RX10 127 10 46 := ⟨RX10, TX10, 122, tyX10, cl_X10, by decide, wd198⟩
theorem fg_X10_130 : k_fg RX10 130 10 49 := ⟨RX10, TX10, 122, tyX10, cl_X10, by decide, wd199⟩
theorem fp_X10_333 : k_fl RX10 333 10 55 false .int := ⟨RX10, TX10, 122, tyX10, cl_X10, by decide, wd644, rfl, tyX10_ok 55 (by decide), fun h => by cases h⟩
theorem fp_X10_369 : k_fl RX10 369 10 111 false .int := ⟨RX10, TX10, 122, tyX10, cl_X10, by decide, wd645, rfl, tyX10_ok 111 (by decide), fun h => by cases h⟩
theorem fp_X10_372 : k_fl RX10 372 10 113 false .int := ⟨RX10, TX10, 122, tyX10, cl_X10, by decide, wd646, rfl, tyX10_ok 113 (by decide), fun h => by cases h⟩
theorem fp_X10_375 : k_fl RX10 375 10 114 false .int := ⟨RX10, TX10, 122, tyX10, cl_X10, by decide, wd647, rfl, tyX10_ok 114 (by decide), fun h => by cases h⟩
theorem fp_X10_378 : k_fl RX10 378 10 115 false .int := ⟨RX10, TX10, 122, tyX10, cl_X10, by decide, wd648, rfl, tyX10_ok 115 (by decide), fun h => by cases h⟩
theorem mV_X10_381 : k_mv RX10 381 RX10 yX10_qSums cX10_qSums 3 none 0 := ⟨wd649, wd650, wd651, wd5, wd652, by decide +kernel⟩
theorem mV_X10_384 : k_mv RX10 384 RX10 yX10_qTest cX10_qTest 3 none 0 := ⟨wd711, wd712, wd713, wd5, wd714, by decide +kernel⟩
theorem fg_X10_387 : k_fg RX10 387 10 52 := ⟨RX10, TX10, 122, tyX10, cl_X10, by decide, wd556⟩
theorem fg_X10_369 : k_fg RX10 369 10 111 := ⟨RX10, TX10, 122, tyX10, cl_X10, by decide, wd645⟩
theorem fg_X10_136 : k_fg RX10 136 10 51 := ⟨RX10, TX10, 122, tyX10, cl_X10, by decide, wd201⟩
theorem fg_X10_264 : k_fg RX10 264 10 110 := ⟨RX10, TX10, 122, tyX10, cl_X10, by decide, wd244⟩
theorem fp_X10_387 : k_fl RX10 387 10 52 false .int := ⟨RX10, TX10, 122, tyX10, cl_X10, by decide, wd556, rfl, tyX10_ok 52 (by decide), fun h => by cases h⟩
theorem fg_X10_133 : k_fg RX10 133 10 50 := ⟨RX10, TX10, 122, tyX10, cl_X10, by decide, wd200⟩
theorem fg_X10_390 : k_fg RX10 390 10 53 := ⟨RX10, TX10, 122, tyX10, cl_X10, by decide, wd558⟩
theorem mV_X10_393 : k_mv RX10 393 RX10 yX10_kindTold cX10_kindTold 8 none 1 := ⟨wd609, wd610, wd611, wd5, wd612, by decide +kernel⟩
theorem mV_X10_396 : k_mv RX10 396 RX10 yX10_walkerTold cX10_walkerTold 8 none 1 := ⟨wd636, wd637, wd638, wd5, wd639, by decide +kernel⟩
theorem mV_X10_399 : k_mv RX10 399 RX10 yX10_codesTold cX10_codesTold 4 none 2 := ⟨wd640, wd641, wd642, wd5, wd643, by decide +kernel⟩
theorem fp_X10_402 : k_fl RX10 402 10 47 false .int := ⟨RX10, TX10, 122, tyX10, cl_X10, by decide, wd557, rfl, tyX10_ok 47 (by decide), fun h => by cases h⟩
theorem fp_X10_390 : k_fl RX10 390 10 53 false .int := ⟨RX10, TX10, 122, tyX10, cl_X10, by decide, wd558, rfl, tyX10_ok 53 (by decide), fun h => by cases h⟩
theorem fp_X10_288 : k_fl RX10 288 10 3 false .int := ⟨RX10, TX10, 122, tyX10, cl_X10, by decide, wd551, rfl, tyX10_ok 3 (by decide), fun h => by cases h⟩
theorem mV_X10_405 : k_mv RX10 405 RX10 yX10_barTold cX10_barTold 1 none 0 := ⟨wd560, wd561, wd562, wd5, wd563, by decide +kernel⟩
theorem mV_X10_408 : k_mv RX10 408 RX10 yX10_statementTold cX10_statementTold 2 none 0 := ⟨wd605, wd606, wd607, wd5, wd608, by decide +kernel⟩
theorem fp_X10_411 : k_fl RX10 411 10 7 false .int := ⟨RX10, TX10, 122, tyX10, cl_X10, by decide, wd559, rfl, tyX10_ok 7 (by decide), fun h => by cases h⟩
theorem fg_X10_282 : k_fg RX10 282 10 6 := ⟨RX10, TX10, 122, tyX10, cl_X10, by decide, wd555⟩
theorem mV_X10_414 : k_mv RX10 414 RX10 yX10_stands cX10_stands 2 none 0 := ⟨wd731, wd732, wd733, wd5, wd734, by decide +kernel⟩
theorem fp_X10_417 : k_fl RX10 417 10 54 false .boolean := ⟨RX10, TX10, 122, tyX10, cl_X10, by decide, wd735, rfl, tyX10_ok 54 (by decide), fun h => by cases h⟩
theorem fg_X10_402 : k_fg RX10 402 10 47 := ⟨RX10, TX10, 122, tyX10, cl_X10, by decide, wd557⟩
theorem fp_X10_421 : k_fl RX10 421 10 48 false .int := ⟨RX10, TX10, 122, tyX10, cl_X10, by decide, wd736, rfl, tyX10_ok 48 (by decide), fun h => by cases h⟩
theorem fg_X10_139 : k_fg RX10 139 10 56 := ⟨RX10, TX10, 122, tyX10, cl_X10, by decide, wd202⟩
theorem fp_X10_424 : k_fl RX10 424 10 82 false .int := ⟨RX10, TX10, 122, tyX10, cl_X10, by decide, wd737, rfl, tyX10_ok 82 (by decide), fun h => by cases h⟩
theorem fp_X10_427 : k_fl RX10 427 10 75 false .int := ⟨RX10, TX10, 122, tyX10, cl_X10, by decide, wd738, rfl, tyX10_ok 75 (by decide), fun h => by cases h⟩
theorem fg_X10_411 : k_fg RX10 411 10 7 := ⟨RX10, TX10, 122, tyX10, cl_X10, by decide, wd559⟩
theorem fg_X10_13 : k_fg RX10 13 10 8 := ⟨RX10, TX10, 122, tyX10, cl_X10, by decide, wd159⟩
theorem mV_X10_430 : k_mv RX10 430 RX10 yX10_kindMany cX10_kindMany 1 (some .int) 0 := ⟨wd764, wd765, wd766, wd5, wd767, by decide +kernel⟩
theorem mV_X10_433 : k_mv RX10 433 RX10 yX10_walkerMany cX10_walkerMany 1 (some .int) 0 := ⟨wd768, wd769, wd770, wd5, wd771, by decide +kernel⟩
theorem mV_X10_436 : k_mv RX10 436 RX10 yX10_kindOf cX10_kindOf 2 (some .int) 1 := ⟨wd809, wd810, wd811, wd5, wd812, by decide +kernel⟩
theorem fp_X10_440 : k_fl RX10 440 10 117 false .int := ⟨RX10, TX10, 122, tyX10, cl_X10, by decide, wd935, rfl, tyX10_ok 117 (by decide), fun h => by cases h⟩
theorem mV_X10_443 : k_mv RX10 443 RX10 yX10_qPuts cX10_qPuts 3 none 1 := ⟨wd936, wd937, wd938, wd5, wd939, by decide +kernel⟩
theorem mV_X10_447 : k_mv RX10 447 RX10 yX10_qPartOf cX10_qPartOf 3 (some .long) 2 := ⟨wd940, wd941, wd942, wd5, wd943, by decide +kernel⟩
theorem fg_X10_270 : k_fg RX10 270 10 116 := ⟨RX10, TX10, 122, tyX10, cl_X10, by decide, wd246⟩
theorem fg_X10_440 : k_fg RX10 440 10 117 := ⟨RX10, TX10, 122, tyX10, cl_X10, by decide, wd935⟩
theorem mV_X10_451 : k_mv RX10 451 RX10 yX10_qJoins cX10_qJoins 6 none 1 := ⟨wd949, wd950, wd951, wd5, wd952, by decide +kernel⟩
theorem fp_X10_454 : k_fl RX10 454 10 58 false .int := ⟨RX10, TX10, 122, tyX10, cl_X10, by decide, wd930, rfl, tyX10_ok 58 (by decide), fun h => by cases h⟩
theorem fg_X10_145 : k_fg RX10 145 10 60 := ⟨RX10, TX10, 122, tyX10, cl_X10, by decide, wd205⟩
theorem mV_X10_457 : k_mv RX10 457 RX10 yX10_codesTell cX10_codesTell 5 (some .long) 2 := ⟨wd931, wd932, wd933, wd5, wd934, by decide +kernel⟩
theorem fg_X10_149 : k_fg RX10 149 10 61 := ⟨RX10, TX10, 122, tyX10, cl_X10, by decide, wd206⟩
theorem mV_X10_460 : k_mv RX10 460 RX10 yX10_secondOf cX10_secondOf 2 (some .int) 1 := ⟨wd973, wd974, wd975, wd5, wd976, by decide +kernel⟩
theorem fg_X10_155 : k_fg RX10 155 10 63 := ⟨RX10, TX10, 122, tyX10, cl_X10, by decide, wd208⟩
theorem mV_X10_463 : k_mv RX10 463 RX10 yX10_trustsOf cX10_trustsOf 2 (some .int) 1 := ⟨wd813, wd814, wd815, wd5, wd816, by decide +kernel⟩
theorem fg_X10_152 : k_fg RX10 152 10 62 := ⟨RX10, TX10, 122, tyX10, cl_X10, by decide, wd207⟩
theorem fp_X10_466 : k_fl RX10 466 10 70 false .boolean := ⟨RX10, TX10, 122, tyX10, cl_X10, by decide, wd965, rfl, tyX10_ok 70 (by decide), fun h => by cases h⟩
theorem fg_X10_170 : k_fg RX10 170 10 68 := ⟨RX10, TX10, 122, tyX10, cl_X10, by decide, wd213⟩
theorem fp_X10_469 : k_fl RX10 469 10 74 false .int := ⟨RX10, TX10, 122, tyX10, cl_X10, by decide, wd981, rfl, tyX10_ok 74 (by decide), fun h => by cases h⟩
theorem fg_X10_466 : k_fg RX10 466 10 70 := ⟨RX10, TX10, 122, tyX10, cl_X10, by decide, wd965⟩
theorem fp_X10_472 : k_fl RX10 472 10 73 false .boolean := ⟨RX10, TX10, 122, tyX10, cl_X10, by decide, wd968, rfl, tyX10_ok 73 (by decide), fun h => by cases h⟩
theorem fg_X10_472 : k_fg RX10 472 10 73 := ⟨RX10, TX10, 122, tyX10, cl_X10, by decide, wd968⟩
theorem fg_X10_475 : k_fg RX10 475 10 72 := ⟨RX10, TX10, 122, tyX10, cl_X10, by decide, wd967⟩
theorem fg_X10_478 : k_fg RX10 478 10 71 := ⟨RX10, TX10, 122, tyX10, cl_X10, by decide, wd966⟩
theorem fp_X10_475 : k_fl RX10 475 10 72 false .int := ⟨RX10, TX10, 122, tyX10, cl_X10, by decide, wd967, rfl, tyX10_ok 72 (by decide), fun h => by cases h⟩
theorem fp_X10_478 : k_fl RX10 478 10 71 false .int := ⟨RX10, TX10, 122, tyX10, cl_X10, by decide, wd966, rfl, tyX10_ok 71 (by decide), fun h => by cases h⟩
theorem mV_X10_481 : k_mv RX10 481 RX10 yX10_paceOf cX10_paceOf 2 (some .int) 1 := ⟨wd945, wd946, wd947, wd5, wd948, by decide +kernel⟩
theorem fg_X10_469 : k_fg RX10 469 10 74 := ⟨RX10, TX10, 122, tyX10, cl_X10, by decide, wd981⟩
theorem fg_X10_158 : k_fg RX10 158 10 64 := ⟨RX10, TX10, 122, tyX10, cl_X10, by decide, wd209⟩
theorem fg_X10_173 : k_fg RX10 173 10 69 := ⟨RX10, TX10, 122, tyX10, cl_X10, by decide, wd214⟩
theorem fg_X10_161 : k_fg RX10 161 10 65 := ⟨RX10, TX10, 122, tyX10, cl_X10, by decide, wd210⟩
theorem fg_X10_164 : k_fg RX10 164 10 66 := ⟨RX10, TX10, 122, tyX10, cl_X10, by decide, wd211⟩
theorem fg_X10_167 : k_fg RX10 167 10 67 := ⟨RX10, TX10, 122, tyX10, cl_X10, by decide, wd212⟩
theorem mV_X10_484 : k_mv RX10 484 RX10 yX10_isHarmed cX10_isHarmed 3 (some .boolean) 2 := ⟨wd986, wd987, wd988, wd5, wd989, by decide +kernel⟩
theorem fg_X10_488 : k_fg RX10 488 10 59 := ⟨RX10, TX10, 122, tyX10, cl_X10, by decide, wd944⟩
theorem fp_X10_488 : k_fl RX10 488 10 59 false .int := ⟨RX10, TX10, 122, tyX10, cl_X10, by decide, wd944, rfl, tyX10_ok 59 (by decide), fun h => by cases h⟩
theorem mV_X10_491 : k_mv RX10 491 RX10 yX10_arrive cX10_arrive 4 none 2 := ⟨wd969, wd970, wd971, wd5, wd972, by decide +kernel⟩
theorem mV_X10_494 : k_mv RX10 494 RX10 yX10_isLit cX10_isLit 5 (some .boolean) 3 := ⟨wd977, wd978, wd979, wd5, wd980, by decide +kernel⟩
theorem mV_X10_497 : k_mv RX10 497 RX10 yX10_acts cX10_acts 4 none 3 := ⟨wd982, wd983, wd984, wd5, wd985, by decide +kernel⟩
theorem mV_X10_501 : k_mv RX10 501 RX10 yX10_laysCars cX10_laysCars 2 none 0 := ⟨wd926, wd927, wd928, wd5, wd929, by decide +kernel⟩
theorem mV_X10_504 : k_mv RX10 504 RX10 yX10_dayBy cX10_dayBy 7 none 4 := ⟨wd961, wd962, wd963, wd5, wd964, by decide +kernel⟩
theorem mV_X10_508 : k_mv RX10 508 RX10 yX10_waitedAll cX10_waitedAll 3 (some .int) 0 := ⟨wd1050, wd1051, wd1052, wd5, wd1053, by decide +kernel⟩
theorem mS_X10_511 : k_ms RX10 511 yX10_counted cX10_counted 4 (some .int) 2 := ⟨wd1054, wd1055, wd5, wd1056, by decide +kernel⟩
theorem mV_X10_515 : k_mv RX10 515 RX10 yX10_notCrossed cX10_notCrossed 3 (some .int) 0 := ⟨wd1057, wd1058, wd1059, wd5, wd1060, by decide +kernel⟩
theorem mV_X10_518 : k_mv RX10 518 RX10 yX10_forNobody cX10_forNobody 4 (some .int) 0 := ⟨wd1061, wd1062, wd1063, wd5, wd1064, by decide +kernel⟩
theorem mV_X10_523 : k_mv RX10 523 RX10 yX10_learn cX10_learn 6 none 1 := ⟨wd1170, wd1171, wd1172, wd5, wd1173, by decide +kernel⟩
theorem fg_X10_142 : k_fg RX10 142 10 57 := ⟨RX10, TX10, 122, tyX10, cl_X10, by decide, wd203⟩
theorem fg_X10_417 : k_fg RX10 417 10 54 := ⟨RX10, TX10, 122, tyX10, cl_X10, by decide, wd735⟩
theorem fg_X10_427 : k_fg RX10 427 10 75 := ⟨RX10, TX10, 122, tyX10, cl_X10, by decide, wd738⟩
theorem fg_X10_424 : k_fg RX10 424 10 82 := ⟨RX10, TX10, 122, tyX10, cl_X10, by decide, wd737⟩
theorem mV_X10_528 : k_mv RX10 528 RX10 yX10_isKind cX10_isKind 2 (some .boolean) 1 := ⟨wd805, wd806, wd807, wd5, wd808, by decide +kernel⟩
theorem mV_X10_531 : k_mv RX10 531 RX10 yX10_isWalker cX10_isWalker 2 (some .boolean) 1 := ⟨wd918, wd919, wd920, wd5, wd921, by decide +kernel⟩
theorem mV_X10_534 : k_mv RX10 534 RX10 yX10_dayNow cX10_dayNow 1 none 0 := ⟨wd922, wd923, wd924, wd5, wd925, by decide +kernel⟩
theorem mV_X10_541 : k_mv RX10 541 RX10 yX10_toldOfDay cX10_toldOfDay 2 (some .int) 1 := ⟨wd1046, wd1047, wd1048, wd5, wd1049, by decide +kernel⟩
theorem mV_X10_548 : k_mv RX10 548 RX10 yX10_isGreenLong cX10_isGreenLong 3 (some .boolean) 2 := ⟨wd1090, wd1091, wd1092, wd5, wd1093, by decide +kernel⟩
theorem mS_X10_551 : k_ms RX10 551 yX10_bits cX10_bits 3 (some .int) 1 := ⟨wd1128, wd1129, wd5, wd1130, by decide +kernel⟩
theorem mV_X10_554 : k_mv RX10 554 RX10 yX10_isAhead cX10_isAhead 4 (some .boolean) 3 := ⟨wd1158, wd1159, wd1160, wd5, wd1161, by decide +kernel⟩
theorem mV_X10_557 : k_mv RX10 557 RX10 yX10_putsAside cX10_putsAside 2 none 0 := ⟨wd1162, wd1163, wd1164, wd5, wd1165, by decide +kernel⟩
theorem mV_X10_560 : k_mv RX10 560 RX10 yX10_dayGoes cX10_dayGoes 3 (some .int) 1 := ⟨wd1166, wd1167, wd1168, wd5, wd1169, by decide +kernel⟩
theorem mV_X10_563 : k_mv RX10 563 RX10 yX10_takesBack cX10_takesBack 2 none 0 := ⟨wd1175, wd1176, wd1177, wd5, wd1178, by decide +kernel⟩
theorem mV_X10_567 : k_mv RX10 567 RX10 yX10_refuses cX10_refuses 2 (some .int) 1 := ⟨wd1207, wd1208, wd1209, wd5, wd1210, by decide +kernel⟩
theorem fg_X10_176 : k_fg RX10 176 10 76 := ⟨RX10, TX10, 122, tyX10, cl_X10, by decide, wd215⟩
theorem fp_X10_570 : k_fl RX10 570 10 78 false .int := ⟨RX10, TX10, 122, tyX10, cl_X10, by decide, wd1247, rfl, tyX10_ok 78 (by decide), fun h => by cases h⟩
theorem fp_X10_573 : k_fl RX10 573 10 79 false .int := ⟨RX10, TX10, 122, tyX10, cl_X10, by decide, wd1248, rfl, tyX10_ok 79 (by decide), fun h => by cases h⟩
theorem fp_X10_576 : k_fl RX10 576 10 80 false .int := ⟨RX10, TX10, 122, tyX10, cl_X10, by decide, wd1249, rfl, tyX10_ok 80 (by decide), fun h => by cases h⟩
theorem mV_X10_579 : k_mv RX10 579 RX10 yX10_isAsSeen cX10_isAsSeen 2 (some .boolean) 0 := ⟨wd1254, wd1255, wd1256, wd5, wd1257, by decide +kernel⟩
theorem fg_X10_179 : k_fg RX10 179 10 77 := ⟨RX10, TX10, 122, tyX10, cl_X10, by decide, wd216⟩
theorem fg_X10_570 : k_fg RX10 570 10 78 := ⟨RX10, TX10, 122, tyX10, cl_X10, by decide, wd1247⟩
theorem fg_X10_573 : k_fg RX10 573 10 79 := ⟨RX10, TX10, 122, tyX10, cl_X10, by decide, wd1248⟩
theorem fg_X10_576 : k_fg RX10 576 10 80 := ⟨RX10, TX10, 122, tyX10, cl_X10, by decide, wd1249⟩
theorem mV_X10_582 : k_mv RX10 582 RX10 yX10_laysFits cX10_laysFits 4 none 0 := ⟨wd1250, wd1251, wd1252, wd5, wd1253, by decide +kernel⟩
theorem mV_X10_585 : k_mv RX10 585 RX10 yX10_mostAlike cX10_mostAlike 6 (some .int) 1 := ⟨wd1268, wd1269, wd1270, wd5, wd1271, by decide +kernel⟩
theorem fg_X10_588 : k_fg RX10 588 10 83 := ⟨RX10, TX10, 122, tyX10, cl_X10, by decide, wd1298⟩
theorem fp_X10_588 : k_fl RX10 588 10 83 false .int := ⟨RX10, TX10, 122, tyX10, cl_X10, by decide, wd1298, rfl, tyX10_ok 83 (by decide), fun h => by cases h⟩
theorem fg_X10_182 : k_fg RX10 182 10 81 := ⟨RX10, TX10, 122, tyX10, cl_X10, by decide, wd217⟩
theorem mV_X10_591 : k_mv RX10 591 RX10 yX10_isRefused cX10_isRefused 1 (some .boolean) 0 := ⟨wd1290, wd1291, wd1292, wd5, wd1293, by decide +kernel⟩
theorem mV_X10_594 : k_mv RX10 594 RX10 yX10_keeps cX10_keeps 2 none 0 := ⟨wd1294, wd1295, wd1296, wd5, wd1297, by decide +kernel⟩
theorem fg_X10_185 : k_fg RX10 185 10 84 := ⟨RX10, TX10, 122, tyX10, cl_X10, by decide, wd218⟩
theorem mV_X10_605 : k_mv RX10 605 RX10 yX10_drawOf cX10_drawOf 2 (some .int) 1 := ⟨wd1351, wd1352, wd1353, wd5, wd1354, by decide +kernel⟩
theorem fg_X10_421 : k_fg RX10 421 10 48 := ⟨RX10, TX10, 122, tyX10, cl_X10, by decide, wd736⟩
theorem fg_X10_375 : k_fg RX10 375 10 114 := ⟨RX10, TX10, 122, tyX10, cl_X10, by decide, wd647⟩
theorem fg_X10_267 : k_fg RX10 267 10 112 := ⟨RX10, TX10, 122, tyX10, cl_X10, by decide, wd245⟩
theorem fg_X10_372 : k_fg RX10 372 10 113 := ⟨RX10, TX10, 122, tyX10, cl_X10, by decide, wd646⟩
theorem mV_X10_608 : k_mv RX10 608 RX10 yX10_qCode cX10_qCode 2 none 1 := ⟨wd680, wd681, wd682, wd5, wd683, by decide +kernel⟩
theorem fg_X10_378 : k_fg RX10 378 10 115 := ⟨RX10, TX10, 122, tyX10, cl_X10, by decide, wd648⟩
theorem mS_X10_611 : k_ms RX10 611 yX10_qIsBracket cX10_qIsBracket 1 (some .boolean) 1 := ⟨wd700, wd701, wd5, wd702, by decide +kernel⟩
theorem mV_X10_614 : k_mv RX10 614 RX10 yX10_qDrops cX10_qDrops 1 none 0 := ⟨wd688, wd689, wd690, wd5, wd691, by decide +kernel⟩
theorem fg_X10_225 : k_fg RX10 225 10 97 := ⟨RX10, TX10, 122, tyX10, cl_X10, by decide, wd231⟩
theorem fg_X10_228 : k_fg RX10 228 10 98 := ⟨RX10, TX10, 122, tyX10, cl_X10, by decide, wd232⟩
theorem fg_X10_231 : k_fg RX10 231 10 99 := ⟨RX10, TX10, 122, tyX10, cl_X10, by decide, wd233⟩
theorem fg_X10_234 : k_fg RX10 234 10 100 := ⟨RX10, TX10, 122, tyX10, cl_X10, by decide, wd234⟩
theorem fg_X10_237 : k_fg RX10 237 10 101 := ⟨RX10, TX10, 122, tyX10, cl_X10, by decide, wd235⟩
theorem fg_X10_240 : k_fg RX10 240 10 102 := ⟨RX10, TX10, 122, tyX10, cl_X10, by decide, wd236⟩
theorem fg_X10_243 : k_fg RX10 243 10 103 := ⟨RX10, TX10, 122, tyX10, cl_X10, by decide, wd237⟩
theorem fg_X10_246 : k_fg RX10 246 10 104 := ⟨RX10, TX10, 122, tyX10, cl_X10, by decide, wd238⟩
theorem fg_X10_249 : k_fg RX10 249 10 105 := ⟨RX10, TX10, 122, tyX10, cl_X10, by decide, wd239⟩
theorem fg_X10_252 : k_fg RX10 252 10 106 := ⟨RX10, TX10, 122, tyX10, cl_X10, by decide, wd240⟩
theorem fg_X10_255 : k_fg RX10 255 10 107 := ⟨RX10, TX10, 122, tyX10, cl_X10, by decide, wd241⟩
theorem fg_X10_258 : k_fg RX10 258 10 108 := ⟨RX10, TX10, 122, tyX10, cl_X10, by decide, wd242⟩
theorem fg_X10_261 : k_fg RX10 261 10 109 := ⟨RX10, TX10, 122, tyX10, cl_X10, by decide, wd243⟩
theorem mV_X10_617 : k_mv RX10 617 RX10 yX10_qWordHere cX10_qWordHere 1 (some .int) 0 := ⟨wd661, wd662, wd663, wd5, wd664, by decide +kernel⟩
theorem mV_X10_620 : k_mv RX10 620 RX10 yX10_isAllowed cX10_isAllowed 2 (some .boolean) 1 := ⟨wd665, wd666, wd667, wd5, wd668, by decide +kernel⟩
theorem mV_X10_623 : k_mv RX10 623 RX10 yX10_qWordOf cX10_qWordOf 4 (some .int) 2 := ⟨wd657, wd658, wd659, wd5, wd660, by decide +kernel⟩
theorem mV_X10_626 : k_mv RX10 626 RX10 yX10_qOpens cX10_qOpens 3 none 2 := ⟨wd672, wd673, wd674, wd5, wd675, by decide +kernel⟩
theorem fg_X10_219 : k_fg RX10 219 10 95 := ⟨RX10, TX10, 122, tyX10, cl_X10, by decide, wd229⟩
theorem fg_X10_222 : k_fg RX10 222 10 96 := ⟨RX10, TX10, 122, tyX10, cl_X10, by decide, wd230⟩
theorem mV_X10_629 : k_mv RX10 629 RX10 yX10_qAsksWord cX10_qAsksWord 2 none 1 := ⟨wd676, wd677, wd678, wd5, wd679, by decide +kernel⟩
theorem mV_X10_632 : k_mv RX10 632 RX10 yX10_qEndsPart cX10_qEndsPart 1 none 0 := ⟨wd684, wd685, wd686, wd5, wd687, by decide +kernel⟩
theorem mV_X10_635 : k_mv RX10 635 RX10 yX10_qBracket cX10_qBracket 2 (some .int) 0 := ⟨wd696, wd697, wd698, wd5, wd699, by decide +kernel⟩
theorem mV_X10_638 : k_mv RX10 638 RX10 yX10_qDropsToBracket cX10_qDropsToBracket 1 none 0 := ⟨wd703, wd704, wd705, wd5, wd706, by decide +kernel⟩
theorem mV_X10_641 : k_mv RX10 641 RX10 yX10_qIsOn cX10_qIsOn 2 (some .boolean) 1 := ⟨wd707, wd708, wd709, wd5, wd710, by decide +kernel⟩
theorem mV_X10_644 : k_mv RX10 644 RX10 yX10_qPartTold cX10_qPartTold 6 none 0 := ⟨wd653, wd654, wd655, wd5, wd656, by decide +kernel⟩
theorem mV_X10_647 : k_mv RX10 647 RX10 yX10_qGoesOn cX10_qGoesOn 2 (some .boolean) 0 := ⟨wd692, wd693, wd694, wd5, wd695, by decide +kernel⟩
theorem fg_X10_216 : k_fg RX10 216 10 94 := ⟨RX10, TX10, 122, tyX10, cl_X10, by decide, wd228⟩
theorem fg_X10_207 : k_fg RX10 207 10 91 := ⟨RX10, TX10, 122, tyX10, cl_X10, by decide, wd225⟩
theorem mV_X10_650 : k_mv RX10 650 RX10 yX10_qFact cX10_qFact 2 none 0 := ⟨wd715, wd716, wd717, wd5, wd718, by decide +kernel⟩
theorem mV_X10_653 : k_mv RX10 653 RX10 yX10_qDropsNots cX10_qDropsNots 1 none 0 := ⟨wd719, wd720, wd721, wd5, wd722, by decide +kernel⟩
theorem mV_X10_656 : k_mv RX10 656 RX10 yX10_qGoesOnTest cX10_qGoesOnTest 1 (some .boolean) 0 := ⟨wd723, wd724, wd725, wd5, wd726, by decide +kernel⟩
theorem mV_X10_659 : k_mv RX10 659 RX10 yX10_qHasSquare cX10_qHasSquare 2 (some .boolean) 0 := ⟨wd727, wd728, wd729, wd5, wd730, by decide +kernel⟩
theorem fg_X10_210 : k_fg RX10 210 10 92 := ⟨RX10, TX10, 122, tyX10, cl_X10, by decide, wd226⟩
theorem fg_X10_213 : k_fg RX10 213 10 93 := ⟨RX10, TX10, 122, tyX10, cl_X10, by decide, wd227⟩
theorem mS_X10_666 : k_ms RX10 666 yX10_qClip cX10_qClip 2 (some .long) 1 := ⟨wd953, wd954, wd5, wd955, by decide +kernel⟩
theorem mS_X10_670 : k_ms RX10 670 yX10_qFloor cX10_qFloor 6 (some .long) 2 := ⟨wd958, wd959, wd5, wd960, by decide +kernel⟩
theorem fg_X10_454 : k_fg RX10 454 10 58 := ⟨RX10, TX10, 122, tyX10, cl_X10, by decide, wd930⟩
theorem mV_X10_674 : k_mv RX10 674 RX10 yX10_qOf cX10_qOf 5 (some .long) 3 := ⟨wd1416, wd1417, wd1418, wd5, wd1419, by decide +kernel⟩
theorem fg_X10_189 : k_fg RX10 189 10 85 := ⟨RX10, TX10, 122, tyX10, cl_X10, by decide, wd219⟩
theorem fg_X10_192 : k_fg RX10 192 10 86 := ⟨RX10, TX10, 122, tyX10, cl_X10, by decide, wd220⟩
theorem fg_X10_195 : k_fg RX10 195 10 87 := ⟨RX10, TX10, 122, tyX10, cl_X10, by decide, wd221⟩
theorem fg_X10_198 : k_fg RX10 198 10 88 := ⟨RX10, TX10, 122, tyX10, cl_X10, by decide, wd222⟩
theorem fg_X10_201 : k_fg RX10 201 10 89 := ⟨RX10, TX10, 122, tyX10, cl_X10, by decide, wd223⟩
theorem fg_X10_204 : k_fg RX10 204 10 90 := ⟨RX10, TX10, 122, tyX10, cl_X10, by decide, wd224⟩
theorem fg_X10_678 : k_fg RX10 678 10 118 := ⟨RX10, TX10, 122, tyX10, cl_X10, by decide, wd1406⟩
theorem fp_X10_678 : k_fl RX10 678 10 118 false .long := ⟨RX10, TX10, 122, tyX10, cl_X10, by decide, wd1406, rfl, tyX10_ok 118 (by decide), fun h => by cases h⟩
theorem fg_X10_683 : k_fg RX10 683 10 119 := ⟨RX10, TX10, 122, tyX10, cl_X10, by decide, wd1407⟩
theorem fp_X10_683 : k_fl RX10 683 10 119 false .boolean := ⟨RX10, TX10, 122, tyX10, cl_X10, by decide, wd1407, rfl, tyX10_ok 119 (by decide), fun h => by cases h⟩
theorem mV_X10_688 : k_mv RX10 688 RX10 yX10_qKind cX10_qKind 2 (some .int) 0 := ⟨wd1408, wd1409, wd1410, wd5, wd1411, by decide +kernel⟩
theorem mV_X10_691 : k_mv RX10 691 RX10 yX10_qTold cX10_qTold 4 (some .long) 1 := ⟨wd1412, wd1413, wd1414, wd5, wd1415, by decide +kernel⟩
theorem mV_X10_695 : k_mv RX10 695 RX10 yX10_qTakes cX10_qTakes 6 none 3 := ⟨wd1420, wd1421, wd1422, wd5, wd1423, by decide +kernel⟩
theorem fg_X10_273 : k_fg RX10 273 10 120 := ⟨RX10, TX10, 122, tyX10, cl_X10, by decide, wd247⟩
theorem fg_X10_699 : k_fg RX10 699 10 121 := ⟨RX10, TX10, 122, tyX10, cl_X10, by decide, wd1435⟩
theorem fp_X10_699 : k_fl RX10 699 10 121 false .int := ⟨RX10, TX10, 122, tyX10, cl_X10, by decide, wd1435, rfl, tyX10_ok 121 (by decide), fun h => by cases h⟩
theorem mV_X10_702 : k_mv RX10 702 RX10 yX10_writes cX10_writes 2 none 1 := ⟨wd1436, wd1437, wd1438, wd5, wd1439, by decide +kernel⟩
theorem mS_X10_705 : k_ms RX10 705 yX10_checked cX10_checked 4 (some .int) 2 := ⟨wd1440, wd1441, wd5, wd1442, by decide +kernel⟩
theorem mV_X10_709 : k_mv RX10 709 RX10 yX10_isImage cX10_isImage 3 (some .boolean) 1 := ⟨wd1464, wd1465, wd1466, wd5, wd1467, by decide +kernel⟩
