theorem cl_X0 : k_cl 0 RX0 TX0 5 tyX0 := ⟨rfl, inlX0, tyX0_ok, nmX0⟩
theorem cl_X1 : k_cl 1 RX1 TX1 3 tyX1 := ⟨rfl, inlX1, tyX1_ok, nmX1⟩
theorem cl_X2 : k_cl 2 RX2 TX2 3 tyX2 := ⟨rfl, inlX2, tyX2_ok, nmX2⟩
theorem cl_X3 : k_cl 3 RX3 TX3 2 tyX3 := ⟨rfl, inlX3, tyX3_ok, nmX3⟩
theorem cl_X4 : k_cl 4 RX4 TX4 18 tyX4 := ⟨rfl, inlX4, tyX4_ok, nmX4⟩
theorem cl_X5 : k_cl 5 RX5 TX5 9 tyX5 := ⟨rfl, inlX5, tyX5_ok, nmX5⟩
theorem cl_X6 : k_cl 6 RX6 TX6 4 tyX6 := ⟨rfl, inlX6, tyX6_ok, nmX6⟩
theorem cl_X7 : k_cl 7 RX7 TX7 17 tyX7 := ⟨rfl, inlX7, tyX7_ok, nmX7⟩
theorem cl_X8 : k_cl 8 RX8 TX8 11 tyX8 := ⟨rfl, inlX8, tyX8_ok, nmX8⟩
theorem cl_X9 : k_cl 9 RX9 TX9 16 tyX9 := ⟨rfl, inlX9, tyX9_ok, nmX9⟩
theorem cl_X10 : k_cl 10 RX10 TX10 122 tyX10 := ⟨rfl, inlX10, tyX10_ok, nmX10⟩
theorem fp_X10_7 : k_fl RX10 7 10 0 true (.array .int) := ⟨RX10, TX10, 122, tyX10, cl_X10, by decide, wd158, rfl, tyX10_ok 0 (by decide), fun h => rfl⟩
theorem fp_X10_13 : k_fl RX10 13 10 8 false .int := ⟨RX10, TX10, 122, tyX10, cl_X10, by decide, wd159, rfl, tyX10_ok 8 (by decide), fun h => by cases h⟩
theorem fp_X10_17 : k_fl RX10 17 10 9 true (.array .int) := ⟨RX10, TX10, 122, tyX10, cl_X10, by decide, wd160, rfl, tyX10_ok 9 (by decide), fun h => rfl⟩
theorem fp_X10_20 : k_fl RX10 20 10 10 true (.array .char) := ⟨RX10, TX10, 122, tyX10, cl_X10, by decide, wd162, rfl, tyX10_ok 10 (by decide), fun h => rfl⟩
theorem fp_X10_24 : k_fl RX10 24 10 11 true (.array .char) := ⟨RX10, TX10, 122, tyX10, cl_X10, by decide, wd163, rfl, tyX10_ok 11 (by decide), fun h => rfl⟩
theorem fp_X10_27 : k_fl RX10 27 10 12 true (.array .char) := ⟨RX10, TX10, 122, tyX10, cl_X10, by decide, wd164, rfl, tyX10_ok 12 (by decide), fun h => rfl⟩
theorem fp_X10_30 : k_fl RX10 30 10 13 true (.array .char) := ⟨RX10, TX10, 122, tyX10, cl_X10, by decide, wd165, rfl, tyX10_ok 13 (by decide), fun h => rfl⟩
theorem fp_X10_33 : k_fl RX10 33 10 14 true (.array .char) := ⟨RX10, TX10, 122, tyX10, cl_X10, by decide, wd166, rfl, tyX10_ok 14 (by decide), fun h => rfl⟩
theorem fp_X10_36 : k_fl RX10 36 10 15 true (.array .char) := ⟨RX10, TX10, 122, tyX10, cl_X10, by decide, wd167, rfl, tyX10_ok 15 (by decide), fun h => rfl⟩
theorem fp_X10_39 : k_fl RX10 39 10 16 true (.array .char) := ⟨RX10, TX10, 122, tyX10, cl_X10, by decide, wd168, rfl, tyX10_ok 16 (by decide), fun h => rfl⟩
theorem fp_X10_42 : k_fl RX10 42 10 17 true (.array .char) := ⟨RX10, TX10, 122, tyX10, cl_X10, by decide, wd169, rfl, tyX10_ok 17 (by decide), fun h => rfl⟩
theorem fp_X10_45 : k_fl RX10 45 10 18 true (.array .char) := ⟨RX10, TX10, 122, tyX10, cl_X10, by decide, wd170, rfl, tyX10_ok 18 (by decide), fun h => rfl⟩
theorem fp_X10_48 : k_fl RX10 48 10 19 true (.array .char) := ⟨RX10, TX10, 122, tyX10, cl_X10, by decide, wd171, rfl, tyX10_ok 19 (by decide), fun h => rfl⟩
theorem fp_X10_51 : k_fl RX10 51 10 20 true (.array .char) := ⟨RX10, TX10, 122, tyX10, cl_X10, by decide, wd172, rfl, tyX10_ok 20 (by decide), fun h => rfl⟩
theorem fp_X10_54 : k_fl RX10 54 10 21 true (.array .char) := ⟨RX10, TX10, 122, tyX10, cl_X10, by decide, wd173, rfl, tyX10_ok 21 (by decide), fun h => rfl⟩
theorem fp_X10_57 : k_fl RX10 57 10 22 true (.array .char) := ⟨RX10, TX10, 122, tyX10, cl_X10, by decide, wd174, rfl, tyX10_ok 22 (by decide), fun h => rfl⟩
theorem fp_X10_60 : k_fl RX10 60 10 23 true (.array .char) := ⟨RX10, TX10, 122, tyX10, cl_X10, by decide, wd175, rfl, tyX10_ok 23 (by decide), fun h => rfl⟩
theorem fp_X10_63 : k_fl RX10 63 10 24 true (.array .char) := ⟨RX10, TX10, 122, tyX10, cl_X10, by decide, wd176, rfl, tyX10_ok 24 (by decide), fun h => rfl⟩
theorem fp_X10_66 : k_fl RX10 66 10 25 true (.array .char) := ⟨RX10, TX10, 122, tyX10, cl_X10, by decide, wd177, rfl, tyX10_ok 25 (by decide), fun h => rfl⟩
theorem fp_X10_69 : k_fl RX10 69 10 26 true (.array .char) := ⟨RX10, TX10, 122, tyX10, cl_X10, by decide, wd178, rfl, tyX10_ok 26 (by decide), fun h => rfl⟩
theorem fp_X10_72 : k_fl RX10 72 10 27 true (.array .char) := ⟨RX10, TX10, 122, tyX10, cl_X10, by decide, wd179, rfl, tyX10_ok 27 (by decide), fun h => rfl⟩
theorem fp_X10_75 : k_fl RX10 75 10 28 true (.array .char) := ⟨RX10, TX10, 122, tyX10, cl_X10, by decide, wd180, rfl, tyX10_ok 28 (by decide), fun h => rfl⟩
theorem fp_X10_78 : k_fl RX10 78 10 29 true (.array .char) := ⟨RX10, TX10, 122, tyX10, cl_X10, by decide, wd181, rfl, tyX10_ok 29 (by decide), fun h => rfl⟩
theorem fp_X10_81 : k_fl RX10 81 10 30 true (.array .char) := ⟨RX10, TX10, 122, tyX10, cl_X10, by decide, wd182, rfl, tyX10_ok 30 (by decide), fun h => rfl⟩
theorem fp_X10_84 : k_fl RX10 84 10 31 true (.array .char) := ⟨RX10, TX10, 122, tyX10, cl_X10, by decide, wd183, rfl, tyX10_ok 31 (by decide), fun h => rfl⟩
theorem fp_X10_87 : k_fl RX10 87 10 32 true (.array .char) := ⟨RX10, TX10, 122, tyX10, cl_X10, by decide, wd184, rfl, tyX10_ok 32 (by decide), fun h => rfl⟩
theorem fp_X10_90 : k_fl RX10 90 10 33 true (.array .char) := ⟨RX10, TX10, 122, tyX10, cl_X10, by decide, wd185, rfl, tyX10_ok 33 (by decide), fun h => rfl⟩
theorem fp_X10_93 : k_fl RX10 93 10 34 true (.array .char) := ⟨RX10, TX10, 122, tyX10, cl_X10, by decide, wd186, rfl, tyX10_ok 34 (by decide), fun h => rfl⟩
theorem fp_X10_96 : k_fl RX10 96 10 35 true (.array .char) := ⟨RX10, TX10, 122, tyX10, cl_X10, by decide, wd187, rfl, tyX10_ok 35 (by decide), fun h => rfl⟩
theorem fp_X10_99 : k_fl RX10 99 10 36 true (.array .char) := ⟨RX10, TX10, 122, tyX10, cl_X10, by decide, wd188, rfl, tyX10_ok 36 (by decide), fun h => rfl⟩
theorem fp_X10_102 : k_fl RX10 102 10 37 true (.array .char) := ⟨RX10, TX10, 122, tyX10, cl_X10, by decide, wd189, rfl, tyX10_ok 37 (by decide), fun h => rfl⟩
theorem fp_X10_105 : k_fl RX10 105 10 38 true (.array .char) := ⟨RX10, TX10, 122, tyX10, cl_X10, by decide, wd190, rfl, tyX10_ok 38 (by decide), fun h => rfl⟩
theorem fp_X10_108 : k_fl RX10 108 10 39 true (.array .char) := ⟨RX10, TX10, 122, tyX10, cl_X10, by decide, wd191, rfl, tyX10_ok 39 (by decide), fun h => rfl⟩
theorem fp_X10_111 : k_fl RX10 111 10 41 true (.array .int) := ⟨RX10, TX10, 122, tyX10, cl_X10, by decide, wd192, rfl, tyX10_ok 41 (by decide), fun h => rfl⟩
theorem fp_X10_114 : k_fl RX10 114 10 42 true (.array .long) := ⟨RX10, TX10, 122, tyX10, cl_X10, by decide, wd194, rfl, tyX10_ok 42 (by decide), fun h => rfl⟩
theorem fp_X10_118 : k_fl RX10 118 10 43 true (.array .int) := ⟨RX10, TX10, 122, tyX10, cl_X10, by decide, wd195, rfl, tyX10_ok 43 (by decide), fun h => rfl⟩
theorem fp_X10_121 : k_fl RX10 121 10 44 true (.array .int) := ⟨RX10, TX10, 122, tyX10, cl_X10, by decide, wd196, rfl, tyX10_ok 44 (by decide), fun h => rfl⟩
theorem fp_X10_124 : k_fl RX10 124 10 45 true (.array .int) := ⟨RX10, TX10, 122, tyX10, cl_X10, by decide, wd197, rfl, tyX10_ok 45 (by decide), fun h => rfl⟩
theorem fp_X10_127 : k_fl RX10 127 10 46 true (.array .int) := ⟨RX10, TX10, 122, tyX10, cl_X10, by decide, wd198, rfl, tyX10_ok 46 (by decide), fun h => rfl⟩
theorem fp_X10_130 : k_fl RX10 130 10 49 true (.array .int) := ⟨RX10, TX10, 122, tyX10, cl_X10, by decide, wd199, rfl, tyX10_ok 49 (by decide), fun h => rfl⟩
theorem fp_X10_133 : k_fl RX10 133 10 50 true (.array .int) := ⟨RX10, TX10, 122, tyX10, cl_X10, by decide, wd200, rfl, tyX10_ok 50 (by decide), fun h => rfl⟩
theorem fp_X10_136 : k_fl RX10 136 10 51 true (.array .int) := ⟨RX10, TX10, 122, tyX10, cl_X10, by decide, wd201, rfl, tyX10_ok 51 (by decide), fun h => rfl⟩
theorem fp_X10_139 : k_fl RX10 139 10 56 true (.array .int) := ⟨RX10, TX10, 122, tyX10, cl_X10, by decide, wd202, rfl, tyX10_ok 56 (by decide), fun h => rfl⟩
theorem fp_X10_142 : k_fl RX10 142 10 57 true (.array .int) := ⟨RX10, TX10, 122, tyX10, cl_X10, by decide, wd203, rfl, tyX10_ok 57 (by decide), fun h => rfl⟩
theorem fp_X10_145 : k_fl RX10 145 10 60 true (.array .boolean) := ⟨RX10, TX10, 122, tyX10, cl_X10, by decide, wd205, rfl, tyX10_ok 60 (by decide), fun h => rfl⟩
theorem fp_X10_149 : k_fl RX10 149 10 61 true (.array .int) := ⟨RX10, TX10, 122, tyX10, cl_X10, by decide, wd206, rfl, tyX10_ok 61 (by decide), fun h => rfl⟩
theorem fp_X10_152 : k_fl RX10 152 10 62 true (.array .boolean) := ⟨RX10, TX10, 122, tyX10, cl_X10, by decide, wd207, rfl, tyX10_ok 62 (by decide), fun h => rfl⟩
theorem fp_X10_155 : k_fl RX10 155 10 63 true (.array .boolean) := ⟨RX10, TX10, 122, tyX10, cl_X10, by decide, wd208, rfl, tyX10_ok 63 (by decide), fun h => rfl⟩
theorem fp_X10_158 : k_fl RX10 158 10 64 true (.array .int) := ⟨RX10, TX10, 122, tyX10, cl_X10, by decide, wd209, rfl, tyX10_ok 64 (by decide), fun h => rfl⟩
theorem fp_X10_161 : k_fl RX10 161 10 65 true (.array .int) := ⟨RX10, TX10, 122, tyX10, cl_X10, by decide, wd210, rfl, tyX10_ok 65 (by decide), fun h => rfl⟩
theorem fp_X10_164 : k_fl RX10 164 10 66 true (.array .boolean) := ⟨RX10, TX10, 122, tyX10, cl_X10, by decide, wd211, rfl, tyX10_ok 66 (by decide), fun h => rfl⟩
theorem fp_X10_167 : k_fl RX10 167 10 67 true (.array .boolean) := ⟨RX10, TX10, 122, tyX10, cl_X10, by decide, wd212, rfl, tyX10_ok 67 (by decide), fun h => rfl⟩
theorem fp_X10_170 : k_fl RX10 170 10 68 true (.array .boolean) := ⟨RX10, TX10, 122, tyX10, cl_X10, by decide, wd213, rfl, tyX10_ok 68 (by decide), fun h => rfl⟩
theorem fp_X10_173 : k_fl RX10 173 10 69 true (.array .boolean) := ⟨RX10, TX10, 122, tyX10, cl_X10, by decide, wd214, rfl, tyX10_ok 69 (by decide), fun h => rfl⟩
theorem fp_X10_176 : k_fl RX10 176 10 76 true (.array .int) := ⟨RX10, TX10, 122, tyX10, cl_X10, by decide, wd215, rfl, tyX10_ok 76 (by decide), fun h => rfl⟩
theorem fp_X10_179 : k_fl RX10 179 10 77 true (.array .int) := ⟨RX10, TX10, 122, tyX10, cl_X10, by decide, wd216, rfl, tyX10_ok 77 (by decide), fun h => rfl⟩
theorem fp_X10_182 : k_fl RX10 182 10 81 true (.array .int) := ⟨RX10, TX10, 122, tyX10, cl_X10, by decide, wd217, rfl, tyX10_ok 81 (by decide), fun h => rfl⟩
theorem fp_X10_185 : k_fl RX10 185 10 84 false .long := ⟨RX10, TX10, 122, tyX10, cl_X10, by decide, wd218, rfl, tyX10_ok 84 (by decide), fun h => by cases h⟩
theorem fp_X10_189 : k_fl RX10 189 10 85 true (.array .char) := ⟨RX10, TX10, 122, tyX10, cl_X10, by decide, wd219, rfl, tyX10_ok 85 (by decide), fun h => rfl⟩
theorem fp_X10_192 : k_fl RX10 192 10 86 true (.array .char) := ⟨RX10, TX10, 122, tyX10, cl_X10, by decide, wd220, rfl, tyX10_ok 86 (by decide), fun h => rfl⟩
theorem fp_X10_195 : k_fl RX10 195 10 87 true (.array .char) := ⟨RX10, TX10, 122, tyX10, cl_X10, by decide, wd221, rfl, tyX10_ok 87 (by decide), fun h => rfl⟩
theorem fp_X10_198 : k_fl RX10 198 10 88 true (.array .char) := ⟨RX10, TX10, 122, tyX10, cl_X10, by decide, wd222, rfl, tyX10_ok 88 (by decide), fun h => rfl⟩
theorem fp_X10_201 : k_fl RX10 201 10 89 true (.array .char) := ⟨RX10, TX10, 122, tyX10, cl_X10, by decide, wd223, rfl, tyX10_ok 89 (by decide), fun h => rfl⟩
theorem fp_X10_204 : k_fl RX10 204 10 90 true (.array .char) := ⟨RX10, TX10, 122, tyX10, cl_X10, by decide, wd224, rfl, tyX10_ok 90 (by decide), fun h => rfl⟩
theorem fp_X10_207 : k_fl RX10 207 10 91 true (.array .char) := ⟨RX10, TX10, 122, tyX10, cl_X10, by decide, wd225, rfl, tyX10_ok 91 (by decide), fun h => rfl⟩
theorem fp_X10_210 : k_fl RX10 210 10 92 true (.array .char) := ⟨RX10, TX10, 122, tyX10, cl_X10, by decide, wd226, rfl, tyX10_ok 92 (by decide), fun h => rfl⟩
theorem fp_X10_213 : k_fl RX10 213 10 93 true (.array .char) := ⟨RX10, TX10, 122, tyX10, cl_X10, by decide, wd227, rfl, tyX10_ok 93 (by decide), fun h => rfl⟩
theorem fp_X10_216 : k_fl RX10 216 10 94 true (.array .char) := ⟨RX10, TX10, 122, tyX10, cl_X10, by decide, wd228, rfl, tyX10_ok 94 (by decide), fun h => rfl⟩
theorem fp_X10_219 : k_fl RX10 219 10 95 true (.array .char) := ⟨RX10, TX10, 122, tyX10, cl_X10, by decide, wd229, rfl, tyX10_ok 95 (by decide), fun h => rfl⟩
theorem fp_X10_222 : k_fl RX10 222 10 96 true (.array .char) := ⟨RX10, TX10, 122, tyX10, cl_X10, by decide, wd230, rfl, tyX10_ok 96 (by decide), fun h => rfl⟩
theorem fp_X10_225 : k_fl RX10 225 10 97 true (.array .char) := ⟨RX10, TX10, 122, tyX10, cl_X10, by decide, wd231, rfl, tyX10_ok 97 (by decide), fun h => rfl⟩
theorem fp_X10_228 : k_fl RX10 228 10 98 true (.array .char) := ⟨RX10, TX10, 122, tyX10, cl_X10, by decide, wd232, rfl, tyX10_ok 98 (by decide), fun h => rfl⟩
theorem fp_X10_231 : k_fl RX10 231 10 99 true (.array .char) := ⟨RX10, TX10, 122, tyX10, cl_X10, by decide, wd233, rfl, tyX10_ok 99 (by decide), fun h => rfl⟩
theorem fp_X10_234 : k_fl RX10 234 10 100 true (.array .char) := ⟨RX10, TX10, 122, tyX10, cl_X10, by decide, wd234, rfl, tyX10_ok 100 (by decide), fun h => rfl⟩
theorem fp_X10_237 : k_fl RX10 237 10 101 true (.array .char) := ⟨RX10, TX10, 122, tyX10, cl_X10, by decide, wd235, rfl, tyX10_ok 101 (by decide), fun h => rfl⟩
theorem fp_X10_240 : k_fl RX10 240 10 102 true (.array .char) := ⟨RX10, TX10, 122, tyX10, cl_X10, by decide, wd236, rfl, tyX10_ok 102 (by decide), fun h => rfl⟩
theorem fp_X10_243 : k_fl RX10 243 10 103 true (.array .char) := ⟨RX10, TX10, 122, tyX10, cl_X10, by decide, wd237, rfl, tyX10_ok 103 (by decide), fun h => rfl⟩
theorem fp_X10_246 : k_fl RX10 246 10 104 true (.array .char) := ⟨RX10, TX10, 122, tyX10, cl_X10, by decide, wd238, rfl, tyX10_ok 104 (by decide), fun h => rfl⟩
theorem fp_X10_249 : k_fl RX10 249 10 105 true (.array .char) := ⟨RX10, TX10, 122, tyX10, cl_X10, by decide, wd239, rfl, tyX10_ok 105 (by decide), fun h => rfl⟩
theorem fp_X10_252 : k_fl RX10 252 10 106 true (.array .char) := ⟨RX10, TX10, 122, tyX10, cl_X10, by decide, wd240, rfl, tyX10_ok 106 (by decide), fun h => rfl⟩
theorem fp_X10_255 : k_fl RX10 255 10 107 true (.array .char) := ⟨RX10, TX10, 122, tyX10, cl_X10, by decide, wd241, rfl, tyX10_ok 107 (by decide), fun h => rfl⟩
theorem fp_X10_258 : k_fl RX10 258 10 108 true (.array .char) := ⟨RX10, TX10, 122, tyX10, cl_X10, by decide, wd242, rfl, tyX10_ok 108 (by decide), fun h => rfl⟩
theorem fp_X10_261 : k_fl RX10 261 10 109 true (.array .char) := ⟨RX10, TX10, 122, tyX10, cl_X10, by decide, wd243, rfl, tyX10_ok 109 (by decide), fun h => rfl⟩
theorem fp_X10_264 : k_fl RX10 264 10 110 true (.array .int) := ⟨RX10, TX10, 122, tyX10, cl_X10, by decide, wd244, rfl, tyX10_ok 110 (by decide), fun h => rfl⟩
theorem fp_X10_267 : k_fl RX10 267 10 112 true (.array .int) := ⟨RX10, TX10, 122, tyX10, cl_X10, by decide, wd245, rfl, tyX10_ok 112 (by decide), fun h => rfl⟩
theorem fp_X10_270 : k_fl RX10 270 10 116 true (.array .long) := ⟨RX10, TX10, 122, tyX10, cl_X10, by decide, wd246, rfl, tyX10_ok 116 (by decide), fun h => rfl⟩
theorem fp_X10_273 : k_fl RX10 273 10 120 true (.array .int) := ⟨RX10, TX10, 122, tyX10, cl_X10, by decide, wd247, rfl, tyX10_ok 120 (by decide), fun h => rfl⟩
theorem fp_X9_9 : k_fl RX9 9 9 0 true (.array .int) := ⟨RX9, TX9, 16, tyX9, cl_X9, by decide, wd13, rfl, tyX9_ok 0 (by decide), fun h => rfl⟩
theorem fp_X9_13 : k_fl RX9 13 9 1 false .int := ⟨RX9, TX9, 16, tyX9, cl_X9, by decide, wd14, rfl, tyX9_ok 1 (by decide), fun h => by cases h⟩
theorem z_X4 : ∀ j, j < 18 → defaultValue (tyX4 j) = vp_V [.int 0, .int 0, .int 0, .int 0, .int 0, .int 0, .int 0, .null, .null, .null, .int 0, .null, .null, .null, .null, .null, .int 0, .null] j := by decide +kernel
theorem n_X9_17 : k_nw RX9 17 4 18 [.int 0, .int 0, .int 0, .int 0, .int 0, .int 0, .int 0, .null, .null, .null, .int 0, .null, .null, .null, .null, .null, .int 0, .null] := ⟨RX4, TX4, tyX4, cl_X4, wd15, wd16, wd17, z_X4⟩
theorem mN_X4_init : k_mn yX4_init cX4_init 1 0 := ⟨wd56, wd17, wd57, rfl, by decide +kernel⟩
theorem fp_X4_9 : k_fl RX4 9 4 7 true (.array .int) := ⟨RX4, TX4, 18, tyX4, cl_X4, by decide, wd59, rfl, tyX4_ok 7 (by decide), fun h => rfl⟩
theorem fp_X4_15 : k_fl RX4 15 4 8 true (.array .int) := ⟨RX4, TX4, 18, tyX4, cl_X4, by decide, wd60, rfl, tyX4_ok 8 (by decide), fun h => rfl⟩
theorem fp_X4_18 : k_fl RX4 18 4 9 true (.array .int) := ⟨RX4, TX4, 18, tyX4, cl_X4, by decide, wd61, rfl, tyX4_ok 9 (by decide), fun h => rfl⟩
theorem fp_X4_21 : k_fl RX4 21 4 11 true (.array .int) := ⟨RX4, TX4, 18, tyX4, cl_X4, by decide, wd62, rfl, tyX4_ok 11 (by decide), fun h => rfl⟩
theorem fp_X4_24 : k_fl RX4 24 4 12 true (.array .int) := ⟨RX4, TX4, 18, tyX4, cl_X4, by decide, wd63, rfl, tyX4_ok 12 (by decide), fun h => rfl⟩
theorem fp_X4_27 : k_fl RX4 27 4 13 true (.array .int) := ⟨RX4, TX4, 18, tyX4, cl_X4, by decide, wd64, rfl, tyX4_ok 13 (by decide), fun h => rfl⟩
theorem fp_X4_30 : k_fl RX4 30 4 14 true (.array .int) := ⟨RX4, TX4, 18, tyX4, cl_X4, by decide, wd65, rfl, tyX4_ok 14 (by decide), fun h => rfl⟩
theorem fp_X4_33 : k_fl RX4 33 4 15 true (.array .int) := ⟨RX4, TX4, 18, tyX4, cl_X4, by decide, wd66, rfl, tyX4_ok 15 (by decide), fun h => rfl⟩
theorem fp_X4_36 : k_fl RX4 36 4 17 true (.array .int) := ⟨RX4, TX4, 18, tyX4, cl_X4, by decide, wd67, rfl, tyX4_ok 17 (by decide), fun h => rfl⟩
theorem fp_X9_20 : k_fl RX9 20 9 2 false (.object "PressAndWait$Plan") := ⟨RX9, TX9, 16, tyX9, cl_X9, by decide, wd18, rfl, tyX9_ok 2 (by decide), fun h => by cases h⟩
theorem fp_X9_24 : k_fl RX9 24 9 3 false (.object "PressAndWait$Plan") := ⟨RX9, TX9, 16, tyX9, cl_X9, by decide, wd19, rfl, tyX9_ok 3 (by decide), fun h => by cases h⟩
theorem z_X6 : ∀ j, j < 4 → defaultValue (tyX6 j) = vp_V [.int 0, .int 0, .int 0, .null] j := by decide +kernel
theorem n_X9_27 : k_nw RX9 27 6 4 [.int 0, .int 0, .int 0, .null] := ⟨RX6, TX6, tyX6, cl_X6, wd20, wd21, wd22, z_X6⟩
theorem mN_X6_init : k_mn yX6_init cX6_init 1 0 := ⟨wd68, wd22, wd69, rfl, by decide +kernel⟩
theorem fp_X6_9 : k_fl RX6 9 6 0 false .int := ⟨RX6, TX6, 4, tyX6, cl_X6, by decide, wd71, rfl, tyX6_ok 0 (by decide), fun h => by cases h⟩
theorem fp_X6_15 : k_fl RX6 15 6 1 false .int := ⟨RX6, TX6, 4, tyX6, cl_X6, by decide, wd72, rfl, tyX6_ok 1 (by decide), fun h => by cases h⟩
theorem fp_X6_18 : k_fl RX6 18 6 2 false .int := ⟨RX6, TX6, 4, tyX6, cl_X6, by decide, wd73, rfl, tyX6_ok 2 (by decide), fun h => by cases h⟩
theorem fp_X6_21 : k_fl RX6 21 6 3 true (.array .int) := ⟨RX6, TX6, 4, tyX6, cl_X6, by decide, wd74, rfl, tyX6_ok 3 (by decide), fun h => rfl⟩
theorem fp_X9_30 : k_fl RX9 30 9 4 true (.object "PressAndWait$State") := ⟨RX9, TX9, 16, tyX9, cl_X9, by decide, wd23, rfl, tyX9_ok 4 (by decide), fun h => rfl⟩
theorem z_X2 : ∀ j, j < 3 → defaultValue (tyX2 j) = vp_V [.null, .int 0, .int 0] j := by decide +kernel
theorem n_X9_34 : k_nw RX9 34 2 3 [.null, .int 0, .int 0] := ⟨RX2, TX2, tyX2, cl_X2, wd24, wd25, wd26, z_X2⟩
theorem mI_X9_36 : k_mi RX9 36 yX2_init cX2_init 2 0 := ⟨wd75, wd76, wd26, wd77, rfl, by decide +kernel⟩
theorem fp_X2_11 : k_fl RX2 11 2 0 true (.array (.object "PressAndWait$State")) := ⟨RX2, TX2, 3, tyX2, cl_X2, by decide, wd80, rfl, tyX2_ok 0 (by decide), fun h => rfl⟩
theorem fp_X2_17 : k_fl RX2 17 2 1 false .int := ⟨RX2, TX2, 3, tyX2, cl_X2, by decide, wd81, rfl, tyX2_ok 1 (by decide), fun h => by cases h⟩
theorem fp_X2_21 : k_fl RX2 21 2 2 false .int := ⟨RX2, TX2, 3, tyX2, cl_X2, by decide, wd82, rfl, tyX2_ok 2 (by decide), fun h => by cases h⟩
theorem fg_X2_11 : k_fg RX2 11 2 0 := ⟨RX2, TX2, 3, tyX2, cl_X2, by decide, wd80⟩
theorem n_X2_9 : k_nw RX2 9 6 4 [.int 0, .int 0, .int 0, .null] := ⟨RX6, TX6, tyX6, cl_X6, wd79, wd21, wd22, z_X6⟩
theorem fp_X9_37 : k_fl RX9 37 9 5 true (.object "PressAndWait$History") := ⟨RX9, TX9, 16, tyX9, cl_X9, by decide, wd27, rfl, tyX9_ok 5 (by decide), fun h => rfl⟩
theorem z_X3 : ∀ j, j < 2 → defaultValue (tyX3 j) = vp_V [.null, .null] j := by decide +kernel
theorem n_X9_41 : k_nw RX9 41 3 2 [.null, .null] := ⟨RX3, TX3, tyX3, cl_X3, wd28, wd29, wd30, z_X3⟩
theorem mN_X3_init : k_mn yX3_init cX3_init 1 0 := ⟨wd83, wd30, wd84, rfl, by decide +kernel⟩
theorem fp_X3_9 : k_fl RX3 9 3 0 true (.array .int) := ⟨RX3, TX3, 2, tyX3, cl_X3, by decide, wd86, rfl, tyX3_ok 0 (by decide), fun h => rfl⟩
theorem fp_X3_15 : k_fl RX3 15 3 1 true (.array .int) := ⟨RX3, TX3, 2, tyX3, cl_X3, by decide, wd87, rfl, tyX3_ok 1 (by decide), fun h => rfl⟩
theorem fp_X9_44 : k_fl RX9 44 9 6 true (.object "PressAndWait$Machine") := ⟨RX9, TX9, 16, tyX9, cl_X9, by decide, wd31, rfl, tyX9_ok 6 (by decide), fun h => rfl⟩
theorem z_X5 : ∀ j, j < 9 → defaultValue (tyX5 j) = vp_V [.null, .int 0, .int 0, .int 0, .int 0, .int 0, .null, .int 0, .int 0] j := by decide +kernel
theorem n_X9_48 : k_nw RX9 48 5 9 [.null, .int 0, .int 0, .int 0, .int 0, .int 0, .null, .int 0, .int 0] := ⟨RX5, TX5, tyX5, cl_X5, wd32, wd33, wd34, z_X5⟩
theorem fg_X9_9 : k_fg RX9 9 9 0 := ⟨RX9, TX9, 16, tyX9, cl_X9, by decide, wd13⟩
theorem fg_X9_24 : k_fg RX9 24 9 3 := ⟨RX9, TX9, 16, tyX9, cl_X9, by decide, wd19⟩
theorem mI_X9_50 : k_mi RX9 50 yX5_init cX5_init 3 2 := ⟨wd88, wd89, wd34, wd90, rfl, by decide +kernel⟩
theorem fp_X5_11 : k_fl RX5 11 5 1 false .int := ⟨RX5, TX5, 9, tyX5, cl_X5, by decide, wd92, rfl, tyX5_ok 1 (by decide), fun h => by cases h⟩
theorem fp_X5_15 : k_fl RX5 15 5 2 false .int := ⟨RX5, TX5, 9, tyX5, cl_X5, by decide, wd93, rfl, tyX5_ok 2 (by decide), fun h => by cases h⟩
theorem fp_X5_18 : k_fl RX5 18 5 3 false .int := ⟨RX5, TX5, 9, tyX5, cl_X5, by decide, wd94, rfl, tyX5_ok 3 (by decide), fun h => by cases h⟩
theorem fp_X5_21 : k_fl RX5 21 5 4 false .int := ⟨RX5, TX5, 9, tyX5, cl_X5, by decide, wd95, rfl, tyX5_ok 4 (by decide), fun h => by cases h⟩
theorem fp_X5_24 : k_fl RX5 24 5 5 false .int := ⟨RX5, TX5, 9, tyX5, cl_X5, by decide, wd96, rfl, tyX5_ok 5 (by decide), fun h => by cases h⟩
theorem fp_X5_27 : k_fl RX5 27 5 7 false .int := ⟨RX5, TX5, 9, tyX5, cl_X5, by decide, wd97, rfl, tyX5_ok 7 (by decide), fun h => by cases h⟩
theorem fp_X5_30 : k_fl RX5 30 5 8 false .int := ⟨RX5, TX5, 9, tyX5, cl_X5, by decide, wd98, rfl, tyX5_ok 8 (by decide), fun h => by cases h⟩
theorem fp_X5_33 : k_fl RX5 33 5 0 true (.array .int) := ⟨RX5, TX5, 9, tyX5, cl_X5, by decide, wd99, rfl, tyX5_ok 0 (by decide), fun h => rfl⟩
theorem fp_X5_37 : k_fl RX5 37 5 6 false (.object "PressAndWait$Plan") := ⟨RX5, TX5, 9, tyX5, cl_X5, by decide, wd100, rfl, tyX5_ok 6 (by decide), fun h => by cases h⟩
theorem fp_X9_53 : k_fl RX9 53 9 7 true (.object "PressAndWait$Reader") := ⟨RX9, TX9, 16, tyX9, cl_X9, by decide, wd35, rfl, tyX9_ok 7 (by decide), fun h => rfl⟩
theorem z_X7 : ∀ j, j < 17 → defaultValue (tyX7 j) = vp_V [.null, .null, .int 0, .null, .int 0, .int 0, .int 0, .int 0, .null, .null, .null, .null, .null, .int 0, .int 0, .int 0, .int 0] j := by decide +kernel
theorem n_X9_57 : k_nw RX9 57 7 17 [.null, .null, .int 0, .null, .int 0, .int 0, .int 0, .int 0, .null, .null, .null, .null, .null, .int 0, .int 0, .int 0, .int 0] := ⟨RX7, TX7, tyX7, cl_X7, wd36, wd37, wd38, z_X7⟩
theorem fg_X9_44 : k_fg RX9 44 9 6 := ⟨RX9, TX9, 16, tyX9, cl_X9, by decide, wd31⟩
theorem fg_X9_20 : k_fg RX9 20 9 2 := ⟨RX9, TX9, 16, tyX9, cl_X9, by decide, wd18⟩
theorem mI_X9_59 : k_mi RX9 59 yX7_init cX7_init 3 2 := ⟨wd101, wd102, wd38, wd103, rfl, by decide +kernel⟩
theorem fp_X7_9 : k_fl RX7 9 7 2 false .int := ⟨RX7, TX7, 17, tyX7, cl_X7, by decide, wd105, rfl, tyX7_ok 2 (by decide), fun h => by cases h⟩
theorem fp_X7_15 : k_fl RX7 15 7 3 true (.array .int) := ⟨RX7, TX7, 17, tyX7, cl_X7, by decide, wd106, rfl, tyX7_ok 3 (by decide), fun h => rfl⟩
theorem fp_X7_19 : k_fl RX7 19 7 4 false .int := ⟨RX7, TX7, 17, tyX7, cl_X7, by decide, wd107, rfl, tyX7_ok 4 (by decide), fun h => by cases h⟩
theorem fp_X7_22 : k_fl RX7 22 7 5 false .int := ⟨RX7, TX7, 17, tyX7, cl_X7, by decide, wd108, rfl, tyX7_ok 5 (by decide), fun h => by cases h⟩
theorem fp_X7_25 : k_fl RX7 25 7 6 false .int := ⟨RX7, TX7, 17, tyX7, cl_X7, by decide, wd109, rfl, tyX7_ok 6 (by decide), fun h => by cases h⟩
theorem fp_X7_28 : k_fl RX7 28 7 7 false .boolean := ⟨RX7, TX7, 17, tyX7, cl_X7, by decide, wd110, rfl, tyX7_ok 7 (by decide), fun h => by cases h⟩
theorem fp_X7_32 : k_fl RX7 32 7 8 true (.array .int) := ⟨RX7, TX7, 17, tyX7, cl_X7, by decide, wd111, rfl, tyX7_ok 8 (by decide), fun h => rfl⟩
theorem fp_X7_35 : k_fl RX7 35 7 9 true (.array .int) := ⟨RX7, TX7, 17, tyX7, cl_X7, by decide, wd112, rfl, tyX7_ok 9 (by decide), fun h => rfl⟩
theorem fp_X7_38 : k_fl RX7 38 7 10 true (.array .int) := ⟨RX7, TX7, 17, tyX7, cl_X7, by decide, wd113, rfl, tyX7_ok 10 (by decide), fun h => rfl⟩
theorem fp_X7_41 : k_fl RX7 41 7 11 true (.array .int) := ⟨RX7, TX7, 17, tyX7, cl_X7, by decide, wd114, rfl, tyX7_ok 11 (by decide), fun h => rfl⟩
theorem fp_X7_44 : k_fl RX7 44 7 12 true (.array .int) := ⟨RX7, TX7, 17, tyX7, cl_X7, by decide, wd115, rfl, tyX7_ok 12 (by decide), fun h => rfl⟩
theorem fp_X7_47 : k_fl RX7 47 7 13 false .int := ⟨RX7, TX7, 17, tyX7, cl_X7, by decide, wd116, rfl, tyX7_ok 13 (by decide), fun h => by cases h⟩
theorem fp_X7_50 : k_fl RX7 50 7 14 false .int := ⟨RX7, TX7, 17, tyX7, cl_X7, by decide, wd117, rfl, tyX7_ok 14 (by decide), fun h => by cases h⟩
theorem fp_X7_53 : k_fl RX7 53 7 15 false .int := ⟨RX7, TX7, 17, tyX7, cl_X7, by decide, wd118, rfl, tyX7_ok 15 (by decide), fun h => by cases h⟩
theorem fp_X7_56 : k_fl RX7 56 7 16 false .int := ⟨RX7, TX7, 17, tyX7, cl_X7, by decide, wd119, rfl, tyX7_ok 16 (by decide), fun h => by cases h⟩
theorem fp_X7_59 : k_fl RX7 59 7 0 true (.object "PressAndWait$Machine") := ⟨RX7, TX7, 17, tyX7, cl_X7, by decide, wd120, rfl, tyX7_ok 0 (by decide), fun h => rfl⟩
theorem fp_X7_63 : k_fl RX7 63 7 1 false (.object "PressAndWait$Plan") := ⟨RX7, TX7, 17, tyX7, cl_X7, by decide, wd121, rfl, tyX7_ok 1 (by decide), fun h => by cases h⟩
theorem fp_X9_62 : k_fl RX9 62 9 8 true (.object "PressAndWait$Street") := ⟨RX9, TX9, 16, tyX9, cl_X9, by decide, wd39, rfl, tyX9_ok 8 (by decide), fun h => rfl⟩
theorem z_X1 : ∀ j, j < 3 → defaultValue (tyX1 j) = vp_V [.null, .null, .int 0] j := by decide +kernel
theorem n_X9_66 : k_nw RX9 66 1 3 [.null, .null, .int 0] := ⟨RX1, TX1, tyX1, cl_X1, wd40, wd41, wd42, z_X1⟩
theorem fg_X9_62 : k_fg RX9 62 9 8 := ⟨RX9, TX9, 16, tyX9, cl_X9, by decide, wd39⟩
theorem mI_X9_68 : k_mi RX9 68 yX1_init cX1_init 2 1 := ⟨wd122, wd123, wd42, wd124, rfl, by decide +kernel⟩
theorem fp_X1_11 : k_fl RX1 11 1 1 true (.array .int) := ⟨RX1, TX1, 3, tyX1, cl_X1, by decide, wd126, rfl, tyX1_ok 1 (by decide), fun h => rfl⟩
theorem fp_X1_15 : k_fl RX1 15 1 2 false .boolean := ⟨RX1, TX1, 3, tyX1, cl_X1, by decide, wd127, rfl, tyX1_ok 2 (by decide), fun h => by cases h⟩
theorem fp_X1_19 : k_fl RX1 19 1 0 true (.object "PressAndWait$Street") := ⟨RX1, TX1, 3, tyX1, cl_X1, by decide, wd128, rfl, tyX1_ok 0 (by decide), fun h => rfl⟩
theorem fp_X9_71 : k_fl RX9 71 9 9 true (.object "PressAndWait$Choice") := ⟨RX9, TX9, 16, tyX9, cl_X9, by decide, wd43, rfl, tyX9_ok 9 (by decide), fun h => rfl⟩
theorem z_X0 : ∀ j, j < 5 → defaultValue (tyX0 j) = vp_V [.null, .null, .null, .null, .int 0] j := by decide +kernel
theorem n_X9_75 : k_nw RX9 75 0 5 [.null, .null, .null, .null, .int 0] := ⟨RX0, TX0, tyX0, cl_X0, wd44, wd45, wd46, z_X0⟩
theorem mI_X9_77 : k_mi RX9 77 yX0_init cX0_init 2 1 := ⟨wd129, wd130, wd46, wd131, rfl, by decide +kernel⟩
theorem n_X0_9 : k_nw RX0 9 6 4 [.int 0, .int 0, .int 0, .null] := ⟨RX6, TX6, tyX6, cl_X6, wd133, wd21, wd22, z_X6⟩
theorem fp_X0_12 : k_fl RX0 12 0 1 true (.object "PressAndWait$State") := ⟨RX0, TX0, 5, tyX0, cl_X0, by decide, wd134, rfl, tyX0_ok 1 (by decide), fun h => rfl⟩
theorem fp_X0_18 : k_fl RX0 18 0 2 true (.array .int) := ⟨RX0, TX0, 5, tyX0, cl_X0, by decide, wd135, rfl, tyX0_ok 2 (by decide), fun h => rfl⟩
theorem fp_X0_22 : k_fl RX0 22 0 3 true (.array .int) := ⟨RX0, TX0, 5, tyX0, cl_X0, by decide, wd136, rfl, tyX0_ok 3 (by decide), fun h => rfl⟩
theorem fp_X0_25 : k_fl RX0 25 0 4 false .int := ⟨RX0, TX0, 5, tyX0, cl_X0, by decide, wd137, rfl, tyX0_ok 4 (by decide), fun h => by cases h⟩
theorem fp_X0_29 : k_fl RX0 29 0 0 true (.object "PressAndWait$Street") := ⟨RX0, TX0, 5, tyX0, cl_X0, by decide, wd138, rfl, tyX0_ok 0 (by decide), fun h => rfl⟩
theorem fp_X9_78 : k_fl RX9 78 9 10 true (.object "PressAndWait$Ahead") := ⟨RX9, TX9, 16, tyX9, cl_X9, by decide, wd47, rfl, tyX9_ok 10 (by decide), fun h => rfl⟩
theorem z_X8 : ∀ j, j < 11 → defaultValue (tyX8 j) = vp_V [.null, .null, .null, .int 0, .int 0, .null, .int 0, .int 0, .int 0, .int 0, .int 0] j := by decide +kernel
theorem n_X9_82 : k_nw RX9 82 8 11 [.null, .null, .null, .int 0, .int 0, .null, .int 0, .int 0, .int 0, .int 0, .int 0] := ⟨RX8, TX8, tyX8, cl_X8, wd48, wd49, wd50, z_X8⟩
theorem mI_X9_84 : k_mi RX9 84 yX8_init cX8_init 2 1 := ⟨wd139, wd140, wd50, wd141, rfl, by decide +kernel⟩
theorem fp_X8_9 : k_fl RX8 9 8 1 true (.array .int) := ⟨RX8, TX8, 11, tyX8, cl_X8, by decide, wd143, rfl, tyX8_ok 1 (by decide), fun h => rfl⟩
theorem fp_X8_15 : k_fl RX8 15 8 2 true (.array .int) := ⟨RX8, TX8, 11, tyX8, cl_X8, by decide, wd144, rfl, tyX8_ok 2 (by decide), fun h => rfl⟩
theorem fp_X8_18 : k_fl RX8 18 8 3 false .int := ⟨RX8, TX8, 11, tyX8, cl_X8, by decide, wd145, rfl, tyX8_ok 3 (by decide), fun h => by cases h⟩
theorem fp_X8_22 : k_fl RX8 22 8 4 false .boolean := ⟨RX8, TX8, 11, tyX8, cl_X8, by decide, wd146, rfl, tyX8_ok 4 (by decide), fun h => by cases h⟩
theorem fp_X8_26 : k_fl RX8 26 8 5 true (.array .int) := ⟨RX8, TX8, 11, tyX8, cl_X8, by decide, wd147, rfl, tyX8_ok 5 (by decide), fun h => rfl⟩
theorem fp_X8_29 : k_fl RX8 29 8 6 false .int := ⟨RX8, TX8, 11, tyX8, cl_X8, by decide, wd148, rfl, tyX8_ok 6 (by decide), fun h => by cases h⟩
theorem fp_X8_32 : k_fl RX8 32 8 7 false .int := ⟨RX8, TX8, 11, tyX8, cl_X8, by decide, wd149, rfl, tyX8_ok 7 (by decide), fun h => by cases h⟩
theorem fp_X8_35 : k_fl RX8 35 8 8 false .int := ⟨RX8, TX8, 11, tyX8, cl_X8, by decide, wd150, rfl, tyX8_ok 8 (by decide), fun h => by cases h⟩
theorem fp_X8_38 : k_fl RX8 38 8 9 false .int := ⟨RX8, TX8, 11, tyX8, cl_X8, by decide, wd151, rfl, tyX8_ok 9 (by decide), fun h => by cases h⟩
theorem fp_X8_41 : k_fl RX8 41 8 10 false .int := ⟨RX8, TX8, 11, tyX8, cl_X8, by decide, wd152, rfl, tyX8_ok 10 (by decide), fun h => by cases h⟩
theorem fp_X8_44 : k_fl RX8 44 8 0 true (.object "PressAndWait$Street") := ⟨RX8, TX8, 11, tyX8, cl_X8, by decide, wd153, rfl, tyX8_ok 0 (by decide), fun h => rfl⟩
theorem fp_X9_85 : k_fl RX9 85 9 11 true (.object "PressAndWait$Watch") := ⟨RX9, TX9, 16, tyX9, cl_X9, by decide, wd51, rfl, tyX9_ok 11 (by decide), fun h => rfl⟩
theorem fp_X9_89 : k_fl RX9 89 9 12 true (.array .int) := ⟨RX9, TX9, 16, tyX9, cl_X9, by decide, wd52, rfl, tyX9_ok 12 (by decide), fun h => rfl⟩
theorem fp_X9_92 : k_fl RX9 92 9 13 false .int := ⟨RX9, TX9, 16, tyX9, cl_X9, by decide, wd53, rfl, tyX9_ok 13 (by decide), fun h => by cases h⟩
theorem fp_X9_95 : k_fl RX9 95 9 14 true (.array .int) := ⟨RX9, TX9, 16, tyX9, cl_X9, by decide, wd54, rfl, tyX9_ok 14 (by decide), fun h => rfl⟩
theorem fp_X9_98 : k_fl RX9 98 9 15 false .long := ⟨RX9, TX9, 16, tyX9, cl_X9, by decide, wd55, rfl, tyX9_ok 15 (by decide), fun h => by cases h⟩
theorem fg_X9_13 : k_fg RX9 13 9 1 := ⟨RX9, TX9, 16, tyX9, cl_X9, by decide, wd14⟩
theorem mV_X9_106 : k_mv RX9 106 RX9 yX9_putBytes cX9_putBytes 3 none 1 := ⟨wd256, wd257, wd258, wd2, wd259, by decide +kernel⟩
theorem mV_X9_110 : k_mv RX9 110 RX9 yX9_deny cX9_deny 2 (some .boolean) 1 := ⟨wd269, wd270, wd271, wd2, wd272, by decide +kernel⟩
theorem fg_X9_95 : k_fg RX9 95 9 14 := ⟨RX9, TX9, 16, tyX9, cl_X9, by decide, wd54⟩
theorem fg_X9_53 : k_fg RX9 53 9 7 := ⟨RX9, TX9, 16, tyX9, cl_X9, by decide, wd35⟩
theorem mV_X9_114 : k_mv RX9 114 RX9 yX9_takeTape cX9_takeTape 2 (some .int) 0 := ⟨wd283, wd284, wd285, wd2, wd286, by decide +kernel⟩
theorem mV_X9_118 : k_mv RX9 118 RX5 yX5_readCrossing cX5_readCrossing 4 none 2 := ⟨wd287, wd288, wd289, wd34, wd290, by decide +kernel⟩
theorem mV_X5_41 : k_mv RX5 41 RX5 yX5_begin cX5_begin 3 none 2 := ⟨wd293, wd294, wd295, wd34, wd296, by decide +kernel⟩
theorem mV_X5_96 : k_mv RX5 96 RX4 yX4_clear cX4_clear 1 none 0 := ⟨wd301, wd302, wd303, wd17, wd304, by decide +kernel⟩
theorem fp_X4_39 : k_fl RX4 39 4 0 false .int := ⟨RX4, TX4, 18, tyX4, cl_X4, by decide, wd305, rfl, tyX4_ok 0 (by decide), fun h => by cases h⟩
theorem fp_X4_43 : k_fl RX4 43 4 4 false .int := ⟨RX4, TX4, 18, tyX4, cl_X4, by decide, wd306, rfl, tyX4_ok 4 (by decide), fun h => by cases h⟩
theorem fp_X4_46 : k_fl RX4 46 4 5 false .int := ⟨RX4, TX4, 18, tyX4, cl_X4, by decide, wd307, rfl, tyX4_ok 5 (by decide), fun h => by cases h⟩
theorem fp_X4_49 : k_fl RX4 49 4 6 false .int := ⟨RX4, TX4, 18, tyX4, cl_X4, by decide, wd308, rfl, tyX4_ok 6 (by decide), fun h => by cases h⟩
theorem fp_X4_52 : k_fl RX4 52 4 10 false .int := ⟨RX4, TX4, 18, tyX4, cl_X4, by decide, wd309, rfl, tyX4_ok 10 (by decide), fun h => by cases h⟩
theorem fp_X4_55 : k_fl RX4 55 4 16 false .int := ⟨RX4, TX4, 18, tyX4, cl_X4, by decide, wd310, rfl, tyX4_ok 16 (by decide), fun h => by cases h⟩
theorem fg_X4_27 : k_fg RX4 27 4 13 := ⟨RX4, TX4, 18, tyX4, cl_X4, by decide, wd64⟩
theorem mS_X4_58 : k_ms RX4 58 yJ7_fill_53178 cJ7_fill_53178 4 none 2 := ⟨wd311, wd312, wd313, wd314, by decide +kernel⟩
theorem fg_X4_36 : k_fg RX4 36 4 17 := ⟨RX4, TX4, 18, tyX4, cl_X4, by decide, wd67⟩
theorem fg_X5_33 : k_fg RX5 33 5 0 := ⟨RX5, TX5, 9, tyX5, cl_X5, by decide, wd99⟩
theorem mV_X5_86 : k_mv RX5 86 RX5 yX5_moveTo cX5_moveTo 3 none 1 := ⟨wd315, wd316, wd317, wd34, wd318, by decide +kernel⟩
theorem fg_X5_15 : k_fg RX5 15 5 2 := ⟨RX5, TX5, 9, tyX5, cl_X5, by decide, wd93⟩
theorem fg_X5_11 : k_fg RX5 11 5 1 := ⟨RX5, TX5, 9, tyX5, cl_X5, by decide, wd92⟩
theorem mV_X5_252 : k_mv RX5 252 RX5 yX5_sortOf cX5_sortOf 2 (some .int) 1 := ⟨wd319, wd320, wd321, wd34, wd322, by decide +kernel⟩
theorem fg_X5_18 : k_fg RX5 18 5 3 := ⟨RX5, TX5, 9, tyX5, cl_X5, by decide, wd94⟩
theorem mV_X5_45 : k_mv RX5 45 RX5 yX5_firstStatement cX5_firstStatement 1 none 0 := ⟨wd323, wd324, wd325, wd34, wd326, by decide +kernel⟩
theorem fg_X5_37 : k_fg RX5 37 5 6 := ⟨RX5, TX5, 9, tyX5, cl_X5, by decide, wd100⟩
theorem mV_X5_70 : k_mv RX5 70 RX5 yX5_numberBehind cX5_numberBehind 4 (some .int) 3 := ⟨wd331, wd332, wd333, wd34, wd334, by decide +kernel⟩
theorem mV_X5_144 : k_mv RX5 144 RX5 yX5_needWord cX5_needWord 2 none 1 := ⟨wd335, wd336, wd337, wd34, wd338, by decide +kernel⟩
theorem mV_X5_54 : k_mv RX5 54 RX5 yX5_wordIn cX5_wordIn 6 (some .int) 1 := ⟨wd339, wd340, wd341, wd34, wd342, by decide +kernel⟩
theorem fg_X5_21 : k_fg RX5 21 5 4 := ⟨RX5, TX5, 9, tyX5, cl_X5, by decide, wd95⟩
theorem mV_X5_78 : k_mv RX5 78 RX5 yX5_fail cX5_fail 3 none 2 := ⟨wd392, wd393, wd394, wd34, wd395, by decide +kernel⟩
theorem fg_X5_27 : k_fg RX5 27 5 7 := ⟨RX5, TX5, 9, tyX5, cl_X5, by decide, wd97⟩
theorem mV_X5_168 : k_mv RX5 168 RX5 yX5_number cX5_number 5 (some .int) 2 := ⟨wd396, wd397, wd398, wd34, wd399, by decide +kernel⟩
theorem fp_X5_107 : k_fl RX5 107 4 0 false .int := ⟨RX4, TX4, 18, tyX4, cl_X4, by decide, wd327, rfl, tyX4_ok 0 (by decide), fun h => by cases h⟩
theorem fg_X5_107 : k_fg RX5 107 4 0 := ⟨RX4, TX4, 18, tyX4, cl_X4, by decide, wd327⟩
theorem fp_X5_111 : k_fl RX5 111 4 1 false .int := ⟨RX4, TX4, 18, tyX4, cl_X4, by decide, wd328, rfl, tyX4_ok 1 (by decide), fun h => by cases h⟩
theorem fp_X5_115 : k_fl RX5 115 4 2 false .int := ⟨RX4, TX4, 18, tyX4, cl_X4, by decide, wd329, rfl, tyX4_ok 2 (by decide), fun h => by cases h⟩
theorem fp_X5_119 : k_fl RX5 119 4 3 false .int := ⟨RX4, TX4, 18, tyX4, cl_X4, by decide, wd330, rfl, tyX4_ok 3 (by decide), fun h => by cases h⟩
theorem mV_X5_48 : k_mv RX5 48 RX5 yX5_need cX5_need 2 none 1 := ⟨wd400, wd401, wd402, wd34, wd403, by decide +kernel⟩
theorem mV_X5_213 : k_mv RX5 213 RX5 yX5_sees cX5_sees 2 (some .boolean) 1 := ⟨wd404, wd405, wd406, wd34, wd407, by decide +kernel⟩
theorem fp_X5_81 : k_fl RX5 81 4 5 false .int := ⟨RX4, TX4, 18, tyX4, cl_X4, by decide, wd292, rfl, tyX4_ok 5 (by decide), fun h => by cases h⟩
theorem fg_X9_122 : k_fg RX9 122 5 7 := ⟨RX5, TX5, 9, tyX5, cl_X5, by decide, wd281⟩
theorem mV_X9_102 : k_mv RX9 102 RX9 yX9_refuse cX9_refuse 2 (some .int) 1 := ⟨wd252, wd253, wd254, wd2, wd255, by decide +kernel⟩
theorem fg_X9_142 : k_fg RX9 142 5 8 := ⟨RX5, TX5, 9, tyX5, cl_X5, by decide, wd743⟩
theorem fg_X9_145 : k_fg RX9 145 4 0 := ⟨RX4, TX4, 18, tyX4, cl_X4, by decide, wd752⟩
theorem fg_X9_148 : k_fg RX9 148 4 6 := ⟨RX4, TX4, 18, tyX4, cl_X4, by decide, wd753⟩
theorem fg_X9_151 : k_fg RX9 151 4 10 := ⟨RX4, TX4, 18, tyX4, cl_X4, by decide, wd754⟩
theorem fg_X9_30 : k_fg RX9 30 9 4 := ⟨RX9, TX9, 16, tyX9, cl_X9, by decide, wd23⟩
theorem fg_X9_154 : k_fg RX9 154 6 0 := ⟨RX6, TX6, 4, tyX6, cl_X6, by decide, wd755⟩
theorem fg_X9_157 : k_fg RX9 157 6 1 := ⟨RX6, TX6, 4, tyX6, cl_X6, by decide, wd756⟩
theorem fg_X9_160 : k_fg RX9 160 6 2 := ⟨RX6, TX6, 4, tyX6, cl_X6, by decide, wd757⟩
theorem fg_X9_85 : k_fg RX9 85 9 11 := ⟨RX9, TX9, 16, tyX9, cl_X9, by decide, wd51⟩
theorem fg_X9_163 : k_fg RX9 163 8 3 := ⟨RX8, TX8, 11, tyX8, cl_X8, by decide, wd758⟩
theorem fg_X9_37 : k_fg RX9 37 9 5 := ⟨RX9, TX9, 16, tyX9, cl_X9, by decide, wd27⟩
theorem fg_X9_166 : k_fg RX9 166 2 2 := ⟨RX2, TX2, 3, tyX2, cl_X2, by decide, wd759⟩
theorem mV_X9_172 : k_mv RX9 172 RX9 yX9_isWalker cX9_isWalker 2 (some .boolean) 1 := ⟨wd781, wd782, wd783, wd2, wd784, by decide +kernel⟩
theorem mV_X9_169 : k_mv RX9 169 RX9 yX9_isKind cX9_isKind 2 (some .boolean) 1 := ⟨wd777, wd778, wd779, wd2, wd780, by decide +kernel⟩
theorem mV_X9_218 : k_mv RX9 218 RX9 yX9_stands cX9_stands 1 (some .boolean) 0 := ⟨wd995, wd996, wd997, wd2, wd998, by decide +kernel⟩
theorem mV_X9_254 : k_mv RX9 254 RX8 yX8_accepts cX8_accepts 6 (some .boolean) 3 := ⟨wd1193, wd1194, wd1195, wd50, wd1196, by decide +kernel⟩
theorem mV_X9_284 : k_mv RX9 284 RX4 yX4_allowsGreen cX4_allowsGreen 2 (some .boolean) 1 := ⟨wd1303, wd1304, wd1305, wd17, wd1306, by decide +kernel⟩
theorem fg_X4_39 : k_fg RX4 39 4 0 := ⟨RX4, TX4, 18, tyX4, cl_X4, by decide, wd305⟩
theorem mV_X9_287 : k_mv RX9 287 RX9 yX9_canLive cX9_canLive 2 (some .boolean) 1 := ⟨wd1323, wd1324, wd1325, wd2, wd1326, by decide +kernel⟩
theorem mV_X9_305 : k_mv RX9 305 RX2 yX2_giveBack cX2_giveBack 2 (some .boolean) 1 := ⟨wd1363, wd1364, wd1365, wd26, wd1366, by decide +kernel⟩
theorem fg_X2_21 : k_fg RX2 21 2 2 := ⟨RX2, TX2, 3, tyX2, cl_X2, by decide, wd82⟩
theorem fg_X9_89 : k_fg RX9 89 9 12 := ⟨RX9, TX9, 16, tyX9, cl_X9, by decide, wd52⟩
theorem mS_X9_319 : k_ms RX9 319 yX9_check cX9_check 4 (some .int) 2 := ⟨wd1428, wd1429, wd2, wd1430, by decide +kernel⟩
theorem fg_X9_92 : k_fg RX9 92 9 13 := ⟨RX9, TX9, 16, tyX9, cl_X9, by decide, wd53⟩
theorem mV_X9_322 : k_mv RX9 322 RX9 yX9_isImage cX9_isImage 3 (some .boolean) 1 := ⟨wd1456, wd1457, wd1458, wd2, wd1459, by decide +kernel⟩
theorem fg_X10_276 : k_fg RX10 276 10 1 := ⟨RX10, TX10, 122, tyX10, cl_X10, by decide, wd264⟩
theorem fg_X10_7 : k_fg RX10 7 10 0 := ⟨RX10, TX10, 122, tyX10, cl_X10, by decide, wd158⟩
theorem fp_X10_276 : k_fl RX10 276 10 1 false .int := ⟨RX10, TX10, 122, tyX10, cl_X10, by decide, wd264, rfl, tyX10_ok 1 (by decide), fun h => by cases h⟩
theorem fg_X10_17 : k_fg RX10 17 10 9 := ⟨RX10, TX10, 122, tyX10, cl_X10, by decide, wd160⟩
theorem fp_X10_288 : k_fl RX10 288 10 3 false .int := ⟨RX10, TX10, 122, tyX10, cl_X10, by decide, wd551, rfl, tyX10_ok 3 (by decide), fun h => by cases h⟩
theorem fp_X10_285 : k_fl RX10 285 10 2 false .int := ⟨RX10, TX10, 122, tyX10, cl_X10, by decide, wd552, rfl, tyX10_ok 2 (by decide), fun h => by cases h⟩
theorem fp_X10_299 : k_fl RX10 299 10 4 false .int := ⟨RX10, TX10, 122, tyX10, cl_X10, by decide, wd553, rfl, tyX10_ok 4 (by decide), fun h => by cases h⟩
theorem fp_X10_279 : k_fl RX10 279 10 5 false .int := ⟨RX10, TX10, 122, tyX10, cl_X10, by decide, wd554, rfl, tyX10_ok 5 (by decide), fun h => by cases h⟩
theorem fp_X10_282 : k_fl RX10 282 10 6 false .int := ⟨RX10, TX10, 122, tyX10, cl_X10, by decide, wd555, rfl, tyX10_ok 6 (by decide), fun h => by cases h⟩
theorem fp_X10_387 : k_fl RX10 387 10 52 false .int := ⟨RX10, TX10, 122, tyX10, cl_X10, by decide, wd556, rfl, tyX10_ok 52 (by decide), fun h => by cases h⟩
theorem fg_X10_111 : k_fg RX10 111 10 41 := ⟨RX10, TX10, 122, tyX10, cl_X10, by decide, wd192⟩
theorem fg_X10_130 : k_fg RX10 130 10 49 := ⟨RX10, TX10, 122, tyX10, cl_X10, by decide, wd199⟩
theorem fp_X10_402 : k_fl RX10 402 10 47 false .int := ⟨RX10, TX10, 122, tyX10, cl_X10, by decide, wd557, rfl, tyX10_ok 47 (by decide), fun h => by cases h⟩
theorem mV_X10_405 : k_mv RX10 405 RX10 yX10_barTold cX10_barTold 1 none 0 := ⟨wd560, wd561, wd562, wd5, wd563, by decide +kernel⟩
theorem fg_X10_20 : k_fg RX10 20 10 10 := ⟨RX10, TX10, 122, tyX10, cl_X10, by decide, wd162⟩
theorem mV_X10_350 : k_mv RX10 350 RX10 yX10_asks cX10_asks 2 none 1 := ⟨wd564, wd565, wd566, wd5, wd567, by decide +kernel⟩
theorem fg_X10_279 : k_fg RX10 279 10 5 := ⟨RX10, TX10, 122, tyX10, cl_X10, by decide, wd554⟩
theorem mV_X10_305 : k_mv RX10 305 RX10 yX10_takes cX10_takes 2 (some .boolean) 1 := ⟨wd568, wd569, wd570, wd5, wd571, by decide +kernel⟩
theorem mV_X10_302 : k_mv RX10 302 RX10 yX10_isHere cX10_isHere 4 (some .boolean) 1 := ⟨wd572, wd573, wd574, wd5, wd575, by decide +kernel⟩
theorem mV_X10_291 : k_mv RX10 291 RX10 yX10_look cX10_look 1 (some .int) 0 := ⟨wd576, wd577, wd578, wd5, wd579, by decide +kernel⟩
theorem fg_X10_285 : k_fg RX10 285 10 2 := ⟨RX10, TX10, 122, tyX10, cl_X10, by decide, wd552⟩
theorem fg_X10_288 : k_fg RX10 288 10 3 := ⟨RX10, TX10, 122, tyX10, cl_X10, by decide, wd551⟩
theorem mS_X10_295 : k_ms RX10 295 yX10_isLetter cX10_isLetter 1 (some .boolean) 1 := ⟨wd580, wd581, wd5, wd582, by decide +kernel⟩
theorem mV_X10_308 : k_mv RX10 308 RX10 yX10_fail cX10_fail 3 none 2 := ⟨wd583, wd584, wd585, wd5, wd586, by decide +kernel⟩
theorem fg_X10_118 : k_fg RX10 118 10 43 := ⟨RX10, TX10, 122, tyX10, cl_X10, by decide, wd195⟩
theorem mV_X10_354 : k_mv RX10 354 RX10 yX10_number cX10_number 5 (some .int) 2 := ⟨wd587, wd588, wd589, wd5, wd590, by decide +kernel⟩
theorem fg_X10_24 : k_fg RX10 24 10 11 := ⟨RX10, TX10, 122, tyX10, cl_X10, by decide, wd163⟩
theorem fg_X10_27 : k_fg RX10 27 10 12 := ⟨RX10, TX10, 122, tyX10, cl_X10, by decide, wd164⟩
theorem fg_X10_30 : k_fg RX10 30 10 13 := ⟨RX10, TX10, 122, tyX10, cl_X10, by decide, wd165⟩
theorem mV_X10_358 : k_mv RX10 358 RX10 yX10_asksSign cX10_asksSign 2 none 1 := ⟨wd597, wd598, wd599, wd5, wd600, by decide +kernel⟩
theorem fp_X10_390 : k_fl RX10 390 10 53 false .int := ⟨RX10, TX10, 122, tyX10, cl_X10, by decide, wd558, rfl, tyX10_ok 53 (by decide), fun h => by cases h⟩
theorem fp_X10_411 : k_fl RX10 411 10 7 false .int := ⟨RX10, TX10, 122, tyX10, cl_X10, by decide, wd559, rfl, tyX10_ok 7 (by decide), fun h => by cases h⟩
theorem fg_X10_282 : k_fg RX10 282 10 6 := ⟨RX10, TX10, 122, tyX10, cl_X10, by decide, wd555⟩
theorem fg_X10_13 : k_fg RX10 13 10 8 := ⟨RX10, TX10, 122, tyX10, cl_X10, by decide, wd159⟩
theorem fg_X10_411 : k_fg RX10 411 10 7 := ⟨RX10, TX10, 122, tyX10, cl_X10, by decide, wd559⟩
theorem mV_X10_430 : k_mv RX10 430 RX10 yX10_kindMany cX10_kindMany 1 (some .int) 0 := ⟨wd764, wd765, wd766, wd5, wd767, by decide +kernel⟩
theorem mV_X10_433 : k_mv RX10 433 RX10 yX10_walkerMany cX10_walkerMany 1 (some .int) 0 := ⟨wd768, wd769, wd770, wd5, wd771, by decide +kernel⟩
theorem fg_X10_139 : k_fg RX10 139 10 56 := ⟨RX10, TX10, 122, tyX10, cl_X10, by decide, wd202⟩
theorem fg_X10_427 : k_fg RX10 427 10 75 := ⟨RX10, TX10, 122, tyX10, cl_X10, by decide, wd738⟩
theorem fg_X10_424 : k_fg RX10 424 10 82 := ⟨RX10, TX10, 122, tyX10, cl_X10, by decide, wd737⟩
theorem mS_X10_318 : k_ms RX10 318 yX10_isIn cX10_isIn 6 (some .boolean) 3 := ⟨wd594, wd595, wd5, wd596, by decide +kernel⟩
theorem mV_X10_528 : k_mv RX10 528 RX10 yX10_isKind cX10_isKind 2 (some .boolean) 1 := ⟨wd805, wd806, wd807, wd5, wd808, by decide +kernel⟩
theorem mV_X10_531 : k_mv RX10 531 RX10 yX10_isWalker cX10_isWalker 2 (some .boolean) 1 := ⟨wd918, wd919, wd920, wd5, wd921, by decide +kernel⟩
theorem fg_X10_417 : k_fg RX10 417 10 54 := ⟨RX10, TX10, 122, tyX10, cl_X10, by decide, wd735⟩
theorem mV_X10_554 : k_mv RX10 554 RX10 yX10_isAhead cX10_isAhead 4 (some .boolean) 3 := ⟨wd1158, wd1159, wd1160, wd5, wd1161, by decide +kernel⟩
theorem mV_X10_567 : k_mv RX10 567 RX10 yX10_refuses cX10_refuses 2 (some .int) 1 := ⟨wd1207, wd1208, wd1209, wd5, wd1210, by decide +kernel⟩
theorem mV_X10_591 : k_mv RX10 591 RX10 yX10_isRefused cX10_isRefused 1 (some .boolean) 0 := ⟨wd1290, wd1291, wd1292, wd5, wd1293, by decide +kernel⟩
theorem fp_X10_699 : k_fl RX10 699 10 121 false .int := ⟨RX10, TX10, 122, tyX10, cl_X10, by decide, wd1435, rfl, tyX10_ok 121 (by decide), fun h => by cases h⟩
theorem mV_X10_702 : k_mv RX10 702 RX10 yX10_writes cX10_writes 2 none 1 := ⟨wd1436, wd1437, wd1438, wd5, wd1439, by decide +kernel⟩
theorem fg_X10_273 : k_fg RX10 273 10 120 := ⟨RX10, TX10, 122, tyX10, cl_X10, by decide, wd247⟩
theorem fg_X10_699 : k_fg RX10 699 10 121 := ⟨RX10, TX10, 122, tyX10, cl_X10, by decide, wd1435⟩
theorem mS_X10_705 : k_ms RX10 705 yX10_checked cX10_checked 4 (some .int) 2 := ⟨wd1440, wd1441, wd5, wd1442, by decide +kernel⟩
theorem mV_X10_709 : k_mv RX10 709 RX10 yX10_isImage cX10_isImage 3 (some .boolean) 1 := ⟨wd1464, wd1465, wd1466, wd5, wd1467, by decide +kernel⟩
theorem mV_L_13 : k_mv RL 13 RX9 yX9_feed cX9_feed 6 (some .int) 5 := ⟨wd248, wd249, wd250, wd2, wd251, by decide +kernel⟩
theorem mV_L_17 : k_mv RL 17 RX10 yX10_feed cX10_feed 8 (some .int) 5 := ⟨wd260, wd261, wd262, wd5, wd263, by decide +kernel⟩
theorem mV_L_18 : k_mv RL 18 RX9 yX9_end cX9_end 2 (some .boolean) 1 := ⟨wd265, wd266, wd267, wd2, wd268, by decide +kernel⟩
theorem mV_L_22 : k_mv RL 22 RX10 yX10_end cX10_end 2 (some .boolean) 1 := ⟨wd273, wd274, wd275, wd5, wd276, by decide +kernel⟩
theorem mV_L_23 : k_mv RL 23 RX9 yX9_crossing cX9_crossing 2 (some .int) 0 := ⟨wd277, wd278, wd279, wd2, wd280, by decide +kernel⟩
theorem mV_L_27 : k_mv RL 27 RX10 yX10_crossing cX10_crossing 2 (some .int) 0 := ⟨wd547, wd548, wd549, wd5, wd550, by decide +kernel⟩
theorem mV_L_28 : k_mv RL 28 RX9 yX9_fault cX9_fault 2 (some .int) 1 := ⟨wd739, wd740, wd741, wd2, wd742, by decide +kernel⟩
theorem mV_L_32 : k_mv RL 32 RX10 yX10_fault cX10_fault 2 (some .int) 1 := ⟨wd744, wd745, wd746, wd5, wd747, by decide +kernel⟩
theorem mV_L_33 : k_mv RL 33 RX9 yX9_has cX9_has 2 (some .int) 1 := ⟨wd748, wd749, wd750, wd2, wd751, by decide +kernel⟩
theorem mV_L_36 : k_mv RL 36 RX10 yX10_has cX10_has 2 (some .int) 1 := ⟨wd760, wd761, wd762, wd5, wd763, by decide +kernel⟩
theorem mV_L_37 : k_mv RL 37 RX9 yX9_letter cX9_letter 6 (some .int) 3 := ⟨wd772, wd773, wd774, wd2, wd775, by decide +kernel⟩
theorem mV_L_41 : k_mv RL 41 RX10 yX10_letter cX10_letter 9 (some .int) 3 := ⟨wd785, wd786, wd787, wd5, wd788, by decide +kernel⟩
theorem mV_L_42 : k_mv RL 42 RX9 yX9_kind cX9_kind 3 (some .int) 2 := ⟨wd790, wd791, wd792, wd2, wd793, by decide +kernel⟩
theorem mV_L_46 : k_mv RL 46 RX10 yX10_kind cX10_kind 5 (some .int) 2 := ⟨wd801, wd802, wd803, wd5, wd804, by decide +kernel⟩
theorem mV_L_47 : k_mv RL 47 RX9 yX9_walker cX9_walker 3 (some .int) 2 := ⟨wd817, wd818, wd819, wd2, wd820, by decide +kernel⟩
theorem mV_L_50 : k_mv RL 50 RX10 yX10_walker cX10_walker 3 (some .int) 2 := ⟨wd914, wd915, wd916, wd5, wd917, by decide +kernel⟩
theorem mV_L_51 : k_mv RL 51 RX9 yX9_light cX9_light 2 (some .int) 1 := ⟨wd990, wd991, wd992, wd2, wd993, by decide +kernel⟩
theorem mV_L_54 : k_mv RL 54 RX10 yX10_light cX10_light 2 (some .int) 1 := ⟨wd999, wd1000, wd1001, wd5, wd1002, by decide +kernel⟩
theorem mV_L_55 : k_mv RL 55 RX9 yX9_car cX9_car 2 (some .int) 1 := ⟨wd1004, wd1005, wd1006, wd2, wd1007, by decide +kernel⟩
theorem mV_L_58 : k_mv RL 58 RX10 yX10_car cX10_car 2 (some .int) 1 := ⟨wd1009, wd1010, wd1011, wd5, wd1012, by decide +kernel⟩
theorem mV_L_59 : k_mv RL 59 RX9 yX9_day cX9_day 2 (some .int) 1 := ⟨wd1014, wd1015, wd1016, wd2, wd1017, by decide +kernel⟩
theorem mV_L_62 : k_mv RL 62 RX10 yX10_day cX10_day 2 (some .int) 1 := ⟨wd1042, wd1043, wd1044, wd5, wd1045, by decide +kernel⟩
theorem mV_L_63 : k_mv RL 63 RX9 yX9_best cX9_best 3 (some .int) 2 := ⟨wd1065, wd1066, wd1067, wd2, wd1068, by decide +kernel⟩
theorem mV_L_66 : k_mv RL 66 RX10 yX10_best cX10_best 9 (some .int) 2 := ⟨wd1084, wd1085, wd1086, wd5, wd1087, by decide +kernel⟩
theorem mV_L_67 : k_mv RL 67 RX9 yX9_least cX9_least 1 (some .int) 0 := ⟨wd1094, wd1095, wd1096, wd2, wd1097, by decide +kernel⟩
theorem mV_L_70 : k_mv RL 70 RX10 yX10_least cX10_least 2 (some .int) 0 := ⟨wd1107, wd1108, wd1109, wd5, wd1110, by decide +kernel⟩
theorem mV_L_71 : k_mv RL 71 RX9 yX9_hold cX9_hold 1 (some .int) 0 := ⟨wd1111, wd1112, wd1113, wd2, wd1114, by decide +kernel⟩
theorem mV_L_74 : k_mv RL 74 RX10 yX10_hold cX10_hold 3 (some .int) 0 := ⟨wd1124, wd1125, wd1126, wd5, wd1127, by decide +kernel⟩
theorem mV_L_75 : k_mv RL 75 RX9 yX9_later cX9_later 3 (some .int) 2 := ⟨wd1131, wd1132, wd1133, wd2, wd1134, by decide +kernel⟩
theorem mV_L_78 : k_mv RL 78 RX10 yX10_later cX10_later 4 (some .int) 2 := ⟨wd1154, wd1155, wd1156, wd5, wd1157, by decide +kernel⟩
theorem mV_L_79 : k_mv RL 79 RX9 yX9_doubts cX9_doubts 4 (some .int) 1 := ⟨wd1179, wd1180, wd1181, wd2, wd1182, by decide +kernel⟩
theorem mV_L_82 : k_mv RL 82 RX10 yX10_doubts cX10_doubts 4 (some .int) 1 := ⟨wd1185, wd1186, wd1187, wd5, wd1188, by decide +kernel⟩
theorem mV_L_83 : k_mv RL 83 RX9 yX9_see cX9_see 2 (some .int) 0 := ⟨wd1189, wd1190, wd1191, wd2, wd1192, by decide +kernel⟩
theorem mV_L_86 : k_mv RL 86 RX10 yX10_see cX10_see 5 (some .int) 0 := ⟨wd1202, wd1203, wd1204, wd5, wd1205, by decide +kernel⟩
theorem mV_L_87 : k_mv RL 87 RX9 yX9_fits cX9_fits 2 (some .int) 1 := ⟨wd1211, wd1212, wd1213, wd2, wd1214, by decide +kernel⟩
theorem mV_L_90 : k_mv RL 90 RX10 yX10_fits cX10_fits 2 (some .int) 1 := ⟨wd1243, wd1244, wd1245, wd5, wd1246, by decide +kernel⟩
theorem mV_L_91 : k_mv RL 91 RX9 yX9_watched cX9_watched 2 (some .int) 1 := ⟨wd1258, wd1259, wd1260, wd2, wd1261, by decide +kernel⟩
theorem mV_L_94 : k_mv RL 94 RX10 yX10_watched cX10_watched 6 (some .int) 1 := ⟨wd1264, wd1265, wd1266, wd5, wd1267, by decide +kernel⟩
theorem mV_L_95 : k_mv RL 95 RX9 yX9_rule cX9_rule 2 (some .boolean) 1 := ⟨wd1272, wd1273, wd1274, wd2, wd1275, by decide +kernel⟩
theorem mV_L_98 : k_mv RL 98 RX10 yX10_rule cX10_rule 2 (some .boolean) 1 := ⟨wd1286, wd1287, wd1288, wd5, wd1289, by decide +kernel⟩
theorem mV_L_99 : k_mv RL 99 RX9 yX9_green cX9_green 2 (some .boolean) 1 := ⟨wd1299, wd1300, wd1301, wd2, wd1302, by decide +kernel⟩
theorem mV_L_102 : k_mv RL 102 RX10 yX10_green cX10_green 2 (some .boolean) 1 := ⟨wd1307, wd1308, wd1309, wd5, wd1310, by decide +kernel⟩
theorem mV_L_103 : k_mv RL 103 RX9 yX9_trust cX9_trust 3 (some .boolean) 2 := ⟨wd1311, wd1312, wd1313, wd2, wd1314, by decide +kernel⟩
theorem mV_L_107 : k_mv RL 107 RX10 yX10_trust cX10_trust 3 (some .boolean) 2 := ⟨wd1315, wd1316, wd1317, wd5, wd1318, by decide +kernel⟩
theorem mV_L_108 : k_mv RL 108 RX9 yX9_days cX9_days 4 (some .int) 1 := ⟨wd1319, wd1320, wd1321, wd2, wd1322, by decide +kernel⟩
theorem mV_L_111 : k_mv RL 111 RX10 yX10_days cX10_days 4 (some .int) 1 := ⟨wd1328, wd1329, wd1330, wd5, wd1331, by decide +kernel⟩
theorem mV_L_112 : k_mv RL 112 RX9 yX9_chance cX9_chance 5 (some .int) 1 := ⟨wd1332, wd1333, wd1334, wd2, wd1335, by decide +kernel⟩
theorem mV_L_115 : k_mv RL 115 RX10 yX10_chance cX10_chance 6 (some .int) 1 := ⟨wd1347, wd1348, wd1349, wd5, wd1350, by decide +kernel⟩
theorem mV_L_116 : k_mv RL 116 RX9 yX9_undo cX9_undo 1 (some .boolean) 0 := ⟨wd1359, wd1360, wd1361, wd2, wd1362, by decide +kernel⟩
theorem mV_L_120 : k_mv RL 120 RX10 yX10_undo cX10_undo 2 (some .boolean) 0 := ⟨wd1367, wd1368, wd1369, wd5, wd1370, by decide +kernel⟩
theorem mV_L_121 : k_mv RL 121 RX9 yX9_seed cX9_seed 2 (some .boolean) 1 := ⟨wd1371, wd1372, wd1373, wd2, wd1374, by decide +kernel⟩
theorem mV_L_124 : k_mv RL 124 RX10 yX10_seed cX10_seed 2 (some .boolean) 1 := ⟨wd1375, wd1376, wd1377, wd5, wd1378, by decide +kernel⟩
theorem mV_L_125 : k_mv RL 125 RX9 yX9_ask cX9_ask 3 (some .long) 0 := ⟨wd1379, wd1380, wd1381, wd2, wd1382, by decide +kernel⟩
theorem mV_L_129 : k_mv RL 129 RX10 yX10_ask cX10_ask 3 (some .long) 0 := ⟨wd1400, wd1401, wd1402, wd5, wd1403, by decide +kernel⟩
theorem mV_L_130 : k_mv RL 130 RX9 yX9_image cX9_image 2 (some .int) 0 := ⟨wd1424, wd1425, wd1426, wd2, wd1427, by decide +kernel⟩
theorem mV_L_133 : k_mv RL 133 RX10 yX10_image cX10_image 2 (some .int) 0 := ⟨wd1431, wd1432, wd1433, wd5, wd1434, by decide +kernel⟩
theorem mV_L_134 : k_mv RL 134 RX9 yX9_octet cX9_octet 2 (some .int) 1 := ⟨wd1443, wd1444, wd1445, wd2, wd1446, by decide +kernel⟩
theorem mV_L_137 : k_mv RL 137 RX10 yX10_octet cX10_octet 2 (some .int) 1 := ⟨wd1447, wd1448, wd1449, wd5, wd1450, by decide +kernel⟩
theorem mV_L_138 : k_mv RL 138 RX9 yX9_on cX9_on 2 (some .boolean) 0 := ⟨wd1451, wd1452, wd1453, wd2, wd1454, by decide +kernel⟩
theorem mV_L_141 : k_mv RL 141 RX10 yX10_on cX10_on 3 (some .boolean) 0 := ⟨wd1460, wd1461, wd1462, wd5, wd1463, by decide +kernel⟩
theorem mV_L_142 : k_mv RL 142 RX9 yX9_status cX9_status 2 (some .int) 1 := ⟨wd1468, wd1469, wd1470, wd2, wd1471, by decide +kernel⟩
theorem mV_L_145 : k_mv RL 145 RX10 yX10_status cX10_status 2 (some .int) 1 := ⟨wd1472, wd1473, wd1474, wd5, wd1475, by decide +kernel⟩
theorem z_X9 : ∀ j, j < 16 → defaultValue (tyX9 j) = vp_V [.null, .int 0, .null, .null, .null, .null, .null, .null, .null, .null, .null, .null, .null, .int 0, .null, .long 0] j := by decide +kernel
theorem n_L_7 : k_nw RL 7 9 16 [.null, .int 0, .null, .null, .null, .null, .null, .null, .null, .null, .null, .null, .null, .int 0, .null, .long 0] := ⟨RX9, TX9, tyX9, cl_X9, wd0, wd1, wd2, z_X9⟩
theorem mI_L_9 : k_mi RL 9 yX9_init cX9_init 1 0 := ⟨wd6, wd7, wd2, wd8, rfl, by decide +kernel⟩
theorem z_X10 : ∀ j, j < 122 → defaultValue (tyX10 j) = vp_V (.null :: .int 0 :: .int 0 :: .int 0 :: .int 0 :: .int 0 :: .int 0 :: .int 0 :: .int 0 :: .null :: .null :: .null :: .null :: .null :: .null :: .null :: .null :: .null :: .null :: .null :: .null :: .null :: .null :: .null :: .null :: .null :: .null :: .null :: .null :: .null :: .null :: .null :: .null :: .null :: .null :: .null :: .null :: .null :: .null :: .null :: .int 0 :: .null :: .null :: .null :: .null :: .null :: .null :: .int 0 :: .int 0 :: .null :: .null :: .null :: .int 0 :: .int 0 :: .int 0 :: .int 0 :: .null :: .null :: .int 0 :: .int 0 :: .null :: .null :: .null :: .null :: .null :: .null :: .null :: .null :: .null :: .null :: .int 0 :: .int 0 :: .int 0 :: .int 0 :: .int 0 :: .int 0 :: .null :: .null :: .int 0 :: .int 0 :: .int 0 :: .null :: .int 0 :: .int 0 :: .long 0 :: .null :: .null :: .null :: .null :: .null :: .null :: .null :: .null :: .null :: .null :: .null :: .null :: .null :: .null :: .null :: .null :: .null :: .null :: .null :: .null :: .null :: .null :: .null :: .null :: .null :: .null :: .int 0 :: .null :: .int 0 :: .int 0 :: .int 0 :: .null :: .int 0 :: .long 0 :: .int 0 :: .null :: .int 0 :: []) j := by decide +kernel
theorem n_L_10 : k_nw RL 10 10 122 (.null :: .int 0 :: .int 0 :: .int 0 :: .int 0 :: .int 0 :: .int 0 :: .int 0 :: .int 0 :: .null :: .null :: .null :: .null :: .null :: .null :: .null :: .null :: .null :: .null :: .null :: .null :: .null :: .null :: .null :: .null :: .null :: .null :: .null :: .null :: .null :: .null :: .null :: .null :: .null :: .null :: .null :: .null :: .null :: .null :: .null :: .int 0 :: .null :: .null :: .null :: .null :: .null :: .null :: .int 0 :: .int 0 :: .null :: .null :: .null :: .int 0 :: .int 0 :: .int 0 :: .int 0 :: .null :: .null :: .int 0 :: .int 0 :: .null :: .null :: .null :: .null :: .null :: .null :: .null :: .null :: .null :: .null :: .int 0 :: .int 0 :: .int 0 :: .int 0 :: .int 0 :: .int 0 :: .null :: .null :: .int 0 :: .int 0 :: .int 0 :: .null :: .int 0 :: .int 0 :: .long 0 :: .null :: .null :: .null :: .null :: .null :: .null :: .null :: .null :: .null :: .null :: .null :: .null :: .null :: .null :: .null :: .null :: .null :: .null :: .null :: .null :: .null :: .null :: .null :: .null :: .null :: .null :: .int 0 :: .null :: .int 0 :: .int 0 :: .int 0 :: .null :: .int 0 :: .long 0 :: .int 0 :: .null :: .int 0 :: []) := ⟨RX10, TX10, tyX10, cl_X10, wd3, wd4, wd5, z_X10⟩
theorem mI_L_12 : k_mi RL 12 yX10_init cX10_init 1 0 := ⟨wd154, wd155, wd5, wd156, rfl, by decide +kernel⟩
