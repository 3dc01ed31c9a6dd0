section
/-! wd -/
theorem k_D {D : va_G} {cl : List vw_C} {ws : va_W} {H : Heap} {A : Nat → Prop} (_ : va_P D cl ws H) (hD : va_D A ws) : va_D A ws := hD
abbrev wi_0_108_0 (a : Nat) (cy : Nat → ClassId) (f : Nat → Int32) : Nat × va_E := (a, .inl (cy 0, 108, .inl f))
abbrev wi_0_11_0 (a : Nat) (cy : Nat → ClassId) (f : Nat → Int32) : Nat × va_E := (a, .inl (cy 0, 11, .inl f))
abbrev wi_0_12_0 (a : Nat) (cy : Nat → ClassId) (f : Nat → Int32) : Nat × va_E := (a, .inl (cy 0, 12, .inl f))
abbrev wi_0_13_0 (a : Nat) (cy : Nat → ClassId) (f : Nat → Int32) : Nat × va_E := (a, .inl (cy 0, 13, .inl f))
abbrev wi_0_1600_0 (a : Nat) (cy : Nat → ClassId) (f : Nat → Int32) : Nat × va_E := (a, .inl (cy 0, 1600, .inl f))
abbrev wi_0_16_0 (a : Nat) (cy : Nat → ClassId) (f : Nat → Int32) : Nat × va_E := (a, .inl (cy 0, 16, .inl f))
abbrev wi_0_1700_0 (a : Nat) (cy : Nat → ClassId) (f : Nat → Int32) : Nat × va_E := (a, .inl (cy 0, 1700, .inl f))
abbrev wi_0_180_0 (a : Nat) (cy : Nat → ClassId) (f : Nat → Int32) : Nat × va_E := (a, .inl (cy 0, 180, .inl f))
abbrev wi_0_200_0 (a : Nat) (cy : Nat → ClassId) (f : Nat → Int32) : Nat × va_E := (a, .inl (cy 0, 200, .inl f))
abbrev wi_0_24_0 (a : Nat) (cy : Nat → ClassId) (f : Nat → Int32) : Nat × va_E := (a, .inl (cy 0, 24, .inl f))
abbrev wi_0_300_0 (a : Nat) (cy : Nat → ClassId) (f : Nat → Int32) : Nat × va_E := (a, .inl (cy 0, 300, .inl f))
abbrev wi_0_3200_0 (a : Nat) (cy : Nat → ClassId) (f : Nat → Int32) : Nat × va_E := (a, .inl (cy 0, 3200, .inl f))
abbrev wi_0_320_0 (a : Nat) (cy : Nat → ClassId) (f : Nat → Int32) : Nat × va_E := (a, .inl (cy 0, 320, .inl f))
abbrev wi_0_32_0 (a : Nat) (cy : Nat → ClassId) (f : Nat → Int32) : Nat × va_E := (a, .inl (cy 0, 32, .inl f))
abbrev wi_0_3600_0 (a : Nat) (cy : Nat → ClassId) (f : Nat → Int32) : Nat × va_E := (a, .inl (cy 0, 3600, .inl f))
abbrev wi_0_39_0 (a : Nat) (cy : Nat → ClassId) (f : Nat → Int32) : Nat × va_E := (a, .inl (cy 0, 39, .inl f))
abbrev wi_0_48_0 (a : Nat) (cy : Nat → ClassId) (f : Nat → Int32) : Nat × va_E := (a, .inl (cy 0, 48, .inl f))
abbrev wi_0_4_0 (a : Nat) (cy : Nat → ClassId) (f : Nat → Int32) : Nat × va_E := (a, .inl (cy 0, 4, .inl f))
abbrev wi_0_64_0 (a : Nat) (cy : Nat → ClassId) (f : Nat → Int32) : Nat × va_E := (a, .inl (cy 0, 64, .inl f))
abbrev wi_0_6_0 (a : Nat) (cy : Nat → ClassId) (f : Nat → Int32) : Nat × va_E := (a, .inl (cy 0, 6, .inl f))
abbrev wi_0_720_0 (a : Nat) (cy : Nat → ClassId) (f : Nat → Int32) : Nat × va_E := (a, .inl (cy 0, 720, .inl f))
abbrev wi_0_8_0 (a : Nat) (cy : Nat → ClassId) (f : Nat → Int32) : Nat × va_E := (a, .inl (cy 0, 8, .inl f))
abbrev wi_0_9_0 (a : Nat) (cy : Nat → ClassId) (f : Nat → Int32) : Nat × va_E := (a, .inl (cy 0, 9, .inl f))
abbrev wi_1_1700_1 (a : Nat) (cy : Nat → ClassId) (f : Nat → Int64) : Nat × va_E := (a, .inl (cy 1, 1700, .inr (.inl f)))
abbrev wi_1_48_1 (a : Nat) (cy : Nat → ClassId) (f : Nat → Int64) : Nat × va_E := (a, .inl (cy 1, 48, .inr (.inl f)))
abbrev wi_2_2_0 (a : Nat) (cy : Nat → ClassId) (f : Nat → Int32) : Nat × va_E := (a, .inl (cy 2, 2, .inl f))
abbrev wi_2_3_0 (a : Nat) (cy : Nat → ClassId) (f : Nat → Int32) : Nat × va_E := (a, .inl (cy 2, 3, .inl f))
abbrev wi_2_4_0 (a : Nat) (cy : Nat → ClassId) (f : Nat → Int32) : Nat × va_E := (a, .inl (cy 2, 4, .inl f))
abbrev wi_2_5_0 (a : Nat) (cy : Nat → ClassId) (f : Nat → Int32) : Nat × va_E := (a, .inl (cy 2, 5, .inl f))
abbrev wi_2_6_0 (a : Nat) (cy : Nat → ClassId) (f : Nat → Int32) : Nat × va_E := (a, .inl (cy 2, 6, .inl f))
abbrev wi_3_12_0 (a : Nat) (cy : Nat → ClassId) (f : Nat → Int32) : Nat × va_E := (a, .inl (cy 3, 12, .inl f))
abbrev wi_3_300_0 (a : Nat) (cy : Nat → ClassId) (f : Nat → Int32) : Nat × va_E := (a, .inl (cy 3, 300, .inl f))
abbrev wi_3_320_0 (a : Nat) (cy : Nat → ClassId) (f : Nat → Int32) : Nat × va_E := (a, .inl (cy 3, 320, .inl f))
abbrev wi_rm0_0_1600_0 (m : Nat → Nat) (cy : Nat → ClassId) (f : Nat → Int32) : Nat × va_E := ((m 0), .inl (cy 0, 1600, .inl f))
abbrev wi_rm100_2_6_0 (m : Nat → Nat) (cy : Nat → ClassId) (f : Nat → Int32) : Nat × va_E := ((m 100), .inl (cy 2, 6, .inl f))
abbrev wi_rm101_2_4_0 (m : Nat → Nat) (cy : Nat → ClassId) (f : Nat → Int32) : Nat × va_E := ((m 101), .inl (cy 2, 4, .inl f))
abbrev wi_rm102_2_4_0 (m : Nat → Nat) (cy : Nat → ClassId) (f : Nat → Int32) : Nat × va_E := ((m 102), .inl (cy 2, 4, .inl f))
abbrev wi_rm103_2_6_0 (m : Nat → Nat) (cy : Nat → ClassId) (f : Nat → Int32) : Nat × va_E := ((m 103), .inl (cy 2, 6, .inl f))
abbrev wi_rm104_2_3_0 (m : Nat → Nat) (cy : Nat → ClassId) (f : Nat → Int32) : Nat × va_E := ((m 104), .inl (cy 2, 3, .inl f))
abbrev wi_rm105_2_4_0 (m : Nat → Nat) (cy : Nat → ClassId) (f : Nat → Int32) : Nat × va_E := ((m 105), .inl (cy 2, 4, .inl f))
abbrev wi_rm106_2_6_0 (m : Nat → Nat) (cy : Nat → ClassId) (f : Nat → Int32) : Nat × va_E := ((m 106), .inl (cy 2, 6, .inl f))
abbrev wi_rm107_2_4_0 (m : Nat → Nat) (cy : Nat → ClassId) (f : Nat → Int32) : Nat × va_E := ((m 107), .inl (cy 2, 4, .inl f))
abbrev wi_rm108_2_4_0 (m : Nat → Nat) (cy : Nat → ClassId) (f : Nat → Int32) : Nat × va_E := ((m 108), .inl (cy 2, 4, .inl f))
abbrev wi_rm109_2_4_0 (m : Nat → Nat) (cy : Nat → ClassId) (f : Nat → Int32) : Nat × va_E := ((m 109), .inl (cy 2, 4, .inl f))
abbrev wi_rm10_2_5_0 (m : Nat → Nat) (cy : Nat → ClassId) (f : Nat → Int32) : Nat × va_E := ((m 10), .inl (cy 2, 5, .inl f))
abbrev wi_rm110_0_1700_0 (m : Nat → Nat) (cy : Nat → ClassId) (f : Nat → Int32) : Nat × va_E := ((m 110), .inl (cy 0, 1700, .inl f))
abbrev wi_rm112_0_1700_0 (m : Nat → Nat) (cy : Nat → ClassId) (f : Nat → Int32) : Nat × va_E := ((m 112), .inl (cy 0, 1700, .inl f))
abbrev wi_rm116_1_1700_1 (m : Nat → Nat) (cy : Nat → ClassId) (f : Nat → Int64) : Nat × va_E := ((m 116), .inl (cy 1, 1700, .inr (.inl f)))
abbrev wi_rm11_2_5_0 (m : Nat → Nat) (cy : Nat → ClassId) (f : Nat → Int32) : Nat × va_E := ((m 11), .inl (cy 2, 5, .inl f))
abbrev wi_rm120_0_11_0 (m : Nat → Nat) (cy : Nat → ClassId) (f : Nat → Int32) : Nat × va_E := ((m 120), .inl (cy 0, 11, .inl f))
abbrev wi_rm12_2_4_0 (m : Nat → Nat) (cy : Nat → ClassId) (f : Nat → Int32) : Nat × va_E := ((m 12), .inl (cy 2, 4, .inl f))
abbrev wi_rm13_2_5_0 (m : Nat → Nat) (cy : Nat → ClassId) (f : Nat → Int32) : Nat × va_E := ((m 13), .inl (cy 2, 5, .inl f))
abbrev wi_rm14_2_4_0 (m : Nat → Nat) (cy : Nat → ClassId) (f : Nat → Int32) : Nat × va_E := ((m 14), .inl (cy 2, 4, .inl f))
abbrev wi_rm15_2_4_0 (m : Nat → Nat) (cy : Nat → ClassId) (f : Nat → Int32) : Nat × va_E := ((m 15), .inl (cy 2, 4, .inl f))
abbrev wi_rm16_2_4_0 (m : Nat → Nat) (cy : Nat → ClassId) (f : Nat → Int32) : Nat × va_E := ((m 16), .inl (cy 2, 4, .inl f))
abbrev wi_rm17_2_6_0 (m : Nat → Nat) (cy : Nat → ClassId) (f : Nat → Int32) : Nat × va_E := ((m 17), .inl (cy 2, 6, .inl f))
abbrev wi_rm18_2_5_0 (m : Nat → Nat) (cy : Nat → ClassId) (f : Nat → Int32) : Nat × va_E := ((m 18), .inl (cy 2, 5, .inl f))
abbrev wi_rm19_2_2_0 (m : Nat → Nat) (cy : Nat → ClassId) (f : Nat → Int32) : Nat × va_E := ((m 19), .inl (cy 2, 2, .inl f))
abbrev wi_rm20_2_2_0 (m : Nat → Nat) (cy : Nat → ClassId) (f : Nat → Int32) : Nat × va_E := ((m 20), .inl (cy 2, 2, .inl f))
abbrev wi_rm21_2_3_0 (m : Nat → Nat) (cy : Nat → ClassId) (f : Nat → Int32) : Nat × va_E := ((m 21), .inl (cy 2, 3, .inl f))
abbrev wi_rm22_2_3_0 (m : Nat → Nat) (cy : Nat → ClassId) (f : Nat → Int32) : Nat × va_E := ((m 22), .inl (cy 2, 3, .inl f))
abbrev wi_rm23_2_6_0 (m : Nat → Nat) (cy : Nat → ClassId) (f : Nat → Int32) : Nat × va_E := ((m 23), .inl (cy 2, 6, .inl f))
abbrev wi_rm24_2_4_0 (m : Nat → Nat) (cy : Nat → ClassId) (f : Nat → Int32) : Nat × va_E := ((m 24), .inl (cy 2, 4, .inl f))
abbrev wi_rm25_2_6_0 (m : Nat → Nat) (cy : Nat → ClassId) (f : Nat → Int32) : Nat × va_E := ((m 25), .inl (cy 2, 6, .inl f))
abbrev wi_rm26_2_3_0 (m : Nat → Nat) (cy : Nat → ClassId) (f : Nat → Int32) : Nat × va_E := ((m 26), .inl (cy 2, 3, .inl f))
abbrev wi_rm27_2_5_0 (m : Nat → Nat) (cy : Nat → ClassId) (f : Nat → Int32) : Nat × va_E := ((m 27), .inl (cy 2, 5, .inl f))
abbrev wi_rm28_2_6_0 (m : Nat → Nat) (cy : Nat → ClassId) (f : Nat → Int32) : Nat × va_E := ((m 28), .inl (cy 2, 6, .inl f))
abbrev wi_rm29_2_3_0 (m : Nat → Nat) (cy : Nat → ClassId) (f : Nat → Int32) : Nat × va_E := ((m 29), .inl (cy 2, 3, .inl f))
abbrev wi_rm30_2_4_0 (m : Nat → Nat) (cy : Nat → ClassId) (f : Nat → Int32) : Nat × va_E := ((m 30), .inl (cy 2, 4, .inl f))
abbrev wi_rm31_2_6_0 (m : Nat → Nat) (cy : Nat → ClassId) (f : Nat → Int32) : Nat × va_E := ((m 31), .inl (cy 2, 6, .inl f))
abbrev wi_rm32_2_4_0 (m : Nat → Nat) (cy : Nat → ClassId) (f : Nat → Int32) : Nat × va_E := ((m 32), .inl (cy 2, 4, .inl f))
abbrev wi_rm33_2_4_0 (m : Nat → Nat) (cy : Nat → ClassId) (f : Nat → Int32) : Nat × va_E := ((m 33), .inl (cy 2, 4, .inl f))
abbrev wi_rm34_2_2_0 (m : Nat → Nat) (cy : Nat → ClassId) (f : Nat → Int32) : Nat × va_E := ((m 34), .inl (cy 2, 2, .inl f))
abbrev wi_rm35_2_3_0 (m : Nat → Nat) (cy : Nat → ClassId) (f : Nat → Int32) : Nat × va_E := ((m 35), .inl (cy 2, 3, .inl f))
abbrev wi_rm36_2_3_0 (m : Nat → Nat) (cy : Nat → ClassId) (f : Nat → Int32) : Nat × va_E := ((m 36), .inl (cy 2, 3, .inl f))
abbrev wi_rm37_2_3_0 (m : Nat → Nat) (cy : Nat → ClassId) (f : Nat → Int32) : Nat × va_E := ((m 37), .inl (cy 2, 3, .inl f))
abbrev wi_rm38_2_3_0 (m : Nat → Nat) (cy : Nat → ClassId) (f : Nat → Int32) : Nat × va_E := ((m 38), .inl (cy 2, 3, .inl f))
abbrev wi_rm39_2_3_0 (m : Nat → Nat) (cy : Nat → ClassId) (f : Nat → Int32) : Nat × va_E := ((m 39), .inl (cy 2, 3, .inl f))
abbrev wi_rm41_0_4_0 (m : Nat → Nat) (cy : Nat → ClassId) (f : Nat → Int32) : Nat × va_E := ((m 41), .inl (cy 0, 4, .inl f))
abbrev wi_rm42_1_48_1 (m : Nat → Nat) (cy : Nat → ClassId) (f : Nat → Int64) : Nat × va_E := ((m 42), .inl (cy 1, 48, .inr (.inl f)))
abbrev wi_rm43_0_8_0 (m : Nat → Nat) (cy : Nat → ClassId) (f : Nat → Int32) : Nat × va_E := ((m 43), .inl (cy 0, 8, .inl f))
abbrev wi_rm44_0_24_0 (m : Nat → Nat) (cy : Nat → ClassId) (f : Nat → Int32) : Nat × va_E := ((m 44), .inl (cy 0, 24, .inl f))
abbrev wi_rm45_0_6_0 (m : Nat → Nat) (cy : Nat → ClassId) (f : Nat → Int32) : Nat × va_E := ((m 45), .inl (cy 0, 6, .inl f))
abbrev wi_rm46_0_48_0 (m : Nat → Nat) (cy : Nat → ClassId) (f : Nat → Int32) : Nat × va_E := ((m 46), .inl (cy 0, 48, .inl f))
abbrev wi_rm49_0_6_0 (m : Nat → Nat) (cy : Nat → ClassId) (f : Nat → Int32) : Nat × va_E := ((m 49), .inl (cy 0, 6, .inl f))
abbrev wi_rm50_0_6_0 (m : Nat → Nat) (cy : Nat → ClassId) (f : Nat → Int32) : Nat × va_E := ((m 50), .inl (cy 0, 6, .inl f))
abbrev wi_rm51_0_3200_0 (m : Nat → Nat) (cy : Nat → ClassId) (f : Nat → Int32) : Nat × va_E := ((m 51), .inl (cy 0, 3200, .inl f))
abbrev wi_rm56_0_9_0 (m : Nat → Nat) (cy : Nat → ClassId) (f : Nat → Int32) : Nat × va_E := ((m 56), .inl (cy 0, 9, .inl f))
abbrev wi_rm57_0_9_0 (m : Nat → Nat) (cy : Nat → ClassId) (f : Nat → Int32) : Nat × va_E := ((m 57), .inl (cy 0, 9, .inl f))
abbrev wi_rm60_3_320_0 (m : Nat → Nat) (cy : Nat → ClassId) (f : Nat → Int32) : Nat × va_E := ((m 60), .inl (cy 3, 320, .inl f))
abbrev wi_rm61_0_300_0 (m : Nat → Nat) (cy : Nat → ClassId) (f : Nat → Int32) : Nat × va_E := ((m 61), .inl (cy 0, 300, .inl f))
abbrev wi_rm62_3_300_0 (m : Nat → Nat) (cy : Nat → ClassId) (f : Nat → Int32) : Nat × va_E := ((m 62), .inl (cy 3, 300, .inl f))
abbrev wi_rm63_3_12_0 (m : Nat → Nat) (cy : Nat → ClassId) (f : Nat → Int32) : Nat × va_E := ((m 63), .inl (cy 3, 12, .inl f))
abbrev wi_rm64_0_12_0 (m : Nat → Nat) (cy : Nat → ClassId) (f : Nat → Int32) : Nat × va_E := ((m 64), .inl (cy 0, 12, .inl f))
abbrev wi_rm65_0_12_0 (m : Nat → Nat) (cy : Nat → ClassId) (f : Nat → Int32) : Nat × va_E := ((m 65), .inl (cy 0, 12, .inl f))
abbrev wi_rm66_3_12_0 (m : Nat → Nat) (cy : Nat → ClassId) (f : Nat → Int32) : Nat × va_E := ((m 66), .inl (cy 3, 12, .inl f))
abbrev wi_rm67_3_12_0 (m : Nat → Nat) (cy : Nat → ClassId) (f : Nat → Int32) : Nat × va_E := ((m 67), .inl (cy 3, 12, .inl f))
abbrev wi_rm68_3_12_0 (m : Nat → Nat) (cy : Nat → ClassId) (f : Nat → Int32) : Nat × va_E := ((m 68), .inl (cy 3, 12, .inl f))
abbrev wi_rm69_3_300_0 (m : Nat → Nat) (cy : Nat → ClassId) (f : Nat → Int32) : Nat × va_E := ((m 69), .inl (cy 3, 300, .inl f))
abbrev wi_rm76_0_32_0 (m : Nat → Nat) (cy : Nat → ClassId) (f : Nat → Int32) : Nat × va_E := ((m 76), .inl (cy 0, 32, .inl f))
abbrev wi_rm77_0_720_0 (m : Nat → Nat) (cy : Nat → ClassId) (f : Nat → Int32) : Nat × va_E := ((m 77), .inl (cy 0, 720, .inl f))
abbrev wi_rm81_0_180_0 (m : Nat → Nat) (cy : Nat → ClassId) (f : Nat → Int32) : Nat × va_E := ((m 81), .inl (cy 0, 180, .inl f))
abbrev wi_rm85_2_5_0 (m : Nat → Nat) (cy : Nat → ClassId) (f : Nat → Int32) : Nat × va_E := ((m 85), .inl (cy 2, 5, .inl f))
abbrev wi_rm86_2_4_0 (m : Nat → Nat) (cy : Nat → ClassId) (f : Nat → Int32) : Nat × va_E := ((m 86), .inl (cy 2, 4, .inl f))
abbrev wi_rm87_2_5_0 (m : Nat → Nat) (cy : Nat → ClassId) (f : Nat → Int32) : Nat × va_E := ((m 87), .inl (cy 2, 5, .inl f))
abbrev wi_rm88_2_5_0 (m : Nat → Nat) (cy : Nat → ClassId) (f : Nat → Int32) : Nat × va_E := ((m 88), .inl (cy 2, 5, .inl f))
abbrev wi_rm89_2_4_0 (m : Nat → Nat) (cy : Nat → ClassId) (f : Nat → Int32) : Nat × va_E := ((m 89), .inl (cy 2, 4, .inl f))
abbrev wi_rm90_2_5_0 (m : Nat → Nat) (cy : Nat → ClassId) (f : Nat → Int32) : Nat × va_E := ((m 90), .inl (cy 2, 5, .inl f))
abbrev wi_rm91_2_3_0 (m : Nat → Nat) (cy : Nat → ClassId) (f : Nat → Int32) : Nat × va_E := ((m 91), .inl (cy 2, 3, .inl f))
abbrev wi_rm92_2_3_0 (m : Nat → Nat) (cy : Nat → ClassId) (f : Nat → Int32) : Nat × va_E := ((m 92), .inl (cy 2, 3, .inl f))
abbrev wi_rm93_2_2_0 (m : Nat → Nat) (cy : Nat → ClassId) (f : Nat → Int32) : Nat × va_E := ((m 93), .inl (cy 2, 2, .inl f))
abbrev wi_rm94_2_3_0 (m : Nat → Nat) (cy : Nat → ClassId) (f : Nat → Int32) : Nat × va_E := ((m 94), .inl (cy 2, 3, .inl f))
abbrev wi_rm95_2_3_0 (m : Nat → Nat) (cy : Nat → ClassId) (f : Nat → Int32) : Nat × va_E := ((m 95), .inl (cy 2, 3, .inl f))
abbrev wi_rm96_2_3_0 (m : Nat → Nat) (cy : Nat → ClassId) (f : Nat → Int32) : Nat × va_E := ((m 96), .inl (cy 2, 3, .inl f))
abbrev wi_rm97_2_6_0 (m : Nat → Nat) (cy : Nat → ClassId) (f : Nat → Int32) : Nat × va_E := ((m 97), .inl (cy 2, 6, .inl f))
abbrev wi_rm98_2_3_0 (m : Nat → Nat) (cy : Nat → ClassId) (f : Nat → Int32) : Nat × va_E := ((m 98), .inl (cy 2, 3, .inl f))
abbrev wi_rm99_2_5_0 (m : Nat → Nat) (cy : Nat → ClassId) (f : Nat → Int32) : Nat × va_E := ((m 99), .inl (cy 2, 5, .inl f))
abbrev wi_rm9_0_6_0 (m : Nat → Nat) (cy : Nat → ClassId) (f : Nat → Int32) : Nat × va_E := ((m 9), .inl (cy 0, 6, .inl f))
abbrev wo_0_rrrri (a : Nat) (x0 : Nat) (x1 : Nat) (x2 : Nat) (x3 : Nat) (x4 : Int32) : Nat × va_E := (a, .inr (0, [.ref x0, .ref x1, .ref x2, .ref x3, .int x4]))
abbrev wo_1_rri (a : Nat) (x0 : Nat) (x1 : Nat) (x2 : Int32) : Nat × va_E := (a, .inr (1, [.ref x0, .ref x1, .int x2]))
abbrev wo_2_rii (a : Nat) (x0 : Nat) (x1 : Int32) (x2 : Int32) : Nat × va_E := (a, .inr (2, [.ref x0, .int x1, .int x2]))
abbrev wo_3_rr (a : Nat) (x0 : Nat) (x1 : Nat) : Nat × va_E := (a, .inr (3, [.ref x0, .ref x1]))
abbrev wo_4_iiiiiiirrrirrrrrir (a : Nat) (x0 : Int32) (x1 : Int32) (x2 : Int32) (x3 : Int32) (x4 : Int32) (x5 : Int32) (x6 : Int32) (x7 : Nat) (x8 : Nat) (x9 : Nat) (x10 : Int32) (x11 : Nat) (x12 : Nat) (x13 : Nat) (x14 : Nat) (x15 : Nat) (x16 : Int32) (x17 : Nat) : Nat × va_E := (a, .inr (4, [.int x0, .int x1, .int x2, .int x3, .int x4, .int x5, .int x6, .ref x7, .ref x8, .ref x9, .int x10, .ref x11, .ref x12, .ref x13, .ref x14, .ref x15, .int x16, .ref x17]))
abbrev wo_5_riiiiirii (a : Nat) (x0 : Nat) (x1 : Int32) (x2 : Int32) (x3 : Int32) (x4 : Int32) (x5 : Int32) (x6 : Nat) (x7 : Int32) (x8 : Int32) : Nat × va_E := (a, .inr (5, [.ref x0, .int x1, .int x2, .int x3, .int x4, .int x5, .ref x6, .int x7, .int x8]))
abbrev wo_6_iiir (a : Nat) (x0 : Int32) (x1 : Int32) (x2 : Int32) (x3 : Nat) : Nat × va_E := (a, .inr (6, [.int x0, .int x1, .int x2, .ref x3]))
abbrev wo_7_rririiiirrrrriiii (a : Nat) (x0 : Nat) (x1 : Nat) (x2 : Int32) (x3 : Nat) (x4 : Int32) (x5 : Int32) (x6 : Int32) (x7 : Int32) (x8 : Nat) (x9 : Nat) (x10 : Nat) (x11 : Nat) (x12 : Nat) (x13 : Int32) (x14 : Int32) (x15 : Int32) (x16 : Int32) : Nat × va_E := (a, .inr (7, [.ref x0, .ref x1, .int x2, .ref x3, .int x4, .int x5, .int x6, .int x7, .ref x8, .ref x9, .ref x10, .ref x11, .ref x12, .int x13, .int x14, .int x15, .int x16]))
abbrev wo_8_rrriiriiiii (a : Nat) (x0 : Nat) (x1 : Nat) (x2 : Nat) (x3 : Int32) (x4 : Int32) (x5 : Nat) (x6 : Int32) (x7 : Int32) (x8 : Int32) (x9 : Int32) (x10 : Int32) : Nat × va_E := (a, .inr (8, [.ref x0, .ref x1, .ref x2, .int x3, .int x4, .ref x5, .int x6, .int x7, .int x8, .int x9, .int x10]))
abbrev wo_9_rirrrrrrrrrrrirl (a : Nat) (x0 : Nat) (x1 : Int32) (x2 : Nat) (x3 : Nat) (x4 : Nat) (x5 : Nat) (x6 : Nat) (x7 : Nat) (x8 : Nat) (x9 : Nat) (x10 : Nat) (x11 : Nat) (x12 : Nat) (x13 : Int32) (x14 : Nat) (x15 : Int64) : Nat × va_E := (a, .inr (9, [.ref x0, .int x1, .ref x2, .ref x3, .ref x4, .ref x5, .ref x6, .ref x7, .ref x8, .ref x9, .ref x10, .ref x11, .ref x12, .int x13, .ref x14, .long x15]))
end
section
/-! km -/
/-! the world split by a mask (one pass over its words), a call, the world joined -/
def km_kp {α : Type} : List Bool → List α → List α
  | b :: bs, w :: ws => bif b then w :: km_kp bs ws else km_kp bs ws
  | [], _ => []
  | _ :: _, [] => []
def km_le {α : Type} : List Bool → List α → Bool
  | [], _ => true
  | _ :: bs, _ :: ws => km_le bs ws
  | _ :: _, [] => false
def km_ix : List Bool → Nat → List Nat
  | [], _ => []
  | b :: bs, i => bif b then i :: km_ix bs (i + 1) else km_ix bs (i + 1)
def km_ck (bs : List Bool) (isC : List Nat) : Bool := va_nd isC && va_nd (km_ix bs 0) && (km_ix bs 0).all (fun i => decide (i ∉ isC))
theorem km_ck_1 {bs : List Bool} {isC : List Nat} (h : km_ck bs isC = true) : va_nd isC = true ∧ va_nd (km_ix bs 0) = true ∧ ∀ i ∈ km_ix bs 0, i ∉ isC := by
  unfold km_ck at h
  rw [Bool.and_eq_true, Bool.and_eq_true] at h
  exact ⟨h.1.1, h.1.2, fun i hi => of_decide_eq_true (List.all_eq_true.mp h.2 i hi)⟩
theorem km_kp_map {α : Type} : ∀ (bs : List Bool) (pre ws : List α), km_le bs ws = true → (km_ix bs pre.length).map (fun i => (pre ++ ws)[i]?) = (km_kp bs ws).map some
  | [], _, _, _ => rfl
  | _ :: _, _, [], h => by cases h
  | b :: bs, pre, w :: ws, h => by
    have e := km_kp_map bs (pre ++ [w]) ws h
    have e1 : (pre ++ [w]).length = pre.length + 1 := by simp
    have e2 : pre ++ [w] ++ ws = pre ++ w :: ws := by simp
    rw [e1, e2] at e
    cases b with
    | false => exact e
    | true =>
      show ((pre ++ w :: ws)[pre.length]? :: (km_ix bs (pre.length + 1)).map (fun i => (pre ++ w :: ws)[i]?)) = some w :: (km_kp bs ws).map some
      rw [e]
      have e3 : (pre ++ w :: ws)[pre.length]? = some w := by
        rw [List.getElem?_append_right (Nat.le_refl _), Nat.sub_self]; rfl
      rw [e3]
theorem km_selR {α : Type} {bs : List Bool} {ws : List α} (h : km_le bs ws = true) : (km_ix bs 0).map (fun i => ws[i]?) = (km_kp bs ws).map some := km_kp_map bs [] ws h
section
variable {p : Program} {l : Launch} {e : Env} {R : Room} {s : State} {m : MethodId} {args : Array Value} {below : List Frame} {meth : Method} {c : Code} {H : Heap} {locs : List Loc} {cells slots : Nat} {Q : State → Prop}
variable {pc : Nat} {ls : Array Slot} {rest st0 : List Value} {A : Nat → Prop} {ws wc : va_W} {H0 : Heap} {dC : Nat → ClassId} {dI : Nat → Nat → Nat} {mc ms : Nat} {S : Type}
theorem k_jim {post : Int32 → S → Prop} {B : S → va_W} {a : Array Value} (hP : va_P (dC, dI) vwCl ws H) (hD : va_D A ws) (hS : va_S A H0 H locs) (hA : ∀ q, H0.size ≤ q → A q) (isC : List Nat) (bs : List Bool) (hC : isC.map (fun i => ws[i]?) = wc.map some) (hle : km_le bs ws = true) (hck : km_ck bs isC = true) (k j : Nat) (h1 : cells + mc ≤ k) (h2 : slots + ms ≤ j)
    (hr : va_P (dC, dI) vwCl wc H → va_D A wc → va_Run p l e R s m args below meth c H locs cells slots mc ms (F0 m pc ls st0) rest (k_Qi dC dI post B (va_A wc H.size) a) (va_A wc H.size))
    (kk : ∀ (r : Int32) (u : S) (H1 : Heap) (locs1 : List Loc), post r u → va_P (dC, dI) vwCl (km_kp bs ws ++ B u) H1 → va_D A (km_kp bs ws ++ B u) → va_S A H0 H1 locs1 → W p l e R s m args below meth c H1 locs1 k j Q (F0 m (pc + 3) ls (.int r :: rest))) : W p l e R s m args below meth c H locs cells slots Q (F0 m pc ls st0) :=
  k_ji hP hD hS hA isC (km_ix bs 0) hC (km_selR hle) (km_ck_1 hck).1 (km_ck_1 hck).2.1 (km_ck_1 hck).2.2 k j h1 h2 hr kk
theorem k_jlm {post : Int64 → S → Prop} {B : S → va_W} {a : Array Value} (hP : va_P (dC, dI) vwCl ws H) (hD : va_D A ws) (hS : va_S A H0 H locs) (hA : ∀ q, H0.size ≤ q → A q) (isC : List Nat) (bs : List Bool) (hC : isC.map (fun i => ws[i]?) = wc.map some) (hle : km_le bs ws = true) (hck : km_ck bs isC = true) (k j : Nat) (h1 : cells + mc ≤ k) (h2 : slots + ms ≤ j)
    (hr : va_P (dC, dI) vwCl wc H → va_D A wc → va_Run p l e R s m args below meth c H locs cells slots mc ms (F0 m pc ls st0) rest (k_Ql dC dI post B (va_A wc H.size) a) (va_A wc H.size))
    (kk : ∀ (r : Int64) (u : S) (H1 : Heap) (locs1 : List Loc), post r u → va_P (dC, dI) vwCl (km_kp bs ws ++ B u) H1 → va_D A (km_kp bs ws ++ B u) → va_S A H0 H1 locs1 → W p l e R s m args below meth c H1 locs1 k j Q (F0 m (pc + 3) ls (.long r :: rest))) : W p l e R s m args below meth c H locs cells slots Q (F0 m pc ls st0) :=
  k_jl hP hD hS hA isC (km_ix bs 0) hC (km_selR hle) (km_ck_1 hck).1 (km_ck_1 hck).2.1 (km_ck_1 hck).2.2 k j h1 h2 hr kk
theorem k_jvm {post : S → Prop} {B : S → va_W} {a : Array Value} (hP : va_P (dC, dI) vwCl ws H) (hD : va_D A ws) (hS : va_S A H0 H locs) (hA : ∀ q, H0.size ≤ q → A q) (isC : List Nat) (bs : List Bool) (hC : isC.map (fun i => ws[i]?) = wc.map some) (hle : km_le bs ws = true) (hck : km_ck bs isC = true) (k j : Nat) (h1 : cells + mc ≤ k) (h2 : slots + ms ≤ j)
    (hr : va_P (dC, dI) vwCl wc H → va_D A wc → va_Run p l e R s m args below meth c H locs cells slots mc ms (F0 m pc ls st0) rest (k_Qv dC dI post B (va_A wc H.size) a) (va_A wc H.size))
    (kk : ∀ (u : S) (H1 : Heap) (locs1 : List Loc), post u → va_P (dC, dI) vwCl (km_kp bs ws ++ B u) H1 → va_D A (km_kp bs ws ++ B u) → va_S A H0 H1 locs1 → W p l e R s m args below meth c H1 locs1 k j Q (F0 m (pc + 3) ls rest)) : W p l e R s m args below meth c H locs cells slots Q (F0 m pc ls st0) :=
  k_jv hP hD hS hA isC (km_ix bs 0) hC (km_selR hle) (km_ck_1 hck).1 (km_ck_1 hck).2.1 (km_ck_1 hck).2.2 k j h1 h2 hr kk
end
end
