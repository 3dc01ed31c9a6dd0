set_option maxHeartbeats 8000000 in
set_option maxRecDepth 100000 in
theorem c_X10_init (l : Launch) (dC : Nat → ClassId) (dI : Nat → Nat → Nat) (cy : Nat → ClassId) (sq : Nat → Nat) (a0 : Nat) : k_Met l yX10_init cX10_init 1 none { frames := 1, cells := 85, slots := 12533, locals := 12 } dC dI cy sq [.ref a0] [(a0, .inr (10, (.null :: .int 0 :: .int 0 :: .int 0 :: .int 0 :: .int 0 :: .int 0 :: .int 0 :: .int 0 :: .null :: .null :: .null :: .null :: .null :: .null :: .null :: .null :: .null :: .null :: .null :: .null :: .null :: .null :: .null :: .null :: .null :: .null :: .null :: .null :: .null :: .null :: .null :: .null :: .null :: .null :: .null :: .null :: .null :: .null :: .null :: .int 0 :: .null :: .null :: .null :: .null :: .null :: .null :: .int 0 :: .int 0 :: .null :: .null :: .null :: .int 0 :: .int 0 :: .int 0 :: .int 0 :: .null :: .null :: .int 0 :: .int 0 :: .null :: .null :: .null :: .null :: .null :: .null :: .null :: .null :: .null :: .null :: .int 0 :: .int 0 :: .int 0 :: .int 0 :: .int 0 :: .int 0 :: .null :: .null :: .int 0 :: .int 0 :: .int 0 :: .null :: .int 0 :: .int 0 :: .long 0 :: .null :: .null :: .null :: .null :: .null :: .null :: .null :: .null :: .null :: .null :: .null :: .null :: .null :: .null :: .null :: .null :: .null :: .null :: .null :: .null :: .null :: .null :: .null :: .null :: .null :: .null :: .int 0 :: .null :: .int 0 :: .int 0 :: .int 0 :: .null :: .int 0 :: .long 0 :: .int 0 :: .null :: .int 0 :: [])))] (k_Qv dC dI (fun τ : MS => IM τ) (fun τ : MS => wM cy a0 τ)) := by
  refine k_ofW2 (by decide +kernel) (Nat.le_of_ble_eq_true rfl) ?_
  intro p e s m below meth c A ls H locs args Q hQ C0 hZ hr hlk hin hP hD hA hS hl
  have C0 : k_cx p s m args c cX10_init 1 RX10 dC dI cy sq := C0
  have hx := C0.1
  have hb := C0.2.1
  have hl : lv_has ls 1 [(0, .ref a0)] := hl
  refine lv_aload_n hx hb dX10_init_0 rfl (lv_at hl 0 rfl) ?_
  refine k_obj C0 wd157 wd10 wd11 hl dX10_init_1 (Nat.le_of_ble_eq_true rfl) (Nat.le_of_ble_eq_true rfl) ?_
  obtain ⟨fs, e0⟩ : ∃ z : List Value, z = (.null :: .int 0 :: .int 0 :: .int 0 :: .int 0 :: .int 0 :: .int 0 :: .int 0 :: .int 0 :: .null :: .null :: .null :: .null :: .null :: .null :: .null :: .null :: .null :: .null :: .null :: .null :: .null :: .null :: .null :: .null :: .null :: .null :: .null :: .null :: .null :: .null :: .null :: .null :: .null :: .null :: .null :: .null :: .null :: .null :: .null :: .int 0 :: .null :: .null :: .null :: .null :: .null :: .null :: .int 0 :: .int 0 :: .null :: .null :: .null :: .int 0 :: .int 0 :: .int 0 :: .int 0 :: .null :: .null :: .int 0 :: .int 0 :: .null :: .null :: .null :: .null :: .null :: .null :: .null :: .null :: .null :: .null :: .int 0 :: .int 0 :: .int 0 :: .int 0 :: .int 0 :: .int 0 :: .null :: .null :: .int 0 :: .int 0 :: .int 0 :: .null :: .int 0 :: .int 0 :: .long 0 :: .null :: .null :: .null :: .null :: .null :: .null :: .null :: .null :: .null :: .null :: .null :: .null :: .null :: .null :: .null :: .null :: .null :: .null :: .null :: .null :: .null :: .null :: .null :: .null :: .null :: .null :: .int 0 :: .null :: .int 0 :: .int 0 :: .int 0 :: .null :: .int 0 :: .long 0 :: .int 0 :: .null :: .int 0 :: []) := ⟨_, rfl⟩
  obtain ⟨Y, y0⟩ : ∃ z : va_W, z = [] := ⟨_, rfl⟩
  have hlen : fs.length = 122 := by rw [e0]; rfl
  have hP : va_P (dC, dI) vwCl ((a0, .inr (10, fs)) :: Y) H := by rw [e0, y0]; exact hP
  have hD : va_D A ((a0, .inr (10, fs)) :: Y) := by rw [e0, y0]; exact hD
  refine mi_0 C0 hin hA hl hlen hP hD hS (Nat.le_of_ble_eq_true rfl) (Nat.le_of_ble_eq_true rfl) (fun q0 fs0 Y0 H locs eq0 hlen yq0 hP hD hS => ?_)
  refine W.widen (k := 1) (n := 1600) (Nat.le_of_ble_eq_true rfl) (Nat.le_of_ble_eq_true rfl) ?_
  refine mi_8 C0 hin hA hl hlen hP hD hS (fun fs8 H locs e8 hlen hP hD hS => ?_)
  refine mi_9 C0 hin hA hl hlen hP hD hS (Nat.le_of_ble_eq_true rfl) (Nat.le_of_ble_eq_true rfl) (fun q9 fs9 Y9 H locs e9 hlen y9 hP hD hS => ?_)
  refine W.widen (k := 2) (n := 1606) (Nat.le_of_ble_eq_true rfl) (Nat.le_of_ble_eq_true rfl) ?_
  refine mi_10 C0 hin hA hl hlen hP hD hS (Nat.le_of_ble_eq_true rfl) (Nat.le_of_ble_eq_true rfl) (fun q10 gg10 fs10 Y10 H locs e10 hlen y10 hP hD hS => ?_)
  refine W.widen (k := 3) (n := 1611) (Nat.le_of_ble_eq_true rfl) (Nat.le_of_ble_eq_true rfl) ?_
  refine mi_11 C0 hin hA hl hlen hP hD hS (Nat.le_of_ble_eq_true rfl) (Nat.le_of_ble_eq_true rfl) (fun q11 gg11 fs11 Y11 H locs e11 hlen y11 hP hD hS => ?_)
  refine W.widen (k := 4) (n := 1616) (Nat.le_of_ble_eq_true rfl) (Nat.le_of_ble_eq_true rfl) ?_
  refine mi_12 C0 hin hA hl hlen hP hD hS (Nat.le_of_ble_eq_true rfl) (Nat.le_of_ble_eq_true rfl) (fun q12 gg12 fs12 Y12 H locs e12 hlen y12 hP hD hS => ?_)
  refine W.widen (k := 5) (n := 1620) (Nat.le_of_ble_eq_true rfl) (Nat.le_of_ble_eq_true rfl) ?_
  refine mi_13 C0 hin hA hl hlen hP hD hS (Nat.le_of_ble_eq_true rfl) (Nat.le_of_ble_eq_true rfl) (fun q13 gg13 fs13 Y13 H locs e13 hlen y13 hP hD hS => ?_)
  refine W.widen (k := 6) (n := 1625) (Nat.le_of_ble_eq_true rfl) (Nat.le_of_ble_eq_true rfl) ?_
  refine mi_14 C0 hin hA hl hlen hP hD hS (Nat.le_of_ble_eq_true rfl) (Nat.le_of_ble_eq_true rfl) (fun q14 gg14 fs14 Y14 H locs e14 hlen y14 hP hD hS => ?_)
  refine W.widen (k := 7) (n := 1629) (Nat.le_of_ble_eq_true rfl) (Nat.le_of_ble_eq_true rfl) ?_
  refine mi_15 C0 hin hA hl hlen hP hD hS (Nat.le_of_ble_eq_true rfl) (Nat.le_of_ble_eq_true rfl) (fun q15 gg15 fs15 Y15 H locs e15 hlen y15 hP hD hS => ?_)
  refine W.widen (k := 8) (n := 1633) (Nat.le_of_ble_eq_true rfl) (Nat.le_of_ble_eq_true rfl) ?_
  refine mi_16 C0 hin hA hl hlen hP hD hS (Nat.le_of_ble_eq_true rfl) (Nat.le_of_ble_eq_true rfl) (fun q16 gg16 fs16 Y16 H locs e16 hlen y16 hP hD hS => ?_)
  refine W.widen (k := 9) (n := 1637) (Nat.le_of_ble_eq_true rfl) (Nat.le_of_ble_eq_true rfl) ?_
  refine mi_17 C0 hin hA hl hlen hP hD hS (Nat.le_of_ble_eq_true rfl) (Nat.le_of_ble_eq_true rfl) (fun q17 gg17 fs17 Y17 H locs e17 hlen y17 hP hD hS => ?_)
  refine W.widen (k := 10) (n := 1643) (Nat.le_of_ble_eq_true rfl) (Nat.le_of_ble_eq_true rfl) ?_
  refine mi_18 C0 hin hA hl hlen hP hD hS (Nat.le_of_ble_eq_true rfl) (Nat.le_of_ble_eq_true rfl) (fun q18 gg18 fs18 Y18 H locs e18 hlen y18 hP hD hS => ?_)
  refine W.widen (k := 11) (n := 1648) (Nat.le_of_ble_eq_true rfl) (Nat.le_of_ble_eq_true rfl) ?_
  refine mi_19 C0 hin hA hl hlen hP hD hS (Nat.le_of_ble_eq_true rfl) (Nat.le_of_ble_eq_true rfl) (fun q19 gg19 fs19 Y19 H locs e19 hlen y19 hP hD hS => ?_)
  refine W.widen (k := 12) (n := 1650) (Nat.le_of_ble_eq_true rfl) (Nat.le_of_ble_eq_true rfl) ?_
  refine mi_20 C0 hin hA hl hlen hP hD hS (Nat.le_of_ble_eq_true rfl) (Nat.le_of_ble_eq_true rfl) (fun q20 gg20 fs20 Y20 H locs e20 hlen y20 hP hD hS => ?_)
  refine W.widen (k := 13) (n := 1652) (Nat.le_of_ble_eq_true rfl) (Nat.le_of_ble_eq_true rfl) ?_
  refine mi_21 C0 hin hA hl hlen hP hD hS (Nat.le_of_ble_eq_true rfl) (Nat.le_of_ble_eq_true rfl) (fun q21 gg21 fs21 Y21 H locs e21 hlen y21 hP hD hS => ?_)
  refine W.widen (k := 14) (n := 1655) (Nat.le_of_ble_eq_true rfl) (Nat.le_of_ble_eq_true rfl) ?_
  refine mi_22 C0 hin hA hl hlen hP hD hS (Nat.le_of_ble_eq_true rfl) (Nat.le_of_ble_eq_true rfl) (fun q22 gg22 fs22 Y22 H locs e22 hlen y22 hP hD hS => ?_)
  refine W.widen (k := 15) (n := 1658) (Nat.le_of_ble_eq_true rfl) (Nat.le_of_ble_eq_true rfl) ?_
  refine mi_23 C0 hin hA hl hlen hP hD hS (Nat.le_of_ble_eq_true rfl) (Nat.le_of_ble_eq_true rfl) (fun q23 gg23 fs23 Y23 H locs e23 hlen y23 hP hD hS => ?_)
  refine W.widen (k := 16) (n := 1664) (Nat.le_of_ble_eq_true rfl) (Nat.le_of_ble_eq_true rfl) ?_
  refine mi_24 C0 hin hA hl hlen hP hD hS (Nat.le_of_ble_eq_true rfl) (Nat.le_of_ble_eq_true rfl) (fun q24 gg24 fs24 Y24 H locs e24 hlen y24 hP hD hS => ?_)
  refine W.widen (k := 17) (n := 1668) (Nat.le_of_ble_eq_true rfl) (Nat.le_of_ble_eq_true rfl) ?_
  refine mi_25 C0 hin hA hl hlen hP hD hS (Nat.le_of_ble_eq_true rfl) (Nat.le_of_ble_eq_true rfl) (fun q25 gg25 fs25 Y25 H locs e25 hlen y25 hP hD hS => ?_)
  refine W.widen (k := 18) (n := 1674) (Nat.le_of_ble_eq_true rfl) (Nat.le_of_ble_eq_true rfl) ?_
  refine mi_26 C0 hin hA hl hlen hP hD hS (Nat.le_of_ble_eq_true rfl) (Nat.le_of_ble_eq_true rfl) (fun q26 gg26 fs26 Y26 H locs e26 hlen y26 hP hD hS => ?_)
  refine W.widen (k := 19) (n := 1677) (Nat.le_of_ble_eq_true rfl) (Nat.le_of_ble_eq_true rfl) ?_
  refine mi_27 C0 hin hA hl hlen hP hD hS (Nat.le_of_ble_eq_true rfl) (Nat.le_of_ble_eq_true rfl) (fun q27 gg27 fs27 Y27 H locs e27 hlen y27 hP hD hS => ?_)
  refine W.widen (k := 20) (n := 1682) (Nat.le_of_ble_eq_true rfl) (Nat.le_of_ble_eq_true rfl) ?_
  refine mi_28 C0 hin hA hl hlen hP hD hS (Nat.le_of_ble_eq_true rfl) (Nat.le_of_ble_eq_true rfl) (fun q28 gg28 fs28 Y28 H locs e28 hlen y28 hP hD hS => ?_)
  refine W.widen (k := 21) (n := 1688) (Nat.le_of_ble_eq_true rfl) (Nat.le_of_ble_eq_true rfl) ?_
  refine mi_29 C0 hin hA hl hlen hP hD hS (Nat.le_of_ble_eq_true rfl) (Nat.le_of_ble_eq_true rfl) (fun q29 gg29 fs29 Y29 H locs e29 hlen y29 hP hD hS => ?_)
  refine W.widen (k := 22) (n := 1691) (Nat.le_of_ble_eq_true rfl) (Nat.le_of_ble_eq_true rfl) ?_
  refine mi_30 C0 hin hA hl hlen hP hD hS (Nat.le_of_ble_eq_true rfl) (Nat.le_of_ble_eq_true rfl) (fun q30 gg30 fs30 Y30 H locs e30 hlen y30 hP hD hS => ?_)
  refine W.widen (k := 23) (n := 1695) (Nat.le_of_ble_eq_true rfl) (Nat.le_of_ble_eq_true rfl) ?_
  refine mi_31 C0 hin hA hl hlen hP hD hS (Nat.le_of_ble_eq_true rfl) (Nat.le_of_ble_eq_true rfl) (fun q31 gg31 fs31 Y31 H locs e31 hlen y31 hP hD hS => ?_)
  refine W.widen (k := 24) (n := 1701) (Nat.le_of_ble_eq_true rfl) (Nat.le_of_ble_eq_true rfl) ?_
  refine mi_32 C0 hin hA hl hlen hP hD hS (Nat.le_of_ble_eq_true rfl) (Nat.le_of_ble_eq_true rfl) (fun q32 gg32 fs32 Y32 H locs e32 hlen y32 hP hD hS => ?_)
  refine W.widen (k := 25) (n := 1705) (Nat.le_of_ble_eq_true rfl) (Nat.le_of_ble_eq_true rfl) ?_
  refine mi_33 C0 hin hA hl hlen hP hD hS (Nat.le_of_ble_eq_true rfl) (Nat.le_of_ble_eq_true rfl) (fun q33 gg33 fs33 Y33 H locs e33 hlen y33 hP hD hS => ?_)
  refine W.widen (k := 26) (n := 1709) (Nat.le_of_ble_eq_true rfl) (Nat.le_of_ble_eq_true rfl) ?_
  refine mi_34 C0 hin hA hl hlen hP hD hS (Nat.le_of_ble_eq_true rfl) (Nat.le_of_ble_eq_true rfl) (fun q34 gg34 fs34 Y34 H locs e34 hlen y34 hP hD hS => ?_)
  refine W.widen (k := 27) (n := 1711) (Nat.le_of_ble_eq_true rfl) (Nat.le_of_ble_eq_true rfl) ?_
  refine mi_35 C0 hin hA hl hlen hP hD hS (Nat.le_of_ble_eq_true rfl) (Nat.le_of_ble_eq_true rfl) (fun q35 gg35 fs35 Y35 H locs e35 hlen y35 hP hD hS => ?_)
  refine W.widen (k := 28) (n := 1714) (Nat.le_of_ble_eq_true rfl) (Nat.le_of_ble_eq_true rfl) ?_
  refine mi_36 C0 hin hA hl hlen hP hD hS (Nat.le_of_ble_eq_true rfl) (Nat.le_of_ble_eq_true rfl) (fun q36 gg36 fs36 Y36 H locs e36 hlen y36 hP hD hS => ?_)
  refine W.widen (k := 29) (n := 1717) (Nat.le_of_ble_eq_true rfl) (Nat.le_of_ble_eq_true rfl) ?_
  refine mi_37 C0 hin hA hl hlen hP hD hS (Nat.le_of_ble_eq_true rfl) (Nat.le_of_ble_eq_true rfl) (fun q37 gg37 fs37 Y37 H locs e37 hlen y37 hP hD hS => ?_)
  refine W.widen (k := 30) (n := 1720) (Nat.le_of_ble_eq_true rfl) (Nat.le_of_ble_eq_true rfl) ?_
  refine mi_38 C0 hin hA hl hlen hP hD hS (Nat.le_of_ble_eq_true rfl) (Nat.le_of_ble_eq_true rfl) (fun q38 gg38 fs38 Y38 H locs e38 hlen y38 hP hD hS => ?_)
  refine W.widen (k := 31) (n := 1723) (Nat.le_of_ble_eq_true rfl) (Nat.le_of_ble_eq_true rfl) ?_
  refine mi_39 C0 hin hA hl hlen hP hD hS (Nat.le_of_ble_eq_true rfl) (Nat.le_of_ble_eq_true rfl) (fun q39 gg39 fs39 Y39 H locs e39 hlen y39 hP hD hS => ?_)
  refine W.widen (k := 32) (n := 1726) (Nat.le_of_ble_eq_true rfl) (Nat.le_of_ble_eq_true rfl) ?_
  refine mi_41 C0 hin hA hl hlen hP hD hS (Nat.le_of_ble_eq_true rfl) (Nat.le_of_ble_eq_true rfl) (fun q41 fs41 Y41 H locs e41 hlen y41 hP hD hS => ?_)
  refine W.widen (k := 33) (n := 1730) (Nat.le_of_ble_eq_true rfl) (Nat.le_of_ble_eq_true rfl) ?_
  refine mi_42 C0 hin hA hl hlen hP hD hS (Nat.le_of_ble_eq_true rfl) (Nat.le_of_ble_eq_true rfl) (fun q42 fs42 Y42 H locs e42 hlen y42 hP hD hS => ?_)
  refine W.widen (k := 34) (n := 1778) (Nat.le_of_ble_eq_true rfl) (Nat.le_of_ble_eq_true rfl) ?_
  refine mi_43 C0 hin hA hl hlen hP hD hS (Nat.le_of_ble_eq_true rfl) (Nat.le_of_ble_eq_true rfl) (fun q43 fs43 Y43 H locs e43 hlen y43 hP hD hS => ?_)
  refine W.widen (k := 35) (n := 1786) (Nat.le_of_ble_eq_true rfl) (Nat.le_of_ble_eq_true rfl) ?_
  refine mi_44 C0 hin hA hl hlen hP hD hS (Nat.le_of_ble_eq_true rfl) (Nat.le_of_ble_eq_true rfl) (fun q44 fs44 Y44 H locs e44 hlen y44 hP hD hS => ?_)
  refine W.widen (k := 36) (n := 1810) (Nat.le_of_ble_eq_true rfl) (Nat.le_of_ble_eq_true rfl) ?_
  refine mi_45 C0 hin hA hl hlen hP hD hS (Nat.le_of_ble_eq_true rfl) (Nat.le_of_ble_eq_true rfl) (fun q45 fs45 Y45 H locs e45 hlen y45 hP hD hS => ?_)
  refine W.widen (k := 37) (n := 1816) (Nat.le_of_ble_eq_true rfl) (Nat.le_of_ble_eq_true rfl) ?_
  refine mi_46 C0 hin hA hl hlen hP hD hS (Nat.le_of_ble_eq_true rfl) (Nat.le_of_ble_eq_true rfl) (fun q46 fs46 Y46 H locs e46 hlen y46 hP hD hS => ?_)
  refine W.widen (k := 38) (n := 1864) (Nat.le_of_ble_eq_true rfl) (Nat.le_of_ble_eq_true rfl) ?_
  refine mi_49 C0 hin hA hl hlen hP hD hS (Nat.le_of_ble_eq_true rfl) (Nat.le_of_ble_eq_true rfl) (fun q49 gg49 fs49 Y49 H locs hg e49 hlen y49 hP hD hS => ?_)
  refine W.widen (k := 39) (n := 1870) (Nat.le_of_ble_eq_true rfl) (Nat.le_of_ble_eq_true rfl) ?_
  refine mi_50 C0 hin hA hl hlen hP hD hS (Nat.le_of_ble_eq_true rfl) (Nat.le_of_ble_eq_true rfl) (fun q50 fs50 Y50 H locs e50 hlen y50 hP hD hS => ?_)
  refine W.widen (k := 40) (n := 1876) (Nat.le_of_ble_eq_true rfl) (Nat.le_of_ble_eq_true rfl) ?_
  refine mi_51 C0 hin hA hl hlen hP hD hS (Nat.le_of_ble_eq_true rfl) (Nat.le_of_ble_eq_true rfl) (fun q51 fs51 Y51 H locs e51 hlen y51 hP hD hS => ?_)
  refine W.widen (k := 41) (n := 5076) (Nat.le_of_ble_eq_true rfl) (Nat.le_of_ble_eq_true rfl) ?_
  refine mi_56 C0 hin hA hl hlen hP hD hS (Nat.le_of_ble_eq_true rfl) (Nat.le_of_ble_eq_true rfl) (fun q56 fs56 Y56 H locs e56 hlen y56 hP hD hS => ?_)
  refine W.widen (k := 42) (n := 5085) (Nat.le_of_ble_eq_true rfl) (Nat.le_of_ble_eq_true rfl) ?_
  refine mi_57 C0 hin hA hl hlen hP hD hS (Nat.le_of_ble_eq_true rfl) (Nat.le_of_ble_eq_true rfl) (fun q57 fs57 Y57 H locs e57 hlen y57 hP hD hS => ?_)
  refine W.widen (k := 43) (n := 5094) (Nat.le_of_ble_eq_true rfl) (Nat.le_of_ble_eq_true rfl) ?_
  refine mi_60 C0 hin hA hl hlen hP hD hS (Nat.le_of_ble_eq_true rfl) (Nat.le_of_ble_eq_true rfl) (fun q60 fs60 Y60 H locs e60 hlen y60 hP hD hS => ?_)
  refine W.widen (k := 44) (n := 5414) (Nat.le_of_ble_eq_true rfl) (Nat.le_of_ble_eq_true rfl) ?_
  refine mi_61 C0 hin hA hl hlen hP hD hS (Nat.le_of_ble_eq_true rfl) (Nat.le_of_ble_eq_true rfl) (fun q61 fs61 Y61 H locs e61 hlen y61 hP hD hS => ?_)
  refine W.widen (k := 45) (n := 5714) (Nat.le_of_ble_eq_true rfl) (Nat.le_of_ble_eq_true rfl) ?_
  refine mi_62 C0 hin hA hl hlen hP hD hS (Nat.le_of_ble_eq_true rfl) (Nat.le_of_ble_eq_true rfl) (fun q62 fs62 Y62 H locs e62 hlen y62 hP hD hS => ?_)
  refine W.widen (k := 46) (n := 6014) (Nat.le_of_ble_eq_true rfl) (Nat.le_of_ble_eq_true rfl) ?_
  refine mi_63 C0 hin hA hl hlen hP hD hS (Nat.le_of_ble_eq_true rfl) (Nat.le_of_ble_eq_true rfl) (fun q63 fs63 Y63 H locs e63 hlen y63 hP hD hS => ?_)
  refine W.widen (k := 47) (n := 6026) (Nat.le_of_ble_eq_true rfl) (Nat.le_of_ble_eq_true rfl) ?_
  refine mi_64 C0 hin hA hl hlen hP hD hS (Nat.le_of_ble_eq_true rfl) (Nat.le_of_ble_eq_true rfl) (fun q64 fs64 Y64 H locs e64 hlen y64 hP hD hS => ?_)
  refine W.widen (k := 48) (n := 6038) (Nat.le_of_ble_eq_true rfl) (Nat.le_of_ble_eq_true rfl) ?_
  refine mi_65 C0 hin hA hl hlen hP hD hS (Nat.le_of_ble_eq_true rfl) (Nat.le_of_ble_eq_true rfl) (fun q65 fs65 Y65 H locs e65 hlen y65 hP hD hS => ?_)
  refine W.widen (k := 49) (n := 6050) (Nat.le_of_ble_eq_true rfl) (Nat.le_of_ble_eq_true rfl) ?_
  refine mi_66 C0 hin hA hl hlen hP hD hS (Nat.le_of_ble_eq_true rfl) (Nat.le_of_ble_eq_true rfl) (fun q66 fs66 Y66 H locs e66 hlen y66 hP hD hS => ?_)
  refine W.widen (k := 50) (n := 6062) (Nat.le_of_ble_eq_true rfl) (Nat.le_of_ble_eq_true rfl) ?_
  refine mi_67 C0 hin hA hl hlen hP hD hS (Nat.le_of_ble_eq_true rfl) (Nat.le_of_ble_eq_true rfl) (fun q67 fs67 Y67 H locs e67 hlen y67 hP hD hS => ?_)
  refine W.widen (k := 51) (n := 6074) (Nat.le_of_ble_eq_true rfl) (Nat.le_of_ble_eq_true rfl) ?_
  refine mi_68 C0 hin hA hl hlen hP hD hS (Nat.le_of_ble_eq_true rfl) (Nat.le_of_ble_eq_true rfl) (fun q68 fs68 Y68 H locs e68 hlen y68 hP hD hS => ?_)
  refine W.widen (k := 52) (n := 6086) (Nat.le_of_ble_eq_true rfl) (Nat.le_of_ble_eq_true rfl) ?_
  refine mi_69 C0 hin hA hl hlen hP hD hS (Nat.le_of_ble_eq_true rfl) (Nat.le_of_ble_eq_true rfl) (fun q69 fs69 Y69 H locs e69 hlen y69 hP hD hS => ?_)
  refine W.widen (k := 53) (n := 6386) (Nat.le_of_ble_eq_true rfl) (Nat.le_of_ble_eq_true rfl) ?_
  refine mi_76 C0 hin hA hl hlen hP hD hS (Nat.le_of_ble_eq_true rfl) (Nat.le_of_ble_eq_true rfl) (fun q76 fs76 Y76 H locs e76 hlen y76 hP hD hS => ?_)
  refine W.widen (k := 54) (n := 6418) (Nat.le_of_ble_eq_true rfl) (Nat.le_of_ble_eq_true rfl) ?_
  refine mi_77 C0 hin hA hl hlen hP hD hS (Nat.le_of_ble_eq_true rfl) (Nat.le_of_ble_eq_true rfl) (fun q77 fs77 Y77 H locs e77 hlen y77 hP hD hS => ?_)
  refine W.widen (k := 55) (n := 7138) (Nat.le_of_ble_eq_true rfl) (Nat.le_of_ble_eq_true rfl) ?_
  refine mi_81 C0 hin hA hl hlen hP hD hS (Nat.le_of_ble_eq_true rfl) (Nat.le_of_ble_eq_true rfl) (fun q81 fs81 Y81 H locs e81 hlen y81 hP hD hS => ?_)
  refine W.widen (k := 56) (n := 7318) (Nat.le_of_ble_eq_true rfl) (Nat.le_of_ble_eq_true rfl) ?_
  refine mi_84 C0 hin hA hl hlen hP hD hS (fun fs84 H locs e84 hlen hP hD hS => ?_)
  refine mi_85 C0 hin hA hl hlen hP hD hS (Nat.le_of_ble_eq_true rfl) (Nat.le_of_ble_eq_true rfl) (fun q85 gg85 fs85 Y85 H locs e85 hlen y85 hP hD hS => ?_)
  refine W.widen (k := 57) (n := 7323) (Nat.le_of_ble_eq_true rfl) (Nat.le_of_ble_eq_true rfl) ?_
  refine mi_86 C0 hin hA hl hlen hP hD hS (Nat.le_of_ble_eq_true rfl) (Nat.le_of_ble_eq_true rfl) (fun q86 gg86 fs86 Y86 H locs e86 hlen y86 hP hD hS => ?_)
  refine W.widen (k := 58) (n := 7327) (Nat.le_of_ble_eq_true rfl) (Nat.le_of_ble_eq_true rfl) ?_
  refine mi_87 C0 hin hA hl hlen hP hD hS (Nat.le_of_ble_eq_true rfl) (Nat.le_of_ble_eq_true rfl) (fun q87 gg87 fs87 Y87 H locs e87 hlen y87 hP hD hS => ?_)
  refine W.widen (k := 59) (n := 7332) (Nat.le_of_ble_eq_true rfl) (Nat.le_of_ble_eq_true rfl) ?_
  refine mi_88 C0 hin hA hl hlen hP hD hS (Nat.le_of_ble_eq_true rfl) (Nat.le_of_ble_eq_true rfl) (fun q88 gg88 fs88 Y88 H locs e88 hlen y88 hP hD hS => ?_)
  refine W.widen (k := 60) (n := 7337) (Nat.le_of_ble_eq_true rfl) (Nat.le_of_ble_eq_true rfl) ?_
  refine mi_89 C0 hin hA hl hlen hP hD hS (Nat.le_of_ble_eq_true rfl) (Nat.le_of_ble_eq_true rfl) (fun q89 gg89 fs89 Y89 H locs e89 hlen y89 hP hD hS => ?_)
  refine W.widen (k := 61) (n := 7341) (Nat.le_of_ble_eq_true rfl) (Nat.le_of_ble_eq_true rfl) ?_
  refine mi_90 C0 hin hA hl hlen hP hD hS (Nat.le_of_ble_eq_true rfl) (Nat.le_of_ble_eq_true rfl) (fun q90 gg90 fs90 Y90 H locs e90 hlen y90 hP hD hS => ?_)
  refine W.widen (k := 62) (n := 7346) (Nat.le_of_ble_eq_true rfl) (Nat.le_of_ble_eq_true rfl) ?_
  refine mi_91 C0 hin hA hl hlen hP hD hS (Nat.le_of_ble_eq_true rfl) (Nat.le_of_ble_eq_true rfl) (fun q91 gg91 fs91 Y91 H locs e91 hlen y91 hP hD hS => ?_)
  refine W.widen (k := 63) (n := 7349) (Nat.le_of_ble_eq_true rfl) (Nat.le_of_ble_eq_true rfl) ?_
  refine mi_92 C0 hin hA hl hlen hP hD hS (Nat.le_of_ble_eq_true rfl) (Nat.le_of_ble_eq_true rfl) (fun q92 gg92 fs92 Y92 H locs e92 hlen y92 hP hD hS => ?_)
  refine W.widen (k := 64) (n := 7352) (Nat.le_of_ble_eq_true rfl) (Nat.le_of_ble_eq_true rfl) ?_
  refine mi_93 C0 hin hA hl hlen hP hD hS (Nat.le_of_ble_eq_true rfl) (Nat.le_of_ble_eq_true rfl) (fun q93 gg93 fs93 Y93 H locs e93 hlen y93 hP hD hS => ?_)
  refine W.widen (k := 65) (n := 7354) (Nat.le_of_ble_eq_true rfl) (Nat.le_of_ble_eq_true rfl) ?_
  refine mi_94 C0 hin hA hl hlen hP hD hS (Nat.le_of_ble_eq_true rfl) (Nat.le_of_ble_eq_true rfl) (fun q94 gg94 fs94 Y94 H locs e94 hlen y94 hP hD hS => ?_)
  refine W.widen (k := 66) (n := 7357) (Nat.le_of_ble_eq_true rfl) (Nat.le_of_ble_eq_true rfl) ?_
  refine mi_95 C0 hin hA hl hlen hP hD hS (Nat.le_of_ble_eq_true rfl) (Nat.le_of_ble_eq_true rfl) (fun q95 gg95 fs95 Y95 H locs e95 hlen y95 hP hD hS => ?_)
  refine W.widen (k := 67) (n := 7360) (Nat.le_of_ble_eq_true rfl) (Nat.le_of_ble_eq_true rfl) ?_
  refine mi_96 C0 hin hA hl hlen hP hD hS (Nat.le_of_ble_eq_true rfl) (Nat.le_of_ble_eq_true rfl) (fun q96 gg96 fs96 Y96 H locs e96 hlen y96 hP hD hS => ?_)
  refine W.widen (k := 68) (n := 7363) (Nat.le_of_ble_eq_true rfl) (Nat.le_of_ble_eq_true rfl) ?_
  refine mi_97 C0 hin hA hl hlen hP hD hS (Nat.le_of_ble_eq_true rfl) (Nat.le_of_ble_eq_true rfl) (fun q97 gg97 fs97 Y97 H locs e97 hlen y97 hP hD hS => ?_)
  refine W.widen (k := 69) (n := 7369) (Nat.le_of_ble_eq_true rfl) (Nat.le_of_ble_eq_true rfl) ?_
  refine mi_98 C0 hin hA hl hlen hP hD hS (Nat.le_of_ble_eq_true rfl) (Nat.le_of_ble_eq_true rfl) (fun q98 gg98 fs98 Y98 H locs e98 hlen y98 hP hD hS => ?_)
  refine W.widen (k := 70) (n := 7372) (Nat.le_of_ble_eq_true rfl) (Nat.le_of_ble_eq_true rfl) ?_
  refine mi_99 C0 hin hA hl hlen hP hD hS (Nat.le_of_ble_eq_true rfl) (Nat.le_of_ble_eq_true rfl) (fun q99 gg99 fs99 Y99 H locs e99 hlen y99 hP hD hS => ?_)
  refine W.widen (k := 71) (n := 7377) (Nat.le_of_ble_eq_true rfl) (Nat.le_of_ble_eq_true rfl) ?_
  refine mi_100 C0 hin hA hl hlen hP hD hS (Nat.le_of_ble_eq_true rfl) (Nat.le_of_ble_eq_true rfl) (fun q100 gg100 fs100 Y100 H locs e100 hlen y100 hP hD hS => ?_)
  refine W.widen (k := 72) (n := 7383) (Nat.le_of_ble_eq_true rfl) (Nat.le_of_ble_eq_true rfl) ?_
  refine mi_101 C0 hin hA hl hlen hP hD hS (Nat.le_of_ble_eq_true rfl) (Nat.le_of_ble_eq_true rfl) (fun q101 gg101 fs101 Y101 H locs e101 hlen y101 hP hD hS => ?_)
  refine W.widen (k := 73) (n := 7387) (Nat.le_of_ble_eq_true rfl) (Nat.le_of_ble_eq_true rfl) ?_
  refine mi_102 C0 hin hA hl hlen hP hD hS (Nat.le_of_ble_eq_true rfl) (Nat.le_of_ble_eq_true rfl) (fun q102 gg102 fs102 Y102 H locs e102 hlen y102 hP hD hS => ?_)
  refine W.widen (k := 74) (n := 7391) (Nat.le_of_ble_eq_true rfl) (Nat.le_of_ble_eq_true rfl) ?_
  refine mi_103 C0 hin hA hl hlen hP hD hS (Nat.le_of_ble_eq_true rfl) (Nat.le_of_ble_eq_true rfl) (fun q103 gg103 fs103 Y103 H locs e103 hlen y103 hP hD hS => ?_)
  refine W.widen (k := 75) (n := 7397) (Nat.le_of_ble_eq_true rfl) (Nat.le_of_ble_eq_true rfl) ?_
  refine mi_104 C0 hin hA hl hlen hP hD hS (Nat.le_of_ble_eq_true rfl) (Nat.le_of_ble_eq_true rfl) (fun q104 gg104 fs104 Y104 H locs e104 hlen y104 hP hD hS => ?_)
  refine W.widen (k := 76) (n := 7400) (Nat.le_of_ble_eq_true rfl) (Nat.le_of_ble_eq_true rfl) ?_
  refine mi_105 C0 hin hA hl hlen hP hD hS (Nat.le_of_ble_eq_true rfl) (Nat.le_of_ble_eq_true rfl) (fun q105 gg105 fs105 Y105 H locs e105 hlen y105 hP hD hS => ?_)
  refine W.widen (k := 77) (n := 7404) (Nat.le_of_ble_eq_true rfl) (Nat.le_of_ble_eq_true rfl) ?_
  refine mi_106 C0 hin hA hl hlen hP hD hS (Nat.le_of_ble_eq_true rfl) (Nat.le_of_ble_eq_true rfl) (fun q106 gg106 fs106 Y106 H locs e106 hlen y106 hP hD hS => ?_)
  refine W.widen (k := 78) (n := 7410) (Nat.le_of_ble_eq_true rfl) (Nat.le_of_ble_eq_true rfl) ?_
  refine mi_107 C0 hin hA hl hlen hP hD hS (Nat.le_of_ble_eq_true rfl) (Nat.le_of_ble_eq_true rfl) (fun q107 gg107 fs107 Y107 H locs e107 hlen y107 hP hD hS => ?_)
  refine W.widen (k := 79) (n := 7414) (Nat.le_of_ble_eq_true rfl) (Nat.le_of_ble_eq_true rfl) ?_
  refine mi_108 C0 hin hA hl hlen hP hD hS (Nat.le_of_ble_eq_true rfl) (Nat.le_of_ble_eq_true rfl) (fun q108 gg108 fs108 Y108 H locs e108 hlen y108 hP hD hS => ?_)
  refine W.widen (k := 80) (n := 7418) (Nat.le_of_ble_eq_true rfl) (Nat.le_of_ble_eq_true rfl) ?_
  refine mi_109 C0 hin hA hl hlen hP hD hS (Nat.le_of_ble_eq_true rfl) (Nat.le_of_ble_eq_true rfl) (fun q109 gg109 fs109 Y109 H locs e109 hlen y109 hP hD hS => ?_)
  refine W.widen (k := 81) (n := 7422) (Nat.le_of_ble_eq_true rfl) (Nat.le_of_ble_eq_true rfl) ?_
  refine mi_110 C0 hin hA hl hlen hP hD hS (Nat.le_of_ble_eq_true rfl) (Nat.le_of_ble_eq_true rfl) (fun q110 fs110 Y110 H locs e110 hlen y110 hP hD hS => ?_)
  refine W.widen (k := 82) (n := 9122) (Nat.le_of_ble_eq_true rfl) (Nat.le_of_ble_eq_true rfl) ?_
  refine mi_112 C0 hin hA hl hlen hP hD hS (Nat.le_of_ble_eq_true rfl) (Nat.le_of_ble_eq_true rfl) (fun q112 fs112 Y112 H locs e112 hlen y112 hP hD hS => ?_)
  refine W.widen (k := 83) (n := 10822) (Nat.le_of_ble_eq_true rfl) (Nat.le_of_ble_eq_true rfl) ?_
  refine mi_116 C0 hin hA hl hlen hP hD hS (Nat.le_of_ble_eq_true rfl) (Nat.le_of_ble_eq_true rfl) (fun q116 fs116 Y116 H locs e116 hlen y116 hP hD hS => ?_)
  refine W.widen (k := 84) (n := 12522) (Nat.le_of_ble_eq_true rfl) (Nat.le_of_ble_eq_true rfl) ?_
  refine mi_120 C0 hin hA hl hlen hP hD hS (Nat.le_of_ble_eq_true rfl) (Nat.le_of_ble_eq_true rfl) (fun q120 fs120 Y120 H locs e120 hlen y120 hP hD hS => ?_)
  refine W.widen (k := 85) (n := 12533) (Nat.le_of_ble_eq_true rfl) (Nat.le_of_ble_eq_true rfl) ?_
  have hI : IMm (lf_i (0 :: 0 :: 0 :: 0 :: 0 :: 0 :: 0 :: (-1) :: 0 :: 0 :: 0 :: 0 :: 0 :: 0 :: 0 :: 0 :: 0 :: 0 :: 0 :: 0 :: 0 :: 0 :: 0 :: 0 :: 0 :: 0 :: 0 :: 0 :: 0 :: 0 :: 0 :: 0 :: 0 :: 0 :: 0 :: [])) (lf_f ((fun _ => 0) :: (fun _ => 0) :: gg10 :: gg11 :: gg12 :: gg13 :: gg14 :: gg15 :: gg16 :: gg17 :: gg18 :: gg19 :: gg20 :: gg21 :: gg22 :: gg23 :: gg24 :: gg25 :: gg26 :: gg27 :: gg28 :: gg29 :: gg30 :: gg31 :: gg32 :: gg33 :: gg34 :: gg35 :: gg36 :: gg37 :: gg38 :: gg39 :: (fun _ => 0) :: (fun _ => 0) :: (fun _ => 0) :: (fun _ => 0) :: (fun _ => 0) :: gg49 :: (fun _ => 0) :: (fun _ => 0) :: (fun _ => 0) :: (fun _ => 0) :: (fun _ => 0) :: (fun _ => 0) :: (fun _ => 0) :: (fun _ => 0) :: (fun _ => 0) :: (fun _ => 0) :: (fun _ => 0) :: (fun _ => 0) :: (fun _ => 0) :: (fun _ => 0) :: (fun _ => 0) :: (fun _ => 0) :: (fun _ => 0) :: gg85 :: gg86 :: gg87 :: gg88 :: gg89 :: gg90 :: gg91 :: gg92 :: gg93 :: gg94 :: gg95 :: gg96 :: gg97 :: gg98 :: gg99 :: gg100 :: gg101 :: gg102 :: gg103 :: gg104 :: gg105 :: gg106 :: gg107 :: gg108 :: gg109 :: (fun _ => 0) :: (fun _ => 0) :: (fun _ => 0) :: [])) := And.intro (ib_c 0 0 1600 (by decide)) (And.intro (ia_0 1600 (by decide)) (And.intro (ib_c 0 0 1 (by decide)) (And.intro (ib_c 0 0 16 (by decide)) (And.intro (ib_c 0 0 20 (by decide)) (And.intro (ib_c 0 0 1700 (by decide)) (And.intro (ib_c 0 0 1700 (by decide)) (And.intro (ib_c 0 0 1700 (by decide)) (And.intro (ia_0 4 (by decide)) (And.intro (ib_c 0 0 12 (by decide)) (And.intro (ib_c 0 0 6 (by decide)) (And.intro (ib_c 0 0 12 (by decide)) (And.intro (ib_c 0 0 120 (by decide)) (And.intro (fun _ _ _ => ib_c 0 0 5 (by decide)) (And.intro (fun k hk => by rw [hg k hk]; exact ib_c (-1) (-1) 1600 (by decide) : ia gg49 6 (-1) 1600) (And.intro (by rw [hg 1 (by decide)]; exact ib_c (-1) (-1) 1600 (by decide) : ib (gg49 1) (-1) 1600) (And.intro (by rw [hg 2 (by decide)]; exact ib_c (-1) (-1) 1600 (by decide) : ib (gg49 2) (-1) 1600) (And.intro (by rw [hg 3 (by decide)]; exact ib_c (-1) (-1) 1600 (by decide) : ib (gg49 3) (-1) 1600) (And.intro (by rw [hg 4 (by decide)]; exact ib_c (-1) (-1) 1600 (by decide) : ib (gg49 4) (-1) 1600) (And.intro (by rw [hg 5 (by decide)]; exact ib_c (-1) (-1) 1600 (by decide) : ib (gg49 5) (-1) 1600) (And.intro (ia_0 6 (by decide)) (And.intro (ib_c 0 0 1600 (by decide)) (And.intro (ib_c 0 0 1600 (by decide)) (And.intro (ib_c 0 0 1600 (by decide)) (And.intro (ib_c 0 0 1600 (by decide)) (And.intro (ib_c 0 0 1600 (by decide)) (And.intro (ib_c 0 0 1600 (by decide)) (And.intro (fun h => absurd (hg 3 (by decide)) h) (And.intro (fun h => absurd (hg 4 (by decide)) h) (And.intro (fun h => absurd (hg 5 (by decide)) h) (And.intro (fun h => absurd rfl h) (And.intro (fun h => absurd rfl h) (And.intro (fun h => absurd rfl h) (And.intro (ib_c 0 0 1 (by decide)) (And.intro (ib_c 0 0 1 (by decide)) (And.intro (ib_c 0 0 1700 (by decide)) (And.intro (ia_0 300 (by decide)) (And.intro (fun _ _ _ => ib_c 0 0 11 (by decide)) (And.intro (ib_c 0 0 60 (by decide)) (And.intro (ib_c 0 0 19 (by decide)) (And.intro (ib_c 0 0 1600 (by decide)) (And.intro (ib_c 0 0 1600 (by decide)) (And.intro (ib_c 0 0 1 (by decide)) (ib_c 0 0 11 (by decide))))))))))))))))))))))))))))))))))))))))))))
  have eF : fs120 = mfs (lf_n (q0 :: 0 :: 0 :: 0 :: 0 :: 0 :: 0 :: 0 :: 0 :: q9 :: q10 :: q11 :: q12 :: q13 :: q14 :: q15 :: q16 :: q17 :: q18 :: q19 :: q20 :: q21 :: q22 :: q23 :: q24 :: q25 :: q26 :: q27 :: q28 :: q29 :: q30 :: q31 :: q32 :: q33 :: q34 :: q35 :: q36 :: q37 :: q38 :: q39 :: 0 :: q41 :: q42 :: q43 :: q44 :: q45 :: q46 :: 0 :: 0 :: q49 :: q50 :: q51 :: 0 :: 0 :: 0 :: 0 :: q56 :: q57 :: 0 :: 0 :: q60 :: q61 :: q62 :: q63 :: q64 :: q65 :: q66 :: q67 :: q68 :: q69 :: 0 :: 0 :: 0 :: 0 :: 0 :: 0 :: q76 :: q77 :: 0 :: 0 :: 0 :: q81 :: 0 :: 0 :: 0 :: q85 :: q86 :: q87 :: q88 :: q89 :: q90 :: q91 :: q92 :: q93 :: q94 :: q95 :: q96 :: q97 :: q98 :: q99 :: q100 :: q101 :: q102 :: q103 :: q104 :: q105 :: q106 :: q107 :: q108 :: q109 :: q110 :: 0 :: q112 :: 0 :: 0 :: 0 :: q116 :: 0 :: 0 :: 0 :: q120 :: 0 :: [])) 0 0 0 0 0 0 0 (-1) 0 0 0 0 0 0 0 0 0 0 0 0 0 0 0 0 0 0 0 0 1 0 0 0 0 0 0 0 0 := by
    rw [e120, e116, e112, e110, e109, e108, e107, e106, e105, e104, e103, e102, e101, e100, e99, e98, e97, e96, e95, e94, e93, e92, e91, e90, e89, e88, e87, e86, e85, e84, e81, e77, e76, e69, e68, e67, e66, e65, e64, e63, e62, e61, e60, e57, e56, e51, e50, e49, e46, e45, e44, e43, e42, e41, e39, e38, e37, e36, e35, e34, e33, e32, e31, e30, e29, e28, e27, e26, e25, e24, e23, e22, e21, e20, e19, e18, e17, e16, e15, e14, e13, e12, e11, e10, e9, e8, eq0, e0]
    rfl
  have eY : Y120 = ((q0, .inl (cy 0, 1600, .inl (fun _ => 0))) :: (q9, .inl (cy 0, 6, .inl (fun _ => 0))) :: (q10, .inl (cy 2, 5, .inl gg10)) :: (q11, .inl (cy 2, 5, .inl gg11)) :: (q12, .inl (cy 2, 4, .inl gg12)) :: (q13, .inl (cy 2, 5, .inl gg13)) :: (q14, .inl (cy 2, 4, .inl gg14)) :: (q15, .inl (cy 2, 4, .inl gg15)) :: (q16, .inl (cy 2, 4, .inl gg16)) :: (q17, .inl (cy 2, 6, .inl gg17)) :: (q18, .inl (cy 2, 5, .inl gg18)) :: (q19, .inl (cy 2, 2, .inl gg19)) :: (q20, .inl (cy 2, 2, .inl gg20)) :: (q21, .inl (cy 2, 3, .inl gg21)) :: (q22, .inl (cy 2, 3, .inl gg22)) :: (q23, .inl (cy 2, 6, .inl gg23)) :: (q24, .inl (cy 2, 4, .inl gg24)) :: (q25, .inl (cy 2, 6, .inl gg25)) :: (q26, .inl (cy 2, 3, .inl gg26)) :: (q27, .inl (cy 2, 5, .inl gg27)) :: (q28, .inl (cy 2, 6, .inl gg28)) :: (q29, .inl (cy 2, 3, .inl gg29)) :: (q30, .inl (cy 2, 4, .inl gg30)) :: (q31, .inl (cy 2, 6, .inl gg31)) :: (q32, .inl (cy 2, 4, .inl gg32)) :: (q33, .inl (cy 2, 4, .inl gg33)) :: (q34, .inl (cy 2, 2, .inl gg34)) :: (q35, .inl (cy 2, 3, .inl gg35)) :: (q36, .inl (cy 2, 3, .inl gg36)) :: (q37, .inl (cy 2, 3, .inl gg37)) :: (q38, .inl (cy 2, 3, .inl gg38)) :: (q39, .inl (cy 2, 3, .inl gg39)) :: (q41, .inl (cy 0, 4, .inl (fun _ => 0))) :: (q42, .inl (cy 1, 48, .inr (.inl (fun _ => 0)))) :: (q43, .inl (cy 0, 8, .inl (fun _ => 0))) :: (q44, .inl (cy 0, 24, .inl (fun _ => 0))) :: (q45, .inl (cy 0, 6, .inl (fun _ => 0))) :: (q46, .inl (cy 0, 48, .inl (fun _ => 0))) :: (q49, .inl (cy 0, 6, .inl gg49)) :: (q50, .inl (cy 0, 6, .inl (fun _ => 0))) :: (q51, .inl (cy 0, 3200, .inl (fun _ => 0))) :: (q56, .inl (cy 0, 9, .inl (fun _ => 0))) :: (q57, .inl (cy 0, 9, .inl (fun _ => 0))) :: (q60, .inl (cy 3, 320, .inl (fun _ => 0))) :: (q61, .inl (cy 0, 300, .inl (fun _ => 0))) :: (q62, .inl (cy 3, 300, .inl (fun _ => 0))) :: (q63, .inl (cy 3, 12, .inl (fun _ => 0))) :: (q64, .inl (cy 0, 12, .inl (fun _ => 0))) :: (q65, .inl (cy 0, 12, .inl (fun _ => 0))) :: (q66, .inl (cy 3, 12, .inl (fun _ => 0))) :: (q67, .inl (cy 3, 12, .inl (fun _ => 0))) :: (q68, .inl (cy 3, 12, .inl (fun _ => 0))) :: (q69, .inl (cy 3, 300, .inl (fun _ => 0))) :: (q76, .inl (cy 0, 32, .inl (fun _ => 0))) :: (q77, .inl (cy 0, 720, .inl (fun _ => 0))) :: (q81, .inl (cy 0, 180, .inl (fun _ => 0))) :: (q85, .inl (cy 2, 5, .inl gg85)) :: (q86, .inl (cy 2, 4, .inl gg86)) :: (q87, .inl (cy 2, 5, .inl gg87)) :: (q88, .inl (cy 2, 5, .inl gg88)) :: (q89, .inl (cy 2, 4, .inl gg89)) :: (q90, .inl (cy 2, 5, .inl gg90)) :: (q91, .inl (cy 2, 3, .inl gg91)) :: (q92, .inl (cy 2, 3, .inl gg92)) :: (q93, .inl (cy 2, 2, .inl gg93)) :: (q94, .inl (cy 2, 3, .inl gg94)) :: (q95, .inl (cy 2, 3, .inl gg95)) :: (q96, .inl (cy 2, 3, .inl gg96)) :: (q97, .inl (cy 2, 6, .inl gg97)) :: (q98, .inl (cy 2, 3, .inl gg98)) :: (q99, .inl (cy 2, 5, .inl gg99)) :: (q100, .inl (cy 2, 6, .inl gg100)) :: (q101, .inl (cy 2, 4, .inl gg101)) :: (q102, .inl (cy 2, 4, .inl gg102)) :: (q103, .inl (cy 2, 6, .inl gg103)) :: (q104, .inl (cy 2, 3, .inl gg104)) :: (q105, .inl (cy 2, 4, .inl gg105)) :: (q106, .inl (cy 2, 6, .inl gg106)) :: (q107, .inl (cy 2, 4, .inl gg107)) :: (q108, .inl (cy 2, 4, .inl gg108)) :: (q109, .inl (cy 2, 4, .inl gg109)) :: (q110, .inl (cy 0, 1700, .inl (fun _ => 0))) :: (q112, .inl (cy 0, 1700, .inl (fun _ => 0))) :: (q116, .inl (cy 1, 1700, .inr (.inl (fun _ => 0)))) :: (q120, .inl (cy 0, 11, .inl (fun _ => 0))) :: []) := by
    rw [y120, y116, y112, y110, y109, y108, y107, y106, y105, y104, y103, y102, y101, y100, y99, y98, y97, y96, y95, y94, y93, y92, y91, y90, y89, y88, y87, y86, y85, y81, y77, y76, y69, y68, y67, y66, y65, y64, y63, y62, y61, y60, y57, y56, y51, y50, y49, y46, y45, y44, y43, y42, y41, y39, y38, y37, y36, y35, y34, y33, y32, y31, y30, y29, y28, y27, y26, y25, y24, y23, y22, y21, y20, y19, y18, y17, y16, y15, y14, y13, y12, y11, y10, y9, yq0, y0]
    rfl
  rw [eF, eY] at hP hD
  subst hQ; exact k_vret hx hb hr hlk ((lf_n (q0 :: 0 :: 0 :: 0 :: 0 :: 0 :: 0 :: 0 :: 0 :: q9 :: q10 :: q11 :: q12 :: q13 :: q14 :: q15 :: q16 :: q17 :: q18 :: q19 :: q20 :: q21 :: q22 :: q23 :: q24 :: q25 :: q26 :: q27 :: q28 :: q29 :: q30 :: q31 :: q32 :: q33 :: q34 :: q35 :: q36 :: q37 :: q38 :: q39 :: 0 :: q41 :: q42 :: q43 :: q44 :: q45 :: q46 :: 0 :: 0 :: q49 :: q50 :: q51 :: 0 :: 0 :: 0 :: 0 :: q56 :: q57 :: 0 :: 0 :: q60 :: q61 :: q62 :: q63 :: q64 :: q65 :: q66 :: q67 :: q68 :: q69 :: 0 :: 0 :: 0 :: 0 :: 0 :: 0 :: q76 :: q77 :: 0 :: 0 :: 0 :: q81 :: 0 :: 0 :: 0 :: q85 :: q86 :: q87 :: q88 :: q89 :: q90 :: q91 :: q92 :: q93 :: q94 :: q95 :: q96 :: q97 :: q98 :: q99 :: q100 :: q101 :: q102 :: q103 :: q104 :: q105 :: q106 :: q107 :: q108 :: q109 :: q110 :: 0 :: q112 :: 0 :: 0 :: 0 :: q116 :: 0 :: 0 :: 0 :: q120 :: 0 :: [])), (lf_i (0 :: 0 :: 0 :: 0 :: 0 :: 0 :: 0 :: (-1) :: 0 :: 0 :: 0 :: 0 :: 0 :: 0 :: 0 :: 0 :: 0 :: 0 :: 0 :: 0 :: 0 :: 0 :: 0 :: 0 :: 0 :: 0 :: 0 :: 0 :: 0 :: 0 :: 0 :: 0 :: 0 :: 0 :: 0 :: [])), (lf_z (1 :: 0 :: [])), (lf_f ((fun _ => 0) :: (fun _ => 0) :: gg10 :: gg11 :: gg12 :: gg13 :: gg14 :: gg15 :: gg16 :: gg17 :: gg18 :: gg19 :: gg20 :: gg21 :: gg22 :: gg23 :: gg24 :: gg25 :: gg26 :: gg27 :: gg28 :: gg29 :: gg30 :: gg31 :: gg32 :: gg33 :: gg34 :: gg35 :: gg36 :: gg37 :: gg38 :: gg39 :: (fun _ => 0) :: (fun _ => 0) :: (fun _ => 0) :: (fun _ => 0) :: (fun _ => 0) :: gg49 :: (fun _ => 0) :: (fun _ => 0) :: (fun _ => 0) :: (fun _ => 0) :: (fun _ => 0) :: (fun _ => 0) :: (fun _ => 0) :: (fun _ => 0) :: (fun _ => 0) :: (fun _ => 0) :: (fun _ => 0) :: (fun _ => 0) :: (fun _ => 0) :: (fun _ => 0) :: (fun _ => 0) :: (fun _ => 0) :: (fun _ => 0) :: gg85 :: gg86 :: gg87 :: gg88 :: gg89 :: gg90 :: gg91 :: gg92 :: gg93 :: gg94 :: gg95 :: gg96 :: gg97 :: gg98 :: gg99 :: gg100 :: gg101 :: gg102 :: gg103 :: gg104 :: gg105 :: gg106 :: gg107 :: gg108 :: gg109 :: (fun _ => 0) :: (fun _ => 0) :: (fun _ => 0) :: [])), (lf_l ((fun _ => 0) :: (fun _ => 0) :: []))) hS hI hP hD (Nat.le_of_ble_eq_true rfl) (Nat.le_of_ble_eq_true rfl) dX10_init_1802
