set_option maxHeartbeats 4000000 in
set_option maxRecDepth 100000 in
theorem c_X4_init (l : Launch) (dC : Nat → ClassId) (dI : Nat → Nat → Nat) (cy : Nat → ClassId) (sq : Nat → Nat) (a0 : Nat) : k_Met l yX4_init cX4_init 1 none { frames := 1, cells := 9, slots := 1956, locals := 12 } dC dI cy sq [.ref a0] [(a0, .inr (4, [.int 0, .int 0, .int 0, .int 0, .int 0, .int 0, .int 0, .null, .null, .null, .int 0, .null, .null, .null, .null, .null, .int 0, .null]))] (k_Qv dC dI (fun _ : Nat × Nat × Nat × Nat × Nat × Nat × Nat × Nat × Nat => True) (fun u : Nat × Nat × Nat × Nat × Nat × Nat × Nat × Nat × Nat => match u with | (q12, q13, q14, q15, q16, q17, q18, q19, q20) => [(a0, .inr (4, [.int 0, .int 0, .int 0, .int 0, .int 0, .int 0, .int 0, .ref q12, .ref q13, .ref q14, .int 0, .ref q15, .ref q16, .ref q17, .ref q18, .ref q19, .int 0, .ref q20])), (q17, .inl (cy 0, 200, .inl (fun _ => 0))), (q20, .inl (cy 0, 6, .inl (fun _ => 0)))])) := by
  refine k_ofW (by decide +kernel) (Nat.le_of_ble_eq_true rfl) ?_
  intro p e s m below meth c A ls H locs C0 hr hlk hin hP hD hA hS hl
  have C0 : k_cx p s m _ c cX4_init 1 RX4 dC dI cy sq := C0
  have hx := C0.1
  have hb := C0.2.1
  have hl : lv_has ls 1 [(0, .ref a0)] := hl
  refine lv_aload_n hx hb dX4_init_0 rfl (lv_at hl 0 rfl) ?_
  refine k_obj C0 wd58 wd10 wd11 hl dX4_init_1 (Nat.le_of_ble_eq_true rfl) (Nat.le_of_ble_eq_true rfl) ?_
  refine lv_aload_n hx hb dX4_init_4 rfl (lv_at hl 0 rfl) ?_
  refine lv_bipush (v := 6) hx hb dX4_init_5 (by decide) ?_
  refine k_newa C0 0 (ty := .int) rfl (atype := .int) rfl wd12 hP hD hS hA (a0 := (6, .inl (fun _ => 0))) (fun _ => rfl) (by decide) (by decide) (Nat.le_of_ble_eq_true rfl) 1 6 (Nat.le_of_ble_eq_true rfl) (Nat.le_of_ble_eq_true rfl) (Nat.le_of_ble_eq_true rfl) (Nat.le_of_ble_eq_true rfl) dX4_init_7 (fun q12 H hP hD hS => ?_)
  have hP : va_P (dC, dI) vwCl [(a0, .inr (4, [.int 0, .int 0, .int 0, .int 0, .int 0, .int 0, .int 0, .null, .null, .null, .int 0, .null, .null, .null, .null, .null, .int 0, .null])), (q12, .inl (cy 0, 6, .inl (fun _ => 0)))] H := hP
  have hD : va_D A [(a0, .inr (4, [.int 0, .int 0, .int 0, .int 0, .int 0, .int 0, .int 0, .null, .null, .null, .int 0, .null, .null, .null, .null, .null, .int 0, .null])), (q12, .inl (cy 0, 6, .inl (fun _ => 0)))] := hD
  refine k_putF C0 hin fp_X4_9 hP hD hS 0 rfl rfl rfl (Nat.le_of_ble_eq_true rfl) dX4_init_9 (fun H locs hP hD hS => ?_)
  have hP : va_P (dC, dI) vwCl [(a0, .inr (4, [.int 0, .int 0, .int 0, .int 0, .int 0, .int 0, .int 0, .ref q12, .null, .null, .int 0, .null, .null, .null, .null, .null, .int 0, .null])), (q12, .inl (cy 0, 6, .inl (fun _ => 0)))] H := hP
  have hD : va_D A [(a0, .inr (4, [.int 0, .int 0, .int 0, .int 0, .int 0, .int 0, .int 0, .ref q12, .null, .null, .int 0, .null, .null, .null, .null, .null, .int 0, .null])), (q12, .inl (cy 0, 6, .inl (fun _ => 0)))] := hD
  refine lv_aload_n hx hb dX4_init_12 rfl (lv_at hl 0 rfl) ?_
  refine lv_bipush (v := 6) hx hb dX4_init_13 (by decide) ?_
  refine k_newa C0 0 (ty := .int) rfl (atype := .int) rfl wd12 hP hD hS hA (a0 := (6, .inl (fun _ => 0))) (fun _ => rfl) (by decide) (by decide) (Nat.le_of_ble_eq_true rfl) 2 12 (Nat.le_of_ble_eq_true rfl) (Nat.le_of_ble_eq_true rfl) (Nat.le_of_ble_eq_true rfl) (Nat.le_of_ble_eq_true rfl) dX4_init_15 (fun q13 H hP hD hS => ?_)
  have hP : va_P (dC, dI) vwCl [(a0, .inr (4, [.int 0, .int 0, .int 0, .int 0, .int 0, .int 0, .int 0, .ref q12, .null, .null, .int 0, .null, .null, .null, .null, .null, .int 0, .null])), (q12, .inl (cy 0, 6, .inl (fun _ => 0))), (q13, .inl (cy 0, 6, .inl (fun _ => 0)))] H := hP
  have hD : va_D A [(a0, .inr (4, [.int 0, .int 0, .int 0, .int 0, .int 0, .int 0, .int 0, .ref q12, .null, .null, .int 0, .null, .null, .null, .null, .null, .int 0, .null])), (q12, .inl (cy 0, 6, .inl (fun _ => 0))), (q13, .inl (cy 0, 6, .inl (fun _ => 0)))] := hD
  refine k_putF C0 hin fp_X4_15 hP hD hS 0 rfl rfl rfl (Nat.le_of_ble_eq_true rfl) dX4_init_17 (fun H locs hP hD hS => ?_)
  have hP : va_P (dC, dI) vwCl [(a0, .inr (4, [.int 0, .int 0, .int 0, .int 0, .int 0, .int 0, .int 0, .ref q12, .ref q13, .null, .int 0, .null, .null, .null, .null, .null, .int 0, .null])), (q12, .inl (cy 0, 6, .inl (fun _ => 0))), (q13, .inl (cy 0, 6, .inl (fun _ => 0)))] H := hP
  have hD : va_D A [(a0, .inr (4, [.int 0, .int 0, .int 0, .int 0, .int 0, .int 0, .int 0, .ref q12, .ref q13, .null, .int 0, .null, .null, .null, .null, .null, .int 0, .null])), (q12, .inl (cy 0, 6, .inl (fun _ => 0))), (q13, .inl (cy 0, 6, .inl (fun _ => 0)))] := hD
  refine lv_aload_n hx hb dX4_init_20 rfl (lv_at hl 0 rfl) ?_
  refine lv_bipush (v := 6) hx hb dX4_init_21 (by decide) ?_
  refine k_newa C0 0 (ty := .int) rfl (atype := .int) rfl wd12 hP hD hS hA (a0 := (6, .inl (fun _ => 0))) (fun _ => rfl) (by decide) (by decide) (Nat.le_of_ble_eq_true rfl) 3 18 (Nat.le_of_ble_eq_true rfl) (Nat.le_of_ble_eq_true rfl) (Nat.le_of_ble_eq_true rfl) (Nat.le_of_ble_eq_true rfl) dX4_init_23 (fun q14 H hP hD hS => ?_)
  have hP : va_P (dC, dI) vwCl [(a0, .inr (4, [.int 0, .int 0, .int 0, .int 0, .int 0, .int 0, .int 0, .ref q12, .ref q13, .null, .int 0, .null, .null, .null, .null, .null, .int 0, .null])), (q12, .inl (cy 0, 6, .inl (fun _ => 0))), (q13, .inl (cy 0, 6, .inl (fun _ => 0))), (q14, .inl (cy 0, 6, .inl (fun _ => 0)))] H := hP
  have hD : va_D A [(a0, .inr (4, [.int 0, .int 0, .int 0, .int 0, .int 0, .int 0, .int 0, .ref q12, .ref q13, .null, .int 0, .null, .null, .null, .null, .null, .int 0, .null])), (q12, .inl (cy 0, 6, .inl (fun _ => 0))), (q13, .inl (cy 0, 6, .inl (fun _ => 0))), (q14, .inl (cy 0, 6, .inl (fun _ => 0)))] := hD
  refine k_putF C0 hin fp_X4_18 hP hD hS 0 rfl rfl rfl (Nat.le_of_ble_eq_true rfl) dX4_init_25 (fun H locs hP hD hS => ?_)
  have hP : va_P (dC, dI) vwCl [(a0, .inr (4, [.int 0, .int 0, .int 0, .int 0, .int 0, .int 0, .int 0, .ref q12, .ref q13, .ref q14, .int 0, .null, .null, .null, .null, .null, .int 0, .null])), (q12, .inl (cy 0, 6, .inl (fun _ => 0))), (q13, .inl (cy 0, 6, .inl (fun _ => 0))), (q14, .inl (cy 0, 6, .inl (fun _ => 0)))] H := hP
  have hD : va_D A [(a0, .inr (4, [.int 0, .int 0, .int 0, .int 0, .int 0, .int 0, .int 0, .ref q12, .ref q13, .ref q14, .int 0, .null, .null, .null, .null, .null, .int 0, .null])), (q12, .inl (cy 0, 6, .inl (fun _ => 0))), (q13, .inl (cy 0, 6, .inl (fun _ => 0))), (q14, .inl (cy 0, 6, .inl (fun _ => 0)))] := hD
  refine lv_aload_n hx hb dX4_init_28 rfl (lv_at hl 0 rfl) ?_
  refine lv_bipush (v := 12) hx hb dX4_init_29 (by decide) ?_
  refine k_newa C0 0 (ty := .int) rfl (atype := .int) rfl wd12 hP hD hS hA (a0 := (12, .inl (fun _ => 0))) (fun _ => rfl) (by decide) (by decide) (Nat.le_of_ble_eq_true rfl) 4 30 (Nat.le_of_ble_eq_true rfl) (Nat.le_of_ble_eq_true rfl) (Nat.le_of_ble_eq_true rfl) (Nat.le_of_ble_eq_true rfl) dX4_init_31 (fun q15 H hP hD hS => ?_)
  have hP : va_P (dC, dI) vwCl [(a0, .inr (4, [.int 0, .int 0, .int 0, .int 0, .int 0, .int 0, .int 0, .ref q12, .ref q13, .ref q14, .int 0, .null, .null, .null, .null, .null, .int 0, .null])), (q12, .inl (cy 0, 6, .inl (fun _ => 0))), (q13, .inl (cy 0, 6, .inl (fun _ => 0))), (q14, .inl (cy 0, 6, .inl (fun _ => 0))), (q15, .inl (cy 0, 12, .inl (fun _ => 0)))] H := hP
  have hD : va_D A [(a0, .inr (4, [.int 0, .int 0, .int 0, .int 0, .int 0, .int 0, .int 0, .ref q12, .ref q13, .ref q14, .int 0, .null, .null, .null, .null, .null, .int 0, .null])), (q12, .inl (cy 0, 6, .inl (fun _ => 0))), (q13, .inl (cy 0, 6, .inl (fun _ => 0))), (q14, .inl (cy 0, 6, .inl (fun _ => 0))), (q15, .inl (cy 0, 12, .inl (fun _ => 0)))] := hD
  refine k_putF C0 hin fp_X4_21 hP hD hS 0 rfl rfl rfl (Nat.le_of_ble_eq_true rfl) dX4_init_33 (fun H locs hP hD hS => ?_)
  have hP : va_P (dC, dI) vwCl [(a0, .inr (4, [.int 0, .int 0, .int 0, .int 0, .int 0, .int 0, .int 0, .ref q12, .ref q13, .ref q14, .int 0, .ref q15, .null, .null, .null, .null, .int 0, .null])), (q12, .inl (cy 0, 6, .inl (fun _ => 0))), (q13, .inl (cy 0, 6, .inl (fun _ => 0))), (q14, .inl (cy 0, 6, .inl (fun _ => 0))), (q15, .inl (cy 0, 12, .inl (fun _ => 0)))] H := hP
  have hD : va_D A [(a0, .inr (4, [.int 0, .int 0, .int 0, .int 0, .int 0, .int 0, .int 0, .ref q12, .ref q13, .ref q14, .int 0, .ref q15, .null, .null, .null, .null, .int 0, .null])), (q12, .inl (cy 0, 6, .inl (fun _ => 0))), (q13, .inl (cy 0, 6, .inl (fun _ => 0))), (q14, .inl (cy 0, 6, .inl (fun _ => 0))), (q15, .inl (cy 0, 12, .inl (fun _ => 0)))] := hD
  refine lv_aload_n hx hb dX4_init_36 rfl (lv_at hl 0 rfl) ?_
  refine lv_bipush (v := 12) hx hb dX4_init_37 (by decide) ?_
  refine k_newa C0 0 (ty := .int) rfl (atype := .int) rfl wd12 hP hD hS hA (a0 := (12, .inl (fun _ => 0))) (fun _ => rfl) (by decide) (by decide) (Nat.le_of_ble_eq_true rfl) 5 42 (Nat.le_of_ble_eq_true rfl) (Nat.le_of_ble_eq_true rfl) (Nat.le_of_ble_eq_true rfl) (Nat.le_of_ble_eq_true rfl) dX4_init_39 (fun q16 H hP hD hS => ?_)
  have hP : va_P (dC, dI) vwCl [(a0, .inr (4, [.int 0, .int 0, .int 0, .int 0, .int 0, .int 0, .int 0, .ref q12, .ref q13, .ref q14, .int 0, .ref q15, .null, .null, .null, .null, .int 0, .null])), (q12, .inl (cy 0, 6, .inl (fun _ => 0))), (q13, .inl (cy 0, 6, .inl (fun _ => 0))), (q14, .inl (cy 0, 6, .inl (fun _ => 0))), (q15, .inl (cy 0, 12, .inl (fun _ => 0))), (q16, .inl (cy 0, 12, .inl (fun _ => 0)))] H := hP
  have hD : va_D A [(a0, .inr (4, [.int 0, .int 0, .int 0, .int 0, .int 0, .int 0, .int 0, .ref q12, .ref q13, .ref q14, .int 0, .ref q15, .null, .null, .null, .null, .int 0, .null])), (q12, .inl (cy 0, 6, .inl (fun _ => 0))), (q13, .inl (cy 0, 6, .inl (fun _ => 0))), (q14, .inl (cy 0, 6, .inl (fun _ => 0))), (q15, .inl (cy 0, 12, .inl (fun _ => 0))), (q16, .inl (cy 0, 12, .inl (fun _ => 0)))] := hD
  refine k_putF C0 hin fp_X4_24 hP hD hS 0 rfl rfl rfl (Nat.le_of_ble_eq_true rfl) dX4_init_41 (fun H locs hP hD hS => ?_)
  have hP : va_P (dC, dI) vwCl [(a0, .inr (4, [.int 0, .int 0, .int 0, .int 0, .int 0, .int 0, .int 0, .ref q12, .ref q13, .ref q14, .int 0, .ref q15, .ref q16, .null, .null, .null, .int 0, .null])), (q12, .inl (cy 0, 6, .inl (fun _ => 0))), (q13, .inl (cy 0, 6, .inl (fun _ => 0))), (q14, .inl (cy 0, 6, .inl (fun _ => 0))), (q15, .inl (cy 0, 12, .inl (fun _ => 0))), (q16, .inl (cy 0, 12, .inl (fun _ => 0)))] H := hP
  have hD : va_D A [(a0, .inr (4, [.int 0, .int 0, .int 0, .int 0, .int 0, .int 0, .int 0, .ref q12, .ref q13, .ref q14, .int 0, .ref q15, .ref q16, .null, .null, .null, .int 0, .null])), (q12, .inl (cy 0, 6, .inl (fun _ => 0))), (q13, .inl (cy 0, 6, .inl (fun _ => 0))), (q14, .inl (cy 0, 6, .inl (fun _ => 0))), (q15, .inl (cy 0, 12, .inl (fun _ => 0))), (q16, .inl (cy 0, 12, .inl (fun _ => 0)))] := hD
  refine lv_aload_n hx hb dX4_init_44 rfl (lv_at hl 0 rfl) ?_
  refine lv_sipush (v := 200) hx hb dX4_init_45 (by decide) ?_
  refine k_newa C0 0 (ty := .int) rfl (atype := .int) rfl wd12 hP hD hS hA (a0 := (200, .inl (fun _ => 0))) (fun _ => rfl) (by decide) (by decide) (Nat.le_of_ble_eq_true rfl) 6 242 (Nat.le_of_ble_eq_true rfl) (Nat.le_of_ble_eq_true rfl) (Nat.le_of_ble_eq_true rfl) (Nat.le_of_ble_eq_true rfl) dX4_init_48 (fun q17 H hP hD hS => ?_)
  have hP : va_P (dC, dI) vwCl [(a0, .inr (4, [.int 0, .int 0, .int 0, .int 0, .int 0, .int 0, .int 0, .ref q12, .ref q13, .ref q14, .int 0, .ref q15, .ref q16, .null, .null, .null, .int 0, .null])), (q12, .inl (cy 0, 6, .inl (fun _ => 0))), (q13, .inl (cy 0, 6, .inl (fun _ => 0))), (q14, .inl (cy 0, 6, .inl (fun _ => 0))), (q15, .inl (cy 0, 12, .inl (fun _ => 0))), (q16, .inl (cy 0, 12, .inl (fun _ => 0))), (q17, .inl (cy 0, 200, .inl (fun _ => 0)))] H := hP
  have hD : va_D A [(a0, .inr (4, [.int 0, .int 0, .int 0, .int 0, .int 0, .int 0, .int 0, .ref q12, .ref q13, .ref q14, .int 0, .ref q15, .ref q16, .null, .null, .null, .int 0, .null])), (q12, .inl (cy 0, 6, .inl (fun _ => 0))), (q13, .inl (cy 0, 6, .inl (fun _ => 0))), (q14, .inl (cy 0, 6, .inl (fun _ => 0))), (q15, .inl (cy 0, 12, .inl (fun _ => 0))), (q16, .inl (cy 0, 12, .inl (fun _ => 0))), (q17, .inl (cy 0, 200, .inl (fun _ => 0)))] := hD
  refine k_putF C0 hin fp_X4_27 hP hD hS 0 rfl rfl rfl (Nat.le_of_ble_eq_true rfl) dX4_init_50 (fun H locs hP hD hS => ?_)
  have hP : va_P (dC, dI) vwCl [(a0, .inr (4, [.int 0, .int 0, .int 0, .int 0, .int 0, .int 0, .int 0, .ref q12, .ref q13, .ref q14, .int 0, .ref q15, .ref q16, .ref q17, .null, .null, .int 0, .null])), (q12, .inl (cy 0, 6, .inl (fun _ => 0))), (q13, .inl (cy 0, 6, .inl (fun _ => 0))), (q14, .inl (cy 0, 6, .inl (fun _ => 0))), (q15, .inl (cy 0, 12, .inl (fun _ => 0))), (q16, .inl (cy 0, 12, .inl (fun _ => 0))), (q17, .inl (cy 0, 200, .inl (fun _ => 0)))] H := hP
  have hD : va_D A [(a0, .inr (4, [.int 0, .int 0, .int 0, .int 0, .int 0, .int 0, .int 0, .ref q12, .ref q13, .ref q14, .int 0, .ref q15, .ref q16, .ref q17, .null, .null, .int 0, .null])), (q12, .inl (cy 0, 6, .inl (fun _ => 0))), (q13, .inl (cy 0, 6, .inl (fun _ => 0))), (q14, .inl (cy 0, 6, .inl (fun _ => 0))), (q15, .inl (cy 0, 12, .inl (fun _ => 0))), (q16, .inl (cy 0, 12, .inl (fun _ => 0))), (q17, .inl (cy 0, 200, .inl (fun _ => 0)))] := hD
  refine lv_aload_n hx hb dX4_init_53 rfl (lv_at hl 0 rfl) ?_
  refine lv_bipush (v := 108) hx hb dX4_init_54 (by decide) ?_
  refine k_newa C0 0 (ty := .int) rfl (atype := .int) rfl wd12 hP hD hS hA (a0 := (108, .inl (fun _ => 0))) (fun _ => rfl) (by decide) (by decide) (Nat.le_of_ble_eq_true rfl) 7 350 (Nat.le_of_ble_eq_true rfl) (Nat.le_of_ble_eq_true rfl) (Nat.le_of_ble_eq_true rfl) (Nat.le_of_ble_eq_true rfl) dX4_init_56 (fun q18 H hP hD hS => ?_)
  have hP : va_P (dC, dI) vwCl [(a0, .inr (4, [.int 0, .int 0, .int 0, .int 0, .int 0, .int 0, .int 0, .ref q12, .ref q13, .ref q14, .int 0, .ref q15, .ref q16, .ref q17, .null, .null, .int 0, .null])), (q12, .inl (cy 0, 6, .inl (fun _ => 0))), (q13, .inl (cy 0, 6, .inl (fun _ => 0))), (q14, .inl (cy 0, 6, .inl (fun _ => 0))), (q15, .inl (cy 0, 12, .inl (fun _ => 0))), (q16, .inl (cy 0, 12, .inl (fun _ => 0))), (q17, .inl (cy 0, 200, .inl (fun _ => 0))), (q18, .inl (cy 0, 108, .inl (fun _ => 0)))] H := hP
  have hD : va_D A [(a0, .inr (4, [.int 0, .int 0, .int 0, .int 0, .int 0, .int 0, .int 0, .ref q12, .ref q13, .ref q14, .int 0, .ref q15, .ref q16, .ref q17, .null, .null, .int 0, .null])), (q12, .inl (cy 0, 6, .inl (fun _ => 0))), (q13, .inl (cy 0, 6, .inl (fun _ => 0))), (q14, .inl (cy 0, 6, .inl (fun _ => 0))), (q15, .inl (cy 0, 12, .inl (fun _ => 0))), (q16, .inl (cy 0, 12, .inl (fun _ => 0))), (q17, .inl (cy 0, 200, .inl (fun _ => 0))), (q18, .inl (cy 0, 108, .inl (fun _ => 0)))] := hD
  refine k_putF C0 hin fp_X4_30 hP hD hS 0 rfl rfl rfl (Nat.le_of_ble_eq_true rfl) dX4_init_58 (fun H locs hP hD hS => ?_)
  have hP : va_P (dC, dI) vwCl [(a0, .inr (4, [.int 0, .int 0, .int 0, .int 0, .int 0, .int 0, .int 0, .ref q12, .ref q13, .ref q14, .int 0, .ref q15, .ref q16, .ref q17, .ref q18, .null, .int 0, .null])), (q12, .inl (cy 0, 6, .inl (fun _ => 0))), (q13, .inl (cy 0, 6, .inl (fun _ => 0))), (q14, .inl (cy 0, 6, .inl (fun _ => 0))), (q15, .inl (cy 0, 12, .inl (fun _ => 0))), (q16, .inl (cy 0, 12, .inl (fun _ => 0))), (q17, .inl (cy 0, 200, .inl (fun _ => 0))), (q18, .inl (cy 0, 108, .inl (fun _ => 0)))] H := hP
  have hD : va_D A [(a0, .inr (4, [.int 0, .int 0, .int 0, .int 0, .int 0, .int 0, .int 0, .ref q12, .ref q13, .ref q14, .int 0, .ref q15, .ref q16, .ref q17, .ref q18, .null, .int 0, .null])), (q12, .inl (cy 0, 6, .inl (fun _ => 0))), (q13, .inl (cy 0, 6, .inl (fun _ => 0))), (q14, .inl (cy 0, 6, .inl (fun _ => 0))), (q15, .inl (cy 0, 12, .inl (fun _ => 0))), (q16, .inl (cy 0, 12, .inl (fun _ => 0))), (q17, .inl (cy 0, 200, .inl (fun _ => 0))), (q18, .inl (cy 0, 108, .inl (fun _ => 0)))] := hD
  refine lv_aload_n hx hb dX4_init_61 rfl (lv_at hl 0 rfl) ?_
  refine lv_sipush (v := 1600) hx hb dX4_init_62 (by decide) ?_
  refine k_newa C0 0 (ty := .int) rfl (atype := .int) rfl wd12 hP hD hS hA (a0 := (1600, .inl (fun _ => 0))) (fun _ => rfl) (by decide) (by decide) (Nat.le_of_ble_eq_true rfl) 8 1950 (Nat.le_of_ble_eq_true rfl) (Nat.le_of_ble_eq_true rfl) (Nat.le_of_ble_eq_true rfl) (Nat.le_of_ble_eq_true rfl) dX4_init_65 (fun q19 H hP hD hS => ?_)
  have hP : va_P (dC, dI) vwCl [(a0, .inr (4, [.int 0, .int 0, .int 0, .int 0, .int 0, .int 0, .int 0, .ref q12, .ref q13, .ref q14, .int 0, .ref q15, .ref q16, .ref q17, .ref q18, .null, .int 0, .null])), (q12, .inl (cy 0, 6, .inl (fun _ => 0))), (q13, .inl (cy 0, 6, .inl (fun _ => 0))), (q14, .inl (cy 0, 6, .inl (fun _ => 0))), (q15, .inl (cy 0, 12, .inl (fun _ => 0))), (q16, .inl (cy 0, 12, .inl (fun _ => 0))), (q17, .inl (cy 0, 200, .inl (fun _ => 0))), (q18, .inl (cy 0, 108, .inl (fun _ => 0))), (q19, .inl (cy 0, 1600, .inl (fun _ => 0)))] H := hP
  have hD : va_D A [(a0, .inr (4, [.int 0, .int 0, .int 0, .int 0, .int 0, .int 0, .int 0, .ref q12, .ref q13, .ref q14, .int 0, .ref q15, .ref q16, .ref q17, .ref q18, .null, .int 0, .null])), (q12, .inl (cy 0, 6, .inl (fun _ => 0))), (q13, .inl (cy 0, 6, .inl (fun _ => 0))), (q14, .inl (cy 0, 6, .inl (fun _ => 0))), (q15, .inl (cy 0, 12, .inl (fun _ => 0))), (q16, .inl (cy 0, 12, .inl (fun _ => 0))), (q17, .inl (cy 0, 200, .inl (fun _ => 0))), (q18, .inl (cy 0, 108, .inl (fun _ => 0))), (q19, .inl (cy 0, 1600, .inl (fun _ => 0)))] := hD
  refine k_putF C0 hin fp_X4_33 hP hD hS 0 rfl rfl rfl (Nat.le_of_ble_eq_true rfl) dX4_init_67 (fun H locs hP hD hS => ?_)
  have hP : va_P (dC, dI) vwCl [(a0, .inr (4, [.int 0, .int 0, .int 0, .int 0, .int 0, .int 0, .int 0, .ref q12, .ref q13, .ref q14, .int 0, .ref q15, .ref q16, .ref q17, .ref q18, .ref q19, .int 0, .null])), (q12, .inl (cy 0, 6, .inl (fun _ => 0))), (q13, .inl (cy 0, 6, .inl (fun _ => 0))), (q14, .inl (cy 0, 6, .inl (fun _ => 0))), (q15, .inl (cy 0, 12, .inl (fun _ => 0))), (q16, .inl (cy 0, 12, .inl (fun _ => 0))), (q17, .inl (cy 0, 200, .inl (fun _ => 0))), (q18, .inl (cy 0, 108, .inl (fun _ => 0))), (q19, .inl (cy 0, 1600, .inl (fun _ => 0)))] H := hP
  have hD : va_D A [(a0, .inr (4, [.int 0, .int 0, .int 0, .int 0, .int 0, .int 0, .int 0, .ref q12, .ref q13, .ref q14, .int 0, .ref q15, .ref q16, .ref q17, .ref q18, .ref q19, .int 0, .null])), (q12, .inl (cy 0, 6, .inl (fun _ => 0))), (q13, .inl (cy 0, 6, .inl (fun _ => 0))), (q14, .inl (cy 0, 6, .inl (fun _ => 0))), (q15, .inl (cy 0, 12, .inl (fun _ => 0))), (q16, .inl (cy 0, 12, .inl (fun _ => 0))), (q17, .inl (cy 0, 200, .inl (fun _ => 0))), (q18, .inl (cy 0, 108, .inl (fun _ => 0))), (q19, .inl (cy 0, 1600, .inl (fun _ => 0)))] := hD
  refine lv_aload_n hx hb dX4_init_70 rfl (lv_at hl 0 rfl) ?_
  refine lv_bipush (v := 6) hx hb dX4_init_71 (by decide) ?_
  refine k_newa C0 0 (ty := .int) rfl (atype := .int) rfl wd12 hP hD hS hA (a0 := (6, .inl (fun _ => 0))) (fun _ => rfl) (by decide) (by decide) (Nat.le_of_ble_eq_true rfl) 9 1956 (Nat.le_of_ble_eq_true rfl) (Nat.le_of_ble_eq_true rfl) (Nat.le_of_ble_eq_true rfl) (Nat.le_of_ble_eq_true rfl) dX4_init_73 (fun q20 H hP hD hS => ?_)
  have hP : va_P (dC, dI) vwCl [(a0, .inr (4, [.int 0, .int 0, .int 0, .int 0, .int 0, .int 0, .int 0, .ref q12, .ref q13, .ref q14, .int 0, .ref q15, .ref q16, .ref q17, .ref q18, .ref q19, .int 0, .null])), (q12, .inl (cy 0, 6, .inl (fun _ => 0))), (q13, .inl (cy 0, 6, .inl (fun _ => 0))), (q14, .inl (cy 0, 6, .inl (fun _ => 0))), (q15, .inl (cy 0, 12, .inl (fun _ => 0))), (q16, .inl (cy 0, 12, .inl (fun _ => 0))), (q17, .inl (cy 0, 200, .inl (fun _ => 0))), (q18, .inl (cy 0, 108, .inl (fun _ => 0))), (q19, .inl (cy 0, 1600, .inl (fun _ => 0))), (q20, .inl (cy 0, 6, .inl (fun _ => 0)))] H := hP
  have hD : va_D A [(a0, .inr (4, [.int 0, .int 0, .int 0, .int 0, .int 0, .int 0, .int 0, .ref q12, .ref q13, .ref q14, .int 0, .ref q15, .ref q16, .ref q17, .ref q18, .ref q19, .int 0, .null])), (q12, .inl (cy 0, 6, .inl (fun _ => 0))), (q13, .inl (cy 0, 6, .inl (fun _ => 0))), (q14, .inl (cy 0, 6, .inl (fun _ => 0))), (q15, .inl (cy 0, 12, .inl (fun _ => 0))), (q16, .inl (cy 0, 12, .inl (fun _ => 0))), (q17, .inl (cy 0, 200, .inl (fun _ => 0))), (q18, .inl (cy 0, 108, .inl (fun _ => 0))), (q19, .inl (cy 0, 1600, .inl (fun _ => 0))), (q20, .inl (cy 0, 6, .inl (fun _ => 0)))] := hD
  refine k_putF C0 hin fp_X4_36 hP hD hS 0 rfl rfl rfl (Nat.le_of_ble_eq_true rfl) dX4_init_75 (fun H locs hP hD hS => ?_)
  have hP : va_P (dC, dI) vwCl [(a0, .inr (4, [.int 0, .int 0, .int 0, .int 0, .int 0, .int 0, .int 0, .ref q12, .ref q13, .ref q14, .int 0, .ref q15, .ref q16, .ref q17, .ref q18, .ref q19, .int 0, .ref q20])), (q12, .inl (cy 0, 6, .inl (fun _ => 0))), (q13, .inl (cy 0, 6, .inl (fun _ => 0))), (q14, .inl (cy 0, 6, .inl (fun _ => 0))), (q15, .inl (cy 0, 12, .inl (fun _ => 0))), (q16, .inl (cy 0, 12, .inl (fun _ => 0))), (q17, .inl (cy 0, 200, .inl (fun _ => 0))), (q18, .inl (cy 0, 108, .inl (fun _ => 0))), (q19, .inl (cy 0, 1600, .inl (fun _ => 0))), (q20, .inl (cy 0, 6, .inl (fun _ => 0)))] H := hP
  have hD : va_D A [(a0, .inr (4, [.int 0, .int 0, .int 0, .int 0, .int 0, .int 0, .int 0, .ref q12, .ref q13, .ref q14, .int 0, .ref q15, .ref q16, .ref q17, .ref q18, .ref q19, .int 0, .ref q20])), (q12, .inl (cy 0, 6, .inl (fun _ => 0))), (q13, .inl (cy 0, 6, .inl (fun _ => 0))), (q14, .inl (cy 0, 6, .inl (fun _ => 0))), (q15, .inl (cy 0, 12, .inl (fun _ => 0))), (q16, .inl (cy 0, 12, .inl (fun _ => 0))), (q17, .inl (cy 0, 200, .inl (fun _ => 0))), (q18, .inl (cy 0, 108, .inl (fun _ => 0))), (q19, .inl (cy 0, 1600, .inl (fun _ => 0))), (q20, .inl (cy 0, 6, .inl (fun _ => 0)))] := hD
  exact k_vret hx hb hr hlk (q12, q13, q14, q15, q16, q17, q18, q19, q20) hS True.intro (hP.sub [0, 6, 9] rfl) (hD.sub [0, 6, 9] (by decide) rfl) (Nat.le_of_ble_eq_true rfl) (Nat.le_of_ble_eq_true rfl) dX4_init_78
set_option maxHeartbeats 4000000 in
set_option maxRecDepth 100000 in
theorem c_X6_init (l : Launch) (dC : Nat → ClassId) (dI : Nat → Nat → Nat) (cy : Nat → ClassId) (sq : Nat → Nat) (a0 : Nat) : k_Met l yX6_init cX6_init 1 none { frames := 1, cells := 1, slots := 6, locals := 12 } dC dI cy sq [.ref a0] [(a0, .inr (6, [.int 0, .int 0, .int 0, .null]))] (k_Qv dC dI (fun _ : Nat => True) (fun q55 : Nat => [(a0, .inr (6, [.int 0, .int 0, .int 0, .ref q55]))])) := by
  refine k_ofW (by decide +kernel) (Nat.le_of_ble_eq_true rfl) ?_
  intro p e s m below meth c A ls H locs C0 hr hlk hin hP hD hA hS hl
  have C0 : k_cx p s m _ c cX6_init 1 RX6 dC dI cy sq := C0
  have hx := C0.1
  have hb := C0.2.1
  have hl : lv_has ls 1 [(0, .ref a0)] := hl
  refine lv_aload_n hx hb dX6_init_0 rfl (lv_at hl 0 rfl) ?_
  refine k_obj C0 wd70 wd10 wd11 hl dX6_init_1 (Nat.le_of_ble_eq_true rfl) (Nat.le_of_ble_eq_true rfl) ?_
  refine lv_aload_n hx hb dX6_init_4 rfl (lv_at hl 0 rfl) ?_
  refine lv_iconst (v := 0) hx hb dX6_init_5 (by decide) ?_
  refine k_put C0 fp_X6_9 hP hD hS 0 rfl rfl rfl (Nat.le_of_ble_eq_true rfl) dX6_init_6 (fun H locs hP hD hS => ?_)
  have hP : va_P (dC, dI) vwCl [(a0, .inr (6, [.int 0, .int 0, .int 0, .null]))] H := hP
  have hD : va_D A [(a0, .inr (6, [.int 0, .int 0, .int 0, .null]))] := hD
  refine lv_aload_n hx hb dX6_init_9 rfl (lv_at hl 0 rfl) ?_
  refine lv_iconst (v := 0) hx hb dX6_init_10 (by decide) ?_
  refine k_put C0 fp_X6_15 hP hD hS 0 rfl rfl rfl (Nat.le_of_ble_eq_true rfl) dX6_init_11 (fun H locs hP hD hS => ?_)
  have hP : va_P (dC, dI) vwCl [(a0, .inr (6, [.int 0, .int 0, .int 0, .null]))] H := hP
  have hD : va_D A [(a0, .inr (6, [.int 0, .int 0, .int 0, .null]))] := hD
  refine lv_aload_n hx hb dX6_init_14 rfl (lv_at hl 0 rfl) ?_
  refine lv_iconst (v := 0) hx hb dX6_init_15 (by decide) ?_
  refine k_put C0 fp_X6_18 hP hD hS 0 rfl rfl rfl (Nat.le_of_ble_eq_true rfl) dX6_init_16 (fun H locs hP hD hS => ?_)
  have hP : va_P (dC, dI) vwCl [(a0, .inr (6, [.int 0, .int 0, .int 0, .null]))] H := hP
  have hD : va_D A [(a0, .inr (6, [.int 0, .int 0, .int 0, .null]))] := hD
  refine lv_aload_n hx hb dX6_init_19 rfl (lv_at hl 0 rfl) ?_
  refine lv_bipush (v := 6) hx hb dX6_init_20 (by decide) ?_
  refine k_newa C0 0 (ty := .int) rfl (atype := .int) rfl wd12 hP hD hS hA (a0 := (6, .inl (fun _ => 0))) (fun _ => rfl) (by decide) (by decide) (Nat.le_of_ble_eq_true rfl) 1 6 (Nat.le_of_ble_eq_true rfl) (Nat.le_of_ble_eq_true rfl) (Nat.le_of_ble_eq_true rfl) (Nat.le_of_ble_eq_true rfl) dX6_init_22 (fun q55 H hP hD hS => ?_)
  have hP : va_P (dC, dI) vwCl [(a0, .inr (6, [.int 0, .int 0, .int 0, .null])), (q55, .inl (cy 0, 6, .inl (fun _ => 0)))] H := hP
  have hD : va_D A [(a0, .inr (6, [.int 0, .int 0, .int 0, .null])), (q55, .inl (cy 0, 6, .inl (fun _ => 0)))] := hD
  refine k_putF C0 hin fp_X6_21 hP hD hS 0 rfl rfl rfl (Nat.le_of_ble_eq_true rfl) dX6_init_24 (fun H locs hP hD hS => ?_)
  have hP : va_P (dC, dI) vwCl [(a0, .inr (6, [.int 0, .int 0, .int 0, .ref q55])), (q55, .inl (cy 0, 6, .inl (fun _ => 0)))] H := hP
  have hD : va_D A [(a0, .inr (6, [.int 0, .int 0, .int 0, .ref q55])), (q55, .inl (cy 0, 6, .inl (fun _ => 0)))] := hD
  exact k_vret hx hb hr hlk q55 hS True.intro (hP.sub [0] rfl) (hD.sub [0] (by decide) rfl) (Nat.le_of_ble_eq_true rfl) (Nat.le_of_ble_eq_true rfl) dX6_init_27
set_option maxHeartbeats 4000000 in
set_option maxRecDepth 100000 in
theorem c_X2_init (l : Launch) (dC : Nat → ClassId) (dI : Nat → Nat → Nat) (cy : Nat → ClassId) (sq : Nat → Nat) (a0 : Nat) : k_Met l yX2_init cX2_init 2 none { frames := 2, cells := 41, slots := 220, locals := 32 } dC dI cy sq [.ref a0] [(a0, .inr (2, [.null, .int 0, .int 0]))] (k_Qv dC dI (fun _ : Nat => True) (fun q181 : Nat => [(a0, .inr (2, [.ref q181, .int 0, .int 0]))])) := by
  refine k_ofW (by decide +kernel) (Nat.le_of_ble_eq_true rfl) ?_
  intro p e s m below meth c A ls H locs C0 hr hlk hin hP hD hA hS hl
  have C0 : k_cx p s m _ c cX2_init 2 RX2 dC dI cy sq := C0
  have hx := C0.1
  have hb := C0.2.1
  have hl : lv_has ls 2 [(0, .ref a0)] := hl
  refine lv_aload_n hx hb dX2_init_0 rfl (lv_at hl 0 rfl) ?_
  refine k_obj C0 wd78 wd10 wd11 hl dX2_init_1 (Nat.le_of_ble_eq_true rfl) (Nat.le_of_ble_eq_true rfl) ?_
  refine lv_aload_n hx hb dX2_init_4 rfl (lv_at hl 0 rfl) ?_
  refine lv_bipush (v := 20) hx hb dX2_init_5 (by decide) ?_
  refine k_newq C0 wd79 hP hD hS hA (N' := 20) (by decide) (by decide) (Nat.le_of_ble_eq_true rfl) 1 20 (Nat.le_of_ble_eq_true rfl) (Nat.le_of_ble_eq_true rfl) (Nat.le_of_ble_eq_true rfl) (Nat.le_of_ble_eq_true rfl) dX2_init_7 (fun q181 H hP hD hS => ?_)
  have hP : va_P (dC, dI) vwCl [(a0, .inr (2, [.null, .int 0, .int 0])), (q181, .inl (cy 4, 20, .inr (.inr (.inr (.inr (fun _ => none))))))] H := hP
  have hD : va_D A [(a0, .inr (2, [.null, .int 0, .int 0])), (q181, .inl (cy 4, 20, .inr (.inr (.inr (.inr (fun _ => none))))))] := hD
  refine k_putF C0 hin fp_X2_11 hP hD hS 0 rfl rfl rfl (Nat.le_of_ble_eq_true rfl) dX2_init_10 (fun H locs hP hD hS => ?_)
  have hP : va_P (dC, dI) vwCl [(a0, .inr (2, [.ref q181, .int 0, .int 0])), (q181, .inl (cy 4, 20, .inr (.inr (.inr (.inr (fun _ => none))))))] H := hP
  have hD : va_D A [(a0, .inr (2, [.ref q181, .int 0, .int 0])), (q181, .inl (cy 4, 20, .inr (.inr (.inr (.inr (fun _ => none))))))] := hD
  refine lv_aload_n hx hb dX2_init_13 rfl (lv_at hl 0 rfl) ?_
  refine lv_iconst (v := 0) hx hb dX2_init_14 (by decide) ?_
  refine k_put C0 fp_X2_17 hP hD hS 0 rfl rfl rfl (Nat.le_of_ble_eq_true rfl) dX2_init_15 (fun H locs hP hD hS => ?_)
  have hP : va_P (dC, dI) vwCl [(a0, .inr (2, [.ref q181, .int 0, .int 0])), (q181, .inl (cy 4, 20, .inr (.inr (.inr (.inr (fun _ => none))))))] H := hP
  have hD : va_D A [(a0, .inr (2, [.ref q181, .int 0, .int 0])), (q181, .inl (cy 4, 20, .inr (.inr (.inr (.inr (fun _ => none))))))] := hD
  refine lv_aload_n hx hb dX2_init_18 rfl (lv_at hl 0 rfl) ?_
  refine lv_iconst (v := 0) hx hb dX2_init_19 (by decide) ?_
  refine k_put C0 fp_X2_21 hP hD hS 0 rfl rfl rfl (Nat.le_of_ble_eq_true rfl) dX2_init_20 (fun H locs hP hD hS => ?_)
  have hP : va_P (dC, dI) vwCl [(a0, .inr (2, [.ref q181, .int 0, .int 0])), (q181, .inl (cy 4, 20, .inr (.inr (.inr (.inr (fun _ => none))))))] H := hP
  have hD : va_D A [(a0, .inr (2, [.ref q181, .int 0, .int 0])), (q181, .inl (cy 4, 20, .inr (.inr (.inr (.inr (fun _ => none))))))] := hD
  refine lv_iconst (v := 0) hx hb dX2_init_23 (by decide) ?_
  refine lv_istore_n (lv' := [(1, .int 0), (0, .ref a0)]) hx hb dX2_init_24 rfl hl (by decide) rfl (fun ls hl => ?_)
  refine lv_iload_n hx hb dX2_init_25 rfl (lv_at hl 0 rfl) ?_
  refine lv_bipush (v := 20) hx hb dX2_init_26 (by decide) ?_
  refine lv_icmp_ge (tgt := 50) hx hb dX2_init_28 (by decide) (fun h9 => absurd h9 (by decide)) (fun _ => ?_)
  refine lv_aload_n hx hb dX2_init_31 rfl (lv_at hl 1 rfl) ?_
  refine k_get C0 fg_X2_11 hP 0 rfl rfl dX2_init_32 ?_
  refine lv_iload_n hx hb dX2_init_35 rfl (lv_at hl 0 rfl) ?_
  refine k_new C0 n_X2_9 hP hD hS hA 2 24 (Nat.le_of_ble_eq_true rfl) (Nat.le_of_ble_eq_true rfl) (Nat.le_of_ble_eq_true rfl) (Nat.le_of_ble_eq_true rfl) dX2_init_36 (fun q182 H hP hD hS => ?_)
  have hP : va_P (dC, dI) vwCl [(a0, .inr (2, [.ref q181, .int 0, .int 0])), (q181, .inl (cy 4, 20, .inr (.inr (.inr (.inr (fun _ => none)))))), (q182, .inr (6, [.int 0, .int 0, .int 0, .null]))] H := hP
  have hD : va_D A [(a0, .inr (2, [.ref q181, .int 0, .int 0])), (q181, .inl (cy 4, 20, .inr (.inr (.inr (.inr (fun _ => none)))))), (q182, .inr (6, [.int 0, .int 0, .int 0, .null]))] := hD
  refine lv_dup hx hb dX2_init_39 rfl ?_
  refine k_jv hP hD hS hA [2] [0, 1] (wr := [(a0, .inr (2, [.ref q181, .int 0, .int 0])), (q181, .inl (cy 4, 20, .inr (.inr (.inr (.inr (fun _ => none))))))]) rfl rfl (by decide) (by decide) (by decide) 3 30 (Nat.le_of_ble_eq_true rfl) (Nat.le_of_ble_eq_true rfl) (fun hPc hDc => k_runN (As := []) (rest := [.ref q182, .int 0, .ref q181]) C0 (c_X6_init l dC dI cy sq q182) mN_X6_init (C0.2.2.2.2.2.2.2.2.2.2.1) hPc hDc hl rfl rfl (Nat.le_of_ble_eq_true rfl) ⟨(Nat.le_of_ble_eq_true rfl), (Nat.le_of_ble_eq_true rfl)⟩ ⟨(Nat.le_of_ble_eq_true rfl), (Nat.le_of_ble_eq_true rfl)⟩ dX2_init_40) (fun u185 H locs hw hP hD hS => ?_)
  obtain ⟨q186, eq186⟩ : ∃ z, z = u185 := ⟨_, rfl⟩; subst eq186
  try dsimp only at hP hD
  have hP : va_P (dC, dI) vwCl [(a0, .inr (2, [.ref q181, .int 0, .int 0])), (q181, .inl (cy 4, 20, .inr (.inr (.inr (.inr (fun _ => none)))))), (q182, .inr (6, [.int 0, .int 0, .int 0, .ref q186]))] H := hP
  have hD : va_D A [(a0, .inr (2, [.ref q181, .int 0, .int 0])), (q181, .inl (cy 4, 20, .inr (.inr (.inr (.inr (fun _ => none)))))), (q182, .inr (6, [.int 0, .int 0, .int 0, .ref q186]))] := hD
  refine va_astq hx hb C0.2.2.2.2.2.1 hP hD hS 1 4 2 6 rfl rfl rfl rfl (k_in 0 20 (by decide)) dX2_init_43 (fun H locs hP hD hS => ?_)
  have hP : va_P (dC, dI) vwCl [(a0, .inr (2, [.ref q181, .int 0, .int 0])), (q181, .inl (cy 4, 20, .inr (.inr (.inr (.inr (va_up (fun _ => none) (Int32.toNatClampNeg 0) (some q182))))))), (q182, .inr (6, [.int 0, .int 0, .int 0, .ref q186]))] H := hP
  have hD : va_D A [(a0, .inr (2, [.ref q181, .int 0, .int 0])), (q181, .inl (cy 4, 20, .inr (.inr (.inr (.inr (va_up (fun _ => none) (Int32.toNatClampNeg 0) (some q182))))))), (q182, .inr (6, [.int 0, .int 0, .int 0, .ref q186]))] := hD
  generalize va_up (fun _ => none) (Int32.toNatClampNeg 0) (some q182) = f187 at hP hD
  have hP : va_P (dC, dI) vwCl [(a0, .inr (2, [.ref q181, .int 0, .int 0])), (q181, .inl (cy 4, 20, .inr (.inr (.inr (.inr f187)))))] H := hP.sub [0, 1] rfl
  have hD : va_D A [(a0, .inr (2, [.ref q181, .int 0, .int 0])), (q181, .inl (cy 4, 20, .inr (.inr (.inr (.inr f187)))))] := hD.sub [0, 1] (by decide) rfl
  refine lv_iinc (v := 1) (lv' := [(1, .int 1), (0, .ref a0)]) hx hb dX2_init_44 hl (k := 0) rfl (by decide) (by decide) rfl (fun ls hl => ?_)
  refine lv_goto (tgt := 25) hx hb dX2_init_47 (by decide) ?_
  refine lv_iload_n hx hb dX2_init_25 rfl (lv_at hl 0 rfl) ?_
  refine lv_bipush (v := 20) hx hb dX2_init_26 (by decide) ?_
  refine lv_icmp_ge (tgt := 50) hx hb dX2_init_28 (by decide) (fun h9 => absurd h9 (by decide)) (fun _ => ?_)
  refine lv_aload_n hx hb dX2_init_31 rfl (lv_at hl 1 rfl) ?_
  refine k_get C0 fg_X2_11 hP 0 rfl rfl dX2_init_32 ?_
  refine lv_iload_n hx hb dX2_init_35 rfl (lv_at hl 0 rfl) ?_
  refine k_new C0 n_X2_9 hP hD hS hA 4 34 (Nat.le_of_ble_eq_true rfl) (Nat.le_of_ble_eq_true rfl) (Nat.le_of_ble_eq_true rfl) (Nat.le_of_ble_eq_true rfl) dX2_init_36 (fun q188 H hP hD hS => ?_)
  have hP : va_P (dC, dI) vwCl [(a0, .inr (2, [.ref q181, .int 0, .int 0])), (q181, .inl (cy 4, 20, .inr (.inr (.inr (.inr f187))))), (q188, .inr (6, [.int 0, .int 0, .int 0, .null]))] H := hP
  have hD : va_D A [(a0, .inr (2, [.ref q181, .int 0, .int 0])), (q181, .inl (cy 4, 20, .inr (.inr (.inr (.inr f187))))), (q188, .inr (6, [.int 0, .int 0, .int 0, .null]))] := hD
  refine lv_dup hx hb dX2_init_39 rfl ?_
  refine k_jv hP hD hS hA [2] [0, 1] (wr := [(a0, .inr (2, [.ref q181, .int 0, .int 0])), (q181, .inl (cy 4, 20, .inr (.inr (.inr (.inr f187)))))]) rfl rfl (by decide) (by decide) (by decide) 5 40 (Nat.le_of_ble_eq_true rfl) (Nat.le_of_ble_eq_true rfl) (fun hPc hDc => k_runN (As := []) (rest := [.ref q188, .int 1, .ref q181]) C0 (c_X6_init l dC dI cy sq q188) mN_X6_init (C0.2.2.2.2.2.2.2.2.2.2.1) hPc hDc hl rfl rfl (Nat.le_of_ble_eq_true rfl) ⟨(Nat.le_of_ble_eq_true rfl), (Nat.le_of_ble_eq_true rfl)⟩ ⟨(Nat.le_of_ble_eq_true rfl), (Nat.le_of_ble_eq_true rfl)⟩ dX2_init_40) (fun u191 H locs hw hP hD hS => ?_)
  obtain ⟨q192, eq192⟩ : ∃ z, z = u191 := ⟨_, rfl⟩; subst eq192
  try dsimp only at hP hD
  have hP : va_P (dC, dI) vwCl [(a0, .inr (2, [.ref q181, .int 0, .int 0])), (q181, .inl (cy 4, 20, .inr (.inr (.inr (.inr f187))))), (q188, .inr (6, [.int 0, .int 0, .int 0, .ref q192]))] H := hP
  have hD : va_D A [(a0, .inr (2, [.ref q181, .int 0, .int 0])), (q181, .inl (cy 4, 20, .inr (.inr (.inr (.inr f187))))), (q188, .inr (6, [.int 0, .int 0, .int 0, .ref q192]))] := hD
  refine va_astq hx hb C0.2.2.2.2.2.1 hP hD hS 1 4 2 6 rfl rfl rfl rfl (k_in 1 20 (by decide)) dX2_init_43 (fun H locs hP hD hS => ?_)
  have hP : va_P (dC, dI) vwCl [(a0, .inr (2, [.ref q181, .int 0, .int 0])), (q181, .inl (cy 4, 20, .inr (.inr (.inr (.inr (va_up f187 (Int32.toNatClampNeg 1) (some q188))))))), (q188, .inr (6, [.int 0, .int 0, .int 0, .ref q192]))] H := hP
  have hD : va_D A [(a0, .inr (2, [.ref q181, .int 0, .int 0])), (q181, .inl (cy 4, 20, .inr (.inr (.inr (.inr (va_up f187 (Int32.toNatClampNeg 1) (some q188))))))), (q188, .inr (6, [.int 0, .int 0, .int 0, .ref q192]))] := hD
  generalize va_up f187 (Int32.toNatClampNeg 1) (some q188) = f193 at hP hD
  have hP : va_P (dC, dI) vwCl [(a0, .inr (2, [.ref q181, .int 0, .int 0])), (q181, .inl (cy 4, 20, .inr (.inr (.inr (.inr f193)))))] H := hP.sub [0, 1] rfl
  have hD : va_D A [(a0, .inr (2, [.ref q181, .int 0, .int 0])), (q181, .inl (cy 4, 20, .inr (.inr (.inr (.inr f193)))))] := hD.sub [0, 1] (by decide) rfl
  refine lv_iinc (v := 2) (lv' := [(1, .int 2), (0, .ref a0)]) hx hb dX2_init_44 hl (k := 0) rfl (by decide) (by decide) rfl (fun ls hl => ?_)
  refine lv_goto (tgt := 25) hx hb dX2_init_47 (by decide) ?_
  refine lv_iload_n hx hb dX2_init_25 rfl (lv_at hl 0 rfl) ?_
  refine lv_bipush (v := 20) hx hb dX2_init_26 (by decide) ?_
  refine lv_icmp_ge (tgt := 50) hx hb dX2_init_28 (by decide) (fun h9 => absurd h9 (by decide)) (fun _ => ?_)
  refine lv_aload_n hx hb dX2_init_31 rfl (lv_at hl 1 rfl) ?_
  refine k_get C0 fg_X2_11 hP 0 rfl rfl dX2_init_32 ?_
  refine lv_iload_n hx hb dX2_init_35 rfl (lv_at hl 0 rfl) ?_
  refine k_new C0 n_X2_9 hP hD hS hA 6 44 (Nat.le_of_ble_eq_true rfl) (Nat.le_of_ble_eq_true rfl) (Nat.le_of_ble_eq_true rfl) (Nat.le_of_ble_eq_true rfl) dX2_init_36 (fun q194 H hP hD hS => ?_)
  have hP : va_P (dC, dI) vwCl [(a0, .inr (2, [.ref q181, .int 0, .int 0])), (q181, .inl (cy 4, 20, .inr (.inr (.inr (.inr f193))))), (q194, .inr (6, [.int 0, .int 0, .int 0, .null]))] H := hP
  have hD : va_D A [(a0, .inr (2, [.ref q181, .int 0, .int 0])), (q181, .inl (cy 4, 20, .inr (.inr (.inr (.inr f193))))), (q194, .inr (6, [.int 0, .int 0, .int 0, .null]))] := hD
  refine lv_dup hx hb dX2_init_39 rfl ?_
  refine k_jv hP hD hS hA [2] [0, 1] (wr := [(a0, .inr (2, [.ref q181, .int 0, .int 0])), (q181, .inl (cy 4, 20, .inr (.inr (.inr (.inr f193)))))]) rfl rfl (by decide) (by decide) (by decide) 7 50 (Nat.le_of_ble_eq_true rfl) (Nat.le_of_ble_eq_true rfl) (fun hPc hDc => k_runN (As := []) (rest := [.ref q194, .int 2, .ref q181]) C0 (c_X6_init l dC dI cy sq q194) mN_X6_init (C0.2.2.2.2.2.2.2.2.2.2.1) hPc hDc hl rfl rfl (Nat.le_of_ble_eq_true rfl) ⟨(Nat.le_of_ble_eq_true rfl), (Nat.le_of_ble_eq_true rfl)⟩ ⟨(Nat.le_of_ble_eq_true rfl), (Nat.le_of_ble_eq_true rfl)⟩ dX2_init_40) (fun u197 H locs hw hP hD hS => ?_)
  obtain ⟨q198, eq198⟩ : ∃ z, z = u197 := ⟨_, rfl⟩; subst eq198
  try dsimp only at hP hD
  have hP : va_P (dC, dI) vwCl [(a0, .inr (2, [.ref q181, .int 0, .int 0])), (q181, .inl (cy 4, 20, .inr (.inr (.inr (.inr f193))))), (q194, .inr (6, [.int 0, .int 0, .int 0, .ref q198]))] H := hP
  have hD : va_D A [(a0, .inr (2, [.ref q181, .int 0, .int 0])), (q181, .inl (cy 4, 20, .inr (.inr (.inr (.inr f193))))), (q194, .inr (6, [.int 0, .int 0, .int 0, .ref q198]))] := hD
  refine va_astq hx hb C0.2.2.2.2.2.1 hP hD hS 1 4 2 6 rfl rfl rfl rfl (k_in 2 20 (by decide)) dX2_init_43 (fun H locs hP hD hS => ?_)
  have hP : va_P (dC, dI) vwCl [(a0, .inr (2, [.ref q181, .int 0, .int 0])), (q181, .inl (cy 4, 20, .inr (.inr (.inr (.inr (va_up f193 (Int32.toNatClampNeg 2) (some q194))))))), (q194, .inr (6, [.int 0, .int 0, .int 0, .ref q198]))] H := hP
  have hD : va_D A [(a0, .inr (2, [.ref q181, .int 0, .int 0])), (q181, .inl (cy 4, 20, .inr (.inr (.inr (.inr (va_up f193 (Int32.toNatClampNeg 2) (some q194))))))), (q194, .inr (6, [.int 0, .int 0, .int 0, .ref q198]))] := hD
  generalize va_up f193 (Int32.toNatClampNeg 2) (some q194) = f199 at hP hD
  have hP : va_P (dC, dI) vwCl [(a0, .inr (2, [.ref q181, .int 0, .int 0])), (q181, .inl (cy 4, 20, .inr (.inr (.inr (.inr f199)))))] H := hP.sub [0, 1] rfl
  have hD : va_D A [(a0, .inr (2, [.ref q181, .int 0, .int 0])), (q181, .inl (cy 4, 20, .inr (.inr (.inr (.inr f199)))))] := hD.sub [0, 1] (by decide) rfl
  refine lv_iinc (v := 3) (lv' := [(1, .int 3), (0, .ref a0)]) hx hb dX2_init_44 hl (k := 0) rfl (by decide) (by decide) rfl (fun ls hl => ?_)
  refine lv_goto (tgt := 25) hx hb dX2_init_47 (by decide) ?_
  refine lv_iload_n hx hb dX2_init_25 rfl (lv_at hl 0 rfl) ?_
  refine lv_bipush (v := 20) hx hb dX2_init_26 (by decide) ?_
  refine lv_icmp_ge (tgt := 50) hx hb dX2_init_28 (by decide) (fun h9 => absurd h9 (by decide)) (fun _ => ?_)
  refine lv_aload_n hx hb dX2_init_31 rfl (lv_at hl 1 rfl) ?_
  refine k_get C0 fg_X2_11 hP 0 rfl rfl dX2_init_32 ?_
  refine lv_iload_n hx hb dX2_init_35 rfl (lv_at hl 0 rfl) ?_
  refine k_new C0 n_X2_9 hP hD hS hA 8 54 (Nat.le_of_ble_eq_true rfl) (Nat.le_of_ble_eq_true rfl) (Nat.le_of_ble_eq_true rfl) (Nat.le_of_ble_eq_true rfl) dX2_init_36 (fun q200 H hP hD hS => ?_)
  have hP : va_P (dC, dI) vwCl [(a0, .inr (2, [.ref q181, .int 0, .int 0])), (q181, .inl (cy 4, 20, .inr (.inr (.inr (.inr f199))))), (q200, .inr (6, [.int 0, .int 0, .int 0, .null]))] H := hP
  have hD : va_D A [(a0, .inr (2, [.ref q181, .int 0, .int 0])), (q181, .inl (cy 4, 20, .inr (.inr (.inr (.inr f199))))), (q200, .inr (6, [.int 0, .int 0, .int 0, .null]))] := hD
  refine lv_dup hx hb dX2_init_39 rfl ?_
  refine k_jv hP hD hS hA [2] [0, 1] (wr := [(a0, .inr (2, [.ref q181, .int 0, .int 0])), (q181, .inl (cy 4, 20, .inr (.inr (.inr (.inr f199)))))]) rfl rfl (by decide) (by decide) (by decide) 9 60 (Nat.le_of_ble_eq_true rfl) (Nat.le_of_ble_eq_true rfl) (fun hPc hDc => k_runN (As := []) (rest := [.ref q200, .int 3, .ref q181]) C0 (c_X6_init l dC dI cy sq q200) mN_X6_init (C0.2.2.2.2.2.2.2.2.2.2.1) hPc hDc hl rfl rfl (Nat.le_of_ble_eq_true rfl) ⟨(Nat.le_of_ble_eq_true rfl), (Nat.le_of_ble_eq_true rfl)⟩ ⟨(Nat.le_of_ble_eq_true rfl), (Nat.le_of_ble_eq_true rfl)⟩ dX2_init_40) (fun u203 H locs hw hP hD hS => ?_)
  obtain ⟨q204, eq204⟩ : ∃ z, z = u203 := ⟨_, rfl⟩; subst eq204
  try dsimp only at hP hD
  have hP : va_P (dC, dI) vwCl [(a0, .inr (2, [.ref q181, .int 0, .int 0])), (q181, .inl (cy 4, 20, .inr (.inr (.inr (.inr f199))))), (q200, .inr (6, [.int 0, .int 0, .int 0, .ref q204]))] H := hP
  have hD : va_D A [(a0, .inr (2, [.ref q181, .int 0, .int 0])), (q181, .inl (cy 4, 20, .inr (.inr (.inr (.inr f199))))), (q200, .inr (6, [.int 0, .int 0, .int 0, .ref q204]))] := hD
  refine va_astq hx hb C0.2.2.2.2.2.1 hP hD hS 1 4 2 6 rfl rfl rfl rfl (k_in 3 20 (by decide)) dX2_init_43 (fun H locs hP hD hS => ?_)
  have hP : va_P (dC, dI) vwCl [(a0, .inr (2, [.ref q181, .int 0, .int 0])), (q181, .inl (cy 4, 20, .inr (.inr (.inr (.inr (va_up f199 (Int32.toNatClampNeg 3) (some q200))))))), (q200, .inr (6, [.int 0, .int 0, .int 0, .ref q204]))] H := hP
  have hD : va_D A [(a0, .inr (2, [.ref q181, .int 0, .int 0])), (q181, .inl (cy 4, 20, .inr (.inr (.inr (.inr (va_up f199 (Int32.toNatClampNeg 3) (some q200))))))), (q200, .inr (6, [.int 0, .int 0, .int 0, .ref q204]))] := hD
  generalize va_up f199 (Int32.toNatClampNeg 3) (some q200) = f205 at hP hD
  have hP : va_P (dC, dI) vwCl [(a0, .inr (2, [.ref q181, .int 0, .int 0])), (q181, .inl (cy 4, 20, .inr (.inr (.inr (.inr f205)))))] H := hP.sub [0, 1] rfl
  have hD : va_D A [(a0, .inr (2, [.ref q181, .int 0, .int 0])), (q181, .inl (cy 4, 20, .inr (.inr (.inr (.inr f205)))))] := hD.sub [0, 1] (by decide) rfl
  refine lv_iinc (v := 4) (lv' := [(1, .int 4), (0, .ref a0)]) hx hb dX2_init_44 hl (k := 0) rfl (by decide) (by decide) rfl (fun ls hl => ?_)
  refine lv_goto (tgt := 25) hx hb dX2_init_47 (by decide) ?_
  refine lv_iload_n hx hb dX2_init_25 rfl (lv_at hl 0 rfl) ?_
  refine lv_bipush (v := 20) hx hb dX2_init_26 (by decide) ?_
  refine lv_icmp_ge (tgt := 50) hx hb dX2_init_28 (by decide) (fun h9 => absurd h9 (by decide)) (fun _ => ?_)
  refine lv_aload_n hx hb dX2_init_31 rfl (lv_at hl 1 rfl) ?_
  refine k_get C0 fg_X2_11 hP 0 rfl rfl dX2_init_32 ?_
  refine lv_iload_n hx hb dX2_init_35 rfl (lv_at hl 0 rfl) ?_
  refine k_new C0 n_X2_9 hP hD hS hA 10 64 (Nat.le_of_ble_eq_true rfl) (Nat.le_of_ble_eq_true rfl) (Nat.le_of_ble_eq_true rfl) (Nat.le_of_ble_eq_true rfl) dX2_init_36 (fun q206 H hP hD hS => ?_)
  have hP : va_P (dC, dI) vwCl [(a0, .inr (2, [.ref q181, .int 0, .int 0])), (q181, .inl (cy 4, 20, .inr (.inr (.inr (.inr f205))))), (q206, .inr (6, [.int 0, .int 0, .int 0, .null]))] H := hP
  have hD : va_D A [(a0, .inr (2, [.ref q181, .int 0, .int 0])), (q181, .inl (cy 4, 20, .inr (.inr (.inr (.inr f205))))), (q206, .inr (6, [.int 0, .int 0, .int 0, .null]))] := hD
  refine lv_dup hx hb dX2_init_39 rfl ?_
  refine k_jv hP hD hS hA [2] [0, 1] (wr := [(a0, .inr (2, [.ref q181, .int 0, .int 0])), (q181, .inl (cy 4, 20, .inr (.inr (.inr (.inr f205)))))]) rfl rfl (by decide) (by decide) (by decide) 11 70 (Nat.le_of_ble_eq_true rfl) (Nat.le_of_ble_eq_true rfl) (fun hPc hDc => k_runN (As := []) (rest := [.ref q206, .int 4, .ref q181]) C0 (c_X6_init l dC dI cy sq q206) mN_X6_init (C0.2.2.2.2.2.2.2.2.2.2.1) hPc hDc hl rfl rfl (Nat.le_of_ble_eq_true rfl) ⟨(Nat.le_of_ble_eq_true rfl), (Nat.le_of_ble_eq_true rfl)⟩ ⟨(Nat.le_of_ble_eq_true rfl), (Nat.le_of_ble_eq_true rfl)⟩ dX2_init_40) (fun u209 H locs hw hP hD hS => ?_)
  obtain ⟨q210, eq210⟩ : ∃ z, z = u209 := ⟨_, rfl⟩; subst eq210
  try dsimp only at hP hD
  have hP : va_P (dC, dI) vwCl [(a0, .inr (2, [.ref q181, .int 0, .int 0])), (q181, .inl (cy 4, 20, .inr (.inr (.inr (.inr f205))))), (q206, .inr (6, [.int 0, .int 0, .int 0, .ref q210]))] H := hP
  have hD : va_D A [(a0, .inr (2, [.ref q181, .int 0, .int 0])), (q181, .inl (cy 4, 20, .inr (.inr (.inr (.inr f205))))), (q206, .inr (6, [.int 0, .int 0, .int 0, .ref q210]))] := hD
  refine va_astq hx hb C0.2.2.2.2.2.1 hP hD hS 1 4 2 6 rfl rfl rfl rfl (k_in 4 20 (by decide)) dX2_init_43 (fun H locs hP hD hS => ?_)
  have hP : va_P (dC, dI) vwCl [(a0, .inr (2, [.ref q181, .int 0, .int 0])), (q181, .inl (cy 4, 20, .inr (.inr (.inr (.inr (va_up f205 (Int32.toNatClampNeg 4) (some q206))))))), (q206, .inr (6, [.int 0, .int 0, .int 0, .ref q210]))] H := hP
  have hD : va_D A [(a0, .inr (2, [.ref q181, .int 0, .int 0])), (q181, .inl (cy 4, 20, .inr (.inr (.inr (.inr (va_up f205 (Int32.toNatClampNeg 4) (some q206))))))), (q206, .inr (6, [.int 0, .int 0, .int 0, .ref q210]))] := hD
  generalize va_up f205 (Int32.toNatClampNeg 4) (some q206) = f211 at hP hD
  have hP : va_P (dC, dI) vwCl [(a0, .inr (2, [.ref q181, .int 0, .int 0])), (q181, .inl (cy 4, 20, .inr (.inr (.inr (.inr f211)))))] H := hP.sub [0, 1] rfl
  have hD : va_D A [(a0, .inr (2, [.ref q181, .int 0, .int 0])), (q181, .inl (cy 4, 20, .inr (.inr (.inr (.inr f211)))))] := hD.sub [0, 1] (by decide) rfl
  refine lv_iinc (v := 5) (lv' := [(1, .int 5), (0, .ref a0)]) hx hb dX2_init_44 hl (k := 0) rfl (by decide) (by decide) rfl (fun ls hl => ?_)
  refine lv_goto (tgt := 25) hx hb dX2_init_47 (by decide) ?_
  refine lv_iload_n hx hb dX2_init_25 rfl (lv_at hl 0 rfl) ?_
  refine lv_bipush (v := 20) hx hb dX2_init_26 (by decide) ?_
  refine lv_icmp_ge (tgt := 50) hx hb dX2_init_28 (by decide) (fun h9 => absurd h9 (by decide)) (fun _ => ?_)
  refine lv_aload_n hx hb dX2_init_31 rfl (lv_at hl 1 rfl) ?_
  refine k_get C0 fg_X2_11 hP 0 rfl rfl dX2_init_32 ?_
  refine lv_iload_n hx hb dX2_init_35 rfl (lv_at hl 0 rfl) ?_
  refine k_new C0 n_X2_9 hP hD hS hA 12 74 (Nat.le_of_ble_eq_true rfl) (Nat.le_of_ble_eq_true rfl) (Nat.le_of_ble_eq_true rfl) (Nat.le_of_ble_eq_true rfl) dX2_init_36 (fun q212 H hP hD hS => ?_)
  have hP : va_P (dC, dI) vwCl [(a0, .inr (2, [.ref q181, .int 0, .int 0])), (q181, .inl (cy 4, 20, .inr (.inr (.inr (.inr f211))))), (q212, .inr (6, [.int 0, .int 0, .int 0, .null]))] H := hP
  have hD : va_D A [(a0, .inr (2, [.ref q181, .int 0, .int 0])), (q181, .inl (cy 4, 20, .inr (.inr (.inr (.inr f211))))), (q212, .inr (6, [.int 0, .int 0, .int 0, .null]))] := hD
  refine lv_dup hx hb dX2_init_39 rfl ?_
  refine k_jv hP hD hS hA [2] [0, 1] (wr := [(a0, .inr (2, [.ref q181, .int 0, .int 0])), (q181, .inl (cy 4, 20, .inr (.inr (.inr (.inr f211)))))]) rfl rfl (by decide) (by decide) (by decide) 13 80 (Nat.le_of_ble_eq_true rfl) (Nat.le_of_ble_eq_true rfl) (fun hPc hDc => k_runN (As := []) (rest := [.ref q212, .int 5, .ref q181]) C0 (c_X6_init l dC dI cy sq q212) mN_X6_init (C0.2.2.2.2.2.2.2.2.2.2.1) hPc hDc hl rfl rfl (Nat.le_of_ble_eq_true rfl) ⟨(Nat.le_of_ble_eq_true rfl), (Nat.le_of_ble_eq_true rfl)⟩ ⟨(Nat.le_of_ble_eq_true rfl), (Nat.le_of_ble_eq_true rfl)⟩ dX2_init_40) (fun u215 H locs hw hP hD hS => ?_)
  obtain ⟨q216, eq216⟩ : ∃ z, z = u215 := ⟨_, rfl⟩; subst eq216
  try dsimp only at hP hD
  have hP : va_P (dC, dI) vwCl [(a0, .inr (2, [.ref q181, .int 0, .int 0])), (q181, .inl (cy 4, 20, .inr (.inr (.inr (.inr f211))))), (q212, .inr (6, [.int 0, .int 0, .int 0, .ref q216]))] H := hP
  have hD : va_D A [(a0, .inr (2, [.ref q181, .int 0, .int 0])), (q181, .inl (cy 4, 20, .inr (.inr (.inr (.inr f211))))), (q212, .inr (6, [.int 0, .int 0, .int 0, .ref q216]))] := hD
  refine va_astq hx hb C0.2.2.2.2.2.1 hP hD hS 1 4 2 6 rfl rfl rfl rfl (k_in 5 20 (by decide)) dX2_init_43 (fun H locs hP hD hS => ?_)
  have hP : va_P (dC, dI) vwCl [(a0, .inr (2, [.ref q181, .int 0, .int 0])), (q181, .inl (cy 4, 20, .inr (.inr (.inr (.inr (va_up f211 (Int32.toNatClampNeg 5) (some q212))))))), (q212, .inr (6, [.int 0, .int 0, .int 0, .ref q216]))] H := hP
  have hD : va_D A [(a0, .inr (2, [.ref q181, .int 0, .int 0])), (q181, .inl (cy 4, 20, .inr (.inr (.inr (.inr (va_up f211 (Int32.toNatClampNeg 5) (some q212))))))), (q212, .inr (6, [.int 0, .int 0, .int 0, .ref q216]))] := hD
  generalize va_up f211 (Int32.toNatClampNeg 5) (some q212) = f217 at hP hD
  have hP : va_P (dC, dI) vwCl [(a0, .inr (2, [.ref q181, .int 0, .int 0])), (q181, .inl (cy 4, 20, .inr (.inr (.inr (.inr f217)))))] H := hP.sub [0, 1] rfl
  have hD : va_D A [(a0, .inr (2, [.ref q181, .int 0, .int 0])), (q181, .inl (cy 4, 20, .inr (.inr (.inr (.inr f217)))))] := hD.sub [0, 1] (by decide) rfl
  refine lv_iinc (v := 6) (lv' := [(1, .int 6), (0, .ref a0)]) hx hb dX2_init_44 hl (k := 0) rfl (by decide) (by decide) rfl (fun ls hl => ?_)
  refine lv_goto (tgt := 25) hx hb dX2_init_47 (by decide) ?_
  refine lv_iload_n hx hb dX2_init_25 rfl (lv_at hl 0 rfl) ?_
  refine lv_bipush (v := 20) hx hb dX2_init_26 (by decide) ?_
  refine lv_icmp_ge (tgt := 50) hx hb dX2_init_28 (by decide) (fun h9 => absurd h9 (by decide)) (fun _ => ?_)
  refine lv_aload_n hx hb dX2_init_31 rfl (lv_at hl 1 rfl) ?_
  refine k_get C0 fg_X2_11 hP 0 rfl rfl dX2_init_32 ?_
  refine lv_iload_n hx hb dX2_init_35 rfl (lv_at hl 0 rfl) ?_
  refine k_new C0 n_X2_9 hP hD hS hA 14 84 (Nat.le_of_ble_eq_true rfl) (Nat.le_of_ble_eq_true rfl) (Nat.le_of_ble_eq_true rfl) (Nat.le_of_ble_eq_true rfl) dX2_init_36 (fun q218 H hP hD hS => ?_)
  have hP : va_P (dC, dI) vwCl [(a0, .inr (2, [.ref q181, .int 0, .int 0])), (q181, .inl (cy 4, 20, .inr (.inr (.inr (.inr f217))))), (q218, .inr (6, [.int 0, .int 0, .int 0, .null]))] H := hP
  have hD : va_D A [(a0, .inr (2, [.ref q181, .int 0, .int 0])), (q181, .inl (cy 4, 20, .inr (.inr (.inr (.inr f217))))), (q218, .inr (6, [.int 0, .int 0, .int 0, .null]))] := hD
  refine lv_dup hx hb dX2_init_39 rfl ?_
  refine k_jv hP hD hS hA [2] [0, 1] (wr := [(a0, .inr (2, [.ref q181, .int 0, .int 0])), (q181, .inl (cy 4, 20, .inr (.inr (.inr (.inr f217)))))]) rfl rfl (by decide) (by decide) (by decide) 15 90 (Nat.le_of_ble_eq_true rfl) (Nat.le_of_ble_eq_true rfl) (fun hPc hDc => k_runN (As := []) (rest := [.ref q218, .int 6, .ref q181]) C0 (c_X6_init l dC dI cy sq q218) mN_X6_init (C0.2.2.2.2.2.2.2.2.2.2.1) hPc hDc hl rfl rfl (Nat.le_of_ble_eq_true rfl) ⟨(Nat.le_of_ble_eq_true rfl), (Nat.le_of_ble_eq_true rfl)⟩ ⟨(Nat.le_of_ble_eq_true rfl), (Nat.le_of_ble_eq_true rfl)⟩ dX2_init_40) (fun u221 H locs hw hP hD hS => ?_)
  obtain ⟨q222, eq222⟩ : ∃ z, z = u221 := ⟨_, rfl⟩; subst eq222
  try dsimp only at hP hD
  have hP : va_P (dC, dI) vwCl [(a0, .inr (2, [.ref q181, .int 0, .int 0])), (q181, .inl (cy 4, 20, .inr (.inr (.inr (.inr f217))))), (q218, .inr (6, [.int 0, .int 0, .int 0, .ref q222]))] H := hP
  have hD : va_D A [(a0, .inr (2, [.ref q181, .int 0, .int 0])), (q181, .inl (cy 4, 20, .inr (.inr (.inr (.inr f217))))), (q218, .inr (6, [.int 0, .int 0, .int 0, .ref q222]))] := hD
  refine va_astq hx hb C0.2.2.2.2.2.1 hP hD hS 1 4 2 6 rfl rfl rfl rfl (k_in 6 20 (by decide)) dX2_init_43 (fun H locs hP hD hS => ?_)
  have hP : va_P (dC, dI) vwCl [(a0, .inr (2, [.ref q181, .int 0, .int 0])), (q181, .inl (cy 4, 20, .inr (.inr (.inr (.inr (va_up f217 (Int32.toNatClampNeg 6) (some q218))))))), (q218, .inr (6, [.int 0, .int 0, .int 0, .ref q222]))] H := hP
  have hD : va_D A [(a0, .inr (2, [.ref q181, .int 0, .int 0])), (q181, .inl (cy 4, 20, .inr (.inr (.inr (.inr (va_up f217 (Int32.toNatClampNeg 6) (some q218))))))), (q218, .inr (6, [.int 0, .int 0, .int 0, .ref q222]))] := hD
  generalize va_up f217 (Int32.toNatClampNeg 6) (some q218) = f223 at hP hD
  have hP : va_P (dC, dI) vwCl [(a0, .inr (2, [.ref q181, .int 0, .int 0])), (q181, .inl (cy 4, 20, .inr (.inr (.inr (.inr f223)))))] H := hP.sub [0, 1] rfl
  have hD : va_D A [(a0, .inr (2, [.ref q181, .int 0, .int 0])), (q181, .inl (cy 4, 20, .inr (.inr (.inr (.inr f223)))))] := hD.sub [0, 1] (by decide) rfl
  refine lv_iinc (v := 7) (lv' := [(1, .int 7), (0, .ref a0)]) hx hb dX2_init_44 hl (k := 0) rfl (by decide) (by decide) rfl (fun ls hl => ?_)
  refine lv_goto (tgt := 25) hx hb dX2_init_47 (by decide) ?_
  refine lv_iload_n hx hb dX2_init_25 rfl (lv_at hl 0 rfl) ?_
  refine lv_bipush (v := 20) hx hb dX2_init_26 (by decide) ?_
  refine lv_icmp_ge (tgt := 50) hx hb dX2_init_28 (by decide) (fun h9 => absurd h9 (by decide)) (fun _ => ?_)
  refine lv_aload_n hx hb dX2_init_31 rfl (lv_at hl 1 rfl) ?_
  refine k_get C0 fg_X2_11 hP 0 rfl rfl dX2_init_32 ?_
  refine lv_iload_n hx hb dX2_init_35 rfl (lv_at hl 0 rfl) ?_
  refine k_new C0 n_X2_9 hP hD hS hA 16 94 (Nat.le_of_ble_eq_true rfl) (Nat.le_of_ble_eq_true rfl) (Nat.le_of_ble_eq_true rfl) (Nat.le_of_ble_eq_true rfl) dX2_init_36 (fun q224 H hP hD hS => ?_)
  have hP : va_P (dC, dI) vwCl [(a0, .inr (2, [.ref q181, .int 0, .int 0])), (q181, .inl (cy 4, 20, .inr (.inr (.inr (.inr f223))))), (q224, .inr (6, [.int 0, .int 0, .int 0, .null]))] H := hP
  have hD : va_D A [(a0, .inr (2, [.ref q181, .int 0, .int 0])), (q181, .inl (cy 4, 20, .inr (.inr (.inr (.inr f223))))), (q224, .inr (6, [.int 0, .int 0, .int 0, .null]))] := hD
  refine lv_dup hx hb dX2_init_39 rfl ?_
  refine k_jv hP hD hS hA [2] [0, 1] (wr := [(a0, .inr (2, [.ref q181, .int 0, .int 0])), (q181, .inl (cy 4, 20, .inr (.inr (.inr (.inr f223)))))]) rfl rfl (by decide) (by decide) (by decide) 17 100 (Nat.le_of_ble_eq_true rfl) (Nat.le_of_ble_eq_true rfl) (fun hPc hDc => k_runN (As := []) (rest := [.ref q224, .int 7, .ref q181]) C0 (c_X6_init l dC dI cy sq q224) mN_X6_init (C0.2.2.2.2.2.2.2.2.2.2.1) hPc hDc hl rfl rfl (Nat.le_of_ble_eq_true rfl) ⟨(Nat.le_of_ble_eq_true rfl), (Nat.le_of_ble_eq_true rfl)⟩ ⟨(Nat.le_of_ble_eq_true rfl), (Nat.le_of_ble_eq_true rfl)⟩ dX2_init_40) (fun u227 H locs hw hP hD hS => ?_)
  obtain ⟨q228, eq228⟩ : ∃ z, z = u227 := ⟨_, rfl⟩; subst eq228
  try dsimp only at hP hD
  have hP : va_P (dC, dI) vwCl [(a0, .inr (2, [.ref q181, .int 0, .int 0])), (q181, .inl (cy 4, 20, .inr (.inr (.inr (.inr f223))))), (q224, .inr (6, [.int 0, .int 0, .int 0, .ref q228]))] H := hP
  have hD : va_D A [(a0, .inr (2, [.ref q181, .int 0, .int 0])), (q181, .inl (cy 4, 20, .inr (.inr (.inr (.inr f223))))), (q224, .inr (6, [.int 0, .int 0, .int 0, .ref q228]))] := hD
  refine va_astq hx hb C0.2.2.2.2.2.1 hP hD hS 1 4 2 6 rfl rfl rfl rfl (k_in 7 20 (by decide)) dX2_init_43 (fun H locs hP hD hS => ?_)
  have hP : va_P (dC, dI) vwCl [(a0, .inr (2, [.ref q181, .int 0, .int 0])), (q181, .inl (cy 4, 20, .inr (.inr (.inr (.inr (va_up f223 (Int32.toNatClampNeg 7) (some q224))))))), (q224, .inr (6, [.int 0, .int 0, .int 0, .ref q228]))] H := hP
  have hD : va_D A [(a0, .inr (2, [.ref q181, .int 0, .int 0])), (q181, .inl (cy 4, 20, .inr (.inr (.inr (.inr (va_up f223 (Int32.toNatClampNeg 7) (some q224))))))), (q224, .inr (6, [.int 0, .int 0, .int 0, .ref q228]))] := hD
  generalize va_up f223 (Int32.toNatClampNeg 7) (some q224) = f229 at hP hD
  have hP : va_P (dC, dI) vwCl [(a0, .inr (2, [.ref q181, .int 0, .int 0])), (q181, .inl (cy 4, 20, .inr (.inr (.inr (.inr f229)))))] H := hP.sub [0, 1] rfl
  have hD : va_D A [(a0, .inr (2, [.ref q181, .int 0, .int 0])), (q181, .inl (cy 4, 20, .inr (.inr (.inr (.inr f229)))))] := hD.sub [0, 1] (by decide) rfl
  refine lv_iinc (v := 8) (lv' := [(1, .int 8), (0, .ref a0)]) hx hb dX2_init_44 hl (k := 0) rfl (by decide) (by decide) rfl (fun ls hl => ?_)
  refine lv_goto (tgt := 25) hx hb dX2_init_47 (by decide) ?_
  refine lv_iload_n hx hb dX2_init_25 rfl (lv_at hl 0 rfl) ?_
  refine lv_bipush (v := 20) hx hb dX2_init_26 (by decide) ?_
  refine lv_icmp_ge (tgt := 50) hx hb dX2_init_28 (by decide) (fun h9 => absurd h9 (by decide)) (fun _ => ?_)
  refine lv_aload_n hx hb dX2_init_31 rfl (lv_at hl 1 rfl) ?_
  refine k_get C0 fg_X2_11 hP 0 rfl rfl dX2_init_32 ?_
  refine lv_iload_n hx hb dX2_init_35 rfl (lv_at hl 0 rfl) ?_
  refine k_new C0 n_X2_9 hP hD hS hA 18 104 (Nat.le_of_ble_eq_true rfl) (Nat.le_of_ble_eq_true rfl) (Nat.le_of_ble_eq_true rfl) (Nat.le_of_ble_eq_true rfl) dX2_init_36 (fun q230 H hP hD hS => ?_)
  have hP : va_P (dC, dI) vwCl [(a0, .inr (2, [.ref q181, .int 0, .int 0])), (q181, .inl (cy 4, 20, .inr (.inr (.inr (.inr f229))))), (q230, .inr (6, [.int 0, .int 0, .int 0, .null]))] H := hP
  have hD : va_D A [(a0, .inr (2, [.ref q181, .int 0, .int 0])), (q181, .inl (cy 4, 20, .inr (.inr (.inr (.inr f229))))), (q230, .inr (6, [.int 0, .int 0, .int 0, .null]))] := hD
  refine lv_dup hx hb dX2_init_39 rfl ?_
  refine k_jv hP hD hS hA [2] [0, 1] (wr := [(a0, .inr (2, [.ref q181, .int 0, .int 0])), (q181, .inl (cy 4, 20, .inr (.inr (.inr (.inr f229)))))]) rfl rfl (by decide) (by decide) (by decide) 19 110 (Nat.le_of_ble_eq_true rfl) (Nat.le_of_ble_eq_true rfl) (fun hPc hDc => k_runN (As := []) (rest := [.ref q230, .int 8, .ref q181]) C0 (c_X6_init l dC dI cy sq q230) mN_X6_init (C0.2.2.2.2.2.2.2.2.2.2.1) hPc hDc hl rfl rfl (Nat.le_of_ble_eq_true rfl) ⟨(Nat.le_of_ble_eq_true rfl), (Nat.le_of_ble_eq_true rfl)⟩ ⟨(Nat.le_of_ble_eq_true rfl), (Nat.le_of_ble_eq_true rfl)⟩ dX2_init_40) (fun u233 H locs hw hP hD hS => ?_)
  obtain ⟨q234, eq234⟩ : ∃ z, z = u233 := ⟨_, rfl⟩; subst eq234
  try dsimp only at hP hD
  have hP : va_P (dC, dI) vwCl [(a0, .inr (2, [.ref q181, .int 0, .int 0])), (q181, .inl (cy 4, 20, .inr (.inr (.inr (.inr f229))))), (q230, .inr (6, [.int 0, .int 0, .int 0, .ref q234]))] H := hP
  have hD : va_D A [(a0, .inr (2, [.ref q181, .int 0, .int 0])), (q181, .inl (cy 4, 20, .inr (.inr (.inr (.inr f229))))), (q230, .inr (6, [.int 0, .int 0, .int 0, .ref q234]))] := hD
  refine va_astq hx hb C0.2.2.2.2.2.1 hP hD hS 1 4 2 6 rfl rfl rfl rfl (k_in 8 20 (by decide)) dX2_init_43 (fun H locs hP hD hS => ?_)
  have hP : va_P (dC, dI) vwCl [(a0, .inr (2, [.ref q181, .int 0, .int 0])), (q181, .inl (cy 4, 20, .inr (.inr (.inr (.inr (va_up f229 (Int32.toNatClampNeg 8) (some q230))))))), (q230, .inr (6, [.int 0, .int 0, .int 0, .ref q234]))] H := hP
  have hD : va_D A [(a0, .inr (2, [.ref q181, .int 0, .int 0])), (q181, .inl (cy 4, 20, .inr (.inr (.inr (.inr (va_up f229 (Int32.toNatClampNeg 8) (some q230))))))), (q230, .inr (6, [.int 0, .int 0, .int 0, .ref q234]))] := hD
  generalize va_up f229 (Int32.toNatClampNeg 8) (some q230) = f235 at hP hD
  have hP : va_P (dC, dI) vwCl [(a0, .inr (2, [.ref q181, .int 0, .int 0])), (q181, .inl (cy 4, 20, .inr (.inr (.inr (.inr f235)))))] H := hP.sub [0, 1] rfl
  have hD : va_D A [(a0, .inr (2, [.ref q181, .int 0, .int 0])), (q181, .inl (cy 4, 20, .inr (.inr (.inr (.inr f235)))))] := hD.sub [0, 1] (by decide) rfl
  refine lv_iinc (v := 9) (lv' := [(1, .int 9), (0, .ref a0)]) hx hb dX2_init_44 hl (k := 0) rfl (by decide) (by decide) rfl (fun ls hl => ?_)
  refine lv_goto (tgt := 25) hx hb dX2_init_47 (by decide) ?_
  refine lv_iload_n hx hb dX2_init_25 rfl (lv_at hl 0 rfl) ?_
  refine lv_bipush (v := 20) hx hb dX2_init_26 (by decide) ?_
  refine lv_icmp_ge (tgt := 50) hx hb dX2_init_28 (by decide) (fun h9 => absurd h9 (by decide)) (fun _ => ?_)
  refine lv_aload_n hx hb dX2_init_31 rfl (lv_at hl 1 rfl) ?_
  refine k_get C0 fg_X2_11 hP 0 rfl rfl dX2_init_32 ?_
  refine lv_iload_n hx hb dX2_init_35 rfl (lv_at hl 0 rfl) ?_
  refine k_new C0 n_X2_9 hP hD hS hA 20 114 (Nat.le_of_ble_eq_true rfl) (Nat.le_of_ble_eq_true rfl) (Nat.le_of_ble_eq_true rfl) (Nat.le_of_ble_eq_true rfl) dX2_init_36 (fun q236 H hP hD hS => ?_)
  have hP : va_P (dC, dI) vwCl [(a0, .inr (2, [.ref q181, .int 0, .int 0])), (q181, .inl (cy 4, 20, .inr (.inr (.inr (.inr f235))))), (q236, .inr (6, [.int 0, .int 0, .int 0, .null]))] H := hP
  have hD : va_D A [(a0, .inr (2, [.ref q181, .int 0, .int 0])), (q181, .inl (cy 4, 20, .inr (.inr (.inr (.inr f235))))), (q236, .inr (6, [.int 0, .int 0, .int 0, .null]))] := hD
  refine lv_dup hx hb dX2_init_39 rfl ?_
  refine k_jv hP hD hS hA [2] [0, 1] (wr := [(a0, .inr (2, [.ref q181, .int 0, .int 0])), (q181, .inl (cy 4, 20, .inr (.inr (.inr (.inr f235)))))]) rfl rfl (by decide) (by decide) (by decide) 21 120 (Nat.le_of_ble_eq_true rfl) (Nat.le_of_ble_eq_true rfl) (fun hPc hDc => k_runN (As := []) (rest := [.ref q236, .int 9, .ref q181]) C0 (c_X6_init l dC dI cy sq q236) mN_X6_init (C0.2.2.2.2.2.2.2.2.2.2.1) hPc hDc hl rfl rfl (Nat.le_of_ble_eq_true rfl) ⟨(Nat.le_of_ble_eq_true rfl), (Nat.le_of_ble_eq_true rfl)⟩ ⟨(Nat.le_of_ble_eq_true rfl), (Nat.le_of_ble_eq_true rfl)⟩ dX2_init_40) (fun u239 H locs hw hP hD hS => ?_)
  obtain ⟨q240, eq240⟩ : ∃ z, z = u239 := ⟨_, rfl⟩; subst eq240
  try dsimp only at hP hD
  have hP : va_P (dC, dI) vwCl [(a0, .inr (2, [.ref q181, .int 0, .int 0])), (q181, .inl (cy 4, 20, .inr (.inr (.inr (.inr f235))))), (q236, .inr (6, [.int 0, .int 0, .int 0, .ref q240]))] H := hP
  have hD : va_D A [(a0, .inr (2, [.ref q181, .int 0, .int 0])), (q181, .inl (cy 4, 20, .inr (.inr (.inr (.inr f235))))), (q236, .inr (6, [.int 0, .int 0, .int 0, .ref q240]))] := hD
  refine va_astq hx hb C0.2.2.2.2.2.1 hP hD hS 1 4 2 6 rfl rfl rfl rfl (k_in 9 20 (by decide)) dX2_init_43 (fun H locs hP hD hS => ?_)
  have hP : va_P (dC, dI) vwCl [(a0, .inr (2, [.ref q181, .int 0, .int 0])), (q181, .inl (cy 4, 20, .inr (.inr (.inr (.inr (va_up f235 (Int32.toNatClampNeg 9) (some q236))))))), (q236, .inr (6, [.int 0, .int 0, .int 0, .ref q240]))] H := hP
  have hD : va_D A [(a0, .inr (2, [.ref q181, .int 0, .int 0])), (q181, .inl (cy 4, 20, .inr (.inr (.inr (.inr (va_up f235 (Int32.toNatClampNeg 9) (some q236))))))), (q236, .inr (6, [.int 0, .int 0, .int 0, .ref q240]))] := hD
  generalize va_up f235 (Int32.toNatClampNeg 9) (some q236) = f241 at hP hD
  have hP : va_P (dC, dI) vwCl [(a0, .inr (2, [.ref q181, .int 0, .int 0])), (q181, .inl (cy 4, 20, .inr (.inr (.inr (.inr f241)))))] H := hP.sub [0, 1] rfl
  have hD : va_D A [(a0, .inr (2, [.ref q181, .int 0, .int 0])), (q181, .inl (cy 4, 20, .inr (.inr (.inr (.inr f241)))))] := hD.sub [0, 1] (by decide) rfl
  refine lv_iinc (v := 10) (lv' := [(1, .int 10), (0, .ref a0)]) hx hb dX2_init_44 hl (k := 0) rfl (by decide) (by decide) rfl (fun ls hl => ?_)
  refine lv_goto (tgt := 25) hx hb dX2_init_47 (by decide) ?_
  refine lv_iload_n hx hb dX2_init_25 rfl (lv_at hl 0 rfl) ?_
  refine lv_bipush (v := 20) hx hb dX2_init_26 (by decide) ?_
  refine lv_icmp_ge (tgt := 50) hx hb dX2_init_28 (by decide) (fun h9 => absurd h9 (by decide)) (fun _ => ?_)
  refine lv_aload_n hx hb dX2_init_31 rfl (lv_at hl 1 rfl) ?_
  refine k_get C0 fg_X2_11 hP 0 rfl rfl dX2_init_32 ?_
  refine lv_iload_n hx hb dX2_init_35 rfl (lv_at hl 0 rfl) ?_
  refine k_new C0 n_X2_9 hP hD hS hA 22 124 (Nat.le_of_ble_eq_true rfl) (Nat.le_of_ble_eq_true rfl) (Nat.le_of_ble_eq_true rfl) (Nat.le_of_ble_eq_true rfl) dX2_init_36 (fun q242 H hP hD hS => ?_)
  have hP : va_P (dC, dI) vwCl [(a0, .inr (2, [.ref q181, .int 0, .int 0])), (q181, .inl (cy 4, 20, .inr (.inr (.inr (.inr f241))))), (q242, .inr (6, [.int 0, .int 0, .int 0, .null]))] H := hP
  have hD : va_D A [(a0, .inr (2, [.ref q181, .int 0, .int 0])), (q181, .inl (cy 4, 20, .inr (.inr (.inr (.inr f241))))), (q242, .inr (6, [.int 0, .int 0, .int 0, .null]))] := hD
  refine lv_dup hx hb dX2_init_39 rfl ?_
  refine k_jv hP hD hS hA [2] [0, 1] (wr := [(a0, .inr (2, [.ref q181, .int 0, .int 0])), (q181, .inl (cy 4, 20, .inr (.inr (.inr (.inr f241)))))]) rfl rfl (by decide) (by decide) (by decide) 23 130 (Nat.le_of_ble_eq_true rfl) (Nat.le_of_ble_eq_true rfl) (fun hPc hDc => k_runN (As := []) (rest := [.ref q242, .int 10, .ref q181]) C0 (c_X6_init l dC dI cy sq q242) mN_X6_init (C0.2.2.2.2.2.2.2.2.2.2.1) hPc hDc hl rfl rfl (Nat.le_of_ble_eq_true rfl) ⟨(Nat.le_of_ble_eq_true rfl), (Nat.le_of_ble_eq_true rfl)⟩ ⟨(Nat.le_of_ble_eq_true rfl), (Nat.le_of_ble_eq_true rfl)⟩ dX2_init_40) (fun u245 H locs hw hP hD hS => ?_)
  obtain ⟨q246, eq246⟩ : ∃ z, z = u245 := ⟨_, rfl⟩; subst eq246
  try dsimp only at hP hD
  have hP : va_P (dC, dI) vwCl [(a0, .inr (2, [.ref q181, .int 0, .int 0])), (q181, .inl (cy 4, 20, .inr (.inr (.inr (.inr f241))))), (q242, .inr (6, [.int 0, .int 0, .int 0, .ref q246]))] H := hP
  have hD : va_D A [(a0, .inr (2, [.ref q181, .int 0, .int 0])), (q181, .inl (cy 4, 20, .inr (.inr (.inr (.inr f241))))), (q242, .inr (6, [.int 0, .int 0, .int 0, .ref q246]))] := hD
  refine va_astq hx hb C0.2.2.2.2.2.1 hP hD hS 1 4 2 6 rfl rfl rfl rfl (k_in 10 20 (by decide)) dX2_init_43 (fun H locs hP hD hS => ?_)
  have hP : va_P (dC, dI) vwCl [(a0, .inr (2, [.ref q181, .int 0, .int 0])), (q181, .inl (cy 4, 20, .inr (.inr (.inr (.inr (va_up f241 (Int32.toNatClampNeg 10) (some q242))))))), (q242, .inr (6, [.int 0, .int 0, .int 0, .ref q246]))] H := hP
  have hD : va_D A [(a0, .inr (2, [.ref q181, .int 0, .int 0])), (q181, .inl (cy 4, 20, .inr (.inr (.inr (.inr (va_up f241 (Int32.toNatClampNeg 10) (some q242))))))), (q242, .inr (6, [.int 0, .int 0, .int 0, .ref q246]))] := hD
  generalize va_up f241 (Int32.toNatClampNeg 10) (some q242) = f247 at hP hD
  have hP : va_P (dC, dI) vwCl [(a0, .inr (2, [.ref q181, .int 0, .int 0])), (q181, .inl (cy 4, 20, .inr (.inr (.inr (.inr f247)))))] H := hP.sub [0, 1] rfl
  have hD : va_D A [(a0, .inr (2, [.ref q181, .int 0, .int 0])), (q181, .inl (cy 4, 20, .inr (.inr (.inr (.inr f247)))))] := hD.sub [0, 1] (by decide) rfl
  refine lv_iinc (v := 11) (lv' := [(1, .int 11), (0, .ref a0)]) hx hb dX2_init_44 hl (k := 0) rfl (by decide) (by decide) rfl (fun ls hl => ?_)
  refine lv_goto (tgt := 25) hx hb dX2_init_47 (by decide) ?_
  refine lv_iload_n hx hb dX2_init_25 rfl (lv_at hl 0 rfl) ?_
  refine lv_bipush (v := 20) hx hb dX2_init_26 (by decide) ?_
  refine lv_icmp_ge (tgt := 50) hx hb dX2_init_28 (by decide) (fun h9 => absurd h9 (by decide)) (fun _ => ?_)
  refine lv_aload_n hx hb dX2_init_31 rfl (lv_at hl 1 rfl) ?_
  refine k_get C0 fg_X2_11 hP 0 rfl rfl dX2_init_32 ?_
  refine lv_iload_n hx hb dX2_init_35 rfl (lv_at hl 0 rfl) ?_
  refine k_new C0 n_X2_9 hP hD hS hA 24 134 (Nat.le_of_ble_eq_true rfl) (Nat.le_of_ble_eq_true rfl) (Nat.le_of_ble_eq_true rfl) (Nat.le_of_ble_eq_true rfl) dX2_init_36 (fun q248 H hP hD hS => ?_)
  have hP : va_P (dC, dI) vwCl [(a0, .inr (2, [.ref q181, .int 0, .int 0])), (q181, .inl (cy 4, 20, .inr (.inr (.inr (.inr f247))))), (q248, .inr (6, [.int 0, .int 0, .int 0, .null]))] H := hP
  have hD : va_D A [(a0, .inr (2, [.ref q181, .int 0, .int 0])), (q181, .inl (cy 4, 20, .inr (.inr (.inr (.inr f247))))), (q248, .inr (6, [.int 0, .int 0, .int 0, .null]))] := hD
  refine lv_dup hx hb dX2_init_39 rfl ?_
  refine k_jv hP hD hS hA [2] [0, 1] (wr := [(a0, .inr (2, [.ref q181, .int 0, .int 0])), (q181, .inl (cy 4, 20, .inr (.inr (.inr (.inr f247)))))]) rfl rfl (by decide) (by decide) (by decide) 25 140 (Nat.le_of_ble_eq_true rfl) (Nat.le_of_ble_eq_true rfl) (fun hPc hDc => k_runN (As := []) (rest := [.ref q248, .int 11, .ref q181]) C0 (c_X6_init l dC dI cy sq q248) mN_X6_init (C0.2.2.2.2.2.2.2.2.2.2.1) hPc hDc hl rfl rfl (Nat.le_of_ble_eq_true rfl) ⟨(Nat.le_of_ble_eq_true rfl), (Nat.le_of_ble_eq_true rfl)⟩ ⟨(Nat.le_of_ble_eq_true rfl), (Nat.le_of_ble_eq_true rfl)⟩ dX2_init_40) (fun u251 H locs hw hP hD hS => ?_)
  obtain ⟨q252, eq252⟩ : ∃ z, z = u251 := ⟨_, rfl⟩; subst eq252
  try dsimp only at hP hD
  have hP : va_P (dC, dI) vwCl [(a0, .inr (2, [.ref q181, .int 0, .int 0])), (q181, .inl (cy 4, 20, .inr (.inr (.inr (.inr f247))))), (q248, .inr (6, [.int 0, .int 0, .int 0, .ref q252]))] H := hP
  have hD : va_D A [(a0, .inr (2, [.ref q181, .int 0, .int 0])), (q181, .inl (cy 4, 20, .inr (.inr (.inr (.inr f247))))), (q248, .inr (6, [.int 0, .int 0, .int 0, .ref q252]))] := hD
  refine va_astq hx hb C0.2.2.2.2.2.1 hP hD hS 1 4 2 6 rfl rfl rfl rfl (k_in 11 20 (by decide)) dX2_init_43 (fun H locs hP hD hS => ?_)
  have hP : va_P (dC, dI) vwCl [(a0, .inr (2, [.ref q181, .int 0, .int 0])), (q181, .inl (cy 4, 20, .inr (.inr (.inr (.inr (va_up f247 (Int32.toNatClampNeg 11) (some q248))))))), (q248, .inr (6, [.int 0, .int 0, .int 0, .ref q252]))] H := hP
  have hD : va_D A [(a0, .inr (2, [.ref q181, .int 0, .int 0])), (q181, .inl (cy 4, 20, .inr (.inr (.inr (.inr (va_up f247 (Int32.toNatClampNeg 11) (some q248))))))), (q248, .inr (6, [.int 0, .int 0, .int 0, .ref q252]))] := hD
  generalize va_up f247 (Int32.toNatClampNeg 11) (some q248) = f253 at hP hD
  have hP : va_P (dC, dI) vwCl [(a0, .inr (2, [.ref q181, .int 0, .int 0])), (q181, .inl (cy 4, 20, .inr (.inr (.inr (.inr f253)))))] H := hP.sub [0, 1] rfl
  have hD : va_D A [(a0, .inr (2, [.ref q181, .int 0, .int 0])), (q181, .inl (cy 4, 20, .inr (.inr (.inr (.inr f253)))))] := hD.sub [0, 1] (by decide) rfl
  refine lv_iinc (v := 12) (lv' := [(1, .int 12), (0, .ref a0)]) hx hb dX2_init_44 hl (k := 0) rfl (by decide) (by decide) rfl (fun ls hl => ?_)
  refine lv_goto (tgt := 25) hx hb dX2_init_47 (by decide) ?_
  refine lv_iload_n hx hb dX2_init_25 rfl (lv_at hl 0 rfl) ?_
  refine lv_bipush (v := 20) hx hb dX2_init_26 (by decide) ?_
  refine lv_icmp_ge (tgt := 50) hx hb dX2_init_28 (by decide) (fun h9 => absurd h9 (by decide)) (fun _ => ?_)
  refine lv_aload_n hx hb dX2_init_31 rfl (lv_at hl 1 rfl) ?_
  refine k_get C0 fg_X2_11 hP 0 rfl rfl dX2_init_32 ?_
  refine lv_iload_n hx hb dX2_init_35 rfl (lv_at hl 0 rfl) ?_
  refine k_new C0 n_X2_9 hP hD hS hA 26 144 (Nat.le_of_ble_eq_true rfl) (Nat.le_of_ble_eq_true rfl) (Nat.le_of_ble_eq_true rfl) (Nat.le_of_ble_eq_true rfl) dX2_init_36 (fun q254 H hP hD hS => ?_)
  have hP : va_P (dC, dI) vwCl [(a0, .inr (2, [.ref q181, .int 0, .int 0])), (q181, .inl (cy 4, 20, .inr (.inr (.inr (.inr f253))))), (q254, .inr (6, [.int 0, .int 0, .int 0, .null]))] H := hP
  have hD : va_D A [(a0, .inr (2, [.ref q181, .int 0, .int 0])), (q181, .inl (cy 4, 20, .inr (.inr (.inr (.inr f253))))), (q254, .inr (6, [.int 0, .int 0, .int 0, .null]))] := hD
  refine lv_dup hx hb dX2_init_39 rfl ?_
  refine k_jv hP hD hS hA [2] [0, 1] (wr := [(a0, .inr (2, [.ref q181, .int 0, .int 0])), (q181, .inl (cy 4, 20, .inr (.inr (.inr (.inr f253)))))]) rfl rfl (by decide) (by decide) (by decide) 27 150 (Nat.le_of_ble_eq_true rfl) (Nat.le_of_ble_eq_true rfl) (fun hPc hDc => k_runN (As := []) (rest := [.ref q254, .int 12, .ref q181]) C0 (c_X6_init l dC dI cy sq q254) mN_X6_init (C0.2.2.2.2.2.2.2.2.2.2.1) hPc hDc hl rfl rfl (Nat.le_of_ble_eq_true rfl) ⟨(Nat.le_of_ble_eq_true rfl), (Nat.le_of_ble_eq_true rfl)⟩ ⟨(Nat.le_of_ble_eq_true rfl), (Nat.le_of_ble_eq_true rfl)⟩ dX2_init_40) (fun u257 H locs hw hP hD hS => ?_)
  obtain ⟨q258, eq258⟩ : ∃ z, z = u257 := ⟨_, rfl⟩; subst eq258
  try dsimp only at hP hD
  have hP : va_P (dC, dI) vwCl [(a0, .inr (2, [.ref q181, .int 0, .int 0])), (q181, .inl (cy 4, 20, .inr (.inr (.inr (.inr f253))))), (q254, .inr (6, [.int 0, .int 0, .int 0, .ref q258]))] H := hP
  have hD : va_D A [(a0, .inr (2, [.ref q181, .int 0, .int 0])), (q181, .inl (cy 4, 20, .inr (.inr (.inr (.inr f253))))), (q254, .inr (6, [.int 0, .int 0, .int 0, .ref q258]))] := hD
  refine va_astq hx hb C0.2.2.2.2.2.1 hP hD hS 1 4 2 6 rfl rfl rfl rfl (k_in 12 20 (by decide)) dX2_init_43 (fun H locs hP hD hS => ?_)
  have hP : va_P (dC, dI) vwCl [(a0, .inr (2, [.ref q181, .int 0, .int 0])), (q181, .inl (cy 4, 20, .inr (.inr (.inr (.inr (va_up f253 (Int32.toNatClampNeg 12) (some q254))))))), (q254, .inr (6, [.int 0, .int 0, .int 0, .ref q258]))] H := hP
  have hD : va_D A [(a0, .inr (2, [.ref q181, .int 0, .int 0])), (q181, .inl (cy 4, 20, .inr (.inr (.inr (.inr (va_up f253 (Int32.toNatClampNeg 12) (some q254))))))), (q254, .inr (6, [.int 0, .int 0, .int 0, .ref q258]))] := hD
  generalize va_up f253 (Int32.toNatClampNeg 12) (some q254) = f259 at hP hD
  have hP : va_P (dC, dI) vwCl [(a0, .inr (2, [.ref q181, .int 0, .int 0])), (q181, .inl (cy 4, 20, .inr (.inr (.inr (.inr f259)))))] H := hP.sub [0, 1] rfl
  have hD : va_D A [(a0, .inr (2, [.ref q181, .int 0, .int 0])), (q181, .inl (cy 4, 20, .inr (.inr (.inr (.inr f259)))))] := hD.sub [0, 1] (by decide) rfl
  refine lv_iinc (v := 13) (lv' := [(1, .int 13), (0, .ref a0)]) hx hb dX2_init_44 hl (k := 0) rfl (by decide) (by decide) rfl (fun ls hl => ?_)
  refine lv_goto (tgt := 25) hx hb dX2_init_47 (by decide) ?_
  refine lv_iload_n hx hb dX2_init_25 rfl (lv_at hl 0 rfl) ?_
  refine lv_bipush (v := 20) hx hb dX2_init_26 (by decide) ?_
  refine lv_icmp_ge (tgt := 50) hx hb dX2_init_28 (by decide) (fun h9 => absurd h9 (by decide)) (fun _ => ?_)
  refine lv_aload_n hx hb dX2_init_31 rfl (lv_at hl 1 rfl) ?_
  refine k_get C0 fg_X2_11 hP 0 rfl rfl dX2_init_32 ?_
  refine lv_iload_n hx hb dX2_init_35 rfl (lv_at hl 0 rfl) ?_
  refine k_new C0 n_X2_9 hP hD hS hA 28 154 (Nat.le_of_ble_eq_true rfl) (Nat.le_of_ble_eq_true rfl) (Nat.le_of_ble_eq_true rfl) (Nat.le_of_ble_eq_true rfl) dX2_init_36 (fun q260 H hP hD hS => ?_)
  have hP : va_P (dC, dI) vwCl [(a0, .inr (2, [.ref q181, .int 0, .int 0])), (q181, .inl (cy 4, 20, .inr (.inr (.inr (.inr f259))))), (q260, .inr (6, [.int 0, .int 0, .int 0, .null]))] H := hP
  have hD : va_D A [(a0, .inr (2, [.ref q181, .int 0, .int 0])), (q181, .inl (cy 4, 20, .inr (.inr (.inr (.inr f259))))), (q260, .inr (6, [.int 0, .int 0, .int 0, .null]))] := hD
  refine lv_dup hx hb dX2_init_39 rfl ?_
  refine k_jv hP hD hS hA [2] [0, 1] (wr := [(a0, .inr (2, [.ref q181, .int 0, .int 0])), (q181, .inl (cy 4, 20, .inr (.inr (.inr (.inr f259)))))]) rfl rfl (by decide) (by decide) (by decide) 29 160 (Nat.le_of_ble_eq_true rfl) (Nat.le_of_ble_eq_true rfl) (fun hPc hDc => k_runN (As := []) (rest := [.ref q260, .int 13, .ref q181]) C0 (c_X6_init l dC dI cy sq q260) mN_X6_init (C0.2.2.2.2.2.2.2.2.2.2.1) hPc hDc hl rfl rfl (Nat.le_of_ble_eq_true rfl) ⟨(Nat.le_of_ble_eq_true rfl), (Nat.le_of_ble_eq_true rfl)⟩ ⟨(Nat.le_of_ble_eq_true rfl), (Nat.le_of_ble_eq_true rfl)⟩ dX2_init_40) (fun u263 H locs hw hP hD hS => ?_)
  obtain ⟨q264, eq264⟩ : ∃ z, z = u263 := ⟨_, rfl⟩; subst eq264
  try dsimp only at hP hD
  have hP : va_P (dC, dI) vwCl [(a0, .inr (2, [.ref q181, .int 0, .int 0])), (q181, .inl (cy 4, 20, .inr (.inr (.inr (.inr f259))))), (q260, .inr (6, [.int 0, .int 0, .int 0, .ref q264]))] H := hP
  have hD : va_D A [(a0, .inr (2, [.ref q181, .int 0, .int 0])), (q181, .inl (cy 4, 20, .inr (.inr (.inr (.inr f259))))), (q260, .inr (6, [.int 0, .int 0, .int 0, .ref q264]))] := hD
  refine va_astq hx hb C0.2.2.2.2.2.1 hP hD hS 1 4 2 6 rfl rfl rfl rfl (k_in 13 20 (by decide)) dX2_init_43 (fun H locs hP hD hS => ?_)
  have hP : va_P (dC, dI) vwCl [(a0, .inr (2, [.ref q181, .int 0, .int 0])), (q181, .inl (cy 4, 20, .inr (.inr (.inr (.inr (va_up f259 (Int32.toNatClampNeg 13) (some q260))))))), (q260, .inr (6, [.int 0, .int 0, .int 0, .ref q264]))] H := hP
  have hD : va_D A [(a0, .inr (2, [.ref q181, .int 0, .int 0])), (q181, .inl (cy 4, 20, .inr (.inr (.inr (.inr (va_up f259 (Int32.toNatClampNeg 13) (some q260))))))), (q260, .inr (6, [.int 0, .int 0, .int 0, .ref q264]))] := hD
  generalize va_up f259 (Int32.toNatClampNeg 13) (some q260) = f265 at hP hD
  have hP : va_P (dC, dI) vwCl [(a0, .inr (2, [.ref q181, .int 0, .int 0])), (q181, .inl (cy 4, 20, .inr (.inr (.inr (.inr f265)))))] H := hP.sub [0, 1] rfl
  have hD : va_D A [(a0, .inr (2, [.ref q181, .int 0, .int 0])), (q181, .inl (cy 4, 20, .inr (.inr (.inr (.inr f265)))))] := hD.sub [0, 1] (by decide) rfl
  refine lv_iinc (v := 14) (lv' := [(1, .int 14), (0, .ref a0)]) hx hb dX2_init_44 hl (k := 0) rfl (by decide) (by decide) rfl (fun ls hl => ?_)
  refine lv_goto (tgt := 25) hx hb dX2_init_47 (by decide) ?_
  refine lv_iload_n hx hb dX2_init_25 rfl (lv_at hl 0 rfl) ?_
  refine lv_bipush (v := 20) hx hb dX2_init_26 (by decide) ?_
  refine lv_icmp_ge (tgt := 50) hx hb dX2_init_28 (by decide) (fun h9 => absurd h9 (by decide)) (fun _ => ?_)
  refine lv_aload_n hx hb dX2_init_31 rfl (lv_at hl 1 rfl) ?_
  refine k_get C0 fg_X2_11 hP 0 rfl rfl dX2_init_32 ?_
  refine lv_iload_n hx hb dX2_init_35 rfl (lv_at hl 0 rfl) ?_
  refine k_new C0 n_X2_9 hP hD hS hA 30 164 (Nat.le_of_ble_eq_true rfl) (Nat.le_of_ble_eq_true rfl) (Nat.le_of_ble_eq_true rfl) (Nat.le_of_ble_eq_true rfl) dX2_init_36 (fun q266 H hP hD hS => ?_)
  have hP : va_P (dC, dI) vwCl [(a0, .inr (2, [.ref q181, .int 0, .int 0])), (q181, .inl (cy 4, 20, .inr (.inr (.inr (.inr f265))))), (q266, .inr (6, [.int 0, .int 0, .int 0, .null]))] H := hP
  have hD : va_D A [(a0, .inr (2, [.ref q181, .int 0, .int 0])), (q181, .inl (cy 4, 20, .inr (.inr (.inr (.inr f265))))), (q266, .inr (6, [.int 0, .int 0, .int 0, .null]))] := hD
  refine lv_dup hx hb dX2_init_39 rfl ?_
  refine k_jv hP hD hS hA [2] [0, 1] (wr := [(a0, .inr (2, [.ref q181, .int 0, .int 0])), (q181, .inl (cy 4, 20, .inr (.inr (.inr (.inr f265)))))]) rfl rfl (by decide) (by decide) (by decide) 31 170 (Nat.le_of_ble_eq_true rfl) (Nat.le_of_ble_eq_true rfl) (fun hPc hDc => k_runN (As := []) (rest := [.ref q266, .int 14, .ref q181]) C0 (c_X6_init l dC dI cy sq q266) mN_X6_init (C0.2.2.2.2.2.2.2.2.2.2.1) hPc hDc hl rfl rfl (Nat.le_of_ble_eq_true rfl) ⟨(Nat.le_of_ble_eq_true rfl), (Nat.le_of_ble_eq_true rfl)⟩ ⟨(Nat.le_of_ble_eq_true rfl), (Nat.le_of_ble_eq_true rfl)⟩ dX2_init_40) (fun u269 H locs hw hP hD hS => ?_)
  obtain ⟨q270, eq270⟩ : ∃ z, z = u269 := ⟨_, rfl⟩; subst eq270
  try dsimp only at hP hD
  have hP : va_P (dC, dI) vwCl [(a0, .inr (2, [.ref q181, .int 0, .int 0])), (q181, .inl (cy 4, 20, .inr (.inr (.inr (.inr f265))))), (q266, .inr (6, [.int 0, .int 0, .int 0, .ref q270]))] H := hP
  have hD : va_D A [(a0, .inr (2, [.ref q181, .int 0, .int 0])), (q181, .inl (cy 4, 20, .inr (.inr (.inr (.inr f265))))), (q266, .inr (6, [.int 0, .int 0, .int 0, .ref q270]))] := hD
  refine va_astq hx hb C0.2.2.2.2.2.1 hP hD hS 1 4 2 6 rfl rfl rfl rfl (k_in 14 20 (by decide)) dX2_init_43 (fun H locs hP hD hS => ?_)
  have hP : va_P (dC, dI) vwCl [(a0, .inr (2, [.ref q181, .int 0, .int 0])), (q181, .inl (cy 4, 20, .inr (.inr (.inr (.inr (va_up f265 (Int32.toNatClampNeg 14) (some q266))))))), (q266, .inr (6, [.int 0, .int 0, .int 0, .ref q270]))] H := hP
  have hD : va_D A [(a0, .inr (2, [.ref q181, .int 0, .int 0])), (q181, .inl (cy 4, 20, .inr (.inr (.inr (.inr (va_up f265 (Int32.toNatClampNeg 14) (some q266))))))), (q266, .inr (6, [.int 0, .int 0, .int 0, .ref q270]))] := hD
  generalize va_up f265 (Int32.toNatClampNeg 14) (some q266) = f271 at hP hD
  have hP : va_P (dC, dI) vwCl [(a0, .inr (2, [.ref q181, .int 0, .int 0])), (q181, .inl (cy 4, 20, .inr (.inr (.inr (.inr f271)))))] H := hP.sub [0, 1] rfl
  have hD : va_D A [(a0, .inr (2, [.ref q181, .int 0, .int 0])), (q181, .inl (cy 4, 20, .inr (.inr (.inr (.inr f271)))))] := hD.sub [0, 1] (by decide) rfl
  refine lv_iinc (v := 15) (lv' := [(1, .int 15), (0, .ref a0)]) hx hb dX2_init_44 hl (k := 0) rfl (by decide) (by decide) rfl (fun ls hl => ?_)
  refine lv_goto (tgt := 25) hx hb dX2_init_47 (by decide) ?_
  refine lv_iload_n hx hb dX2_init_25 rfl (lv_at hl 0 rfl) ?_
  refine lv_bipush (v := 20) hx hb dX2_init_26 (by decide) ?_
  refine lv_icmp_ge (tgt := 50) hx hb dX2_init_28 (by decide) (fun h9 => absurd h9 (by decide)) (fun _ => ?_)
  refine lv_aload_n hx hb dX2_init_31 rfl (lv_at hl 1 rfl) ?_
  refine k_get C0 fg_X2_11 hP 0 rfl rfl dX2_init_32 ?_
  refine lv_iload_n hx hb dX2_init_35 rfl (lv_at hl 0 rfl) ?_
  refine k_new C0 n_X2_9 hP hD hS hA 32 174 (Nat.le_of_ble_eq_true rfl) (Nat.le_of_ble_eq_true rfl) (Nat.le_of_ble_eq_true rfl) (Nat.le_of_ble_eq_true rfl) dX2_init_36 (fun q272 H hP hD hS => ?_)
  have hP : va_P (dC, dI) vwCl [(a0, .inr (2, [.ref q181, .int 0, .int 0])), (q181, .inl (cy 4, 20, .inr (.inr (.inr (.inr f271))))), (q272, .inr (6, [.int 0, .int 0, .int 0, .null]))] H := hP
  have hD : va_D A [(a0, .inr (2, [.ref q181, .int 0, .int 0])), (q181, .inl (cy 4, 20, .inr (.inr (.inr (.inr f271))))), (q272, .inr (6, [.int 0, .int 0, .int 0, .null]))] := hD
  refine lv_dup hx hb dX2_init_39 rfl ?_
  refine k_jv hP hD hS hA [2] [0, 1] (wr := [(a0, .inr (2, [.ref q181, .int 0, .int 0])), (q181, .inl (cy 4, 20, .inr (.inr (.inr (.inr f271)))))]) rfl rfl (by decide) (by decide) (by decide) 33 180 (Nat.le_of_ble_eq_true rfl) (Nat.le_of_ble_eq_true rfl) (fun hPc hDc => k_runN (As := []) (rest := [.ref q272, .int 15, .ref q181]) C0 (c_X6_init l dC dI cy sq q272) mN_X6_init (C0.2.2.2.2.2.2.2.2.2.2.1) hPc hDc hl rfl rfl (Nat.le_of_ble_eq_true rfl) ⟨(Nat.le_of_ble_eq_true rfl), (Nat.le_of_ble_eq_true rfl)⟩ ⟨(Nat.le_of_ble_eq_true rfl), (Nat.le_of_ble_eq_true rfl)⟩ dX2_init_40) (fun u275 H locs hw hP hD hS => ?_)
  obtain ⟨q276, eq276⟩ : ∃ z, z = u275 := ⟨_, rfl⟩; subst eq276
  try dsimp only at hP hD
  have hP : va_P (dC, dI) vwCl [(a0, .inr (2, [.ref q181, .int 0, .int 0])), (q181, .inl (cy 4, 20, .inr (.inr (.inr (.inr f271))))), (q272, .inr (6, [.int 0, .int 0, .int 0, .ref q276]))] H := hP
  have hD : va_D A [(a0, .inr (2, [.ref q181, .int 0, .int 0])), (q181, .inl (cy 4, 20, .inr (.inr (.inr (.inr f271))))), (q272, .inr (6, [.int 0, .int 0, .int 0, .ref q276]))] := hD
  refine va_astq hx hb C0.2.2.2.2.2.1 hP hD hS 1 4 2 6 rfl rfl rfl rfl (k_in 15 20 (by decide)) dX2_init_43 (fun H locs hP hD hS => ?_)
  have hP : va_P (dC, dI) vwCl [(a0, .inr (2, [.ref q181, .int 0, .int 0])), (q181, .inl (cy 4, 20, .inr (.inr (.inr (.inr (va_up f271 (Int32.toNatClampNeg 15) (some q272))))))), (q272, .inr (6, [.int 0, .int 0, .int 0, .ref q276]))] H := hP
  have hD : va_D A [(a0, .inr (2, [.ref q181, .int 0, .int 0])), (q181, .inl (cy 4, 20, .inr (.inr (.inr (.inr (va_up f271 (Int32.toNatClampNeg 15) (some q272))))))), (q272, .inr (6, [.int 0, .int 0, .int 0, .ref q276]))] := hD
  generalize va_up f271 (Int32.toNatClampNeg 15) (some q272) = f277 at hP hD
  have hP : va_P (dC, dI) vwCl [(a0, .inr (2, [.ref q181, .int 0, .int 0])), (q181, .inl (cy 4, 20, .inr (.inr (.inr (.inr f277)))))] H := hP.sub [0, 1] rfl
  have hD : va_D A [(a0, .inr (2, [.ref q181, .int 0, .int 0])), (q181, .inl (cy 4, 20, .inr (.inr (.inr (.inr f277)))))] := hD.sub [0, 1] (by decide) rfl
  refine lv_iinc (v := 16) (lv' := [(1, .int 16), (0, .ref a0)]) hx hb dX2_init_44 hl (k := 0) rfl (by decide) (by decide) rfl (fun ls hl => ?_)
  refine lv_goto (tgt := 25) hx hb dX2_init_47 (by decide) ?_
  refine lv_iload_n hx hb dX2_init_25 rfl (lv_at hl 0 rfl) ?_
  refine lv_bipush (v := 20) hx hb dX2_init_26 (by decide) ?_
  refine lv_icmp_ge (tgt := 50) hx hb dX2_init_28 (by decide) (fun h9 => absurd h9 (by decide)) (fun _ => ?_)
  refine lv_aload_n hx hb dX2_init_31 rfl (lv_at hl 1 rfl) ?_
  refine k_get C0 fg_X2_11 hP 0 rfl rfl dX2_init_32 ?_
  refine lv_iload_n hx hb dX2_init_35 rfl (lv_at hl 0 rfl) ?_
  refine k_new C0 n_X2_9 hP hD hS hA 34 184 (Nat.le_of_ble_eq_true rfl) (Nat.le_of_ble_eq_true rfl) (Nat.le_of_ble_eq_true rfl) (Nat.le_of_ble_eq_true rfl) dX2_init_36 (fun q278 H hP hD hS => ?_)
  have hP : va_P (dC, dI) vwCl [(a0, .inr (2, [.ref q181, .int 0, .int 0])), (q181, .inl (cy 4, 20, .inr (.inr (.inr (.inr f277))))), (q278, .inr (6, [.int 0, .int 0, .int 0, .null]))] H := hP
  have hD : va_D A [(a0, .inr (2, [.ref q181, .int 0, .int 0])), (q181, .inl (cy 4, 20, .inr (.inr (.inr (.inr f277))))), (q278, .inr (6, [.int 0, .int 0, .int 0, .null]))] := hD
  refine lv_dup hx hb dX2_init_39 rfl ?_
  refine k_jv hP hD hS hA [2] [0, 1] (wr := [(a0, .inr (2, [.ref q181, .int 0, .int 0])), (q181, .inl (cy 4, 20, .inr (.inr (.inr (.inr f277)))))]) rfl rfl (by decide) (by decide) (by decide) 35 190 (Nat.le_of_ble_eq_true rfl) (Nat.le_of_ble_eq_true rfl) (fun hPc hDc => k_runN (As := []) (rest := [.ref q278, .int 16, .ref q181]) C0 (c_X6_init l dC dI cy sq q278) mN_X6_init (C0.2.2.2.2.2.2.2.2.2.2.1) hPc hDc hl rfl rfl (Nat.le_of_ble_eq_true rfl) ⟨(Nat.le_of_ble_eq_true rfl), (Nat.le_of_ble_eq_true rfl)⟩ ⟨(Nat.le_of_ble_eq_true rfl), (Nat.le_of_ble_eq_true rfl)⟩ dX2_init_40) (fun u281 H locs hw hP hD hS => ?_)
  obtain ⟨q282, eq282⟩ : ∃ z, z = u281 := ⟨_, rfl⟩; subst eq282
  try dsimp only at hP hD
  have hP : va_P (dC, dI) vwCl [(a0, .inr (2, [.ref q181, .int 0, .int 0])), (q181, .inl (cy 4, 20, .inr (.inr (.inr (.inr f277))))), (q278, .inr (6, [.int 0, .int 0, .int 0, .ref q282]))] H := hP
  have hD : va_D A [(a0, .inr (2, [.ref q181, .int 0, .int 0])), (q181, .inl (cy 4, 20, .inr (.inr (.inr (.inr f277))))), (q278, .inr (6, [.int 0, .int 0, .int 0, .ref q282]))] := hD
  refine va_astq hx hb C0.2.2.2.2.2.1 hP hD hS 1 4 2 6 rfl rfl rfl rfl (k_in 16 20 (by decide)) dX2_init_43 (fun H locs hP hD hS => ?_)
  have hP : va_P (dC, dI) vwCl [(a0, .inr (2, [.ref q181, .int 0, .int 0])), (q181, .inl (cy 4, 20, .inr (.inr (.inr (.inr (va_up f277 (Int32.toNatClampNeg 16) (some q278))))))), (q278, .inr (6, [.int 0, .int 0, .int 0, .ref q282]))] H := hP
  have hD : va_D A [(a0, .inr (2, [.ref q181, .int 0, .int 0])), (q181, .inl (cy 4, 20, .inr (.inr (.inr (.inr (va_up f277 (Int32.toNatClampNeg 16) (some q278))))))), (q278, .inr (6, [.int 0, .int 0, .int 0, .ref q282]))] := hD
  generalize va_up f277 (Int32.toNatClampNeg 16) (some q278) = f283 at hP hD
  have hP : va_P (dC, dI) vwCl [(a0, .inr (2, [.ref q181, .int 0, .int 0])), (q181, .inl (cy 4, 20, .inr (.inr (.inr (.inr f283)))))] H := hP.sub [0, 1] rfl
  have hD : va_D A [(a0, .inr (2, [.ref q181, .int 0, .int 0])), (q181, .inl (cy 4, 20, .inr (.inr (.inr (.inr f283)))))] := hD.sub [0, 1] (by decide) rfl
  refine lv_iinc (v := 17) (lv' := [(1, .int 17), (0, .ref a0)]) hx hb dX2_init_44 hl (k := 0) rfl (by decide) (by decide) rfl (fun ls hl => ?_)
  refine lv_goto (tgt := 25) hx hb dX2_init_47 (by decide) ?_
  refine lv_iload_n hx hb dX2_init_25 rfl (lv_at hl 0 rfl) ?_
  refine lv_bipush (v := 20) hx hb dX2_init_26 (by decide) ?_
  refine lv_icmp_ge (tgt := 50) hx hb dX2_init_28 (by decide) (fun h9 => absurd h9 (by decide)) (fun _ => ?_)
  refine lv_aload_n hx hb dX2_init_31 rfl (lv_at hl 1 rfl) ?_
  refine k_get C0 fg_X2_11 hP 0 rfl rfl dX2_init_32 ?_
  refine lv_iload_n hx hb dX2_init_35 rfl (lv_at hl 0 rfl) ?_
  refine k_new C0 n_X2_9 hP hD hS hA 36 194 (Nat.le_of_ble_eq_true rfl) (Nat.le_of_ble_eq_true rfl) (Nat.le_of_ble_eq_true rfl) (Nat.le_of_ble_eq_true rfl) dX2_init_36 (fun q284 H hP hD hS => ?_)
  have hP : va_P (dC, dI) vwCl [(a0, .inr (2, [.ref q181, .int 0, .int 0])), (q181, .inl (cy 4, 20, .inr (.inr (.inr (.inr f283))))), (q284, .inr (6, [.int 0, .int 0, .int 0, .null]))] H := hP
  have hD : va_D A [(a0, .inr (2, [.ref q181, .int 0, .int 0])), (q181, .inl (cy 4, 20, .inr (.inr (.inr (.inr f283))))), (q284, .inr (6, [.int 0, .int 0, .int 0, .null]))] := hD
  refine lv_dup hx hb dX2_init_39 rfl ?_
  refine k_jv hP hD hS hA [2] [0, 1] (wr := [(a0, .inr (2, [.ref q181, .int 0, .int 0])), (q181, .inl (cy 4, 20, .inr (.inr (.inr (.inr f283)))))]) rfl rfl (by decide) (by decide) (by decide) 37 200 (Nat.le_of_ble_eq_true rfl) (Nat.le_of_ble_eq_true rfl) (fun hPc hDc => k_runN (As := []) (rest := [.ref q284, .int 17, .ref q181]) C0 (c_X6_init l dC dI cy sq q284) mN_X6_init (C0.2.2.2.2.2.2.2.2.2.2.1) hPc hDc hl rfl rfl (Nat.le_of_ble_eq_true rfl) ⟨(Nat.le_of_ble_eq_true rfl), (Nat.le_of_ble_eq_true rfl)⟩ ⟨(Nat.le_of_ble_eq_true rfl), (Nat.le_of_ble_eq_true rfl)⟩ dX2_init_40) (fun u287 H locs hw hP hD hS => ?_)
  obtain ⟨q288, eq288⟩ : ∃ z, z = u287 := ⟨_, rfl⟩; subst eq288
  try dsimp only at hP hD
  have hP : va_P (dC, dI) vwCl [(a0, .inr (2, [.ref q181, .int 0, .int 0])), (q181, .inl (cy 4, 20, .inr (.inr (.inr (.inr f283))))), (q284, .inr (6, [.int 0, .int 0, .int 0, .ref q288]))] H := hP
  have hD : va_D A [(a0, .inr (2, [.ref q181, .int 0, .int 0])), (q181, .inl (cy 4, 20, .inr (.inr (.inr (.inr f283))))), (q284, .inr (6, [.int 0, .int 0, .int 0, .ref q288]))] := hD
  refine va_astq hx hb C0.2.2.2.2.2.1 hP hD hS 1 4 2 6 rfl rfl rfl rfl (k_in 17 20 (by decide)) dX2_init_43 (fun H locs hP hD hS => ?_)
  have hP : va_P (dC, dI) vwCl [(a0, .inr (2, [.ref q181, .int 0, .int 0])), (q181, .inl (cy 4, 20, .inr (.inr (.inr (.inr (va_up f283 (Int32.toNatClampNeg 17) (some q284))))))), (q284, .inr (6, [.int 0, .int 0, .int 0, .ref q288]))] H := hP
  have hD : va_D A [(a0, .inr (2, [.ref q181, .int 0, .int 0])), (q181, .inl (cy 4, 20, .inr (.inr (.inr (.inr (va_up f283 (Int32.toNatClampNeg 17) (some q284))))))), (q284, .inr (6, [.int 0, .int 0, .int 0, .ref q288]))] := hD
  generalize va_up f283 (Int32.toNatClampNeg 17) (some q284) = f289 at hP hD
  have hP : va_P (dC, dI) vwCl [(a0, .inr (2, [.ref q181, .int 0, .int 0])), (q181, .inl (cy 4, 20, .inr (.inr (.inr (.inr f289)))))] H := hP.sub [0, 1] rfl
  have hD : va_D A [(a0, .inr (2, [.ref q181, .int 0, .int 0])), (q181, .inl (cy 4, 20, .inr (.inr (.inr (.inr f289)))))] := hD.sub [0, 1] (by decide) rfl
  refine lv_iinc (v := 18) (lv' := [(1, .int 18), (0, .ref a0)]) hx hb dX2_init_44 hl (k := 0) rfl (by decide) (by decide) rfl (fun ls hl => ?_)
  refine lv_goto (tgt := 25) hx hb dX2_init_47 (by decide) ?_
  refine lv_iload_n hx hb dX2_init_25 rfl (lv_at hl 0 rfl) ?_
  refine lv_bipush (v := 20) hx hb dX2_init_26 (by decide) ?_
  refine lv_icmp_ge (tgt := 50) hx hb dX2_init_28 (by decide) (fun h9 => absurd h9 (by decide)) (fun _ => ?_)
  refine lv_aload_n hx hb dX2_init_31 rfl (lv_at hl 1 rfl) ?_
  refine k_get C0 fg_X2_11 hP 0 rfl rfl dX2_init_32 ?_
  refine lv_iload_n hx hb dX2_init_35 rfl (lv_at hl 0 rfl) ?_
  refine k_new C0 n_X2_9 hP hD hS hA 38 204 (Nat.le_of_ble_eq_true rfl) (Nat.le_of_ble_eq_true rfl) (Nat.le_of_ble_eq_true rfl) (Nat.le_of_ble_eq_true rfl) dX2_init_36 (fun q290 H hP hD hS => ?_)
  have hP : va_P (dC, dI) vwCl [(a0, .inr (2, [.ref q181, .int 0, .int 0])), (q181, .inl (cy 4, 20, .inr (.inr (.inr (.inr f289))))), (q290, .inr (6, [.int 0, .int 0, .int 0, .null]))] H := hP
  have hD : va_D A [(a0, .inr (2, [.ref q181, .int 0, .int 0])), (q181, .inl (cy 4, 20, .inr (.inr (.inr (.inr f289))))), (q290, .inr (6, [.int 0, .int 0, .int 0, .null]))] := hD
  refine lv_dup hx hb dX2_init_39 rfl ?_
  refine k_jv hP hD hS hA [2] [0, 1] (wr := [(a0, .inr (2, [.ref q181, .int 0, .int 0])), (q181, .inl (cy 4, 20, .inr (.inr (.inr (.inr f289)))))]) rfl rfl (by decide) (by decide) (by decide) 39 210 (Nat.le_of_ble_eq_true rfl) (Nat.le_of_ble_eq_true rfl) (fun hPc hDc => k_runN (As := []) (rest := [.ref q290, .int 18, .ref q181]) C0 (c_X6_init l dC dI cy sq q290) mN_X6_init (C0.2.2.2.2.2.2.2.2.2.2.1) hPc hDc hl rfl rfl (Nat.le_of_ble_eq_true rfl) ⟨(Nat.le_of_ble_eq_true rfl), (Nat.le_of_ble_eq_true rfl)⟩ ⟨(Nat.le_of_ble_eq_true rfl), (Nat.le_of_ble_eq_true rfl)⟩ dX2_init_40) (fun u293 H locs hw hP hD hS => ?_)
  obtain ⟨q294, eq294⟩ : ∃ z, z = u293 := ⟨_, rfl⟩; subst eq294
  try dsimp only at hP hD
  have hP : va_P (dC, dI) vwCl [(a0, .inr (2, [.ref q181, .int 0, .int 0])), (q181, .inl (cy 4, 20, .inr (.inr (.inr (.inr f289))))), (q290, .inr (6, [.int 0, .int 0, .int 0, .ref q294]))] H := hP
  have hD : va_D A [(a0, .inr (2, [.ref q181, .int 0, .int 0])), (q181, .inl (cy 4, 20, .inr (.inr (.inr (.inr f289))))), (q290, .inr (6, [.int 0, .int 0, .int 0, .ref q294]))] := hD
  refine va_astq hx hb C0.2.2.2.2.2.1 hP hD hS 1 4 2 6 rfl rfl rfl rfl (k_in 18 20 (by decide)) dX2_init_43 (fun H locs hP hD hS => ?_)
  have hP : va_P (dC, dI) vwCl [(a0, .inr (2, [.ref q181, .int 0, .int 0])), (q181, .inl (cy 4, 20, .inr (.inr (.inr (.inr (va_up f289 (Int32.toNatClampNeg 18) (some q290))))))), (q290, .inr (6, [.int 0, .int 0, .int 0, .ref q294]))] H := hP
  have hD : va_D A [(a0, .inr (2, [.ref q181, .int 0, .int 0])), (q181, .inl (cy 4, 20, .inr (.inr (.inr (.inr (va_up f289 (Int32.toNatClampNeg 18) (some q290))))))), (q290, .inr (6, [.int 0, .int 0, .int 0, .ref q294]))] := hD
  generalize va_up f289 (Int32.toNatClampNeg 18) (some q290) = f295 at hP hD
  have hP : va_P (dC, dI) vwCl [(a0, .inr (2, [.ref q181, .int 0, .int 0])), (q181, .inl (cy 4, 20, .inr (.inr (.inr (.inr f295)))))] H := hP.sub [0, 1] rfl
  have hD : va_D A [(a0, .inr (2, [.ref q181, .int 0, .int 0])), (q181, .inl (cy 4, 20, .inr (.inr (.inr (.inr f295)))))] := hD.sub [0, 1] (by decide) rfl
  refine lv_iinc (v := 19) (lv' := [(1, .int 19), (0, .ref a0)]) hx hb dX2_init_44 hl (k := 0) rfl (by decide) (by decide) rfl (fun ls hl => ?_)
  refine lv_goto (tgt := 25) hx hb dX2_init_47 (by decide) ?_
  refine lv_iload_n hx hb dX2_init_25 rfl (lv_at hl 0 rfl) ?_
  refine lv_bipush (v := 20) hx hb dX2_init_26 (by decide) ?_
  refine lv_icmp_ge (tgt := 50) hx hb dX2_init_28 (by decide) (fun h9 => absurd h9 (by decide)) (fun _ => ?_)
  refine lv_aload_n hx hb dX2_init_31 rfl (lv_at hl 1 rfl) ?_
  refine k_get C0 fg_X2_11 hP 0 rfl rfl dX2_init_32 ?_
  refine lv_iload_n hx hb dX2_init_35 rfl (lv_at hl 0 rfl) ?_
  refine k_new C0 n_X2_9 hP hD hS hA 40 214 (Nat.le_of_ble_eq_true rfl) (Nat.le_of_ble_eq_true rfl) (Nat.le_of_ble_eq_true rfl) (Nat.le_of_ble_eq_true rfl) dX2_init_36 (fun q296 H hP hD hS => ?_)
  have hP : va_P (dC, dI) vwCl [(a0, .inr (2, [.ref q181, .int 0, .int 0])), (q181, .inl (cy 4, 20, .inr (.inr (.inr (.inr f295))))), (q296, .inr (6, [.int 0, .int 0, .int 0, .null]))] H := hP
  have hD : va_D A [(a0, .inr (2, [.ref q181, .int 0, .int 0])), (q181, .inl (cy 4, 20, .inr (.inr (.inr (.inr f295))))), (q296, .inr (6, [.int 0, .int 0, .int 0, .null]))] := hD
  refine lv_dup hx hb dX2_init_39 rfl ?_
  refine k_jv hP hD hS hA [2] [0, 1] (wr := [(a0, .inr (2, [.ref q181, .int 0, .int 0])), (q181, .inl (cy 4, 20, .inr (.inr (.inr (.inr f295)))))]) rfl rfl (by decide) (by decide) (by decide) 41 220 (Nat.le_of_ble_eq_true rfl) (Nat.le_of_ble_eq_true rfl) (fun hPc hDc => k_runN (As := []) (rest := [.ref q296, .int 19, .ref q181]) C0 (c_X6_init l dC dI cy sq q296) mN_X6_init (C0.2.2.2.2.2.2.2.2.2.2.1) hPc hDc hl rfl rfl (Nat.le_of_ble_eq_true rfl) ⟨(Nat.le_of_ble_eq_true rfl), (Nat.le_of_ble_eq_true rfl)⟩ ⟨(Nat.le_of_ble_eq_true rfl), (Nat.le_of_ble_eq_true rfl)⟩ dX2_init_40) (fun u299 H locs hw hP hD hS => ?_)
  obtain ⟨q300, eq300⟩ : ∃ z, z = u299 := ⟨_, rfl⟩; subst eq300
  try dsimp only at hP hD
  have hP : va_P (dC, dI) vwCl [(a0, .inr (2, [.ref q181, .int 0, .int 0])), (q181, .inl (cy 4, 20, .inr (.inr (.inr (.inr f295))))), (q296, .inr (6, [.int 0, .int 0, .int 0, .ref q300]))] H := hP
  have hD : va_D A [(a0, .inr (2, [.ref q181, .int 0, .int 0])), (q181, .inl (cy 4, 20, .inr (.inr (.inr (.inr f295))))), (q296, .inr (6, [.int 0, .int 0, .int 0, .ref q300]))] := hD
  refine va_astq hx hb C0.2.2.2.2.2.1 hP hD hS 1 4 2 6 rfl rfl rfl rfl (k_in 19 20 (by decide)) dX2_init_43 (fun H locs hP hD hS => ?_)
  have hP : va_P (dC, dI) vwCl [(a0, .inr (2, [.ref q181, .int 0, .int 0])), (q181, .inl (cy 4, 20, .inr (.inr (.inr (.inr (va_up f295 (Int32.toNatClampNeg 19) (some q296))))))), (q296, .inr (6, [.int 0, .int 0, .int 0, .ref q300]))] H := hP
  have hD : va_D A [(a0, .inr (2, [.ref q181, .int 0, .int 0])), (q181, .inl (cy 4, 20, .inr (.inr (.inr (.inr (va_up f295 (Int32.toNatClampNeg 19) (some q296))))))), (q296, .inr (6, [.int 0, .int 0, .int 0, .ref q300]))] := hD
  generalize va_up f295 (Int32.toNatClampNeg 19) (some q296) = f301 at hP hD
  have hP : va_P (dC, dI) vwCl [(a0, .inr (2, [.ref q181, .int 0, .int 0])), (q181, .inl (cy 4, 20, .inr (.inr (.inr (.inr f301)))))] H := hP.sub [0, 1] rfl
  have hD : va_D A [(a0, .inr (2, [.ref q181, .int 0, .int 0])), (q181, .inl (cy 4, 20, .inr (.inr (.inr (.inr f301)))))] := hD.sub [0, 1] (by decide) rfl
  refine lv_iinc (v := 20) (lv' := [(1, .int 20), (0, .ref a0)]) hx hb dX2_init_44 hl (k := 0) rfl (by decide) (by decide) rfl (fun ls hl => ?_)
  refine lv_goto (tgt := 25) hx hb dX2_init_47 (by decide) ?_
  refine lv_iload_n hx hb dX2_init_25 rfl (lv_at hl 0 rfl) ?_
  refine lv_bipush (v := 20) hx hb dX2_init_26 (by decide) ?_
  refine lv_icmp_ge (tgt := 50) hx hb dX2_init_28 (by decide) (fun _ => ?_) (fun h9 => absurd (by decide) h9)
  exact k_vret hx hb hr hlk q181 hS True.intro (hP.sub [0] rfl) (hD.sub [0] (by decide) rfl) (Nat.le_of_ble_eq_true rfl) (Nat.le_of_ble_eq_true rfl) dX2_init_50
set_option maxHeartbeats 4000000 in
set_option maxRecDepth 100000 in
theorem c_X3_init (l : Launch) (dC : Nat → ClassId) (dI : Nat → Nat → Nat) (cy : Nat → ClassId) (sq : Nat → Nat) (a0 : Nat) : k_Met l yX3_init cX3_init 1 none { frames := 1, cells := 2, slots := 77, locals := 12 } dC dI cy sq [.ref a0] [(a0, .inr (3, [.null, .null]))] (k_Qv dC dI (fun _ : Nat × Nat => True) (fun u : Nat × Nat => match u with | (q308, q309) => [(a0, .inr (3, [.ref q308, .ref q309]))])) := by
  refine k_ofW (by decide +kernel) (Nat.le_of_ble_eq_true rfl) ?_
  intro p e s m below meth c A ls H locs C0 hr hlk hin hP hD hA hS hl
  have C0 : k_cx p s m _ c cX3_init 1 RX3 dC dI cy sq := C0
  have hx := C0.1
  have hb := C0.2.1
  have hl : lv_has ls 1 [(0, .ref a0)] := hl
  refine lv_aload_n hx hb dX3_init_0 rfl (lv_at hl 0 rfl) ?_
  refine k_obj C0 wd85 wd10 wd11 hl dX3_init_1 (Nat.le_of_ble_eq_true rfl) (Nat.le_of_ble_eq_true rfl) ?_
  refine lv_aload_n hx hb dX3_init_4 rfl (lv_at hl 0 rfl) ?_
  refine lv_bipush (v := 13) hx hb dX3_init_5 (by decide) ?_
  refine k_newa C0 0 (ty := .int) rfl (atype := .int) rfl wd12 hP hD hS hA (a0 := (13, .inl (fun _ => 0))) (fun _ => rfl) (by decide) (by decide) (Nat.le_of_ble_eq_true rfl) 1 13 (Nat.le_of_ble_eq_true rfl) (Nat.le_of_ble_eq_true rfl) (Nat.le_of_ble_eq_true rfl) (Nat.le_of_ble_eq_true rfl) dX3_init_7 (fun q308 H hP hD hS => ?_)
  have hP : va_P (dC, dI) vwCl [(a0, .inr (3, [.null, .null])), (q308, .inl (cy 0, 13, .inl (fun _ => 0)))] H := hP
  have hD : va_D A [(a0, .inr (3, [.null, .null])), (q308, .inl (cy 0, 13, .inl (fun _ => 0)))] := hD
  refine k_putF C0 hin fp_X3_9 hP hD hS 0 rfl rfl rfl (Nat.le_of_ble_eq_true rfl) dX3_init_9 (fun H locs hP hD hS => ?_)
  have hP : va_P (dC, dI) vwCl [(a0, .inr (3, [.ref q308, .null])), (q308, .inl (cy 0, 13, .inl (fun _ => 0)))] H := hP
  have hD : va_D A [(a0, .inr (3, [.ref q308, .null])), (q308, .inl (cy 0, 13, .inl (fun _ => 0)))] := hD
  refine lv_aload_n hx hb dX3_init_12 rfl (lv_at hl 0 rfl) ?_
  refine lv_bipush (v := 64) hx hb dX3_init_13 (by decide) ?_
  refine k_newa C0 0 (ty := .int) rfl (atype := .int) rfl wd12 hP hD hS hA (a0 := (64, .inl (fun _ => 0))) (fun _ => rfl) (by decide) (by decide) (Nat.le_of_ble_eq_true rfl) 2 77 (Nat.le_of_ble_eq_true rfl) (Nat.le_of_ble_eq_true rfl) (Nat.le_of_ble_eq_true rfl) (Nat.le_of_ble_eq_true rfl) dX3_init_15 (fun q309 H hP hD hS => ?_)
  have hP : va_P (dC, dI) vwCl [(a0, .inr (3, [.ref q308, .null])), (q308, .inl (cy 0, 13, .inl (fun _ => 0))), (q309, .inl (cy 0, 64, .inl (fun _ => 0)))] H := hP
  have hD : va_D A [(a0, .inr (3, [.ref q308, .null])), (q308, .inl (cy 0, 13, .inl (fun _ => 0))), (q309, .inl (cy 0, 64, .inl (fun _ => 0)))] := hD
  refine k_putF C0 hin fp_X3_15 hP hD hS 0 rfl rfl rfl (Nat.le_of_ble_eq_true rfl) dX3_init_17 (fun H locs hP hD hS => ?_)
  have hP : va_P (dC, dI) vwCl [(a0, .inr (3, [.ref q308, .ref q309])), (q308, .inl (cy 0, 13, .inl (fun _ => 0))), (q309, .inl (cy 0, 64, .inl (fun _ => 0)))] H := hP
  have hD : va_D A [(a0, .inr (3, [.ref q308, .ref q309])), (q308, .inl (cy 0, 13, .inl (fun _ => 0))), (q309, .inl (cy 0, 64, .inl (fun _ => 0)))] := hD
  exact k_vret hx hb hr hlk (q308, q309) hS True.intro (hP.sub [0] rfl) (hD.sub [0] (by decide) rfl) (Nat.le_of_ble_eq_true rfl) (Nat.le_of_ble_eq_true rfl) dX3_init_20
set_option maxHeartbeats 4000000 in
set_option maxRecDepth 100000 in
theorem c_X5_init (l : Launch) (dC : Nat → ClassId) (dI : Nat → Nat → Nat) (cy : Nat → ClassId) (sq : Nat → Nat) (a0 : Nat) (a1 : Nat) (a2 : Nat) : k_Met l yX5_init cX5_init 3 none { frames := 1, cells := 0, slots := 0, locals := 12 } dC dI cy sq [.ref a0, .ref a1, .ref a2] [(a0, .inr (5, [.null, .int 0, .int 0, .int 0, .int 0, .int 0, .null, .int 0, .int 0]))] (k_Qv dC dI (fun _ : Unit => True) (fun _ : Unit => [(a0, .inr (5, [.ref a1, .int 0, .int 0, .int 0, .int 0, .int 0, .ref a2, .int 0, .int (-1)]))])) := by
  refine k_ofW (by decide +kernel) (Nat.le_of_ble_eq_true rfl) ?_
  intro p e s m below meth c A ls H locs C0 hr hlk hin hP hD hA hS hl
  have C0 : k_cx p s m _ c cX5_init 3 RX5 dC dI cy sq := C0
  have hx := C0.1
  have hb := C0.2.1
  have hl : lv_has ls 3 [(0, .ref a0), (1, .ref a1), (2, .ref a2)] := hl
  refine lv_aload_n hx hb dX5_init_0 rfl (lv_at hl 0 rfl) ?_
  refine k_obj C0 wd91 wd10 wd11 hl dX5_init_1 (Nat.le_of_ble_eq_true rfl) (Nat.le_of_ble_eq_true rfl) ?_
  refine lv_aload_n hx hb dX5_init_4 rfl (lv_at hl 0 rfl) ?_
  refine lv_iconst (v := 0) hx hb dX5_init_5 (by decide) ?_
  refine k_put C0 fp_X5_11 hP hD hS 0 rfl rfl rfl (Nat.le_of_ble_eq_true rfl) dX5_init_6 (fun H locs hP hD hS => ?_)
  have hP : va_P (dC, dI) vwCl [(a0, .inr (5, [.null, .int 0, .int 0, .int 0, .int 0, .int 0, .null, .int 0, .int 0]))] H := hP
  have hD : va_D A [(a0, .inr (5, [.null, .int 0, .int 0, .int 0, .int 0, .int 0, .null, .int 0, .int 0]))] := hD
  refine lv_aload_n hx hb dX5_init_9 rfl (lv_at hl 0 rfl) ?_
  refine lv_iconst (v := 0) hx hb dX5_init_10 (by decide) ?_
  refine k_put C0 fp_X5_15 hP hD hS 0 rfl rfl rfl (Nat.le_of_ble_eq_true rfl) dX5_init_11 (fun H locs hP hD hS => ?_)
  have hP : va_P (dC, dI) vwCl [(a0, .inr (5, [.null, .int 0, .int 0, .int 0, .int 0, .int 0, .null, .int 0, .int 0]))] H := hP
  have hD : va_D A [(a0, .inr (5, [.null, .int 0, .int 0, .int 0, .int 0, .int 0, .null, .int 0, .int 0]))] := hD
  refine lv_aload_n hx hb dX5_init_14 rfl (lv_at hl 0 rfl) ?_
  refine lv_iconst (v := 0) hx hb dX5_init_15 (by decide) ?_
  refine k_put C0 fp_X5_18 hP hD hS 0 rfl rfl rfl (Nat.le_of_ble_eq_true rfl) dX5_init_16 (fun H locs hP hD hS => ?_)
  have hP : va_P (dC, dI) vwCl [(a0, .inr (5, [.null, .int 0, .int 0, .int 0, .int 0, .int 0, .null, .int 0, .int 0]))] H := hP
  have hD : va_D A [(a0, .inr (5, [.null, .int 0, .int 0, .int 0, .int 0, .int 0, .null, .int 0, .int 0]))] := hD
  refine lv_aload_n hx hb dX5_init_19 rfl (lv_at hl 0 rfl) ?_
  refine lv_iconst (v := 0) hx hb dX5_init_20 (by decide) ?_
  refine k_put C0 fp_X5_21 hP hD hS 0 rfl rfl rfl (Nat.le_of_ble_eq_true rfl) dX5_init_21 (fun H locs hP hD hS => ?_)
  have hP : va_P (dC, dI) vwCl [(a0, .inr (5, [.null, .int 0, .int 0, .int 0, .int 0, .int 0, .null, .int 0, .int 0]))] H := hP
  have hD : va_D A [(a0, .inr (5, [.null, .int 0, .int 0, .int 0, .int 0, .int 0, .null, .int 0, .int 0]))] := hD
  refine lv_aload_n hx hb dX5_init_24 rfl (lv_at hl 0 rfl) ?_
  refine lv_iconst (v := 0) hx hb dX5_init_25 (by decide) ?_
  refine k_put C0 fp_X5_24 hP hD hS 0 rfl rfl rfl (Nat.le_of_ble_eq_true rfl) dX5_init_26 (fun H locs hP hD hS => ?_)
  have hP : va_P (dC, dI) vwCl [(a0, .inr (5, [.null, .int 0, .int 0, .int 0, .int 0, .int 0, .null, .int 0, .int 0]))] H := hP
  have hD : va_D A [(a0, .inr (5, [.null, .int 0, .int 0, .int 0, .int 0, .int 0, .null, .int 0, .int 0]))] := hD
  refine lv_aload_n hx hb dX5_init_29 rfl (lv_at hl 0 rfl) ?_
  refine lv_iconst (v := 0) hx hb dX5_init_30 (by decide) ?_
  refine k_put C0 fp_X5_27 hP hD hS 0 rfl rfl rfl (Nat.le_of_ble_eq_true rfl) dX5_init_31 (fun H locs hP hD hS => ?_)
  have hP : va_P (dC, dI) vwCl [(a0, .inr (5, [.null, .int 0, .int 0, .int 0, .int 0, .int 0, .null, .int 0, .int 0]))] H := hP
  have hD : va_D A [(a0, .inr (5, [.null, .int 0, .int 0, .int 0, .int 0, .int 0, .null, .int 0, .int 0]))] := hD
  refine lv_aload_n hx hb dX5_init_34 rfl (lv_at hl 0 rfl) ?_
  refine lv_iconst (v := (-1)) hx hb dX5_init_35 (by decide) ?_
  refine k_put C0 fp_X5_30 hP hD hS 0 rfl rfl rfl (Nat.le_of_ble_eq_true rfl) dX5_init_36 (fun H locs hP hD hS => ?_)
  have hP : va_P (dC, dI) vwCl [(a0, .inr (5, [.null, .int 0, .int 0, .int 0, .int 0, .int 0, .null, .int 0, .int (-1)]))] H := hP
  have hD : va_D A [(a0, .inr (5, [.null, .int 0, .int 0, .int 0, .int 0, .int 0, .null, .int 0, .int (-1)]))] := hD
  refine lv_aload_n hx hb dX5_init_39 rfl (lv_at hl 0 rfl) ?_
  refine lv_aload_n hx hb dX5_init_40 rfl (lv_at hl 1 rfl) ?_
  refine k_putF C0 hin fp_X5_33 hP hD hS 0 rfl rfl rfl (Nat.le_of_ble_eq_true rfl) dX5_init_41 (fun H locs hP hD hS => ?_)
  have hP : va_P (dC, dI) vwCl [(a0, .inr (5, [.ref a1, .int 0, .int 0, .int 0, .int 0, .int 0, .null, .int 0, .int (-1)]))] H := hP
  have hD : va_D A [(a0, .inr (5, [.ref a1, .int 0, .int 0, .int 0, .int 0, .int 0, .null, .int 0, .int (-1)]))] := hD
  refine lv_aload_n hx hb dX5_init_44 rfl (lv_at hl 0 rfl) ?_
  refine lv_aload_n hx hb dX5_init_45 rfl (lv_at hl 2 rfl) ?_
  refine k_put C0 fp_X5_37 hP hD hS 0 rfl rfl rfl (Nat.le_of_ble_eq_true rfl) dX5_init_46 (fun H locs hP hD hS => ?_)
  have hP : va_P (dC, dI) vwCl [(a0, .inr (5, [.ref a1, .int 0, .int 0, .int 0, .int 0, .int 0, .ref a2, .int 0, .int (-1)]))] H := hP
  have hD : va_D A [(a0, .inr (5, [.ref a1, .int 0, .int 0, .int 0, .int 0, .int 0, .ref a2, .int 0, .int (-1)]))] := hD
  exact k_vret hx hb hr hlk () hS True.intro hP hD (Nat.le_of_ble_eq_true rfl) (Nat.le_of_ble_eq_true rfl) dX5_init_49
set_option maxHeartbeats 4000000 in
set_option maxRecDepth 100000 in
theorem c_X7_init (l : Launch) (dC : Nat → ClassId) (dI : Nat → Nat → Nat) (cy : Nat → ClassId) (sq : Nat → Nat) (a0 : Nat) (a1 : Nat) (a2 : Nat) : k_Met l yX7_init cX7_init 3 none { frames := 1, cells := 6, slots := 4558, locals := 12 } dC dI cy sq [.ref a0, .ref a1, .ref a2] [(a0, .inr (7, [.null, .null, .int 0, .null, .int 0, .int 0, .int 0, .int 0, .null, .null, .null, .null, .null, .int 0, .int 0, .int 0, .int 0]))] (k_Qv dC dI (fun _ : Nat × Nat × Nat × Nat × Nat × Nat => True) (fun u : Nat × Nat × Nat × Nat × Nat × Nat => match u with | (q324, q325, q326, q327, q328, q329) => [(a0, .inr (7, [.ref a1, .ref a2, .int (-1), .ref q324, .int (-1), .int 0, .int 0, .int 0, .ref q325, .ref q326, .ref q327, .ref q328, .ref q329, .int 0, .int 0, .int 0, .int 0]))])) := by
  refine k_ofW (by decide +kernel) (Nat.le_of_ble_eq_true rfl) ?_
  intro p e s m below meth c A ls H locs C0 hr hlk hin hP hD hA hS hl
  have C0 : k_cx p s m _ c cX7_init 3 RX7 dC dI cy sq := C0
  have hx := C0.1
  have hb := C0.2.1
  have hl : lv_has ls 3 [(0, .ref a0), (1, .ref a1), (2, .ref a2)] := hl
  refine lv_aload_n hx hb dX7_init_0 rfl (lv_at hl 0 rfl) ?_
  refine k_obj C0 wd104 wd10 wd11 hl dX7_init_1 (Nat.le_of_ble_eq_true rfl) (Nat.le_of_ble_eq_true rfl) ?_
  refine lv_aload_n hx hb dX7_init_4 rfl (lv_at hl 0 rfl) ?_
  refine lv_iconst (v := (-1)) hx hb dX7_init_5 (by decide) ?_
  refine k_put C0 fp_X7_9 hP hD hS 0 rfl rfl rfl (Nat.le_of_ble_eq_true rfl) dX7_init_6 (fun H locs hP hD hS => ?_)
  have hP : va_P (dC, dI) vwCl [(a0, .inr (7, [.null, .null, .int (-1), .null, .int 0, .int 0, .int 0, .int 0, .null, .null, .null, .null, .null, .int 0, .int 0, .int 0, .int 0]))] H := hP
  have hD : va_D A [(a0, .inr (7, [.null, .null, .int (-1), .null, .int 0, .int 0, .int 0, .int 0, .null, .null, .null, .null, .null, .int 0, .int 0, .int 0, .int 0]))] := hD
  refine lv_aload_n hx hb dX7_init_9 rfl (lv_at hl 0 rfl) ?_
  refine lv_bipush (v := 6) hx hb dX7_init_10 (by decide) ?_
  refine k_newa C0 0 (ty := .int) rfl (atype := .int) rfl wd12 hP hD hS hA (a0 := (6, .inl (fun _ => 0))) (fun _ => rfl) (by decide) (by decide) (Nat.le_of_ble_eq_true rfl) 1 6 (Nat.le_of_ble_eq_true rfl) (Nat.le_of_ble_eq_true rfl) (Nat.le_of_ble_eq_true rfl) (Nat.le_of_ble_eq_true rfl) dX7_init_12 (fun q324 H hP hD hS => ?_)
  have hP : va_P (dC, dI) vwCl [(a0, .inr (7, [.null, .null, .int (-1), .null, .int 0, .int 0, .int 0, .int 0, .null, .null, .null, .null, .null, .int 0, .int 0, .int 0, .int 0])), (q324, .inl (cy 0, 6, .inl (fun _ => 0)))] H := hP
  have hD : va_D A [(a0, .inr (7, [.null, .null, .int (-1), .null, .int 0, .int 0, .int 0, .int 0, .null, .null, .null, .null, .null, .int 0, .int 0, .int 0, .int 0])), (q324, .inl (cy 0, 6, .inl (fun _ => 0)))] := hD
  refine k_putF C0 hin fp_X7_15 hP hD hS 0 rfl rfl rfl (Nat.le_of_ble_eq_true rfl) dX7_init_14 (fun H locs hP hD hS => ?_)
  have hP : va_P (dC, dI) vwCl [(a0, .inr (7, [.null, .null, .int (-1), .ref q324, .int 0, .int 0, .int 0, .int 0, .null, .null, .null, .null, .null, .int 0, .int 0, .int 0, .int 0])), (q324, .inl (cy 0, 6, .inl (fun _ => 0)))] H := hP
  have hD : va_D A [(a0, .inr (7, [.null, .null, .int (-1), .ref q324, .int 0, .int 0, .int 0, .int 0, .null, .null, .null, .null, .null, .int 0, .int 0, .int 0, .int 0])), (q324, .inl (cy 0, 6, .inl (fun _ => 0)))] := hD
  refine lv_aload_n hx hb dX7_init_17 rfl (lv_at hl 0 rfl) ?_
  refine lv_iconst (v := (-1)) hx hb dX7_init_18 (by decide) ?_
  refine k_put C0 fp_X7_19 hP hD hS 0 rfl rfl rfl (Nat.le_of_ble_eq_true rfl) dX7_init_19 (fun H locs hP hD hS => ?_)
  have hP : va_P (dC, dI) vwCl [(a0, .inr (7, [.null, .null, .int (-1), .ref q324, .int (-1), .int 0, .int 0, .int 0, .null, .null, .null, .null, .null, .int 0, .int 0, .int 0, .int 0])), (q324, .inl (cy 0, 6, .inl (fun _ => 0)))] H := hP
  have hD : va_D A [(a0, .inr (7, [.null, .null, .int (-1), .ref q324, .int (-1), .int 0, .int 0, .int 0, .null, .null, .null, .null, .null, .int 0, .int 0, .int 0, .int 0])), (q324, .inl (cy 0, 6, .inl (fun _ => 0)))] := hD
  refine lv_aload_n hx hb dX7_init_22 rfl (lv_at hl 0 rfl) ?_
  refine lv_iconst (v := 0) hx hb dX7_init_23 (by decide) ?_
  refine k_put C0 fp_X7_22 hP hD hS 0 rfl rfl rfl (Nat.le_of_ble_eq_true rfl) dX7_init_24 (fun H locs hP hD hS => ?_)
  have hP : va_P (dC, dI) vwCl [(a0, .inr (7, [.null, .null, .int (-1), .ref q324, .int (-1), .int 0, .int 0, .int 0, .null, .null, .null, .null, .null, .int 0, .int 0, .int 0, .int 0])), (q324, .inl (cy 0, 6, .inl (fun _ => 0)))] H := hP
  have hD : va_D A [(a0, .inr (7, [.null, .null, .int (-1), .ref q324, .int (-1), .int 0, .int 0, .int 0, .null, .null, .null, .null, .null, .int 0, .int 0, .int 0, .int 0])), (q324, .inl (cy 0, 6, .inl (fun _ => 0)))] := hD
  refine lv_aload_n hx hb dX7_init_27 rfl (lv_at hl 0 rfl) ?_
  refine lv_iconst (v := 0) hx hb dX7_init_28 (by decide) ?_
  refine k_put C0 fp_X7_25 hP hD hS 0 rfl rfl rfl (Nat.le_of_ble_eq_true rfl) dX7_init_29 (fun H locs hP hD hS => ?_)
  have hP : va_P (dC, dI) vwCl [(a0, .inr (7, [.null, .null, .int (-1), .ref q324, .int (-1), .int 0, .int 0, .int 0, .null, .null, .null, .null, .null, .int 0, .int 0, .int 0, .int 0])), (q324, .inl (cy 0, 6, .inl (fun _ => 0)))] H := hP
  have hD : va_D A [(a0, .inr (7, [.null, .null, .int (-1), .ref q324, .int (-1), .int 0, .int 0, .int 0, .null, .null, .null, .null, .null, .int 0, .int 0, .int 0, .int 0])), (q324, .inl (cy 0, 6, .inl (fun _ => 0)))] := hD
  refine lv_aload_n hx hb dX7_init_32 rfl (lv_at hl 0 rfl) ?_
  refine lv_iconst (v := 0) hx hb dX7_init_33 (by decide) ?_
  refine k_put C0 fp_X7_28 hP hD hS 0 rfl (k_nb 0 (by decide)) (k_fb 0 (by decide)) (Nat.le_of_ble_eq_true rfl) dX7_init_34 (fun H locs hP hD hS => ?_)
  have hP : va_P (dC, dI) vwCl [(a0, .inr (7, [.null, .null, .int (-1), .ref q324, .int (-1), .int 0, .int 0, .int 0, .null, .null, .null, .null, .null, .int 0, .int 0, .int 0, .int 0])), (q324, .inl (cy 0, 6, .inl (fun _ => 0)))] H := hP
  have hD : va_D A [(a0, .inr (7, [.null, .null, .int (-1), .ref q324, .int (-1), .int 0, .int 0, .int 0, .null, .null, .null, .null, .null, .int 0, .int 0, .int 0, .int 0])), (q324, .inl (cy 0, 6, .inl (fun _ => 0)))] := hD
  refine lv_aload_n hx hb dX7_init_37 rfl (lv_at hl 0 rfl) ?_
  refine lv_sipush (v := 320) hx hb dX7_init_38 (by decide) ?_
  refine k_newa C0 0 (ty := .int) rfl (atype := .int) rfl wd12 hP hD hS hA (a0 := (320, .inl (fun _ => 0))) (fun _ => rfl) (by decide) (by decide) (Nat.le_of_ble_eq_true rfl) 2 326 (Nat.le_of_ble_eq_true rfl) (Nat.le_of_ble_eq_true rfl) (Nat.le_of_ble_eq_true rfl) (Nat.le_of_ble_eq_true rfl) dX7_init_41 (fun q325 H hP hD hS => ?_)
  have hP : va_P (dC, dI) vwCl [(a0, .inr (7, [.null, .null, .int (-1), .ref q324, .int (-1), .int 0, .int 0, .int 0, .null, .null, .null, .null, .null, .int 0, .int 0, .int 0, .int 0])), (q324, .inl (cy 0, 6, .inl (fun _ => 0))), (q325, .inl (cy 0, 320, .inl (fun _ => 0)))] H := hP
  have hD : va_D A [(a0, .inr (7, [.null, .null, .int (-1), .ref q324, .int (-1), .int 0, .int 0, .int 0, .null, .null, .null, .null, .null, .int 0, .int 0, .int 0, .int 0])), (q324, .inl (cy 0, 6, .inl (fun _ => 0))), (q325, .inl (cy 0, 320, .inl (fun _ => 0)))] := hD
  refine k_putF C0 hin fp_X7_32 hP hD hS 0 rfl rfl rfl (Nat.le_of_ble_eq_true rfl) dX7_init_43 (fun H locs hP hD hS => ?_)
  have hP : va_P (dC, dI) vwCl [(a0, .inr (7, [.null, .null, .int (-1), .ref q324, .int (-1), .int 0, .int 0, .int 0, .ref q325, .null, .null, .null, .null, .int 0, .int 0, .int 0, .int 0])), (q324, .inl (cy 0, 6, .inl (fun _ => 0))), (q325, .inl (cy 0, 320, .inl (fun _ => 0)))] H := hP
  have hD : va_D A [(a0, .inr (7, [.null, .null, .int (-1), .ref q324, .int (-1), .int 0, .int 0, .int 0, .ref q325, .null, .null, .null, .null, .int 0, .int 0, .int 0, .int 0])), (q324, .inl (cy 0, 6, .inl (fun _ => 0))), (q325, .inl (cy 0, 320, .inl (fun _ => 0)))] := hD
  refine lv_aload_n hx hb dX7_init_46 rfl (lv_at hl 0 rfl) ?_
  refine lv_sipush (v := 320) hx hb dX7_init_47 (by decide) ?_
  refine k_newa C0 0 (ty := .int) rfl (atype := .int) rfl wd12 hP hD hS hA (a0 := (320, .inl (fun _ => 0))) (fun _ => rfl) (by decide) (by decide) (Nat.le_of_ble_eq_true rfl) 3 646 (Nat.le_of_ble_eq_true rfl) (Nat.le_of_ble_eq_true rfl) (Nat.le_of_ble_eq_true rfl) (Nat.le_of_ble_eq_true rfl) dX7_init_50 (fun q326 H hP hD hS => ?_)
  have hP : va_P (dC, dI) vwCl [(a0, .inr (7, [.null, .null, .int (-1), .ref q324, .int (-1), .int 0, .int 0, .int 0, .ref q325, .null, .null, .null, .null, .int 0, .int 0, .int 0, .int 0])), (q324, .inl (cy 0, 6, .inl (fun _ => 0))), (q325, .inl (cy 0, 320, .inl (fun _ => 0))), (q326, .inl (cy 0, 320, .inl (fun _ => 0)))] H := hP
  have hD : va_D A [(a0, .inr (7, [.null, .null, .int (-1), .ref q324, .int (-1), .int 0, .int 0, .int 0, .ref q325, .null, .null, .null, .null, .int 0, .int 0, .int 0, .int 0])), (q324, .inl (cy 0, 6, .inl (fun _ => 0))), (q325, .inl (cy 0, 320, .inl (fun _ => 0))), (q326, .inl (cy 0, 320, .inl (fun _ => 0)))] := hD
  refine k_putF C0 hin fp_X7_35 hP hD hS 0 rfl rfl rfl (Nat.le_of_ble_eq_true rfl) dX7_init_52 (fun H locs hP hD hS => ?_)
  have hP : va_P (dC, dI) vwCl [(a0, .inr (7, [.null, .null, .int (-1), .ref q324, .int (-1), .int 0, .int 0, .int 0, .ref q325, .ref q326, .null, .null, .null, .int 0, .int 0, .int 0, .int 0])), (q324, .inl (cy 0, 6, .inl (fun _ => 0))), (q325, .inl (cy 0, 320, .inl (fun _ => 0))), (q326, .inl (cy 0, 320, .inl (fun _ => 0)))] H := hP
  have hD : va_D A [(a0, .inr (7, [.null, .null, .int (-1), .ref q324, .int (-1), .int 0, .int 0, .int 0, .ref q325, .ref q326, .null, .null, .null, .int 0, .int 0, .int 0, .int 0])), (q324, .inl (cy 0, 6, .inl (fun _ => 0))), (q325, .inl (cy 0, 320, .inl (fun _ => 0))), (q326, .inl (cy 0, 320, .inl (fun _ => 0)))] := hD
  refine lv_aload_n hx hb dX7_init_55 rfl (lv_at hl 0 rfl) ?_
  refine lv_sipush (v := 3600) hx hb dX7_init_56 (by decide) ?_
  refine k_newa C0 0 (ty := .int) rfl (atype := .int) rfl wd12 hP hD hS hA (a0 := (3600, .inl (fun _ => 0))) (fun _ => rfl) (by decide) (by decide) (Nat.le_of_ble_eq_true rfl) 4 4246 (Nat.le_of_ble_eq_true rfl) (Nat.le_of_ble_eq_true rfl) (Nat.le_of_ble_eq_true rfl) (Nat.le_of_ble_eq_true rfl) dX7_init_59 (fun q327 H hP hD hS => ?_)
  have hP : va_P (dC, dI) vwCl [(a0, .inr (7, [.null, .null, .int (-1), .ref q324, .int (-1), .int 0, .int 0, .int 0, .ref q325, .ref q326, .null, .null, .null, .int 0, .int 0, .int 0, .int 0])), (q324, .inl (cy 0, 6, .inl (fun _ => 0))), (q325, .inl (cy 0, 320, .inl (fun _ => 0))), (q326, .inl (cy 0, 320, .inl (fun _ => 0))), (q327, .inl (cy 0, 3600, .inl (fun _ => 0)))] H := hP
  have hD : va_D A [(a0, .inr (7, [.null, .null, .int (-1), .ref q324, .int (-1), .int 0, .int 0, .int 0, .ref q325, .ref q326, .null, .null, .null, .int 0, .int 0, .int 0, .int 0])), (q324, .inl (cy 0, 6, .inl (fun _ => 0))), (q325, .inl (cy 0, 320, .inl (fun _ => 0))), (q326, .inl (cy 0, 320, .inl (fun _ => 0))), (q327, .inl (cy 0, 3600, .inl (fun _ => 0)))] := hD
  refine k_putF C0 hin fp_X7_38 hP hD hS 0 rfl rfl rfl (Nat.le_of_ble_eq_true rfl) dX7_init_61 (fun H locs hP hD hS => ?_)
  have hP : va_P (dC, dI) vwCl [(a0, .inr (7, [.null, .null, .int (-1), .ref q324, .int (-1), .int 0, .int 0, .int 0, .ref q325, .ref q326, .ref q327, .null, .null, .int 0, .int 0, .int 0, .int 0])), (q324, .inl (cy 0, 6, .inl (fun _ => 0))), (q325, .inl (cy 0, 320, .inl (fun _ => 0))), (q326, .inl (cy 0, 320, .inl (fun _ => 0))), (q327, .inl (cy 0, 3600, .inl (fun _ => 0)))] H := hP
  have hD : va_D A [(a0, .inr (7, [.null, .null, .int (-1), .ref q324, .int (-1), .int 0, .int 0, .int 0, .ref q325, .ref q326, .ref q327, .null, .null, .int 0, .int 0, .int 0, .int 0])), (q324, .inl (cy 0, 6, .inl (fun _ => 0))), (q325, .inl (cy 0, 320, .inl (fun _ => 0))), (q326, .inl (cy 0, 320, .inl (fun _ => 0))), (q327, .inl (cy 0, 3600, .inl (fun _ => 0)))] := hD
  refine lv_aload_n hx hb dX7_init_64 rfl (lv_at hl 0 rfl) ?_
  refine lv_sipush (v := 300) hx hb dX7_init_65 (by decide) ?_
  refine k_newa C0 0 (ty := .int) rfl (atype := .int) rfl wd12 hP hD hS hA (a0 := (300, .inl (fun _ => 0))) (fun _ => rfl) (by decide) (by decide) (Nat.le_of_ble_eq_true rfl) 5 4546 (Nat.le_of_ble_eq_true rfl) (Nat.le_of_ble_eq_true rfl) (Nat.le_of_ble_eq_true rfl) (Nat.le_of_ble_eq_true rfl) dX7_init_68 (fun q328 H hP hD hS => ?_)
  have hP : va_P (dC, dI) vwCl [(a0, .inr (7, [.null, .null, .int (-1), .ref q324, .int (-1), .int 0, .int 0, .int 0, .ref q325, .ref q326, .ref q327, .null, .null, .int 0, .int 0, .int 0, .int 0])), (q324, .inl (cy 0, 6, .inl (fun _ => 0))), (q325, .inl (cy 0, 320, .inl (fun _ => 0))), (q326, .inl (cy 0, 320, .inl (fun _ => 0))), (q327, .inl (cy 0, 3600, .inl (fun _ => 0))), (q328, .inl (cy 0, 300, .inl (fun _ => 0)))] H := hP
  have hD : va_D A [(a0, .inr (7, [.null, .null, .int (-1), .ref q324, .int (-1), .int 0, .int 0, .int 0, .ref q325, .ref q326, .ref q327, .null, .null, .int 0, .int 0, .int 0, .int 0])), (q324, .inl (cy 0, 6, .inl (fun _ => 0))), (q325, .inl (cy 0, 320, .inl (fun _ => 0))), (q326, .inl (cy 0, 320, .inl (fun _ => 0))), (q327, .inl (cy 0, 3600, .inl (fun _ => 0))), (q328, .inl (cy 0, 300, .inl (fun _ => 0)))] := hD
  refine k_putF C0 hin fp_X7_41 hP hD hS 0 rfl rfl rfl (Nat.le_of_ble_eq_true rfl) dX7_init_70 (fun H locs hP hD hS => ?_)
  have hP : va_P (dC, dI) vwCl [(a0, .inr (7, [.null, .null, .int (-1), .ref q324, .int (-1), .int 0, .int 0, .int 0, .ref q325, .ref q326, .ref q327, .ref q328, .null, .int 0, .int 0, .int 0, .int 0])), (q324, .inl (cy 0, 6, .inl (fun _ => 0))), (q325, .inl (cy 0, 320, .inl (fun _ => 0))), (q326, .inl (cy 0, 320, .inl (fun _ => 0))), (q327, .inl (cy 0, 3600, .inl (fun _ => 0))), (q328, .inl (cy 0, 300, .inl (fun _ => 0)))] H := hP
  have hD : va_D A [(a0, .inr (7, [.null, .null, .int (-1), .ref q324, .int (-1), .int 0, .int 0, .int 0, .ref q325, .ref q326, .ref q327, .ref q328, .null, .int 0, .int 0, .int 0, .int 0])), (q324, .inl (cy 0, 6, .inl (fun _ => 0))), (q325, .inl (cy 0, 320, .inl (fun _ => 0))), (q326, .inl (cy 0, 320, .inl (fun _ => 0))), (q327, .inl (cy 0, 3600, .inl (fun _ => 0))), (q328, .inl (cy 0, 300, .inl (fun _ => 0)))] := hD
  refine lv_aload_n hx hb dX7_init_73 rfl (lv_at hl 0 rfl) ?_
  refine lv_bipush (v := 12) hx hb dX7_init_74 (by decide) ?_
  refine k_newa C0 0 (ty := .int) rfl (atype := .int) rfl wd12 hP hD hS hA (a0 := (12, .inl (fun _ => 0))) (fun _ => rfl) (by decide) (by decide) (Nat.le_of_ble_eq_true rfl) 6 4558 (Nat.le_of_ble_eq_true rfl) (Nat.le_of_ble_eq_true rfl) (Nat.le_of_ble_eq_true rfl) (Nat.le_of_ble_eq_true rfl) dX7_init_76 (fun q329 H hP hD hS => ?_)
  have hP : va_P (dC, dI) vwCl [(a0, .inr (7, [.null, .null, .int (-1), .ref q324, .int (-1), .int 0, .int 0, .int 0, .ref q325, .ref q326, .ref q327, .ref q328, .null, .int 0, .int 0, .int 0, .int 0])), (q324, .inl (cy 0, 6, .inl (fun _ => 0))), (q325, .inl (cy 0, 320, .inl (fun _ => 0))), (q326, .inl (cy 0, 320, .inl (fun _ => 0))), (q327, .inl (cy 0, 3600, .inl (fun _ => 0))), (q328, .inl (cy 0, 300, .inl (fun _ => 0))), (q329, .inl (cy 0, 12, .inl (fun _ => 0)))] H := hP
  have hD : va_D A [(a0, .inr (7, [.null, .null, .int (-1), .ref q324, .int (-1), .int 0, .int 0, .int 0, .ref q325, .ref q326, .ref q327, .ref q328, .null, .int 0, .int 0, .int 0, .int 0])), (q324, .inl (cy 0, 6, .inl (fun _ => 0))), (q325, .inl (cy 0, 320, .inl (fun _ => 0))), (q326, .inl (cy 0, 320, .inl (fun _ => 0))), (q327, .inl (cy 0, 3600, .inl (fun _ => 0))), (q328, .inl (cy 0, 300, .inl (fun _ => 0))), (q329, .inl (cy 0, 12, .inl (fun _ => 0)))] := hD
  refine k_putF C0 hin fp_X7_44 hP hD hS 0 rfl rfl rfl (Nat.le_of_ble_eq_true rfl) dX7_init_78 (fun H locs hP hD hS => ?_)
  have hP : va_P (dC, dI) vwCl [(a0, .inr (7, [.null, .null, .int (-1), .ref q324, .int (-1), .int 0, .int 0, .int 0, .ref q325, .ref q326, .ref q327, .ref q328, .ref q329, .int 0, .int 0, .int 0, .int 0])), (q324, .inl (cy 0, 6, .inl (fun _ => 0))), (q325, .inl (cy 0, 320, .inl (fun _ => 0))), (q326, .inl (cy 0, 320, .inl (fun _ => 0))), (q327, .inl (cy 0, 3600, .inl (fun _ => 0))), (q328, .inl (cy 0, 300, .inl (fun _ => 0))), (q329, .inl (cy 0, 12, .inl (fun _ => 0)))] H := hP
  have hD : va_D A [(a0, .inr (7, [.null, .null, .int (-1), .ref q324, .int (-1), .int 0, .int 0, .int 0, .ref q325, .ref q326, .ref q327, .ref q328, .ref q329, .int 0, .int 0, .int 0, .int 0])), (q324, .inl (cy 0, 6, .inl (fun _ => 0))), (q325, .inl (cy 0, 320, .inl (fun _ => 0))), (q326, .inl (cy 0, 320, .inl (fun _ => 0))), (q327, .inl (cy 0, 3600, .inl (fun _ => 0))), (q328, .inl (cy 0, 300, .inl (fun _ => 0))), (q329, .inl (cy 0, 12, .inl (fun _ => 0)))] := hD
  refine lv_aload_n hx hb dX7_init_81 rfl (lv_at hl 0 rfl) ?_
  refine lv_iconst (v := 0) hx hb dX7_init_82 (by decide) ?_
  refine k_put C0 fp_X7_47 hP hD hS 0 rfl rfl rfl (Nat.le_of_ble_eq_true rfl) dX7_init_83 (fun H locs hP hD hS => ?_)
  have hP : va_P (dC, dI) vwCl [(a0, .inr (7, [.null, .null, .int (-1), .ref q324, .int (-1), .int 0, .int 0, .int 0, .ref q325, .ref q326, .ref q327, .ref q328, .ref q329, .int 0, .int 0, .int 0, .int 0])), (q324, .inl (cy 0, 6, .inl (fun _ => 0))), (q325, .inl (cy 0, 320, .inl (fun _ => 0))), (q326, .inl (cy 0, 320, .inl (fun _ => 0))), (q327, .inl (cy 0, 3600, .inl (fun _ => 0))), (q328, .inl (cy 0, 300, .inl (fun _ => 0))), (q329, .inl (cy 0, 12, .inl (fun _ => 0)))] H := hP
  have hD : va_D A [(a0, .inr (7, [.null, .null, .int (-1), .ref q324, .int (-1), .int 0, .int 0, .int 0, .ref q325, .ref q326, .ref q327, .ref q328, .ref q329, .int 0, .int 0, .int 0, .int 0])), (q324, .inl (cy 0, 6, .inl (fun _ => 0))), (q325, .inl (cy 0, 320, .inl (fun _ => 0))), (q326, .inl (cy 0, 320, .inl (fun _ => 0))), (q327, .inl (cy 0, 3600, .inl (fun _ => 0))), (q328, .inl (cy 0, 300, .inl (fun _ => 0))), (q329, .inl (cy 0, 12, .inl (fun _ => 0)))] := hD
  refine lv_aload_n hx hb dX7_init_86 rfl (lv_at hl 0 rfl) ?_
  refine lv_iconst (v := 0) hx hb dX7_init_87 (by decide) ?_
  refine k_put C0 fp_X7_50 hP hD hS 0 rfl rfl rfl (Nat.le_of_ble_eq_true rfl) dX7_init_88 (fun H locs hP hD hS => ?_)
  have hP : va_P (dC, dI) vwCl [(a0, .inr (7, [.null, .null, .int (-1), .ref q324, .int (-1), .int 0, .int 0, .int 0, .ref q325, .ref q326, .ref q327, .ref q328, .ref q329, .int 0, .int 0, .int 0, .int 0])), (q324, .inl (cy 0, 6, .inl (fun _ => 0))), (q325, .inl (cy 0, 320, .inl (fun _ => 0))), (q326, .inl (cy 0, 320, .inl (fun _ => 0))), (q327, .inl (cy 0, 3600, .inl (fun _ => 0))), (q328, .inl (cy 0, 300, .inl (fun _ => 0))), (q329, .inl (cy 0, 12, .inl (fun _ => 0)))] H := hP
  have hD : va_D A [(a0, .inr (7, [.null, .null, .int (-1), .ref q324, .int (-1), .int 0, .int 0, .int 0, .ref q325, .ref q326, .ref q327, .ref q328, .ref q329, .int 0, .int 0, .int 0, .int 0])), (q324, .inl (cy 0, 6, .inl (fun _ => 0))), (q325, .inl (cy 0, 320, .inl (fun _ => 0))), (q326, .inl (cy 0, 320, .inl (fun _ => 0))), (q327, .inl (cy 0, 3600, .inl (fun _ => 0))), (q328, .inl (cy 0, 300, .inl (fun _ => 0))), (q329, .inl (cy 0, 12, .inl (fun _ => 0)))] := hD
  refine lv_aload_n hx hb dX7_init_91 rfl (lv_at hl 0 rfl) ?_
  refine lv_iconst (v := 0) hx hb dX7_init_92 (by decide) ?_
  refine k_put C0 fp_X7_53 hP hD hS 0 rfl rfl rfl (Nat.le_of_ble_eq_true rfl) dX7_init_93 (fun H locs hP hD hS => ?_)
  have hP : va_P (dC, dI) vwCl [(a0, .inr (7, [.null, .null, .int (-1), .ref q324, .int (-1), .int 0, .int 0, .int 0, .ref q325, .ref q326, .ref q327, .ref q328, .ref q329, .int 0, .int 0, .int 0, .int 0])), (q324, .inl (cy 0, 6, .inl (fun _ => 0))), (q325, .inl (cy 0, 320, .inl (fun _ => 0))), (q326, .inl (cy 0, 320, .inl (fun _ => 0))), (q327, .inl (cy 0, 3600, .inl (fun _ => 0))), (q328, .inl (cy 0, 300, .inl (fun _ => 0))), (q329, .inl (cy 0, 12, .inl (fun _ => 0)))] H := hP
  have hD : va_D A [(a0, .inr (7, [.null, .null, .int (-1), .ref q324, .int (-1), .int 0, .int 0, .int 0, .ref q325, .ref q326, .ref q327, .ref q328, .ref q329, .int 0, .int 0, .int 0, .int 0])), (q324, .inl (cy 0, 6, .inl (fun _ => 0))), (q325, .inl (cy 0, 320, .inl (fun _ => 0))), (q326, .inl (cy 0, 320, .inl (fun _ => 0))), (q327, .inl (cy 0, 3600, .inl (fun _ => 0))), (q328, .inl (cy 0, 300, .inl (fun _ => 0))), (q329, .inl (cy 0, 12, .inl (fun _ => 0)))] := hD
  refine lv_aload_n hx hb dX7_init_96 rfl (lv_at hl 0 rfl) ?_
  refine lv_iconst (v := 0) hx hb dX7_init_97 (by decide) ?_
  refine k_put C0 fp_X7_56 hP hD hS 0 rfl rfl rfl (Nat.le_of_ble_eq_true rfl) dX7_init_98 (fun H locs hP hD hS => ?_)
  have hP : va_P (dC, dI) vwCl [(a0, .inr (7, [.null, .null, .int (-1), .ref q324, .int (-1), .int 0, .int 0, .int 0, .ref q325, .ref q326, .ref q327, .ref q328, .ref q329, .int 0, .int 0, .int 0, .int 0])), (q324, .inl (cy 0, 6, .inl (fun _ => 0))), (q325, .inl (cy 0, 320, .inl (fun _ => 0))), (q326, .inl (cy 0, 320, .inl (fun _ => 0))), (q327, .inl (cy 0, 3600, .inl (fun _ => 0))), (q328, .inl (cy 0, 300, .inl (fun _ => 0))), (q329, .inl (cy 0, 12, .inl (fun _ => 0)))] H := hP
  have hD : va_D A [(a0, .inr (7, [.null, .null, .int (-1), .ref q324, .int (-1), .int 0, .int 0, .int 0, .ref q325, .ref q326, .ref q327, .ref q328, .ref q329, .int 0, .int 0, .int 0, .int 0])), (q324, .inl (cy 0, 6, .inl (fun _ => 0))), (q325, .inl (cy 0, 320, .inl (fun _ => 0))), (q326, .inl (cy 0, 320, .inl (fun _ => 0))), (q327, .inl (cy 0, 3600, .inl (fun _ => 0))), (q328, .inl (cy 0, 300, .inl (fun _ => 0))), (q329, .inl (cy 0, 12, .inl (fun _ => 0)))] := hD
  refine lv_aload_n hx hb dX7_init_101 rfl (lv_at hl 0 rfl) ?_
  refine lv_aload_n hx hb dX7_init_102 rfl (lv_at hl 1 rfl) ?_
  refine k_putF C0 hin fp_X7_59 hP hD hS 0 rfl rfl rfl (Nat.le_of_ble_eq_true rfl) dX7_init_103 (fun H locs hP hD hS => ?_)
  have hP : va_P (dC, dI) vwCl [(a0, .inr (7, [.ref a1, .null, .int (-1), .ref q324, .int (-1), .int 0, .int 0, .int 0, .ref q325, .ref q326, .ref q327, .ref q328, .ref q329, .int 0, .int 0, .int 0, .int 0])), (q324, .inl (cy 0, 6, .inl (fun _ => 0))), (q325, .inl (cy 0, 320, .inl (fun _ => 0))), (q326, .inl (cy 0, 320, .inl (fun _ => 0))), (q327, .inl (cy 0, 3600, .inl (fun _ => 0))), (q328, .inl (cy 0, 300, .inl (fun _ => 0))), (q329, .inl (cy 0, 12, .inl (fun _ => 0)))] H := hP
  have hD : va_D A [(a0, .inr (7, [.ref a1, .null, .int (-1), .ref q324, .int (-1), .int 0, .int 0, .int 0, .ref q325, .ref q326, .ref q327, .ref q328, .ref q329, .int 0, .int 0, .int 0, .int 0])), (q324, .inl (cy 0, 6, .inl (fun _ => 0))), (q325, .inl (cy 0, 320, .inl (fun _ => 0))), (q326, .inl (cy 0, 320, .inl (fun _ => 0))), (q327, .inl (cy 0, 3600, .inl (fun _ => 0))), (q328, .inl (cy 0, 300, .inl (fun _ => 0))), (q329, .inl (cy 0, 12, .inl (fun _ => 0)))] := hD
  refine lv_aload_n hx hb dX7_init_106 rfl (lv_at hl 0 rfl) ?_
  refine lv_aload_n hx hb dX7_init_107 rfl (lv_at hl 2 rfl) ?_
  refine k_put C0 fp_X7_63 hP hD hS 0 rfl rfl rfl (Nat.le_of_ble_eq_true rfl) dX7_init_108 (fun H locs hP hD hS => ?_)
  have hP : va_P (dC, dI) vwCl [(a0, .inr (7, [.ref a1, .ref a2, .int (-1), .ref q324, .int (-1), .int 0, .int 0, .int 0, .ref q325, .ref q326, .ref q327, .ref q328, .ref q329, .int 0, .int 0, .int 0, .int 0])), (q324, .inl (cy 0, 6, .inl (fun _ => 0))), (q325, .inl (cy 0, 320, .inl (fun _ => 0))), (q326, .inl (cy 0, 320, .inl (fun _ => 0))), (q327, .inl (cy 0, 3600, .inl (fun _ => 0))), (q328, .inl (cy 0, 300, .inl (fun _ => 0))), (q329, .inl (cy 0, 12, .inl (fun _ => 0)))] H := hP
  have hD : va_D A [(a0, .inr (7, [.ref a1, .ref a2, .int (-1), .ref q324, .int (-1), .int 0, .int 0, .int 0, .ref q325, .ref q326, .ref q327, .ref q328, .ref q329, .int 0, .int 0, .int 0, .int 0])), (q324, .inl (cy 0, 6, .inl (fun _ => 0))), (q325, .inl (cy 0, 320, .inl (fun _ => 0))), (q326, .inl (cy 0, 320, .inl (fun _ => 0))), (q327, .inl (cy 0, 3600, .inl (fun _ => 0))), (q328, .inl (cy 0, 300, .inl (fun _ => 0))), (q329, .inl (cy 0, 12, .inl (fun _ => 0)))] := hD
  exact k_vret hx hb hr hlk (q324, q325, q326, q327, q328, q329) hS True.intro (hP.sub [0] rfl) (hD.sub [0] (by decide) rfl) (Nat.le_of_ble_eq_true rfl) (Nat.le_of_ble_eq_true rfl) dX7_init_111
set_option maxHeartbeats 4000000 in
set_option maxRecDepth 100000 in
theorem c_X1_init (l : Launch) (dC : Nat → ClassId) (dI : Nat → Nat → Nat) (cy : Nat → ClassId) (sq : Nat → Nat) (a0 : Nat) (a1 : Nat) : k_Met l yX1_init cX1_init 2 none { frames := 1, cells := 1, slots := 39, locals := 12 } dC dI cy sq [.ref a0, .ref a1] [(a0, .inr (1, [.null, .null, .int 0]))] (k_Qv dC dI (fun _ : Nat => True) (fun q340 : Nat => [(a0, .inr (1, [.ref a1, .ref q340, .int 0]))])) := by
  refine k_ofW (by decide +kernel) (Nat.le_of_ble_eq_true rfl) ?_
  intro p e s m below meth c A ls H locs C0 hr hlk hin hP hD hA hS hl
  have C0 : k_cx p s m _ c cX1_init 2 RX1 dC dI cy sq := C0
  have hx := C0.1
  have hb := C0.2.1
  have hl : lv_has ls 2 [(0, .ref a0), (1, .ref a1)] := hl
  refine lv_aload_n hx hb dX1_init_0 rfl (lv_at hl 0 rfl) ?_
  refine k_obj C0 wd125 wd10 wd11 hl dX1_init_1 (Nat.le_of_ble_eq_true rfl) (Nat.le_of_ble_eq_true rfl) ?_
  refine lv_aload_n hx hb dX1_init_4 rfl (lv_at hl 0 rfl) ?_
  refine lv_bipush (v := 39) hx hb dX1_init_5 (by decide) ?_
  refine k_newa C0 0 (ty := .int) rfl (atype := .int) rfl wd12 hP hD hS hA (a0 := (39, .inl (fun _ => 0))) (fun _ => rfl) (by decide) (by decide) (Nat.le_of_ble_eq_true rfl) 1 39 (Nat.le_of_ble_eq_true rfl) (Nat.le_of_ble_eq_true rfl) (Nat.le_of_ble_eq_true rfl) (Nat.le_of_ble_eq_true rfl) dX1_init_7 (fun q340 H hP hD hS => ?_)
  have hP : va_P (dC, dI) vwCl [(a0, .inr (1, [.null, .null, .int 0])), (q340, .inl (cy 0, 39, .inl (fun _ => 0)))] H := hP
  have hD : va_D A [(a0, .inr (1, [.null, .null, .int 0])), (q340, .inl (cy 0, 39, .inl (fun _ => 0)))] := hD
  refine k_putF C0 hin fp_X1_11 hP hD hS 0 rfl rfl rfl (Nat.le_of_ble_eq_true rfl) dX1_init_9 (fun H locs hP hD hS => ?_)
  have hP : va_P (dC, dI) vwCl [(a0, .inr (1, [.null, .ref q340, .int 0])), (q340, .inl (cy 0, 39, .inl (fun _ => 0)))] H := hP
  have hD : va_D A [(a0, .inr (1, [.null, .ref q340, .int 0])), (q340, .inl (cy 0, 39, .inl (fun _ => 0)))] := hD
  refine lv_aload_n hx hb dX1_init_12 rfl (lv_at hl 0 rfl) ?_
  refine lv_iconst (v := 0) hx hb dX1_init_13 (by decide) ?_
  refine k_put C0 fp_X1_15 hP hD hS 0 rfl (k_nb 0 (by decide)) (k_fb 0 (by decide)) (Nat.le_of_ble_eq_true rfl) dX1_init_14 (fun H locs hP hD hS => ?_)
  have hP : va_P (dC, dI) vwCl [(a0, .inr (1, [.null, .ref q340, .int 0])), (q340, .inl (cy 0, 39, .inl (fun _ => 0)))] H := hP
  have hD : va_D A [(a0, .inr (1, [.null, .ref q340, .int 0])), (q340, .inl (cy 0, 39, .inl (fun _ => 0)))] := hD
  refine lv_aload_n hx hb dX1_init_17 rfl (lv_at hl 0 rfl) ?_
  refine lv_aload_n hx hb dX1_init_18 rfl (lv_at hl 1 rfl) ?_
  refine k_putF C0 hin fp_X1_19 hP hD hS 0 rfl rfl rfl (Nat.le_of_ble_eq_true rfl) dX1_init_19 (fun H locs hP hD hS => ?_)
  have hP : va_P (dC, dI) vwCl [(a0, .inr (1, [.ref a1, .ref q340, .int 0])), (q340, .inl (cy 0, 39, .inl (fun _ => 0)))] H := hP
  have hD : va_D A [(a0, .inr (1, [.ref a1, .ref q340, .int 0])), (q340, .inl (cy 0, 39, .inl (fun _ => 0)))] := hD
  exact k_vret hx hb hr hlk q340 hS True.intro (hP.sub [0] rfl) (hD.sub [0] (by decide) rfl) (Nat.le_of_ble_eq_true rfl) (Nat.le_of_ble_eq_true rfl) dX1_init_22
set_option maxHeartbeats 4000000 in
set_option maxRecDepth 100000 in
theorem c_X0_init (l : Launch) (dC : Nat → ClassId) (dI : Nat → Nat → Nat) (cy : Nat → ClassId) (sq : Nat → Nat) (a0 : Nat) (a1 : Nat) : k_Met l yX0_init cX0_init 2 none { frames := 2, cells := 4, slots := 370, locals := 32 } dC dI cy sq [.ref a0, .ref a1] [(a0, .inr (0, [.null, .null, .null, .null, .int 0]))] (k_Qv dC dI (fun _ : Nat × Nat × Nat => True) (fun u : Nat × Nat × Nat => match u with | (q352, q357, q358) => [(a0, .inr (0, [.ref a1, .ref q352, .ref q357, .ref q358, .int 0]))])) := by
  refine k_ofW (by decide +kernel) (Nat.le_of_ble_eq_true rfl) ?_
  intro p e s m below meth c A ls H locs C0 hr hlk hin hP hD hA hS hl
  have C0 : k_cx p s m _ c cX0_init 2 RX0 dC dI cy sq := C0
  have hx := C0.1
  have hb := C0.2.1
  have hl : lv_has ls 2 [(0, .ref a0), (1, .ref a1)] := hl
  refine lv_aload_n hx hb dX0_init_0 rfl (lv_at hl 0 rfl) ?_
  refine k_obj C0 wd132 wd10 wd11 hl dX0_init_1 (Nat.le_of_ble_eq_true rfl) (Nat.le_of_ble_eq_true rfl) ?_
  refine lv_aload_n hx hb dX0_init_4 rfl (lv_at hl 0 rfl) ?_
  refine k_new C0 n_X0_9 hP hD hS hA 1 4 (Nat.le_of_ble_eq_true rfl) (Nat.le_of_ble_eq_true rfl) (Nat.le_of_ble_eq_true rfl) (Nat.le_of_ble_eq_true rfl) dX0_init_5 (fun q352 H hP hD hS => ?_)
  have hP : va_P (dC, dI) vwCl [(a0, .inr (0, [.null, .null, .null, .null, .int 0])), (q352, .inr (6, [.int 0, .int 0, .int 0, .null]))] H := hP
  have hD : va_D A [(a0, .inr (0, [.null, .null, .null, .null, .int 0])), (q352, .inr (6, [.int 0, .int 0, .int 0, .null]))] := hD
  refine lv_dup hx hb dX0_init_8 rfl ?_
  refine k_jv hP hD hS hA [1] [0] (wr := [(a0, .inr (0, [.null, .null, .null, .null, .int 0]))]) rfl rfl (by decide) (by decide) (by decide) 2 10 (Nat.le_of_ble_eq_true rfl) (Nat.le_of_ble_eq_true rfl) (fun hPc hDc => k_runN (As := []) (rest := [.ref q352, .ref a0]) C0 (c_X6_init l dC dI cy sq q352) mN_X6_init (C0.2.2.2.2.2.2.2.2.2.1) hPc hDc hl rfl rfl (Nat.le_of_ble_eq_true rfl) ⟨(Nat.le_of_ble_eq_true rfl), (Nat.le_of_ble_eq_true rfl)⟩ ⟨(Nat.le_of_ble_eq_true rfl), (Nat.le_of_ble_eq_true rfl)⟩ dX0_init_9) (fun u355 H locs hw hP hD hS => ?_)
  obtain ⟨q356, eq356⟩ : ∃ z, z = u355 := ⟨_, rfl⟩; subst eq356
  try dsimp only at hP hD
  have hP : va_P (dC, dI) vwCl [(a0, .inr (0, [.null, .null, .null, .null, .int 0])), (q352, .inr (6, [.int 0, .int 0, .int 0, .ref q356]))] H := hP
  have hD : va_D A [(a0, .inr (0, [.null, .null, .null, .null, .int 0])), (q352, .inr (6, [.int 0, .int 0, .int 0, .ref q356]))] := hD
  refine k_putF C0 hin fp_X0_12 hP hD hS 0 rfl rfl rfl (Nat.le_of_ble_eq_true rfl) dX0_init_12 (fun H locs hP hD hS => ?_)
  have hP : va_P (dC, dI) vwCl [(a0, .inr (0, [.null, .ref q352, .null, .null, .int 0])), (q352, .inr (6, [.int 0, .int 0, .int 0, .ref q356]))] H := hP
  have hD : va_D A [(a0, .inr (0, [.null, .ref q352, .null, .null, .int 0])), (q352, .inr (6, [.int 0, .int 0, .int 0, .ref q356]))] := hD
  refine lv_aload_n hx hb dX0_init_15 rfl (lv_at hl 0 rfl) ?_
  refine lv_sipush (v := 180) hx hb dX0_init_16 (by decide) ?_
  refine k_newa C0 0 (ty := .int) rfl (atype := .int) rfl wd12 hP hD hS hA (a0 := (180, .inl (fun _ => 0))) (fun _ => rfl) (by decide) (by decide) (Nat.le_of_ble_eq_true rfl) 3 190 (Nat.le_of_ble_eq_true rfl) (Nat.le_of_ble_eq_true rfl) (Nat.le_of_ble_eq_true rfl) (Nat.le_of_ble_eq_true rfl) dX0_init_19 (fun q357 H hP hD hS => ?_)
  have hP : va_P (dC, dI) vwCl [(a0, .inr (0, [.null, .ref q352, .null, .null, .int 0])), (q352, .inr (6, [.int 0, .int 0, .int 0, .ref q356])), (q357, .inl (cy 0, 180, .inl (fun _ => 0)))] H := hP
  have hD : va_D A [(a0, .inr (0, [.null, .ref q352, .null, .null, .int 0])), (q352, .inr (6, [.int 0, .int 0, .int 0, .ref q356])), (q357, .inl (cy 0, 180, .inl (fun _ => 0)))] := hD
  refine k_putF C0 hin fp_X0_18 hP hD hS 0 rfl rfl rfl (Nat.le_of_ble_eq_true rfl) dX0_init_21 (fun H locs hP hD hS => ?_)
  have hP : va_P (dC, dI) vwCl [(a0, .inr (0, [.null, .ref q352, .ref q357, .null, .int 0])), (q352, .inr (6, [.int 0, .int 0, .int 0, .ref q356])), (q357, .inl (cy 0, 180, .inl (fun _ => 0)))] H := hP
  have hD : va_D A [(a0, .inr (0, [.null, .ref q352, .ref q357, .null, .int 0])), (q352, .inr (6, [.int 0, .int 0, .int 0, .ref q356])), (q357, .inl (cy 0, 180, .inl (fun _ => 0)))] := hD
  refine lv_aload_n hx hb dX0_init_24 rfl (lv_at hl 0 rfl) ?_
  refine lv_sipush (v := 180) hx hb dX0_init_25 (by decide) ?_
  refine k_newa C0 0 (ty := .int) rfl (atype := .int) rfl wd12 hP hD hS hA (a0 := (180, .inl (fun _ => 0))) (fun _ => rfl) (by decide) (by decide) (Nat.le_of_ble_eq_true rfl) 4 370 (Nat.le_of_ble_eq_true rfl) (Nat.le_of_ble_eq_true rfl) (Nat.le_of_ble_eq_true rfl) (Nat.le_of_ble_eq_true rfl) dX0_init_28 (fun q358 H hP hD hS => ?_)
  have hP : va_P (dC, dI) vwCl [(a0, .inr (0, [.null, .ref q352, .ref q357, .null, .int 0])), (q352, .inr (6, [.int 0, .int 0, .int 0, .ref q356])), (q357, .inl (cy 0, 180, .inl (fun _ => 0))), (q358, .inl (cy 0, 180, .inl (fun _ => 0)))] H := hP
  have hD : va_D A [(a0, .inr (0, [.null, .ref q352, .ref q357, .null, .int 0])), (q352, .inr (6, [.int 0, .int 0, .int 0, .ref q356])), (q357, .inl (cy 0, 180, .inl (fun _ => 0))), (q358, .inl (cy 0, 180, .inl (fun _ => 0)))] := hD
  refine k_putF C0 hin fp_X0_22 hP hD hS 0 rfl rfl rfl (Nat.le_of_ble_eq_true rfl) dX0_init_30 (fun H locs hP hD hS => ?_)
  have hP : va_P (dC, dI) vwCl [(a0, .inr (0, [.null, .ref q352, .ref q357, .ref q358, .int 0])), (q352, .inr (6, [.int 0, .int 0, .int 0, .ref q356])), (q357, .inl (cy 0, 180, .inl (fun _ => 0))), (q358, .inl (cy 0, 180, .inl (fun _ => 0)))] H := hP
  have hD : va_D A [(a0, .inr (0, [.null, .ref q352, .ref q357, .ref q358, .int 0])), (q352, .inr (6, [.int 0, .int 0, .int 0, .ref q356])), (q357, .inl (cy 0, 180, .inl (fun _ => 0))), (q358, .inl (cy 0, 180, .inl (fun _ => 0)))] := hD
  refine lv_aload_n hx hb dX0_init_33 rfl (lv_at hl 0 rfl) ?_
  refine lv_iconst (v := 0) hx hb dX0_init_34 (by decide) ?_
  refine k_put C0 fp_X0_25 hP hD hS 0 rfl rfl rfl (Nat.le_of_ble_eq_true rfl) dX0_init_35 (fun H locs hP hD hS => ?_)
  have hP : va_P (dC, dI) vwCl [(a0, .inr (0, [.null, .ref q352, .ref q357, .ref q358, .int 0])), (q352, .inr (6, [.int 0, .int 0, .int 0, .ref q356])), (q357, .inl (cy 0, 180, .inl (fun _ => 0))), (q358, .inl (cy 0, 180, .inl (fun _ => 0)))] H := hP
  have hD : va_D A [(a0, .inr (0, [.null, .ref q352, .ref q357, .ref q358, .int 0])), (q352, .inr (6, [.int 0, .int 0, .int 0, .ref q356])), (q357, .inl (cy 0, 180, .inl (fun _ => 0))), (q358, .inl (cy 0, 180, .inl (fun _ => 0)))] := hD
  refine lv_aload_n hx hb dX0_init_38 rfl (lv_at hl 0 rfl) ?_
  refine lv_aload_n hx hb dX0_init_39 rfl (lv_at hl 1 rfl) ?_
  refine k_putF C0 hin fp_X0_29 hP hD hS 0 rfl rfl rfl (Nat.le_of_ble_eq_true rfl) dX0_init_40 (fun H locs hP hD hS => ?_)
  have hP : va_P (dC, dI) vwCl [(a0, .inr (0, [.ref a1, .ref q352, .ref q357, .ref q358, .int 0])), (q352, .inr (6, [.int 0, .int 0, .int 0, .ref q356])), (q357, .inl (cy 0, 180, .inl (fun _ => 0))), (q358, .inl (cy 0, 180, .inl (fun _ => 0)))] H := hP
  have hD : va_D A [(a0, .inr (0, [.ref a1, .ref q352, .ref q357, .ref q358, .int 0])), (q352, .inr (6, [.int 0, .int 0, .int 0, .ref q356])), (q357, .inl (cy 0, 180, .inl (fun _ => 0))), (q358, .inl (cy 0, 180, .inl (fun _ => 0)))] := hD
  exact k_vret hx hb hr hlk (q352, q357, q358) hS True.intro (hP.sub [0] rfl) (hD.sub [0] (by decide) rfl) (Nat.le_of_ble_eq_true rfl) (Nat.le_of_ble_eq_true rfl) dX0_init_43
set_option maxHeartbeats 4000000 in
set_option maxRecDepth 100000 in
theorem c_X8_init (l : Launch) (dC : Nat → ClassId) (dI : Nat → Nat → Nat) (cy : Nat → ClassId) (sq : Nat → Nat) (a0 : Nat) (a1 : Nat) : k_Met l yX8_init cX8_init 2 none { frames := 1, cells := 3, slots := 752, locals := 12 } dC dI cy sq [.ref a0, .ref a1] [(a0, .inr (8, [.null, .null, .null, .int 0, .int 0, .null, .int 0, .int 0, .int 0, .int 0, .int 0]))] (k_Qv dC dI (fun _ : Nat × Nat × Nat => True) (fun u : Nat × Nat × Nat => match u with | (q368, q369, q370) => [(a0, .inr (8, [.ref a1, .ref q368, .ref q369, .int 0, .int 0, .ref q370, .int 0, .int 0, .int (-1), .int (-1), .int (-1)]))])) := by
  refine k_ofW (by decide +kernel) (Nat.le_of_ble_eq_true rfl) ?_
  intro p e s m below meth c A ls H locs C0 hr hlk hin hP hD hA hS hl
  have C0 : k_cx p s m _ c cX8_init 2 RX8 dC dI cy sq := C0
  have hx := C0.1
  have hb := C0.2.1
  have hl : lv_has ls 2 [(0, .ref a0), (1, .ref a1)] := hl
  refine lv_aload_n hx hb dX8_init_0 rfl (lv_at hl 0 rfl) ?_
  refine k_obj C0 wd142 wd10 wd11 hl dX8_init_1 (Nat.le_of_ble_eq_true rfl) (Nat.le_of_ble_eq_true rfl) ?_
  refine lv_aload_n hx hb dX8_init_4 rfl (lv_at hl 0 rfl) ?_
  refine lv_bipush (v := 16) hx hb dX8_init_5 (by decide) ?_
  refine k_newa C0 0 (ty := .int) rfl (atype := .int) rfl wd12 hP hD hS hA (a0 := (16, .inl (fun _ => 0))) (fun _ => rfl) (by decide) (by decide) (Nat.le_of_ble_eq_true rfl) 1 16 (Nat.le_of_ble_eq_true rfl) (Nat.le_of_ble_eq_true rfl) (Nat.le_of_ble_eq_true rfl) (Nat.le_of_ble_eq_true rfl) dX8_init_7 (fun q368 H hP hD hS => ?_)
  have hP : va_P (dC, dI) vwCl [(a0, .inr (8, [.null, .null, .null, .int 0, .int 0, .null, .int 0, .int 0, .int 0, .int 0, .int 0])), (q368, .inl (cy 0, 16, .inl (fun _ => 0)))] H := hP
  have hD : va_D A [(a0, .inr (8, [.null, .null, .null, .int 0, .int 0, .null, .int 0, .int 0, .int 0, .int 0, .int 0])), (q368, .inl (cy 0, 16, .inl (fun _ => 0)))] := hD
  refine k_putF C0 hin fp_X8_9 hP hD hS 0 rfl rfl rfl (Nat.le_of_ble_eq_true rfl) dX8_init_9 (fun H locs hP hD hS => ?_)
  have hP : va_P (dC, dI) vwCl [(a0, .inr (8, [.null, .ref q368, .null, .int 0, .int 0, .null, .int 0, .int 0, .int 0, .int 0, .int 0])), (q368, .inl (cy 0, 16, .inl (fun _ => 0)))] H := hP
  have hD : va_D A [(a0, .inr (8, [.null, .ref q368, .null, .int 0, .int 0, .null, .int 0, .int 0, .int 0, .int 0, .int 0])), (q368, .inl (cy 0, 16, .inl (fun _ => 0)))] := hD
  refine lv_aload_n hx hb dX8_init_12 rfl (lv_at hl 0 rfl) ?_
  refine lv_bipush (v := 16) hx hb dX8_init_13 (by decide) ?_
  refine k_newa C0 0 (ty := .int) rfl (atype := .int) rfl wd12 hP hD hS hA (a0 := (16, .inl (fun _ => 0))) (fun _ => rfl) (by decide) (by decide) (Nat.le_of_ble_eq_true rfl) 2 32 (Nat.le_of_ble_eq_true rfl) (Nat.le_of_ble_eq_true rfl) (Nat.le_of_ble_eq_true rfl) (Nat.le_of_ble_eq_true rfl) dX8_init_15 (fun q369 H hP hD hS => ?_)
  have hP : va_P (dC, dI) vwCl [(a0, .inr (8, [.null, .ref q368, .null, .int 0, .int 0, .null, .int 0, .int 0, .int 0, .int 0, .int 0])), (q368, .inl (cy 0, 16, .inl (fun _ => 0))), (q369, .inl (cy 0, 16, .inl (fun _ => 0)))] H := hP
  have hD : va_D A [(a0, .inr (8, [.null, .ref q368, .null, .int 0, .int 0, .null, .int 0, .int 0, .int 0, .int 0, .int 0])), (q368, .inl (cy 0, 16, .inl (fun _ => 0))), (q369, .inl (cy 0, 16, .inl (fun _ => 0)))] := hD
  refine k_putF C0 hin fp_X8_15 hP hD hS 0 rfl rfl rfl (Nat.le_of_ble_eq_true rfl) dX8_init_17 (fun H locs hP hD hS => ?_)
  have hP : va_P (dC, dI) vwCl [(a0, .inr (8, [.null, .ref q368, .ref q369, .int 0, .int 0, .null, .int 0, .int 0, .int 0, .int 0, .int 0])), (q368, .inl (cy 0, 16, .inl (fun _ => 0))), (q369, .inl (cy 0, 16, .inl (fun _ => 0)))] H := hP
  have hD : va_D A [(a0, .inr (8, [.null, .ref q368, .ref q369, .int 0, .int 0, .null, .int 0, .int 0, .int 0, .int 0, .int 0])), (q368, .inl (cy 0, 16, .inl (fun _ => 0))), (q369, .inl (cy 0, 16, .inl (fun _ => 0)))] := hD
  refine lv_aload_n hx hb dX8_init_20 rfl (lv_at hl 0 rfl) ?_
  refine lv_iconst (v := 0) hx hb dX8_init_21 (by decide) ?_
  refine k_put C0 fp_X8_18 hP hD hS 0 rfl rfl rfl (Nat.le_of_ble_eq_true rfl) dX8_init_22 (fun H locs hP hD hS => ?_)
  have hP : va_P (dC, dI) vwCl [(a0, .inr (8, [.null, .ref q368, .ref q369, .int 0, .int 0, .null, .int 0, .int 0, .int 0, .int 0, .int 0])), (q368, .inl (cy 0, 16, .inl (fun _ => 0))), (q369, .inl (cy 0, 16, .inl (fun _ => 0)))] H := hP
  have hD : va_D A [(a0, .inr (8, [.null, .ref q368, .ref q369, .int 0, .int 0, .null, .int 0, .int 0, .int 0, .int 0, .int 0])), (q368, .inl (cy 0, 16, .inl (fun _ => 0))), (q369, .inl (cy 0, 16, .inl (fun _ => 0)))] := hD
  refine lv_aload_n hx hb dX8_init_25 rfl (lv_at hl 0 rfl) ?_
  refine lv_iconst (v := 0) hx hb dX8_init_26 (by decide) ?_
  refine k_put C0 fp_X8_22 hP hD hS 0 rfl (k_nb 0 (by decide)) (k_fb 0 (by decide)) (Nat.le_of_ble_eq_true rfl) dX8_init_27 (fun H locs hP hD hS => ?_)
  have hP : va_P (dC, dI) vwCl [(a0, .inr (8, [.null, .ref q368, .ref q369, .int 0, .int 0, .null, .int 0, .int 0, .int 0, .int 0, .int 0])), (q368, .inl (cy 0, 16, .inl (fun _ => 0))), (q369, .inl (cy 0, 16, .inl (fun _ => 0)))] H := hP
  have hD : va_D A [(a0, .inr (8, [.null, .ref q368, .ref q369, .int 0, .int 0, .null, .int 0, .int 0, .int 0, .int 0, .int 0])), (q368, .inl (cy 0, 16, .inl (fun _ => 0))), (q369, .inl (cy 0, 16, .inl (fun _ => 0)))] := hD
  refine lv_aload_n hx hb dX8_init_30 rfl (lv_at hl 0 rfl) ?_
  refine lv_sipush (v := 720) hx hb dX8_init_31 (by decide) ?_
  refine k_newa C0 0 (ty := .int) rfl (atype := .int) rfl wd12 hP hD hS hA (a0 := (720, .inl (fun _ => 0))) (fun _ => rfl) (by decide) (by decide) (Nat.le_of_ble_eq_true rfl) 3 752 (Nat.le_of_ble_eq_true rfl) (Nat.le_of_ble_eq_true rfl) (Nat.le_of_ble_eq_true rfl) (Nat.le_of_ble_eq_true rfl) dX8_init_34 (fun q370 H hP hD hS => ?_)
  have hP : va_P (dC, dI) vwCl [(a0, .inr (8, [.null, .ref q368, .ref q369, .int 0, .int 0, .null, .int 0, .int 0, .int 0, .int 0, .int 0])), (q368, .inl (cy 0, 16, .inl (fun _ => 0))), (q369, .inl (cy 0, 16, .inl (fun _ => 0))), (q370, .inl (cy 0, 720, .inl (fun _ => 0)))] H := hP
  have hD : va_D A [(a0, .inr (8, [.null, .ref q368, .ref q369, .int 0, .int 0, .null, .int 0, .int 0, .int 0, .int 0, .int 0])), (q368, .inl (cy 0, 16, .inl (fun _ => 0))), (q369, .inl (cy 0, 16, .inl (fun _ => 0))), (q370, .inl (cy 0, 720, .inl (fun _ => 0)))] := hD
  refine k_putF C0 hin fp_X8_26 hP hD hS 0 rfl rfl rfl (Nat.le_of_ble_eq_true rfl) dX8_init_36 (fun H locs hP hD hS => ?_)
  have hP : va_P (dC, dI) vwCl [(a0, .inr (8, [.null, .ref q368, .ref q369, .int 0, .int 0, .ref q370, .int 0, .int 0, .int 0, .int 0, .int 0])), (q368, .inl (cy 0, 16, .inl (fun _ => 0))), (q369, .inl (cy 0, 16, .inl (fun _ => 0))), (q370, .inl (cy 0, 720, .inl (fun _ => 0)))] H := hP
  have hD : va_D A [(a0, .inr (8, [.null, .ref q368, .ref q369, .int 0, .int 0, .ref q370, .int 0, .int 0, .int 0, .int 0, .int 0])), (q368, .inl (cy 0, 16, .inl (fun _ => 0))), (q369, .inl (cy 0, 16, .inl (fun _ => 0))), (q370, .inl (cy 0, 720, .inl (fun _ => 0)))] := hD
  refine lv_aload_n hx hb dX8_init_39 rfl (lv_at hl 0 rfl) ?_
  refine lv_iconst (v := 0) hx hb dX8_init_40 (by decide) ?_
  refine k_put C0 fp_X8_29 hP hD hS 0 rfl rfl rfl (Nat.le_of_ble_eq_true rfl) dX8_init_41 (fun H locs hP hD hS => ?_)
  have hP : va_P (dC, dI) vwCl [(a0, .inr (8, [.null, .ref q368, .ref q369, .int 0, .int 0, .ref q370, .int 0, .int 0, .int 0, .int 0, .int 0])), (q368, .inl (cy 0, 16, .inl (fun _ => 0))), (q369, .inl (cy 0, 16, .inl (fun _ => 0))), (q370, .inl (cy 0, 720, .inl (fun _ => 0)))] H := hP
  have hD : va_D A [(a0, .inr (8, [.null, .ref q368, .ref q369, .int 0, .int 0, .ref q370, .int 0, .int 0, .int 0, .int 0, .int 0])), (q368, .inl (cy 0, 16, .inl (fun _ => 0))), (q369, .inl (cy 0, 16, .inl (fun _ => 0))), (q370, .inl (cy 0, 720, .inl (fun _ => 0)))] := hD
  refine lv_aload_n hx hb dX8_init_44 rfl (lv_at hl 0 rfl) ?_
  refine lv_iconst (v := 0) hx hb dX8_init_45 (by decide) ?_
  refine k_put C0 fp_X8_32 hP hD hS 0 rfl rfl rfl (Nat.le_of_ble_eq_true rfl) dX8_init_46 (fun H locs hP hD hS => ?_)
  have hP : va_P (dC, dI) vwCl [(a0, .inr (8, [.null, .ref q368, .ref q369, .int 0, .int 0, .ref q370, .int 0, .int 0, .int 0, .int 0, .int 0])), (q368, .inl (cy 0, 16, .inl (fun _ => 0))), (q369, .inl (cy 0, 16, .inl (fun _ => 0))), (q370, .inl (cy 0, 720, .inl (fun _ => 0)))] H := hP
  have hD : va_D A [(a0, .inr (8, [.null, .ref q368, .ref q369, .int 0, .int 0, .ref q370, .int 0, .int 0, .int 0, .int 0, .int 0])), (q368, .inl (cy 0, 16, .inl (fun _ => 0))), (q369, .inl (cy 0, 16, .inl (fun _ => 0))), (q370, .inl (cy 0, 720, .inl (fun _ => 0)))] := hD
  refine lv_aload_n hx hb dX8_init_49 rfl (lv_at hl 0 rfl) ?_
  refine lv_iconst (v := (-1)) hx hb dX8_init_50 (by decide) ?_
  refine k_put C0 fp_X8_35 hP hD hS 0 rfl rfl rfl (Nat.le_of_ble_eq_true rfl) dX8_init_51 (fun H locs hP hD hS => ?_)
  have hP : va_P (dC, dI) vwCl [(a0, .inr (8, [.null, .ref q368, .ref q369, .int 0, .int 0, .ref q370, .int 0, .int 0, .int (-1), .int 0, .int 0])), (q368, .inl (cy 0, 16, .inl (fun _ => 0))), (q369, .inl (cy 0, 16, .inl (fun _ => 0))), (q370, .inl (cy 0, 720, .inl (fun _ => 0)))] H := hP
  have hD : va_D A [(a0, .inr (8, [.null, .ref q368, .ref q369, .int 0, .int 0, .ref q370, .int 0, .int 0, .int (-1), .int 0, .int 0])), (q368, .inl (cy 0, 16, .inl (fun _ => 0))), (q369, .inl (cy 0, 16, .inl (fun _ => 0))), (q370, .inl (cy 0, 720, .inl (fun _ => 0)))] := hD
  refine lv_aload_n hx hb dX8_init_54 rfl (lv_at hl 0 rfl) ?_
  refine lv_iconst (v := (-1)) hx hb dX8_init_55 (by decide) ?_
  refine k_put C0 fp_X8_38 hP hD hS 0 rfl rfl rfl (Nat.le_of_ble_eq_true rfl) dX8_init_56 (fun H locs hP hD hS => ?_)
  have hP : va_P (dC, dI) vwCl [(a0, .inr (8, [.null, .ref q368, .ref q369, .int 0, .int 0, .ref q370, .int 0, .int 0, .int (-1), .int (-1), .int 0])), (q368, .inl (cy 0, 16, .inl (fun _ => 0))), (q369, .inl (cy 0, 16, .inl (fun _ => 0))), (q370, .inl (cy 0, 720, .inl (fun _ => 0)))] H := hP
  have hD : va_D A [(a0, .inr (8, [.null, .ref q368, .ref q369, .int 0, .int 0, .ref q370, .int 0, .int 0, .int (-1), .int (-1), .int 0])), (q368, .inl (cy 0, 16, .inl (fun _ => 0))), (q369, .inl (cy 0, 16, .inl (fun _ => 0))), (q370, .inl (cy 0, 720, .inl (fun _ => 0)))] := hD
  refine lv_aload_n hx hb dX8_init_59 rfl (lv_at hl 0 rfl) ?_
  refine lv_iconst (v := (-1)) hx hb dX8_init_60 (by decide) ?_
  refine k_put C0 fp_X8_41 hP hD hS 0 rfl rfl rfl (Nat.le_of_ble_eq_true rfl) dX8_init_61 (fun H locs hP hD hS => ?_)
  have hP : va_P (dC, dI) vwCl [(a0, .inr (8, [.null, .ref q368, .ref q369, .int 0, .int 0, .ref q370, .int 0, .int 0, .int (-1), .int (-1), .int (-1)])), (q368, .inl (cy 0, 16, .inl (fun _ => 0))), (q369, .inl (cy 0, 16, .inl (fun _ => 0))), (q370, .inl (cy 0, 720, .inl (fun _ => 0)))] H := hP
  have hD : va_D A [(a0, .inr (8, [.null, .ref q368, .ref q369, .int 0, .int 0, .ref q370, .int 0, .int 0, .int (-1), .int (-1), .int (-1)])), (q368, .inl (cy 0, 16, .inl (fun _ => 0))), (q369, .inl (cy 0, 16, .inl (fun _ => 0))), (q370, .inl (cy 0, 720, .inl (fun _ => 0)))] := hD
  refine lv_aload_n hx hb dX8_init_64 rfl (lv_at hl 0 rfl) ?_
  refine lv_aload_n hx hb dX8_init_65 rfl (lv_at hl 1 rfl) ?_
  refine k_putF C0 hin fp_X8_44 hP hD hS 0 rfl rfl rfl (Nat.le_of_ble_eq_true rfl) dX8_init_66 (fun H locs hP hD hS => ?_)
  have hP : va_P (dC, dI) vwCl [(a0, .inr (8, [.ref a1, .ref q368, .ref q369, .int 0, .int 0, .ref q370, .int 0, .int 0, .int (-1), .int (-1), .int (-1)])), (q368, .inl (cy 0, 16, .inl (fun _ => 0))), (q369, .inl (cy 0, 16, .inl (fun _ => 0))), (q370, .inl (cy 0, 720, .inl (fun _ => 0)))] H := hP
  have hD : va_D A [(a0, .inr (8, [.ref a1, .ref q368, .ref q369, .int 0, .int 0, .ref q370, .int 0, .int 0, .int (-1), .int (-1), .int (-1)])), (q368, .inl (cy 0, 16, .inl (fun _ => 0))), (q369, .inl (cy 0, 16, .inl (fun _ => 0))), (q370, .inl (cy 0, 720, .inl (fun _ => 0)))] := hD
  exact k_vret hx hb hr hlk (q368, q369, q370) hS True.intro (hP.sub [0] rfl) (hD.sub [0] (by decide) rfl) (Nat.le_of_ble_eq_true rfl) (Nat.le_of_ble_eq_true rfl) dX8_init_69
set_option maxHeartbeats 4000000 in
set_option maxRecDepth 100000 in
theorem c_X9_init (l : Launch) (dC : Nat → ClassId) (dI : Nat → Nat → Nat) (cy : Nat → ClassId) (sq : Nat → Nat) (a0 : Nat) : k_Met l yX9_init cX9_init 1 none { frames := 3, cells := 89, slots := 11641, locals := 53 } dC dI cy sq [.ref a0] [(a0, .inr (9, [.null, .int 0, .null, .null, .null, .null, .null, .null, .null, .null, .null, .null, .null, .int 0, .null, .long 0]))] (k_Qv dC dI (fun _ : (Nat → Nat) => True) (fun u : Nat → Nat => [(a0, .inr (9, [.ref (u 0), .int 0, .ref (u 1), .ref (u 2), .ref (u 3), .ref (u 4), .ref (u 5), .ref (u 6), .ref (u 7), .ref (u 8), .ref (u 9), .ref (u 10), .ref (u 11), .int 0, .ref (u 12), .long 1])), ((u 0), .inl (cy 0, 1600, .inl (fun _ => 0))), ((u 1), .inr (4, [.int 0, .int 0, .int 0, .int 0, .int 0, .int 0, .int 0, .ref (u 13), .ref (u 14), .ref (u 15), .int 0, .ref (u 16), .ref (u 17), .ref (u 18), .ref (u 19), .ref (u 20), .int 0, .ref (u 21)])), ((u 2), .inr (4, [.int 0, .int 0, .int 0, .int 0, .int 0, .int 0, .int 0, .ref (u 22), .ref (u 23), .ref (u 24), .int 0, .ref (u 25), .ref (u 26), .ref (u 27), .ref (u 28), .ref (u 29), .int 0, .ref (u 30)])), ((u 27), .inl (cy 0, 200, .inl (fun _ => 0))), ((u 30), .inl (cy 0, 6, .inl (fun _ => 0))), ((u 3), .inr (6, [.int 0, .int 0, .int 0, .ref (u 31)])), ((u 4), .inr (2, [.ref (u 32), .int 0, .int 0])), ((u 6), .inr (5, [.ref (u 0), .int 0, .int 0, .int 0, .int 0, .int 0, .ref (u 2), .int 0, .int (-1)])), ((u 10), .inr (8, [.ref (u 7), .ref (u 33), .ref (u 34), .int 0, .int 0, .ref (u 35), .int 0, .int 0, .int (-1), .int (-1), .int (-1)])), ((u 11), .inl (cy 0, 11, .inl (fun _ => 0))), ((u 12), .inl (cy 0, 6, .inl (fun _ => 0)))])) := by
  refine k_ofW (by decide +kernel) (Nat.le_of_ble_eq_true rfl) ?_
  intro p e s m below meth c A ls H locs C0 hr hlk hin hP hD hA hS hl
  have C0 : k_cx p s m _ c cX9_init 1 RX9 dC dI cy sq := C0
  have hx := C0.1
  have hb := C0.2.1
  have hl : lv_has ls 1 [(0, .ref a0)] := hl
  refine lv_aload_n hx hb dX9_init_0 rfl (lv_at hl 0 rfl) ?_
  refine k_obj C0 wd9 wd10 wd11 hl dX9_init_1 (Nat.le_of_ble_eq_true rfl) (Nat.le_of_ble_eq_true rfl) ?_
  refine lv_aload_n hx hb dX9_init_4 rfl (lv_at hl 0 rfl) ?_
  refine lv_sipush (v := 1600) hx hb dX9_init_5 (by decide) ?_
  refine k_newa C0 0 (ty := .int) rfl (atype := .int) rfl wd12 hP hD hS hA (a0 := (1600, .inl (fun _ => 0))) (fun _ => rfl) (by decide) (by decide) (Nat.le_of_ble_eq_true rfl) 1 1600 (Nat.le_of_ble_eq_true rfl) (Nat.le_of_ble_eq_true rfl) (Nat.le_of_ble_eq_true rfl) (Nat.le_of_ble_eq_true rfl) dX9_init_8 (fun q378 H hP hD hS => ?_)
  have hP : va_P (dC, dI) vwCl [(a0, .inr (9, [.null, .int 0, .null, .null, .null, .null, .null, .null, .null, .null, .null, .null, .null, .int 0, .null, .long 0])), (q378, .inl (cy 0, 1600, .inl (fun _ => 0)))] H := hP
  have hD : va_D A [(a0, .inr (9, [.null, .int 0, .null, .null, .null, .null, .null, .null, .null, .null, .null, .null, .null, .int 0, .null, .long 0])), (q378, .inl (cy 0, 1600, .inl (fun _ => 0)))] := hD
  refine k_putF C0 hin fp_X9_9 hP hD hS 0 rfl rfl rfl (Nat.le_of_ble_eq_true rfl) dX9_init_10 (fun H locs hP hD hS => ?_)
  have hP : va_P (dC, dI) vwCl [(a0, .inr (9, [.ref q378, .int 0, .null, .null, .null, .null, .null, .null, .null, .null, .null, .null, .null, .int 0, .null, .long 0])), (q378, .inl (cy 0, 1600, .inl (fun _ => 0)))] H := hP
  have hD : va_D A [(a0, .inr (9, [.ref q378, .int 0, .null, .null, .null, .null, .null, .null, .null, .null, .null, .null, .null, .int 0, .null, .long 0])), (q378, .inl (cy 0, 1600, .inl (fun _ => 0)))] := hD
  refine lv_aload_n hx hb dX9_init_13 rfl (lv_at hl 0 rfl) ?_
  refine lv_iconst (v := 0) hx hb dX9_init_14 (by decide) ?_
  refine k_put C0 fp_X9_13 hP hD hS 0 rfl rfl rfl (Nat.le_of_ble_eq_true rfl) dX9_init_15 (fun H locs hP hD hS => ?_)
  have hP : va_P (dC, dI) vwCl [(a0, .inr (9, [.ref q378, .int 0, .null, .null, .null, .null, .null, .null, .null, .null, .null, .null, .null, .int 0, .null, .long 0])), (q378, .inl (cy 0, 1600, .inl (fun _ => 0)))] H := hP
  have hD : va_D A [(a0, .inr (9, [.ref q378, .int 0, .null, .null, .null, .null, .null, .null, .null, .null, .null, .null, .null, .int 0, .null, .long 0])), (q378, .inl (cy 0, 1600, .inl (fun _ => 0)))] := hD
  refine lv_aload_n hx hb dX9_init_18 rfl (lv_at hl 0 rfl) ?_
  refine k_new C0 n_X9_17 hP hD hS hA 2 1618 (Nat.le_of_ble_eq_true rfl) (Nat.le_of_ble_eq_true rfl) (Nat.le_of_ble_eq_true rfl) (Nat.le_of_ble_eq_true rfl) dX9_init_19 (fun q379 H hP hD hS => ?_)
  have hP : va_P (dC, dI) vwCl [(a0, .inr (9, [.ref q378, .int 0, .null, .null, .null, .null, .null, .null, .null, .null, .null, .null, .null, .int 0, .null, .long 0])), (q378, .inl (cy 0, 1600, .inl (fun _ => 0))), (q379, .inr (4, [.int 0, .int 0, .int 0, .int 0, .int 0, .int 0, .int 0, .null, .null, .null, .int 0, .null, .null, .null, .null, .null, .int 0, .null]))] H := hP
  have hD : va_D A [(a0, .inr (9, [.ref q378, .int 0, .null, .null, .null, .null, .null, .null, .null, .null, .null, .null, .null, .int 0, .null, .long 0])), (q378, .inl (cy 0, 1600, .inl (fun _ => 0))), (q379, .inr (4, [.int 0, .int 0, .int 0, .int 0, .int 0, .int 0, .int 0, .null, .null, .null, .int 0, .null, .null, .null, .null, .null, .int 0, .null]))] := hD
  refine lv_dup hx hb dX9_init_22 rfl ?_
  refine k_jv hP hD hS hA [2] [0, 1] (wr := [(a0, .inr (9, [.ref q378, .int 0, .null, .null, .null, .null, .null, .null, .null, .null, .null, .null, .null, .int 0, .null, .long 0])), (q378, .inl (cy 0, 1600, .inl (fun _ => 0)))]) rfl rfl (by decide) (by decide) (by decide) 11 3574 (Nat.le_of_ble_eq_true rfl) (Nat.le_of_ble_eq_true rfl) (fun hPc hDc => k_runN (As := []) (rest := [.ref q379, .ref a0]) C0 (c_X4_init l dC dI cy sq q379) mN_X4_init (C0.2.2.2.2.2.2.1) hPc hDc hl rfl rfl (Nat.le_of_ble_eq_true rfl) ⟨(Nat.le_of_ble_eq_true rfl), (Nat.le_of_ble_eq_true rfl)⟩ ⟨(Nat.le_of_ble_eq_true rfl), (Nat.le_of_ble_eq_true rfl)⟩ dX9_init_23) (fun u390 H locs hw hP hD hS => ?_)
  obtain ⟨q391, q392, q393, q394, q395, q396, q397, q398, q399⟩ := u390
  try dsimp only at hP hD
  have hP : va_P (dC, dI) vwCl [(a0, .inr (9, [.ref q378, .int 0, .null, .null, .null, .null, .null, .null, .null, .null, .null, .null, .null, .int 0, .null, .long 0])), (q378, .inl (cy 0, 1600, .inl (fun _ => 0))), (q379, .inr (4, [.int 0, .int 0, .int 0, .int 0, .int 0, .int 0, .int 0, .ref q391, .ref q392, .ref q393, .int 0, .ref q394, .ref q395, .ref q396, .ref q397, .ref q398, .int 0, .ref q399])), (q396, .inl (cy 0, 200, .inl (fun _ => 0))), (q399, .inl (cy 0, 6, .inl (fun _ => 0)))] H := hP
  have hD : va_D A [(a0, .inr (9, [.ref q378, .int 0, .null, .null, .null, .null, .null, .null, .null, .null, .null, .null, .null, .int 0, .null, .long 0])), (q378, .inl (cy 0, 1600, .inl (fun _ => 0))), (q379, .inr (4, [.int 0, .int 0, .int 0, .int 0, .int 0, .int 0, .int 0, .ref q391, .ref q392, .ref q393, .int 0, .ref q394, .ref q395, .ref q396, .ref q397, .ref q398, .int 0, .ref q399])), (q396, .inl (cy 0, 200, .inl (fun _ => 0))), (q399, .inl (cy 0, 6, .inl (fun _ => 0)))] := hD
  have hP : va_P (dC, dI) vwCl [(a0, .inr (9, [.ref q378, .int 0, .null, .null, .null, .null, .null, .null, .null, .null, .null, .null, .null, .int 0, .null, .long 0])), (q378, .inl (cy 0, 1600, .inl (fun _ => 0))), (q379, .inr (4, [.int 0, .int 0, .int 0, .int 0, .int 0, .int 0, .int 0, .ref q391, .ref q392, .ref q393, .int 0, .ref q394, .ref q395, .ref q396, .ref q397, .ref q398, .int 0, .ref q399]))] H := hP.sub [0, 1, 2] rfl
  have hD : va_D A [(a0, .inr (9, [.ref q378, .int 0, .null, .null, .null, .null, .null, .null, .null, .null, .null, .null, .null, .int 0, .null, .long 0])), (q378, .inl (cy 0, 1600, .inl (fun _ => 0))), (q379, .inr (4, [.int 0, .int 0, .int 0, .int 0, .int 0, .int 0, .int 0, .ref q391, .ref q392, .ref q393, .int 0, .ref q394, .ref q395, .ref q396, .ref q397, .ref q398, .int 0, .ref q399]))] := hD.sub [0, 1, 2] (by decide) rfl
  refine k_put C0 fp_X9_20 hP hD hS 0 rfl rfl rfl (Nat.le_of_ble_eq_true rfl) dX9_init_26 (fun H locs hP hD hS => ?_)
  have hP : va_P (dC, dI) vwCl [(a0, .inr (9, [.ref q378, .int 0, .ref q379, .null, .null, .null, .null, .null, .null, .null, .null, .null, .null, .int 0, .null, .long 0])), (q378, .inl (cy 0, 1600, .inl (fun _ => 0))), (q379, .inr (4, [.int 0, .int 0, .int 0, .int 0, .int 0, .int 0, .int 0, .ref q391, .ref q392, .ref q393, .int 0, .ref q394, .ref q395, .ref q396, .ref q397, .ref q398, .int 0, .ref q399]))] H := hP
  have hD : va_D A [(a0, .inr (9, [.ref q378, .int 0, .ref q379, .null, .null, .null, .null, .null, .null, .null, .null, .null, .null, .int 0, .null, .long 0])), (q378, .inl (cy 0, 1600, .inl (fun _ => 0))), (q379, .inr (4, [.int 0, .int 0, .int 0, .int 0, .int 0, .int 0, .int 0, .ref q391, .ref q392, .ref q393, .int 0, .ref q394, .ref q395, .ref q396, .ref q397, .ref q398, .int 0, .ref q399]))] := hD
  refine lv_aload_n hx hb dX9_init_29 rfl (lv_at hl 0 rfl) ?_
  refine k_new C0 n_X9_17 hP hD hS hA 12 3592 (Nat.le_of_ble_eq_true rfl) (Nat.le_of_ble_eq_true rfl) (Nat.le_of_ble_eq_true rfl) (Nat.le_of_ble_eq_true rfl) dX9_init_30 (fun q400 H hP hD hS => ?_)
  have hP : va_P (dC, dI) vwCl [(a0, .inr (9, [.ref q378, .int 0, .ref q379, .null, .null, .null, .null, .null, .null, .null, .null, .null, .null, .int 0, .null, .long 0])), (q378, .inl (cy 0, 1600, .inl (fun _ => 0))), (q379, .inr (4, [.int 0, .int 0, .int 0, .int 0, .int 0, .int 0, .int 0, .ref q391, .ref q392, .ref q393, .int 0, .ref q394, .ref q395, .ref q396, .ref q397, .ref q398, .int 0, .ref q399])), (q400, .inr (4, [.int 0, .int 0, .int 0, .int 0, .int 0, .int 0, .int 0, .null, .null, .null, .int 0, .null, .null, .null, .null, .null, .int 0, .null]))] H := hP
  have hD : va_D A [(a0, .inr (9, [.ref q378, .int 0, .ref q379, .null, .null, .null, .null, .null, .null, .null, .null, .null, .null, .int 0, .null, .long 0])), (q378, .inl (cy 0, 1600, .inl (fun _ => 0))), (q379, .inr (4, [.int 0, .int 0, .int 0, .int 0, .int 0, .int 0, .int 0, .ref q391, .ref q392, .ref q393, .int 0, .ref q394, .ref q395, .ref q396, .ref q397, .ref q398, .int 0, .ref q399])), (q400, .inr (4, [.int 0, .int 0, .int 0, .int 0, .int 0, .int 0, .int 0, .null, .null, .null, .int 0, .null, .null, .null, .null, .null, .int 0, .null]))] := hD
  refine lv_dup hx hb dX9_init_33 rfl ?_
  refine k_jv hP hD hS hA [3] [0, 1, 2] (wr := [(a0, .inr (9, [.ref q378, .int 0, .ref q379, .null, .null, .null, .null, .null, .null, .null, .null, .null, .null, .int 0, .null, .long 0])), (q378, .inl (cy 0, 1600, .inl (fun _ => 0))), (q379, .inr (4, [.int 0, .int 0, .int 0, .int 0, .int 0, .int 0, .int 0, .ref q391, .ref q392, .ref q393, .int 0, .ref q394, .ref q395, .ref q396, .ref q397, .ref q398, .int 0, .ref q399]))]) rfl rfl (by decide) (by decide) (by decide) 21 5548 (Nat.le_of_ble_eq_true rfl) (Nat.le_of_ble_eq_true rfl) (fun hPc hDc => k_runN (As := []) (rest := [.ref q400, .ref a0]) C0 (c_X4_init l dC dI cy sq q400) mN_X4_init (C0.2.2.2.2.2.2.1) hPc hDc hl rfl rfl (Nat.le_of_ble_eq_true rfl) ⟨(Nat.le_of_ble_eq_true rfl), (Nat.le_of_ble_eq_true rfl)⟩ ⟨(Nat.le_of_ble_eq_true rfl), (Nat.le_of_ble_eq_true rfl)⟩ dX9_init_34) (fun u411 H locs hw hP hD hS => ?_)
  obtain ⟨q412, q413, q414, q415, q416, q417, q418, q419, q420⟩ := u411
  try dsimp only at hP hD
  have hP : va_P (dC, dI) vwCl [(a0, .inr (9, [.ref q378, .int 0, .ref q379, .null, .null, .null, .null, .null, .null, .null, .null, .null, .null, .int 0, .null, .long 0])), (q378, .inl (cy 0, 1600, .inl (fun _ => 0))), (q379, .inr (4, [.int 0, .int 0, .int 0, .int 0, .int 0, .int 0, .int 0, .ref q391, .ref q392, .ref q393, .int 0, .ref q394, .ref q395, .ref q396, .ref q397, .ref q398, .int 0, .ref q399])), (q400, .inr (4, [.int 0, .int 0, .int 0, .int 0, .int 0, .int 0, .int 0, .ref q412, .ref q413, .ref q414, .int 0, .ref q415, .ref q416, .ref q417, .ref q418, .ref q419, .int 0, .ref q420])), (q417, .inl (cy 0, 200, .inl (fun _ => 0))), (q420, .inl (cy 0, 6, .inl (fun _ => 0)))] H := hP
  have hD : va_D A [(a0, .inr (9, [.ref q378, .int 0, .ref q379, .null, .null, .null, .null, .null, .null, .null, .null, .null, .null, .int 0, .null, .long 0])), (q378, .inl (cy 0, 1600, .inl (fun _ => 0))), (q379, .inr (4, [.int 0, .int 0, .int 0, .int 0, .int 0, .int 0, .int 0, .ref q391, .ref q392, .ref q393, .int 0, .ref q394, .ref q395, .ref q396, .ref q397, .ref q398, .int 0, .ref q399])), (q400, .inr (4, [.int 0, .int 0, .int 0, .int 0, .int 0, .int 0, .int 0, .ref q412, .ref q413, .ref q414, .int 0, .ref q415, .ref q416, .ref q417, .ref q418, .ref q419, .int 0, .ref q420])), (q417, .inl (cy 0, 200, .inl (fun _ => 0))), (q420, .inl (cy 0, 6, .inl (fun _ => 0)))] := hD
  refine k_put C0 fp_X9_24 hP hD hS 0 rfl rfl rfl (Nat.le_of_ble_eq_true rfl) dX9_init_37 (fun H locs hP hD hS => ?_)
  have hP : va_P (dC, dI) vwCl [(a0, .inr (9, [.ref q378, .int 0, .ref q379, .ref q400, .null, .null, .null, .null, .null, .null, .null, .null, .null, .int 0, .null, .long 0])), (q378, .inl (cy 0, 1600, .inl (fun _ => 0))), (q379, .inr (4, [.int 0, .int 0, .int 0, .int 0, .int 0, .int 0, .int 0, .ref q391, .ref q392, .ref q393, .int 0, .ref q394, .ref q395, .ref q396, .ref q397, .ref q398, .int 0, .ref q399])), (q400, .inr (4, [.int 0, .int 0, .int 0, .int 0, .int 0, .int 0, .int 0, .ref q412, .ref q413, .ref q414, .int 0, .ref q415, .ref q416, .ref q417, .ref q418, .ref q419, .int 0, .ref q420])), (q417, .inl (cy 0, 200, .inl (fun _ => 0))), (q420, .inl (cy 0, 6, .inl (fun _ => 0)))] H := hP
  have hD : va_D A [(a0, .inr (9, [.ref q378, .int 0, .ref q379, .ref q400, .null, .null, .null, .null, .null, .null, .null, .null, .null, .int 0, .null, .long 0])), (q378, .inl (cy 0, 1600, .inl (fun _ => 0))), (q379, .inr (4, [.int 0, .int 0, .int 0, .int 0, .int 0, .int 0, .int 0, .ref q391, .ref q392, .ref q393, .int 0, .ref q394, .ref q395, .ref q396, .ref q397, .ref q398, .int 0, .ref q399])), (q400, .inr (4, [.int 0, .int 0, .int 0, .int 0, .int 0, .int 0, .int 0, .ref q412, .ref q413, .ref q414, .int 0, .ref q415, .ref q416, .ref q417, .ref q418, .ref q419, .int 0, .ref q420])), (q417, .inl (cy 0, 200, .inl (fun _ => 0))), (q420, .inl (cy 0, 6, .inl (fun _ => 0)))] := hD
  refine lv_aload_n hx hb dX9_init_40 rfl (lv_at hl 0 rfl) ?_
  refine k_new C0 n_X9_27 hP hD hS hA 22 5552 (Nat.le_of_ble_eq_true rfl) (Nat.le_of_ble_eq_true rfl) (Nat.le_of_ble_eq_true rfl) (Nat.le_of_ble_eq_true rfl) dX9_init_41 (fun q421 H hP hD hS => ?_)
  have hP : va_P (dC, dI) vwCl [(a0, .inr (9, [.ref q378, .int 0, .ref q379, .ref q400, .null, .null, .null, .null, .null, .null, .null, .null, .null, .int 0, .null, .long 0])), (q378, .inl (cy 0, 1600, .inl (fun _ => 0))), (q379, .inr (4, [.int 0, .int 0, .int 0, .int 0, .int 0, .int 0, .int 0, .ref q391, .ref q392, .ref q393, .int 0, .ref q394, .ref q395, .ref q396, .ref q397, .ref q398, .int 0, .ref q399])), (q400, .inr (4, [.int 0, .int 0, .int 0, .int 0, .int 0, .int 0, .int 0, .ref q412, .ref q413, .ref q414, .int 0, .ref q415, .ref q416, .ref q417, .ref q418, .ref q419, .int 0, .ref q420])), (q417, .inl (cy 0, 200, .inl (fun _ => 0))), (q420, .inl (cy 0, 6, .inl (fun _ => 0))), (q421, .inr (6, [.int 0, .int 0, .int 0, .null]))] H := hP
  have hD : va_D A [(a0, .inr (9, [.ref q378, .int 0, .ref q379, .ref q400, .null, .null, .null, .null, .null, .null, .null, .null, .null, .int 0, .null, .long 0])), (q378, .inl (cy 0, 1600, .inl (fun _ => 0))), (q379, .inr (4, [.int 0, .int 0, .int 0, .int 0, .int 0, .int 0, .int 0, .ref q391, .ref q392, .ref q393, .int 0, .ref q394, .ref q395, .ref q396, .ref q397, .ref q398, .int 0, .ref q399])), (q400, .inr (4, [.int 0, .int 0, .int 0, .int 0, .int 0, .int 0, .int 0, .ref q412, .ref q413, .ref q414, .int 0, .ref q415, .ref q416, .ref q417, .ref q418, .ref q419, .int 0, .ref q420])), (q417, .inl (cy 0, 200, .inl (fun _ => 0))), (q420, .inl (cy 0, 6, .inl (fun _ => 0))), (q421, .inr (6, [.int 0, .int 0, .int 0, .null]))] := hD
  refine lv_dup hx hb dX9_init_44 rfl ?_
  refine k_jv hP hD hS hA [6] [0, 1, 2, 3, 4, 5] (wr := [(a0, .inr (9, [.ref q378, .int 0, .ref q379, .ref q400, .null, .null, .null, .null, .null, .null, .null, .null, .null, .int 0, .null, .long 0])), (q378, .inl (cy 0, 1600, .inl (fun _ => 0))), (q379, .inr (4, [.int 0, .int 0, .int 0, .int 0, .int 0, .int 0, .int 0, .ref q391, .ref q392, .ref q393, .int 0, .ref q394, .ref q395, .ref q396, .ref q397, .ref q398, .int 0, .ref q399])), (q400, .inr (4, [.int 0, .int 0, .int 0, .int 0, .int 0, .int 0, .int 0, .ref q412, .ref q413, .ref q414, .int 0, .ref q415, .ref q416, .ref q417, .ref q418, .ref q419, .int 0, .ref q420])), (q417, .inl (cy 0, 200, .inl (fun _ => 0))), (q420, .inl (cy 0, 6, .inl (fun _ => 0)))]) rfl rfl (by decide) (by decide) (by decide) 23 5558 (Nat.le_of_ble_eq_true rfl) (Nat.le_of_ble_eq_true rfl) (fun hPc hDc => k_runN (As := []) (rest := [.ref q421, .ref a0]) C0 (c_X6_init l dC dI cy sq q421) mN_X6_init (C0.2.2.2.2.2.2.2.1) hPc hDc hl rfl rfl (Nat.le_of_ble_eq_true rfl) ⟨(Nat.le_of_ble_eq_true rfl), (Nat.le_of_ble_eq_true rfl)⟩ ⟨(Nat.le_of_ble_eq_true rfl), (Nat.le_of_ble_eq_true rfl)⟩ dX9_init_45) (fun u424 H locs hw hP hD hS => ?_)
  obtain ⟨q425, eq425⟩ : ∃ z, z = u424 := ⟨_, rfl⟩; subst eq425
  try dsimp only at hP hD
  have hP : va_P (dC, dI) vwCl [(a0, .inr (9, [.ref q378, .int 0, .ref q379, .ref q400, .null, .null, .null, .null, .null, .null, .null, .null, .null, .int 0, .null, .long 0])), (q378, .inl (cy 0, 1600, .inl (fun _ => 0))), (q379, .inr (4, [.int 0, .int 0, .int 0, .int 0, .int 0, .int 0, .int 0, .ref q391, .ref q392, .ref q393, .int 0, .ref q394, .ref q395, .ref q396, .ref q397, .ref q398, .int 0, .ref q399])), (q400, .inr (4, [.int 0, .int 0, .int 0, .int 0, .int 0, .int 0, .int 0, .ref q412, .ref q413, .ref q414, .int 0, .ref q415, .ref q416, .ref q417, .ref q418, .ref q419, .int 0, .ref q420])), (q417, .inl (cy 0, 200, .inl (fun _ => 0))), (q420, .inl (cy 0, 6, .inl (fun _ => 0))), (q421, .inr (6, [.int 0, .int 0, .int 0, .ref q425]))] H := hP
  have hD : va_D A [(a0, .inr (9, [.ref q378, .int 0, .ref q379, .ref q400, .null, .null, .null, .null, .null, .null, .null, .null, .null, .int 0, .null, .long 0])), (q378, .inl (cy 0, 1600, .inl (fun _ => 0))), (q379, .inr (4, [.int 0, .int 0, .int 0, .int 0, .int 0, .int 0, .int 0, .ref q391, .ref q392, .ref q393, .int 0, .ref q394, .ref q395, .ref q396, .ref q397, .ref q398, .int 0, .ref q399])), (q400, .inr (4, [.int 0, .int 0, .int 0, .int 0, .int 0, .int 0, .int 0, .ref q412, .ref q413, .ref q414, .int 0, .ref q415, .ref q416, .ref q417, .ref q418, .ref q419, .int 0, .ref q420])), (q417, .inl (cy 0, 200, .inl (fun _ => 0))), (q420, .inl (cy 0, 6, .inl (fun _ => 0))), (q421, .inr (6, [.int 0, .int 0, .int 0, .ref q425]))] := hD
  refine k_putF C0 hin fp_X9_30 hP hD hS 0 rfl rfl rfl (Nat.le_of_ble_eq_true rfl) dX9_init_48 (fun H locs hP hD hS => ?_)
  have hP : va_P (dC, dI) vwCl [(a0, .inr (9, [.ref q378, .int 0, .ref q379, .ref q400, .ref q421, .null, .null, .null, .null, .null, .null, .null, .null, .int 0, .null, .long 0])), (q378, .inl (cy 0, 1600, .inl (fun _ => 0))), (q379, .inr (4, [.int 0, .int 0, .int 0, .int 0, .int 0, .int 0, .int 0, .ref q391, .ref q392, .ref q393, .int 0, .ref q394, .ref q395, .ref q396, .ref q397, .ref q398, .int 0, .ref q399])), (q400, .inr (4, [.int 0, .int 0, .int 0, .int 0, .int 0, .int 0, .int 0, .ref q412, .ref q413, .ref q414, .int 0, .ref q415, .ref q416, .ref q417, .ref q418, .ref q419, .int 0, .ref q420])), (q417, .inl (cy 0, 200, .inl (fun _ => 0))), (q420, .inl (cy 0, 6, .inl (fun _ => 0))), (q421, .inr (6, [.int 0, .int 0, .int 0, .ref q425]))] H := hP
  have hD : va_D A [(a0, .inr (9, [.ref q378, .int 0, .ref q379, .ref q400, .ref q421, .null, .null, .null, .null, .null, .null, .null, .null, .int 0, .null, .long 0])), (q378, .inl (cy 0, 1600, .inl (fun _ => 0))), (q379, .inr (4, [.int 0, .int 0, .int 0, .int 0, .int 0, .int 0, .int 0, .ref q391, .ref q392, .ref q393, .int 0, .ref q394, .ref q395, .ref q396, .ref q397, .ref q398, .int 0, .ref q399])), (q400, .inr (4, [.int 0, .int 0, .int 0, .int 0, .int 0, .int 0, .int 0, .ref q412, .ref q413, .ref q414, .int 0, .ref q415, .ref q416, .ref q417, .ref q418, .ref q419, .int 0, .ref q420])), (q417, .inl (cy 0, 200, .inl (fun _ => 0))), (q420, .inl (cy 0, 6, .inl (fun _ => 0))), (q421, .inr (6, [.int 0, .int 0, .int 0, .ref q425]))] := hD
  refine lv_aload_n hx hb dX9_init_51 rfl (lv_at hl 0 rfl) ?_
  refine k_new C0 n_X9_34 hP hD hS hA 24 5561 (Nat.le_of_ble_eq_true rfl) (Nat.le_of_ble_eq_true rfl) (Nat.le_of_ble_eq_true rfl) (Nat.le_of_ble_eq_true rfl) dX9_init_52 (fun q426 H hP hD hS => ?_)
  have hP : va_P (dC, dI) vwCl [(a0, .inr (9, [.ref q378, .int 0, .ref q379, .ref q400, .ref q421, .null, .null, .null, .null, .null, .null, .null, .null, .int 0, .null, .long 0])), (q378, .inl (cy 0, 1600, .inl (fun _ => 0))), (q379, .inr (4, [.int 0, .int 0, .int 0, .int 0, .int 0, .int 0, .int 0, .ref q391, .ref q392, .ref q393, .int 0, .ref q394, .ref q395, .ref q396, .ref q397, .ref q398, .int 0, .ref q399])), (q400, .inr (4, [.int 0, .int 0, .int 0, .int 0, .int 0, .int 0, .int 0, .ref q412, .ref q413, .ref q414, .int 0, .ref q415, .ref q416, .ref q417, .ref q418, .ref q419, .int 0, .ref q420])), (q417, .inl (cy 0, 200, .inl (fun _ => 0))), (q420, .inl (cy 0, 6, .inl (fun _ => 0))), (q421, .inr (6, [.int 0, .int 0, .int 0, .ref q425])), (q426, .inr (2, [.null, .int 0, .int 0]))] H := hP
  have hD : va_D A [(a0, .inr (9, [.ref q378, .int 0, .ref q379, .ref q400, .ref q421, .null, .null, .null, .null, .null, .null, .null, .null, .int 0, .null, .long 0])), (q378, .inl (cy 0, 1600, .inl (fun _ => 0))), (q379, .inr (4, [.int 0, .int 0, .int 0, .int 0, .int 0, .int 0, .int 0, .ref q391, .ref q392, .ref q393, .int 0, .ref q394, .ref q395, .ref q396, .ref q397, .ref q398, .int 0, .ref q399])), (q400, .inr (4, [.int 0, .int 0, .int 0, .int 0, .int 0, .int 0, .int 0, .ref q412, .ref q413, .ref q414, .int 0, .ref q415, .ref q416, .ref q417, .ref q418, .ref q419, .int 0, .ref q420])), (q417, .inl (cy 0, 200, .inl (fun _ => 0))), (q420, .inl (cy 0, 6, .inl (fun _ => 0))), (q421, .inr (6, [.int 0, .int 0, .int 0, .ref q425])), (q426, .inr (2, [.null, .int 0, .int 0]))] := hD
  refine lv_dup hx hb dX9_init_55 rfl ?_
  refine k_jv hP hD hS hA [7] [0, 1, 2, 3, 4, 5, 6] (wr := [(a0, .inr (9, [.ref q378, .int 0, .ref q379, .ref q400, .ref q421, .null, .null, .null, .null, .null, .null, .null, .null, .int 0, .null, .long 0])), (q378, .inl (cy 0, 1600, .inl (fun _ => 0))), (q379, .inr (4, [.int 0, .int 0, .int 0, .int 0, .int 0, .int 0, .int 0, .ref q391, .ref q392, .ref q393, .int 0, .ref q394, .ref q395, .ref q396, .ref q397, .ref q398, .int 0, .ref q399])), (q400, .inr (4, [.int 0, .int 0, .int 0, .int 0, .int 0, .int 0, .int 0, .ref q412, .ref q413, .ref q414, .int 0, .ref q415, .ref q416, .ref q417, .ref q418, .ref q419, .int 0, .ref q420])), (q417, .inl (cy 0, 200, .inl (fun _ => 0))), (q420, .inl (cy 0, 6, .inl (fun _ => 0))), (q421, .inr (6, [.int 0, .int 0, .int 0, .ref q425]))]) rfl rfl (by decide) (by decide) (by decide) 65 5781 (Nat.le_of_ble_eq_true rfl) (Nat.le_of_ble_eq_true rfl) (fun hPc hDc => k_runI (As := []) (rest := [.ref q426, .ref a0]) C0 (c_X2_init l dC dI cy sq q426) mI_X9_36 hPc hDc hl rfl rfl (Nat.le_of_ble_eq_true rfl) ⟨(Nat.le_of_ble_eq_true rfl), (Nat.le_of_ble_eq_true rfl)⟩ ⟨(Nat.le_of_ble_eq_true rfl), (Nat.le_of_ble_eq_true rfl)⟩ dX9_init_56) (fun u549 H locs hw hP hD hS => ?_)
  obtain ⟨q550, eq550⟩ : ∃ z, z = u549 := ⟨_, rfl⟩; subst eq550
  try dsimp only at hP hD
  have hP : va_P (dC, dI) vwCl [(a0, .inr (9, [.ref q378, .int 0, .ref q379, .ref q400, .ref q421, .null, .null, .null, .null, .null, .null, .null, .null, .int 0, .null, .long 0])), (q378, .inl (cy 0, 1600, .inl (fun _ => 0))), (q379, .inr (4, [.int 0, .int 0, .int 0, .int 0, .int 0, .int 0, .int 0, .ref q391, .ref q392, .ref q393, .int 0, .ref q394, .ref q395, .ref q396, .ref q397, .ref q398, .int 0, .ref q399])), (q400, .inr (4, [.int 0, .int 0, .int 0, .int 0, .int 0, .int 0, .int 0, .ref q412, .ref q413, .ref q414, .int 0, .ref q415, .ref q416, .ref q417, .ref q418, .ref q419, .int 0, .ref q420])), (q417, .inl (cy 0, 200, .inl (fun _ => 0))), (q420, .inl (cy 0, 6, .inl (fun _ => 0))), (q421, .inr (6, [.int 0, .int 0, .int 0, .ref q425])), (q426, .inr (2, [.ref q550, .int 0, .int 0]))] H := hP
  have hD : va_D A [(a0, .inr (9, [.ref q378, .int 0, .ref q379, .ref q400, .ref q421, .null, .null, .null, .null, .null, .null, .null, .null, .int 0, .null, .long 0])), (q378, .inl (cy 0, 1600, .inl (fun _ => 0))), (q379, .inr (4, [.int 0, .int 0, .int 0, .int 0, .int 0, .int 0, .int 0, .ref q391, .ref q392, .ref q393, .int 0, .ref q394, .ref q395, .ref q396, .ref q397, .ref q398, .int 0, .ref q399])), (q400, .inr (4, [.int 0, .int 0, .int 0, .int 0, .int 0, .int 0, .int 0, .ref q412, .ref q413, .ref q414, .int 0, .ref q415, .ref q416, .ref q417, .ref q418, .ref q419, .int 0, .ref q420])), (q417, .inl (cy 0, 200, .inl (fun _ => 0))), (q420, .inl (cy 0, 6, .inl (fun _ => 0))), (q421, .inr (6, [.int 0, .int 0, .int 0, .ref q425])), (q426, .inr (2, [.ref q550, .int 0, .int 0]))] := hD
  refine k_putF C0 hin fp_X9_37 hP hD hS 0 rfl rfl rfl (Nat.le_of_ble_eq_true rfl) dX9_init_59 (fun H locs hP hD hS => ?_)
  have hP : va_P (dC, dI) vwCl [(a0, .inr (9, [.ref q378, .int 0, .ref q379, .ref q400, .ref q421, .ref q426, .null, .null, .null, .null, .null, .null, .null, .int 0, .null, .long 0])), (q378, .inl (cy 0, 1600, .inl (fun _ => 0))), (q379, .inr (4, [.int 0, .int 0, .int 0, .int 0, .int 0, .int 0, .int 0, .ref q391, .ref q392, .ref q393, .int 0, .ref q394, .ref q395, .ref q396, .ref q397, .ref q398, .int 0, .ref q399])), (q400, .inr (4, [.int 0, .int 0, .int 0, .int 0, .int 0, .int 0, .int 0, .ref q412, .ref q413, .ref q414, .int 0, .ref q415, .ref q416, .ref q417, .ref q418, .ref q419, .int 0, .ref q420])), (q417, .inl (cy 0, 200, .inl (fun _ => 0))), (q420, .inl (cy 0, 6, .inl (fun _ => 0))), (q421, .inr (6, [.int 0, .int 0, .int 0, .ref q425])), (q426, .inr (2, [.ref q550, .int 0, .int 0]))] H := hP
  have hD : va_D A [(a0, .inr (9, [.ref q378, .int 0, .ref q379, .ref q400, .ref q421, .ref q426, .null, .null, .null, .null, .null, .null, .null, .int 0, .null, .long 0])), (q378, .inl (cy 0, 1600, .inl (fun _ => 0))), (q379, .inr (4, [.int 0, .int 0, .int 0, .int 0, .int 0, .int 0, .int 0, .ref q391, .ref q392, .ref q393, .int 0, .ref q394, .ref q395, .ref q396, .ref q397, .ref q398, .int 0, .ref q399])), (q400, .inr (4, [.int 0, .int 0, .int 0, .int 0, .int 0, .int 0, .int 0, .ref q412, .ref q413, .ref q414, .int 0, .ref q415, .ref q416, .ref q417, .ref q418, .ref q419, .int 0, .ref q420])), (q417, .inl (cy 0, 200, .inl (fun _ => 0))), (q420, .inl (cy 0, 6, .inl (fun _ => 0))), (q421, .inr (6, [.int 0, .int 0, .int 0, .ref q425])), (q426, .inr (2, [.ref q550, .int 0, .int 0]))] := hD
  refine lv_aload_n hx hb dX9_init_62 rfl (lv_at hl 0 rfl) ?_
  refine k_new C0 n_X9_41 hP hD hS hA 66 5783 (Nat.le_of_ble_eq_true rfl) (Nat.le_of_ble_eq_true rfl) (Nat.le_of_ble_eq_true rfl) (Nat.le_of_ble_eq_true rfl) dX9_init_63 (fun q551 H hP hD hS => ?_)
  have hP : va_P (dC, dI) vwCl [(a0, .inr (9, [.ref q378, .int 0, .ref q379, .ref q400, .ref q421, .ref q426, .null, .null, .null, .null, .null, .null, .null, .int 0, .null, .long 0])), (q378, .inl (cy 0, 1600, .inl (fun _ => 0))), (q379, .inr (4, [.int 0, .int 0, .int 0, .int 0, .int 0, .int 0, .int 0, .ref q391, .ref q392, .ref q393, .int 0, .ref q394, .ref q395, .ref q396, .ref q397, .ref q398, .int 0, .ref q399])), (q400, .inr (4, [.int 0, .int 0, .int 0, .int 0, .int 0, .int 0, .int 0, .ref q412, .ref q413, .ref q414, .int 0, .ref q415, .ref q416, .ref q417, .ref q418, .ref q419, .int 0, .ref q420])), (q417, .inl (cy 0, 200, .inl (fun _ => 0))), (q420, .inl (cy 0, 6, .inl (fun _ => 0))), (q421, .inr (6, [.int 0, .int 0, .int 0, .ref q425])), (q426, .inr (2, [.ref q550, .int 0, .int 0])), (q551, .inr (3, [.null, .null]))] H := hP
  have hD : va_D A [(a0, .inr (9, [.ref q378, .int 0, .ref q379, .ref q400, .ref q421, .ref q426, .null, .null, .null, .null, .null, .null, .null, .int 0, .null, .long 0])), (q378, .inl (cy 0, 1600, .inl (fun _ => 0))), (q379, .inr (4, [.int 0, .int 0, .int 0, .int 0, .int 0, .int 0, .int 0, .ref q391, .ref q392, .ref q393, .int 0, .ref q394, .ref q395, .ref q396, .ref q397, .ref q398, .int 0, .ref q399])), (q400, .inr (4, [.int 0, .int 0, .int 0, .int 0, .int 0, .int 0, .int 0, .ref q412, .ref q413, .ref q414, .int 0, .ref q415, .ref q416, .ref q417, .ref q418, .ref q419, .int 0, .ref q420])), (q417, .inl (cy 0, 200, .inl (fun _ => 0))), (q420, .inl (cy 0, 6, .inl (fun _ => 0))), (q421, .inr (6, [.int 0, .int 0, .int 0, .ref q425])), (q426, .inr (2, [.ref q550, .int 0, .int 0])), (q551, .inr (3, [.null, .null]))] := hD
  refine lv_dup hx hb dX9_init_66 rfl ?_
  refine k_jv hP hD hS hA [8] [0, 1, 2, 3, 4, 5, 6, 7] (wr := [(a0, .inr (9, [.ref q378, .int 0, .ref q379, .ref q400, .ref q421, .ref q426, .null, .null, .null, .null, .null, .null, .null, .int 0, .null, .long 0])), (q378, .inl (cy 0, 1600, .inl (fun _ => 0))), (q379, .inr (4, [.int 0, .int 0, .int 0, .int 0, .int 0, .int 0, .int 0, .ref q391, .ref q392, .ref q393, .int 0, .ref q394, .ref q395, .ref q396, .ref q397, .ref q398, .int 0, .ref q399])), (q400, .inr (4, [.int 0, .int 0, .int 0, .int 0, .int 0, .int 0, .int 0, .ref q412, .ref q413, .ref q414, .int 0, .ref q415, .ref q416, .ref q417, .ref q418, .ref q419, .int 0, .ref q420])), (q417, .inl (cy 0, 200, .inl (fun _ => 0))), (q420, .inl (cy 0, 6, .inl (fun _ => 0))), (q421, .inr (6, [.int 0, .int 0, .int 0, .ref q425])), (q426, .inr (2, [.ref q550, .int 0, .int 0]))]) rfl rfl (by decide) (by decide) (by decide) 68 5860 (Nat.le_of_ble_eq_true rfl) (Nat.le_of_ble_eq_true rfl) (fun hPc hDc => k_runN (As := []) (rest := [.ref q551, .ref a0]) C0 (c_X3_init l dC dI cy sq q551) mN_X3_init (C0.2.2.2.2.2.2.2.2.1) hPc hDc hl rfl rfl (Nat.le_of_ble_eq_true rfl) ⟨(Nat.le_of_ble_eq_true rfl), (Nat.le_of_ble_eq_true rfl)⟩ ⟨(Nat.le_of_ble_eq_true rfl), (Nat.le_of_ble_eq_true rfl)⟩ dX9_init_67) (fun u555 H locs hw hP hD hS => ?_)
  obtain ⟨q556, q557⟩ := u555
  try dsimp only at hP hD
  have hP : va_P (dC, dI) vwCl [(a0, .inr (9, [.ref q378, .int 0, .ref q379, .ref q400, .ref q421, .ref q426, .null, .null, .null, .null, .null, .null, .null, .int 0, .null, .long 0])), (q378, .inl (cy 0, 1600, .inl (fun _ => 0))), (q379, .inr (4, [.int 0, .int 0, .int 0, .int 0, .int 0, .int 0, .int 0, .ref q391, .ref q392, .ref q393, .int 0, .ref q394, .ref q395, .ref q396, .ref q397, .ref q398, .int 0, .ref q399])), (q400, .inr (4, [.int 0, .int 0, .int 0, .int 0, .int 0, .int 0, .int 0, .ref q412, .ref q413, .ref q414, .int 0, .ref q415, .ref q416, .ref q417, .ref q418, .ref q419, .int 0, .ref q420])), (q417, .inl (cy 0, 200, .inl (fun _ => 0))), (q420, .inl (cy 0, 6, .inl (fun _ => 0))), (q421, .inr (6, [.int 0, .int 0, .int 0, .ref q425])), (q426, .inr (2, [.ref q550, .int 0, .int 0])), (q551, .inr (3, [.ref q556, .ref q557]))] H := hP
  have hD : va_D A [(a0, .inr (9, [.ref q378, .int 0, .ref q379, .ref q400, .ref q421, .ref q426, .null, .null, .null, .null, .null, .null, .null, .int 0, .null, .long 0])), (q378, .inl (cy 0, 1600, .inl (fun _ => 0))), (q379, .inr (4, [.int 0, .int 0, .int 0, .int 0, .int 0, .int 0, .int 0, .ref q391, .ref q392, .ref q393, .int 0, .ref q394, .ref q395, .ref q396, .ref q397, .ref q398, .int 0, .ref q399])), (q400, .inr (4, [.int 0, .int 0, .int 0, .int 0, .int 0, .int 0, .int 0, .ref q412, .ref q413, .ref q414, .int 0, .ref q415, .ref q416, .ref q417, .ref q418, .ref q419, .int 0, .ref q420])), (q417, .inl (cy 0, 200, .inl (fun _ => 0))), (q420, .inl (cy 0, 6, .inl (fun _ => 0))), (q421, .inr (6, [.int 0, .int 0, .int 0, .ref q425])), (q426, .inr (2, [.ref q550, .int 0, .int 0])), (q551, .inr (3, [.ref q556, .ref q557]))] := hD
  refine k_putF C0 hin fp_X9_44 hP hD hS 0 rfl rfl rfl (Nat.le_of_ble_eq_true rfl) dX9_init_70 (fun H locs hP hD hS => ?_)
  have hP : va_P (dC, dI) vwCl [(a0, .inr (9, [.ref q378, .int 0, .ref q379, .ref q400, .ref q421, .ref q426, .ref q551, .null, .null, .null, .null, .null, .null, .int 0, .null, .long 0])), (q378, .inl (cy 0, 1600, .inl (fun _ => 0))), (q379, .inr (4, [.int 0, .int 0, .int 0, .int 0, .int 0, .int 0, .int 0, .ref q391, .ref q392, .ref q393, .int 0, .ref q394, .ref q395, .ref q396, .ref q397, .ref q398, .int 0, .ref q399])), (q400, .inr (4, [.int 0, .int 0, .int 0, .int 0, .int 0, .int 0, .int 0, .ref q412, .ref q413, .ref q414, .int 0, .ref q415, .ref q416, .ref q417, .ref q418, .ref q419, .int 0, .ref q420])), (q417, .inl (cy 0, 200, .inl (fun _ => 0))), (q420, .inl (cy 0, 6, .inl (fun _ => 0))), (q421, .inr (6, [.int 0, .int 0, .int 0, .ref q425])), (q426, .inr (2, [.ref q550, .int 0, .int 0])), (q551, .inr (3, [.ref q556, .ref q557]))] H := hP
  have hD : va_D A [(a0, .inr (9, [.ref q378, .int 0, .ref q379, .ref q400, .ref q421, .ref q426, .ref q551, .null, .null, .null, .null, .null, .null, .int 0, .null, .long 0])), (q378, .inl (cy 0, 1600, .inl (fun _ => 0))), (q379, .inr (4, [.int 0, .int 0, .int 0, .int 0, .int 0, .int 0, .int 0, .ref q391, .ref q392, .ref q393, .int 0, .ref q394, .ref q395, .ref q396, .ref q397, .ref q398, .int 0, .ref q399])), (q400, .inr (4, [.int 0, .int 0, .int 0, .int 0, .int 0, .int 0, .int 0, .ref q412, .ref q413, .ref q414, .int 0, .ref q415, .ref q416, .ref q417, .ref q418, .ref q419, .int 0, .ref q420])), (q417, .inl (cy 0, 200, .inl (fun _ => 0))), (q420, .inl (cy 0, 6, .inl (fun _ => 0))), (q421, .inr (6, [.int 0, .int 0, .int 0, .ref q425])), (q426, .inr (2, [.ref q550, .int 0, .int 0])), (q551, .inr (3, [.ref q556, .ref q557]))] := hD
  refine lv_aload_n hx hb dX9_init_73 rfl (lv_at hl 0 rfl) ?_
  refine k_new C0 n_X9_48 hP hD hS hA 69 5869 (Nat.le_of_ble_eq_true rfl) (Nat.le_of_ble_eq_true rfl) (Nat.le_of_ble_eq_true rfl) (Nat.le_of_ble_eq_true rfl) dX9_init_74 (fun q558 H hP hD hS => ?_)
  have hP : va_P (dC, dI) vwCl [(a0, .inr (9, [.ref q378, .int 0, .ref q379, .ref q400, .ref q421, .ref q426, .ref q551, .null, .null, .null, .null, .null, .null, .int 0, .null, .long 0])), (q378, .inl (cy 0, 1600, .inl (fun _ => 0))), (q379, .inr (4, [.int 0, .int 0, .int 0, .int 0, .int 0, .int 0, .int 0, .ref q391, .ref q392, .ref q393, .int 0, .ref q394, .ref q395, .ref q396, .ref q397, .ref q398, .int 0, .ref q399])), (q400, .inr (4, [.int 0, .int 0, .int 0, .int 0, .int 0, .int 0, .int 0, .ref q412, .ref q413, .ref q414, .int 0, .ref q415, .ref q416, .ref q417, .ref q418, .ref q419, .int 0, .ref q420])), (q417, .inl (cy 0, 200, .inl (fun _ => 0))), (q420, .inl (cy 0, 6, .inl (fun _ => 0))), (q421, .inr (6, [.int 0, .int 0, .int 0, .ref q425])), (q426, .inr (2, [.ref q550, .int 0, .int 0])), (q551, .inr (3, [.ref q556, .ref q557])), (q558, .inr (5, [.null, .int 0, .int 0, .int 0, .int 0, .int 0, .null, .int 0, .int 0]))] H := hP
  have hD : va_D A [(a0, .inr (9, [.ref q378, .int 0, .ref q379, .ref q400, .ref q421, .ref q426, .ref q551, .null, .null, .null, .null, .null, .null, .int 0, .null, .long 0])), (q378, .inl (cy 0, 1600, .inl (fun _ => 0))), (q379, .inr (4, [.int 0, .int 0, .int 0, .int 0, .int 0, .int 0, .int 0, .ref q391, .ref q392, .ref q393, .int 0, .ref q394, .ref q395, .ref q396, .ref q397, .ref q398, .int 0, .ref q399])), (q400, .inr (4, [.int 0, .int 0, .int 0, .int 0, .int 0, .int 0, .int 0, .ref q412, .ref q413, .ref q414, .int 0, .ref q415, .ref q416, .ref q417, .ref q418, .ref q419, .int 0, .ref q420])), (q417, .inl (cy 0, 200, .inl (fun _ => 0))), (q420, .inl (cy 0, 6, .inl (fun _ => 0))), (q421, .inr (6, [.int 0, .int 0, .int 0, .ref q425])), (q426, .inr (2, [.ref q550, .int 0, .int 0])), (q551, .inr (3, [.ref q556, .ref q557])), (q558, .inr (5, [.null, .int 0, .int 0, .int 0, .int 0, .int 0, .null, .int 0, .int 0]))] := hD
  refine lv_dup hx hb dX9_init_77 rfl ?_
  refine lv_aload_n hx hb dX9_init_78 rfl (lv_at hl 0 rfl) ?_
  refine k_get C0 fg_X9_9 hP 0 rfl rfl dX9_init_79 ?_
  refine lv_aload_n hx hb dX9_init_82 rfl (lv_at hl 0 rfl) ?_
  refine k_get C0 fg_X9_24 hP 0 rfl rfl dX9_init_83 ?_
  refine k_jv hP hD hS hA [9] [0, 1, 2, 3, 4, 5, 6, 7, 8] (wr := [(a0, .inr (9, [.ref q378, .int 0, .ref q379, .ref q400, .ref q421, .ref q426, .ref q551, .null, .null, .null, .null, .null, .null, .int 0, .null, .long 0])), (q378, .inl (cy 0, 1600, .inl (fun _ => 0))), (q379, .inr (4, [.int 0, .int 0, .int 0, .int 0, .int 0, .int 0, .int 0, .ref q391, .ref q392, .ref q393, .int 0, .ref q394, .ref q395, .ref q396, .ref q397, .ref q398, .int 0, .ref q399])), (q400, .inr (4, [.int 0, .int 0, .int 0, .int 0, .int 0, .int 0, .int 0, .ref q412, .ref q413, .ref q414, .int 0, .ref q415, .ref q416, .ref q417, .ref q418, .ref q419, .int 0, .ref q420])), (q417, .inl (cy 0, 200, .inl (fun _ => 0))), (q420, .inl (cy 0, 6, .inl (fun _ => 0))), (q421, .inr (6, [.int 0, .int 0, .int 0, .ref q425])), (q426, .inr (2, [.ref q550, .int 0, .int 0])), (q551, .inr (3, [.ref q556, .ref q557]))]) rfl rfl (by decide) (by decide) (by decide) 69 5869 (Nat.le_of_ble_eq_true rfl) (Nat.le_of_ble_eq_true rfl) (fun hPc hDc => k_runI (As := [.ref q378, .ref q400]) (rest := [.ref q558, .ref a0]) C0 (c_X5_init l dC dI cy sq q558 q378 q400) mI_X9_50 hPc hDc hl rfl rfl (Nat.le_of_ble_eq_true rfl) ⟨(Nat.le_of_ble_eq_true rfl), (Nat.le_of_ble_eq_true rfl)⟩ ⟨(Nat.le_of_ble_eq_true rfl), (Nat.le_of_ble_eq_true rfl)⟩ dX9_init_86) (fun u560 H locs hw hP hD hS => ?_)
  have hP : va_P (dC, dI) vwCl [(a0, .inr (9, [.ref q378, .int 0, .ref q379, .ref q400, .ref q421, .ref q426, .ref q551, .null, .null, .null, .null, .null, .null, .int 0, .null, .long 0])), (q378, .inl (cy 0, 1600, .inl (fun _ => 0))), (q379, .inr (4, [.int 0, .int 0, .int 0, .int 0, .int 0, .int 0, .int 0, .ref q391, .ref q392, .ref q393, .int 0, .ref q394, .ref q395, .ref q396, .ref q397, .ref q398, .int 0, .ref q399])), (q400, .inr (4, [.int 0, .int 0, .int 0, .int 0, .int 0, .int 0, .int 0, .ref q412, .ref q413, .ref q414, .int 0, .ref q415, .ref q416, .ref q417, .ref q418, .ref q419, .int 0, .ref q420])), (q417, .inl (cy 0, 200, .inl (fun _ => 0))), (q420, .inl (cy 0, 6, .inl (fun _ => 0))), (q421, .inr (6, [.int 0, .int 0, .int 0, .ref q425])), (q426, .inr (2, [.ref q550, .int 0, .int 0])), (q551, .inr (3, [.ref q556, .ref q557])), (q558, .inr (5, [.ref q378, .int 0, .int 0, .int 0, .int 0, .int 0, .ref q400, .int 0, .int (-1)]))] H := hP
  have hD : va_D A [(a0, .inr (9, [.ref q378, .int 0, .ref q379, .ref q400, .ref q421, .ref q426, .ref q551, .null, .null, .null, .null, .null, .null, .int 0, .null, .long 0])), (q378, .inl (cy 0, 1600, .inl (fun _ => 0))), (q379, .inr (4, [.int 0, .int 0, .int 0, .int 0, .int 0, .int 0, .int 0, .ref q391, .ref q392, .ref q393, .int 0, .ref q394, .ref q395, .ref q396, .ref q397, .ref q398, .int 0, .ref q399])), (q400, .inr (4, [.int 0, .int 0, .int 0, .int 0, .int 0, .int 0, .int 0, .ref q412, .ref q413, .ref q414, .int 0, .ref q415, .ref q416, .ref q417, .ref q418, .ref q419, .int 0, .ref q420])), (q417, .inl (cy 0, 200, .inl (fun _ => 0))), (q420, .inl (cy 0, 6, .inl (fun _ => 0))), (q421, .inr (6, [.int 0, .int 0, .int 0, .ref q425])), (q426, .inr (2, [.ref q550, .int 0, .int 0])), (q551, .inr (3, [.ref q556, .ref q557])), (q558, .inr (5, [.ref q378, .int 0, .int 0, .int 0, .int 0, .int 0, .ref q400, .int 0, .int (-1)]))] := hD
  refine k_putF C0 hin fp_X9_53 hP hD hS 0 rfl rfl rfl (Nat.le_of_ble_eq_true rfl) dX9_init_89 (fun H locs hP hD hS => ?_)
  have hP : va_P (dC, dI) vwCl [(a0, .inr (9, [.ref q378, .int 0, .ref q379, .ref q400, .ref q421, .ref q426, .ref q551, .ref q558, .null, .null, .null, .null, .null, .int 0, .null, .long 0])), (q378, .inl (cy 0, 1600, .inl (fun _ => 0))), (q379, .inr (4, [.int 0, .int 0, .int 0, .int 0, .int 0, .int 0, .int 0, .ref q391, .ref q392, .ref q393, .int 0, .ref q394, .ref q395, .ref q396, .ref q397, .ref q398, .int 0, .ref q399])), (q400, .inr (4, [.int 0, .int 0, .int 0, .int 0, .int 0, .int 0, .int 0, .ref q412, .ref q413, .ref q414, .int 0, .ref q415, .ref q416, .ref q417, .ref q418, .ref q419, .int 0, .ref q420])), (q417, .inl (cy 0, 200, .inl (fun _ => 0))), (q420, .inl (cy 0, 6, .inl (fun _ => 0))), (q421, .inr (6, [.int 0, .int 0, .int 0, .ref q425])), (q426, .inr (2, [.ref q550, .int 0, .int 0])), (q551, .inr (3, [.ref q556, .ref q557])), (q558, .inr (5, [.ref q378, .int 0, .int 0, .int 0, .int 0, .int 0, .ref q400, .int 0, .int (-1)]))] H := hP
  have hD : va_D A [(a0, .inr (9, [.ref q378, .int 0, .ref q379, .ref q400, .ref q421, .ref q426, .ref q551, .ref q558, .null, .null, .null, .null, .null, .int 0, .null, .long 0])), (q378, .inl (cy 0, 1600, .inl (fun _ => 0))), (q379, .inr (4, [.int 0, .int 0, .int 0, .int 0, .int 0, .int 0, .int 0, .ref q391, .ref q392, .ref q393, .int 0, .ref q394, .ref q395, .ref q396, .ref q397, .ref q398, .int 0, .ref q399])), (q400, .inr (4, [.int 0, .int 0, .int 0, .int 0, .int 0, .int 0, .int 0, .ref q412, .ref q413, .ref q414, .int 0, .ref q415, .ref q416, .ref q417, .ref q418, .ref q419, .int 0, .ref q420])), (q417, .inl (cy 0, 200, .inl (fun _ => 0))), (q420, .inl (cy 0, 6, .inl (fun _ => 0))), (q421, .inr (6, [.int 0, .int 0, .int 0, .ref q425])), (q426, .inr (2, [.ref q550, .int 0, .int 0])), (q551, .inr (3, [.ref q556, .ref q557])), (q558, .inr (5, [.ref q378, .int 0, .int 0, .int 0, .int 0, .int 0, .ref q400, .int 0, .int (-1)]))] := hD
  refine lv_aload_n hx hb dX9_init_92 rfl (lv_at hl 0 rfl) ?_
  refine k_new C0 n_X9_57 hP hD hS hA 70 5886 (Nat.le_of_ble_eq_true rfl) (Nat.le_of_ble_eq_true rfl) (Nat.le_of_ble_eq_true rfl) (Nat.le_of_ble_eq_true rfl) dX9_init_93 (fun q561 H hP hD hS => ?_)
  have hP : va_P (dC, dI) vwCl [(a0, .inr (9, [.ref q378, .int 0, .ref q379, .ref q400, .ref q421, .ref q426, .ref q551, .ref q558, .null, .null, .null, .null, .null, .int 0, .null, .long 0])), (q378, .inl (cy 0, 1600, .inl (fun _ => 0))), (q379, .inr (4, [.int 0, .int 0, .int 0, .int 0, .int 0, .int 0, .int 0, .ref q391, .ref q392, .ref q393, .int 0, .ref q394, .ref q395, .ref q396, .ref q397, .ref q398, .int 0, .ref q399])), (q400, .inr (4, [.int 0, .int 0, .int 0, .int 0, .int 0, .int 0, .int 0, .ref q412, .ref q413, .ref q414, .int 0, .ref q415, .ref q416, .ref q417, .ref q418, .ref q419, .int 0, .ref q420])), (q417, .inl (cy 0, 200, .inl (fun _ => 0))), (q420, .inl (cy 0, 6, .inl (fun _ => 0))), (q421, .inr (6, [.int 0, .int 0, .int 0, .ref q425])), (q426, .inr (2, [.ref q550, .int 0, .int 0])), (q551, .inr (3, [.ref q556, .ref q557])), (q558, .inr (5, [.ref q378, .int 0, .int 0, .int 0, .int 0, .int 0, .ref q400, .int 0, .int (-1)])), (q561, .inr (7, [.null, .null, .int 0, .null, .int 0, .int 0, .int 0, .int 0, .null, .null, .null, .null, .null, .int 0, .int 0, .int 0, .int 0]))] H := hP
  have hD : va_D A [(a0, .inr (9, [.ref q378, .int 0, .ref q379, .ref q400, .ref q421, .ref q426, .ref q551, .ref q558, .null, .null, .null, .null, .null, .int 0, .null, .long 0])), (q378, .inl (cy 0, 1600, .inl (fun _ => 0))), (q379, .inr (4, [.int 0, .int 0, .int 0, .int 0, .int 0, .int 0, .int 0, .ref q391, .ref q392, .ref q393, .int 0, .ref q394, .ref q395, .ref q396, .ref q397, .ref q398, .int 0, .ref q399])), (q400, .inr (4, [.int 0, .int 0, .int 0, .int 0, .int 0, .int 0, .int 0, .ref q412, .ref q413, .ref q414, .int 0, .ref q415, .ref q416, .ref q417, .ref q418, .ref q419, .int 0, .ref q420])), (q417, .inl (cy 0, 200, .inl (fun _ => 0))), (q420, .inl (cy 0, 6, .inl (fun _ => 0))), (q421, .inr (6, [.int 0, .int 0, .int 0, .ref q425])), (q426, .inr (2, [.ref q550, .int 0, .int 0])), (q551, .inr (3, [.ref q556, .ref q557])), (q558, .inr (5, [.ref q378, .int 0, .int 0, .int 0, .int 0, .int 0, .ref q400, .int 0, .int (-1)])), (q561, .inr (7, [.null, .null, .int 0, .null, .int 0, .int 0, .int 0, .int 0, .null, .null, .null, .null, .null, .int 0, .int 0, .int 0, .int 0]))] := hD
  refine lv_dup hx hb dX9_init_96 rfl ?_
  refine lv_aload_n hx hb dX9_init_97 rfl (lv_at hl 0 rfl) ?_
  refine k_get C0 fg_X9_44 hP 0 rfl rfl dX9_init_98 ?_
  refine lv_aload_n hx hb dX9_init_101 rfl (lv_at hl 0 rfl) ?_
  refine k_get C0 fg_X9_20 hP 0 rfl rfl dX9_init_102 ?_
  refine k_jv hP hD hS hA [10] [0, 1, 2, 3, 4, 5, 6, 7, 8, 9] (wr := [(a0, .inr (9, [.ref q378, .int 0, .ref q379, .ref q400, .ref q421, .ref q426, .ref q551, .ref q558, .null, .null, .null, .null, .null, .int 0, .null, .long 0])), (q378, .inl (cy 0, 1600, .inl (fun _ => 0))), (q379, .inr (4, [.int 0, .int 0, .int 0, .int 0, .int 0, .int 0, .int 0, .ref q391, .ref q392, .ref q393, .int 0, .ref q394, .ref q395, .ref q396, .ref q397, .ref q398, .int 0, .ref q399])), (q400, .inr (4, [.int 0, .int 0, .int 0, .int 0, .int 0, .int 0, .int 0, .ref q412, .ref q413, .ref q414, .int 0, .ref q415, .ref q416, .ref q417, .ref q418, .ref q419, .int 0, .ref q420])), (q417, .inl (cy 0, 200, .inl (fun _ => 0))), (q420, .inl (cy 0, 6, .inl (fun _ => 0))), (q421, .inr (6, [.int 0, .int 0, .int 0, .ref q425])), (q426, .inr (2, [.ref q550, .int 0, .int 0])), (q551, .inr (3, [.ref q556, .ref q557])), (q558, .inr (5, [.ref q378, .int 0, .int 0, .int 0, .int 0, .int 0, .ref q400, .int 0, .int (-1)]))]) rfl rfl (by decide) (by decide) (by decide) 76 10444 (Nat.le_of_ble_eq_true rfl) (Nat.le_of_ble_eq_true rfl) (fun hPc hDc => k_runI (As := [.ref q551, .ref q379]) (rest := [.ref q561, .ref a0]) C0 (c_X7_init l dC dI cy sq q561 q551 q379) mI_X9_59 hPc hDc hl rfl rfl (Nat.le_of_ble_eq_true rfl) ⟨(Nat.le_of_ble_eq_true rfl), (Nat.le_of_ble_eq_true rfl)⟩ ⟨(Nat.le_of_ble_eq_true rfl), (Nat.le_of_ble_eq_true rfl)⟩ dX9_init_105) (fun u569 H locs hw hP hD hS => ?_)
  obtain ⟨q570, q571, q572, q573, q574, q575⟩ := u569
  try dsimp only at hP hD
  have hP : va_P (dC, dI) vwCl [(a0, .inr (9, [.ref q378, .int 0, .ref q379, .ref q400, .ref q421, .ref q426, .ref q551, .ref q558, .null, .null, .null, .null, .null, .int 0, .null, .long 0])), (q378, .inl (cy 0, 1600, .inl (fun _ => 0))), (q379, .inr (4, [.int 0, .int 0, .int 0, .int 0, .int 0, .int 0, .int 0, .ref q391, .ref q392, .ref q393, .int 0, .ref q394, .ref q395, .ref q396, .ref q397, .ref q398, .int 0, .ref q399])), (q400, .inr (4, [.int 0, .int 0, .int 0, .int 0, .int 0, .int 0, .int 0, .ref q412, .ref q413, .ref q414, .int 0, .ref q415, .ref q416, .ref q417, .ref q418, .ref q419, .int 0, .ref q420])), (q417, .inl (cy 0, 200, .inl (fun _ => 0))), (q420, .inl (cy 0, 6, .inl (fun _ => 0))), (q421, .inr (6, [.int 0, .int 0, .int 0, .ref q425])), (q426, .inr (2, [.ref q550, .int 0, .int 0])), (q551, .inr (3, [.ref q556, .ref q557])), (q558, .inr (5, [.ref q378, .int 0, .int 0, .int 0, .int 0, .int 0, .ref q400, .int 0, .int (-1)])), (q561, .inr (7, [.ref q551, .ref q379, .int (-1), .ref q570, .int (-1), .int 0, .int 0, .int 0, .ref q571, .ref q572, .ref q573, .ref q574, .ref q575, .int 0, .int 0, .int 0, .int 0]))] H := hP
  have hD : va_D A [(a0, .inr (9, [.ref q378, .int 0, .ref q379, .ref q400, .ref q421, .ref q426, .ref q551, .ref q558, .null, .null, .null, .null, .null, .int 0, .null, .long 0])), (q378, .inl (cy 0, 1600, .inl (fun _ => 0))), (q379, .inr (4, [.int 0, .int 0, .int 0, .int 0, .int 0, .int 0, .int 0, .ref q391, .ref q392, .ref q393, .int 0, .ref q394, .ref q395, .ref q396, .ref q397, .ref q398, .int 0, .ref q399])), (q400, .inr (4, [.int 0, .int 0, .int 0, .int 0, .int 0, .int 0, .int 0, .ref q412, .ref q413, .ref q414, .int 0, .ref q415, .ref q416, .ref q417, .ref q418, .ref q419, .int 0, .ref q420])), (q417, .inl (cy 0, 200, .inl (fun _ => 0))), (q420, .inl (cy 0, 6, .inl (fun _ => 0))), (q421, .inr (6, [.int 0, .int 0, .int 0, .ref q425])), (q426, .inr (2, [.ref q550, .int 0, .int 0])), (q551, .inr (3, [.ref q556, .ref q557])), (q558, .inr (5, [.ref q378, .int 0, .int 0, .int 0, .int 0, .int 0, .ref q400, .int 0, .int (-1)])), (q561, .inr (7, [.ref q551, .ref q379, .int (-1), .ref q570, .int (-1), .int 0, .int 0, .int 0, .ref q571, .ref q572, .ref q573, .ref q574, .ref q575, .int 0, .int 0, .int 0, .int 0]))] := hD
  refine k_putF C0 hin fp_X9_62 hP hD hS 0 rfl rfl rfl (Nat.le_of_ble_eq_true rfl) dX9_init_108 (fun H locs hP hD hS => ?_)
  have hP : va_P (dC, dI) vwCl [(a0, .inr (9, [.ref q378, .int 0, .ref q379, .ref q400, .ref q421, .ref q426, .ref q551, .ref q558, .ref q561, .null, .null, .null, .null, .int 0, .null, .long 0])), (q378, .inl (cy 0, 1600, .inl (fun _ => 0))), (q379, .inr (4, [.int 0, .int 0, .int 0, .int 0, .int 0, .int 0, .int 0, .ref q391, .ref q392, .ref q393, .int 0, .ref q394, .ref q395, .ref q396, .ref q397, .ref q398, .int 0, .ref q399])), (q400, .inr (4, [.int 0, .int 0, .int 0, .int 0, .int 0, .int 0, .int 0, .ref q412, .ref q413, .ref q414, .int 0, .ref q415, .ref q416, .ref q417, .ref q418, .ref q419, .int 0, .ref q420])), (q417, .inl (cy 0, 200, .inl (fun _ => 0))), (q420, .inl (cy 0, 6, .inl (fun _ => 0))), (q421, .inr (6, [.int 0, .int 0, .int 0, .ref q425])), (q426, .inr (2, [.ref q550, .int 0, .int 0])), (q551, .inr (3, [.ref q556, .ref q557])), (q558, .inr (5, [.ref q378, .int 0, .int 0, .int 0, .int 0, .int 0, .ref q400, .int 0, .int (-1)])), (q561, .inr (7, [.ref q551, .ref q379, .int (-1), .ref q570, .int (-1), .int 0, .int 0, .int 0, .ref q571, .ref q572, .ref q573, .ref q574, .ref q575, .int 0, .int 0, .int 0, .int 0]))] H := hP
  have hD : va_D A [(a0, .inr (9, [.ref q378, .int 0, .ref q379, .ref q400, .ref q421, .ref q426, .ref q551, .ref q558, .ref q561, .null, .null, .null, .null, .int 0, .null, .long 0])), (q378, .inl (cy 0, 1600, .inl (fun _ => 0))), (q379, .inr (4, [.int 0, .int 0, .int 0, .int 0, .int 0, .int 0, .int 0, .ref q391, .ref q392, .ref q393, .int 0, .ref q394, .ref q395, .ref q396, .ref q397, .ref q398, .int 0, .ref q399])), (q400, .inr (4, [.int 0, .int 0, .int 0, .int 0, .int 0, .int 0, .int 0, .ref q412, .ref q413, .ref q414, .int 0, .ref q415, .ref q416, .ref q417, .ref q418, .ref q419, .int 0, .ref q420])), (q417, .inl (cy 0, 200, .inl (fun _ => 0))), (q420, .inl (cy 0, 6, .inl (fun _ => 0))), (q421, .inr (6, [.int 0, .int 0, .int 0, .ref q425])), (q426, .inr (2, [.ref q550, .int 0, .int 0])), (q551, .inr (3, [.ref q556, .ref q557])), (q558, .inr (5, [.ref q378, .int 0, .int 0, .int 0, .int 0, .int 0, .ref q400, .int 0, .int (-1)])), (q561, .inr (7, [.ref q551, .ref q379, .int (-1), .ref q570, .int (-1), .int 0, .int 0, .int 0, .ref q571, .ref q572, .ref q573, .ref q574, .ref q575, .int 0, .int 0, .int 0, .int 0]))] := hD
  refine lv_aload_n hx hb dX9_init_111 rfl (lv_at hl 0 rfl) ?_
  refine k_new C0 n_X9_66 hP hD hS hA 77 10447 (Nat.le_of_ble_eq_true rfl) (Nat.le_of_ble_eq_true rfl) (Nat.le_of_ble_eq_true rfl) (Nat.le_of_ble_eq_true rfl) dX9_init_112 (fun q576 H hP hD hS => ?_)
  have hP : va_P (dC, dI) vwCl [(a0, .inr (9, [.ref q378, .int 0, .ref q379, .ref q400, .ref q421, .ref q426, .ref q551, .ref q558, .ref q561, .null, .null, .null, .null, .int 0, .null, .long 0])), (q378, .inl (cy 0, 1600, .inl (fun _ => 0))), (q379, .inr (4, [.int 0, .int 0, .int 0, .int 0, .int 0, .int 0, .int 0, .ref q391, .ref q392, .ref q393, .int 0, .ref q394, .ref q395, .ref q396, .ref q397, .ref q398, .int 0, .ref q399])), (q400, .inr (4, [.int 0, .int 0, .int 0, .int 0, .int 0, .int 0, .int 0, .ref q412, .ref q413, .ref q414, .int 0, .ref q415, .ref q416, .ref q417, .ref q418, .ref q419, .int 0, .ref q420])), (q417, .inl (cy 0, 200, .inl (fun _ => 0))), (q420, .inl (cy 0, 6, .inl (fun _ => 0))), (q421, .inr (6, [.int 0, .int 0, .int 0, .ref q425])), (q426, .inr (2, [.ref q550, .int 0, .int 0])), (q551, .inr (3, [.ref q556, .ref q557])), (q558, .inr (5, [.ref q378, .int 0, .int 0, .int 0, .int 0, .int 0, .ref q400, .int 0, .int (-1)])), (q561, .inr (7, [.ref q551, .ref q379, .int (-1), .ref q570, .int (-1), .int 0, .int 0, .int 0, .ref q571, .ref q572, .ref q573, .ref q574, .ref q575, .int 0, .int 0, .int 0, .int 0])), (q576, .inr (1, [.null, .null, .int 0]))] H := hP
  have hD : va_D A [(a0, .inr (9, [.ref q378, .int 0, .ref q379, .ref q400, .ref q421, .ref q426, .ref q551, .ref q558, .ref q561, .null, .null, .null, .null, .int 0, .null, .long 0])), (q378, .inl (cy 0, 1600, .inl (fun _ => 0))), (q379, .inr (4, [.int 0, .int 0, .int 0, .int 0, .int 0, .int 0, .int 0, .ref q391, .ref q392, .ref q393, .int 0, .ref q394, .ref q395, .ref q396, .ref q397, .ref q398, .int 0, .ref q399])), (q400, .inr (4, [.int 0, .int 0, .int 0, .int 0, .int 0, .int 0, .int 0, .ref q412, .ref q413, .ref q414, .int 0, .ref q415, .ref q416, .ref q417, .ref q418, .ref q419, .int 0, .ref q420])), (q417, .inl (cy 0, 200, .inl (fun _ => 0))), (q420, .inl (cy 0, 6, .inl (fun _ => 0))), (q421, .inr (6, [.int 0, .int 0, .int 0, .ref q425])), (q426, .inr (2, [.ref q550, .int 0, .int 0])), (q551, .inr (3, [.ref q556, .ref q557])), (q558, .inr (5, [.ref q378, .int 0, .int 0, .int 0, .int 0, .int 0, .ref q400, .int 0, .int (-1)])), (q561, .inr (7, [.ref q551, .ref q379, .int (-1), .ref q570, .int (-1), .int 0, .int 0, .int 0, .ref q571, .ref q572, .ref q573, .ref q574, .ref q575, .int 0, .int 0, .int 0, .int 0])), (q576, .inr (1, [.null, .null, .int 0]))] := hD
  refine lv_dup hx hb dX9_init_115 rfl ?_
  refine lv_aload_n hx hb dX9_init_116 rfl (lv_at hl 0 rfl) ?_
  refine k_get C0 fg_X9_62 hP 0 rfl rfl dX9_init_117 ?_
  refine k_jv hP hD hS hA [11] [0, 1, 2, 3, 4, 5, 6, 7, 8, 9, 10] (wr := [(a0, .inr (9, [.ref q378, .int 0, .ref q379, .ref q400, .ref q421, .ref q426, .ref q551, .ref q558, .ref q561, .null, .null, .null, .null, .int 0, .null, .long 0])), (q378, .inl (cy 0, 1600, .inl (fun _ => 0))), (q379, .inr (4, [.int 0, .int 0, .int 0, .int 0, .int 0, .int 0, .int 0, .ref q391, .ref q392, .ref q393, .int 0, .ref q394, .ref q395, .ref q396, .ref q397, .ref q398, .int 0, .ref q399])), (q400, .inr (4, [.int 0, .int 0, .int 0, .int 0, .int 0, .int 0, .int 0, .ref q412, .ref q413, .ref q414, .int 0, .ref q415, .ref q416, .ref q417, .ref q418, .ref q419, .int 0, .ref q420])), (q417, .inl (cy 0, 200, .inl (fun _ => 0))), (q420, .inl (cy 0, 6, .inl (fun _ => 0))), (q421, .inr (6, [.int 0, .int 0, .int 0, .ref q425])), (q426, .inr (2, [.ref q550, .int 0, .int 0])), (q551, .inr (3, [.ref q556, .ref q557])), (q558, .inr (5, [.ref q378, .int 0, .int 0, .int 0, .int 0, .int 0, .ref q400, .int 0, .int (-1)])), (q561, .inr (7, [.ref q551, .ref q379, .int (-1), .ref q570, .int (-1), .int 0, .int 0, .int 0, .ref q571, .ref q572, .ref q573, .ref q574, .ref q575, .int 0, .int 0, .int 0, .int 0]))]) rfl rfl (by decide) (by decide) (by decide) 78 10486 (Nat.le_of_ble_eq_true rfl) (Nat.le_of_ble_eq_true rfl) (fun hPc hDc => k_runI (As := [.ref q561]) (rest := [.ref q576, .ref a0]) C0 (c_X1_init l dC dI cy sq q576 q561) mI_X9_68 hPc hDc hl rfl rfl (Nat.le_of_ble_eq_true rfl) ⟨(Nat.le_of_ble_eq_true rfl), (Nat.le_of_ble_eq_true rfl)⟩ ⟨(Nat.le_of_ble_eq_true rfl), (Nat.le_of_ble_eq_true rfl)⟩ dX9_init_120) (fun u579 H locs hw hP hD hS => ?_)
  obtain ⟨q580, eq580⟩ : ∃ z, z = u579 := ⟨_, rfl⟩; subst eq580
  try dsimp only at hP hD
  have hP : va_P (dC, dI) vwCl [(a0, .inr (9, [.ref q378, .int 0, .ref q379, .ref q400, .ref q421, .ref q426, .ref q551, .ref q558, .ref q561, .null, .null, .null, .null, .int 0, .null, .long 0])), (q378, .inl (cy 0, 1600, .inl (fun _ => 0))), (q379, .inr (4, [.int 0, .int 0, .int 0, .int 0, .int 0, .int 0, .int 0, .ref q391, .ref q392, .ref q393, .int 0, .ref q394, .ref q395, .ref q396, .ref q397, .ref q398, .int 0, .ref q399])), (q400, .inr (4, [.int 0, .int 0, .int 0, .int 0, .int 0, .int 0, .int 0, .ref q412, .ref q413, .ref q414, .int 0, .ref q415, .ref q416, .ref q417, .ref q418, .ref q419, .int 0, .ref q420])), (q417, .inl (cy 0, 200, .inl (fun _ => 0))), (q420, .inl (cy 0, 6, .inl (fun _ => 0))), (q421, .inr (6, [.int 0, .int 0, .int 0, .ref q425])), (q426, .inr (2, [.ref q550, .int 0, .int 0])), (q551, .inr (3, [.ref q556, .ref q557])), (q558, .inr (5, [.ref q378, .int 0, .int 0, .int 0, .int 0, .int 0, .ref q400, .int 0, .int (-1)])), (q561, .inr (7, [.ref q551, .ref q379, .int (-1), .ref q570, .int (-1), .int 0, .int 0, .int 0, .ref q571, .ref q572, .ref q573, .ref q574, .ref q575, .int 0, .int 0, .int 0, .int 0])), (q576, .inr (1, [.ref q561, .ref q580, .int 0]))] H := hP
  have hD : va_D A [(a0, .inr (9, [.ref q378, .int 0, .ref q379, .ref q400, .ref q421, .ref q426, .ref q551, .ref q558, .ref q561, .null, .null, .null, .null, .int 0, .null, .long 0])), (q378, .inl (cy 0, 1600, .inl (fun _ => 0))), (q379, .inr (4, [.int 0, .int 0, .int 0, .int 0, .int 0, .int 0, .int 0, .ref q391, .ref q392, .ref q393, .int 0, .ref q394, .ref q395, .ref q396, .ref q397, .ref q398, .int 0, .ref q399])), (q400, .inr (4, [.int 0, .int 0, .int 0, .int 0, .int 0, .int 0, .int 0, .ref q412, .ref q413, .ref q414, .int 0, .ref q415, .ref q416, .ref q417, .ref q418, .ref q419, .int 0, .ref q420])), (q417, .inl (cy 0, 200, .inl (fun _ => 0))), (q420, .inl (cy 0, 6, .inl (fun _ => 0))), (q421, .inr (6, [.int 0, .int 0, .int 0, .ref q425])), (q426, .inr (2, [.ref q550, .int 0, .int 0])), (q551, .inr (3, [.ref q556, .ref q557])), (q558, .inr (5, [.ref q378, .int 0, .int 0, .int 0, .int 0, .int 0, .ref q400, .int 0, .int (-1)])), (q561, .inr (7, [.ref q551, .ref q379, .int (-1), .ref q570, .int (-1), .int 0, .int 0, .int 0, .ref q571, .ref q572, .ref q573, .ref q574, .ref q575, .int 0, .int 0, .int 0, .int 0])), (q576, .inr (1, [.ref q561, .ref q580, .int 0]))] := hD
  refine k_putF C0 hin fp_X9_71 hP hD hS 0 rfl rfl rfl (Nat.le_of_ble_eq_true rfl) dX9_init_123 (fun H locs hP hD hS => ?_)
  have hP : va_P (dC, dI) vwCl [(a0, .inr (9, [.ref q378, .int 0, .ref q379, .ref q400, .ref q421, .ref q426, .ref q551, .ref q558, .ref q561, .ref q576, .null, .null, .null, .int 0, .null, .long 0])), (q378, .inl (cy 0, 1600, .inl (fun _ => 0))), (q379, .inr (4, [.int 0, .int 0, .int 0, .int 0, .int 0, .int 0, .int 0, .ref q391, .ref q392, .ref q393, .int 0, .ref q394, .ref q395, .ref q396, .ref q397, .ref q398, .int 0, .ref q399])), (q400, .inr (4, [.int 0, .int 0, .int 0, .int 0, .int 0, .int 0, .int 0, .ref q412, .ref q413, .ref q414, .int 0, .ref q415, .ref q416, .ref q417, .ref q418, .ref q419, .int 0, .ref q420])), (q417, .inl (cy 0, 200, .inl (fun _ => 0))), (q420, .inl (cy 0, 6, .inl (fun _ => 0))), (q421, .inr (6, [.int 0, .int 0, .int 0, .ref q425])), (q426, .inr (2, [.ref q550, .int 0, .int 0])), (q551, .inr (3, [.ref q556, .ref q557])), (q558, .inr (5, [.ref q378, .int 0, .int 0, .int 0, .int 0, .int 0, .ref q400, .int 0, .int (-1)])), (q561, .inr (7, [.ref q551, .ref q379, .int (-1), .ref q570, .int (-1), .int 0, .int 0, .int 0, .ref q571, .ref q572, .ref q573, .ref q574, .ref q575, .int 0, .int 0, .int 0, .int 0])), (q576, .inr (1, [.ref q561, .ref q580, .int 0]))] H := hP
  have hD : va_D A [(a0, .inr (9, [.ref q378, .int 0, .ref q379, .ref q400, .ref q421, .ref q426, .ref q551, .ref q558, .ref q561, .ref q576, .null, .null, .null, .int 0, .null, .long 0])), (q378, .inl (cy 0, 1600, .inl (fun _ => 0))), (q379, .inr (4, [.int 0, .int 0, .int 0, .int 0, .int 0, .int 0, .int 0, .ref q391, .ref q392, .ref q393, .int 0, .ref q394, .ref q395, .ref q396, .ref q397, .ref q398, .int 0, .ref q399])), (q400, .inr (4, [.int 0, .int 0, .int 0, .int 0, .int 0, .int 0, .int 0, .ref q412, .ref q413, .ref q414, .int 0, .ref q415, .ref q416, .ref q417, .ref q418, .ref q419, .int 0, .ref q420])), (q417, .inl (cy 0, 200, .inl (fun _ => 0))), (q420, .inl (cy 0, 6, .inl (fun _ => 0))), (q421, .inr (6, [.int 0, .int 0, .int 0, .ref q425])), (q426, .inr (2, [.ref q550, .int 0, .int 0])), (q551, .inr (3, [.ref q556, .ref q557])), (q558, .inr (5, [.ref q378, .int 0, .int 0, .int 0, .int 0, .int 0, .ref q400, .int 0, .int (-1)])), (q561, .inr (7, [.ref q551, .ref q379, .int (-1), .ref q570, .int (-1), .int 0, .int 0, .int 0, .ref q571, .ref q572, .ref q573, .ref q574, .ref q575, .int 0, .int 0, .int 0, .int 0])), (q576, .inr (1, [.ref q561, .ref q580, .int 0]))] := hD
  refine lv_aload_n hx hb dX9_init_126 rfl (lv_at hl 0 rfl) ?_
  refine k_new C0 n_X9_75 hP hD hS hA 79 10491 (Nat.le_of_ble_eq_true rfl) (Nat.le_of_ble_eq_true rfl) (Nat.le_of_ble_eq_true rfl) (Nat.le_of_ble_eq_true rfl) dX9_init_127 (fun q581 H hP hD hS => ?_)
  have hP : va_P (dC, dI) vwCl [(a0, .inr (9, [.ref q378, .int 0, .ref q379, .ref q400, .ref q421, .ref q426, .ref q551, .ref q558, .ref q561, .ref q576, .null, .null, .null, .int 0, .null, .long 0])), (q378, .inl (cy 0, 1600, .inl (fun _ => 0))), (q379, .inr (4, [.int 0, .int 0, .int 0, .int 0, .int 0, .int 0, .int 0, .ref q391, .ref q392, .ref q393, .int 0, .ref q394, .ref q395, .ref q396, .ref q397, .ref q398, .int 0, .ref q399])), (q400, .inr (4, [.int 0, .int 0, .int 0, .int 0, .int 0, .int 0, .int 0, .ref q412, .ref q413, .ref q414, .int 0, .ref q415, .ref q416, .ref q417, .ref q418, .ref q419, .int 0, .ref q420])), (q417, .inl (cy 0, 200, .inl (fun _ => 0))), (q420, .inl (cy 0, 6, .inl (fun _ => 0))), (q421, .inr (6, [.int 0, .int 0, .int 0, .ref q425])), (q426, .inr (2, [.ref q550, .int 0, .int 0])), (q551, .inr (3, [.ref q556, .ref q557])), (q558, .inr (5, [.ref q378, .int 0, .int 0, .int 0, .int 0, .int 0, .ref q400, .int 0, .int (-1)])), (q561, .inr (7, [.ref q551, .ref q379, .int (-1), .ref q570, .int (-1), .int 0, .int 0, .int 0, .ref q571, .ref q572, .ref q573, .ref q574, .ref q575, .int 0, .int 0, .int 0, .int 0])), (q576, .inr (1, [.ref q561, .ref q580, .int 0])), (q581, .inr (0, [.null, .null, .null, .null, .int 0]))] H := hP
  have hD : va_D A [(a0, .inr (9, [.ref q378, .int 0, .ref q379, .ref q400, .ref q421, .ref q426, .ref q551, .ref q558, .ref q561, .ref q576, .null, .null, .null, .int 0, .null, .long 0])), (q378, .inl (cy 0, 1600, .inl (fun _ => 0))), (q379, .inr (4, [.int 0, .int 0, .int 0, .int 0, .int 0, .int 0, .int 0, .ref q391, .ref q392, .ref q393, .int 0, .ref q394, .ref q395, .ref q396, .ref q397, .ref q398, .int 0, .ref q399])), (q400, .inr (4, [.int 0, .int 0, .int 0, .int 0, .int 0, .int 0, .int 0, .ref q412, .ref q413, .ref q414, .int 0, .ref q415, .ref q416, .ref q417, .ref q418, .ref q419, .int 0, .ref q420])), (q417, .inl (cy 0, 200, .inl (fun _ => 0))), (q420, .inl (cy 0, 6, .inl (fun _ => 0))), (q421, .inr (6, [.int 0, .int 0, .int 0, .ref q425])), (q426, .inr (2, [.ref q550, .int 0, .int 0])), (q551, .inr (3, [.ref q556, .ref q557])), (q558, .inr (5, [.ref q378, .int 0, .int 0, .int 0, .int 0, .int 0, .ref q400, .int 0, .int (-1)])), (q561, .inr (7, [.ref q551, .ref q379, .int (-1), .ref q570, .int (-1), .int 0, .int 0, .int 0, .ref q571, .ref q572, .ref q573, .ref q574, .ref q575, .int 0, .int 0, .int 0, .int 0])), (q576, .inr (1, [.ref q561, .ref q580, .int 0])), (q581, .inr (0, [.null, .null, .null, .null, .int 0]))] := hD
  refine lv_dup hx hb dX9_init_130 rfl ?_
  refine lv_aload_n hx hb dX9_init_131 rfl (lv_at hl 0 rfl) ?_
  refine k_get C0 fg_X9_62 hP 0 rfl rfl dX9_init_132 ?_
  refine k_jv hP hD hS hA [12] [0, 1, 2, 3, 4, 5, 6, 7, 8, 9, 10, 11] (wr := [(a0, .inr (9, [.ref q378, .int 0, .ref q379, .ref q400, .ref q421, .ref q426, .ref q551, .ref q558, .ref q561, .ref q576, .null, .null, .null, .int 0, .null, .long 0])), (q378, .inl (cy 0, 1600, .inl (fun _ => 0))), (q379, .inr (4, [.int 0, .int 0, .int 0, .int 0, .int 0, .int 0, .int 0, .ref q391, .ref q392, .ref q393, .int 0, .ref q394, .ref q395, .ref q396, .ref q397, .ref q398, .int 0, .ref q399])), (q400, .inr (4, [.int 0, .int 0, .int 0, .int 0, .int 0, .int 0, .int 0, .ref q412, .ref q413, .ref q414, .int 0, .ref q415, .ref q416, .ref q417, .ref q418, .ref q419, .int 0, .ref q420])), (q417, .inl (cy 0, 200, .inl (fun _ => 0))), (q420, .inl (cy 0, 6, .inl (fun _ => 0))), (q421, .inr (6, [.int 0, .int 0, .int 0, .ref q425])), (q426, .inr (2, [.ref q550, .int 0, .int 0])), (q551, .inr (3, [.ref q556, .ref q557])), (q558, .inr (5, [.ref q378, .int 0, .int 0, .int 0, .int 0, .int 0, .ref q400, .int 0, .int (-1)])), (q561, .inr (7, [.ref q551, .ref q379, .int (-1), .ref q570, .int (-1), .int 0, .int 0, .int 0, .ref q571, .ref q572, .ref q573, .ref q574, .ref q575, .int 0, .int 0, .int 0, .int 0])), (q576, .inr (1, [.ref q561, .ref q580, .int 0]))]) rfl rfl (by decide) (by decide) (by decide) 83 10861 (Nat.le_of_ble_eq_true rfl) (Nat.le_of_ble_eq_true rfl) (fun hPc hDc => k_runI (As := [.ref q561]) (rest := [.ref q581, .ref a0]) C0 (c_X0_init l dC dI cy sq q581 q561) mI_X9_77 hPc hDc hl rfl rfl (Nat.le_of_ble_eq_true rfl) ⟨(Nat.le_of_ble_eq_true rfl), (Nat.le_of_ble_eq_true rfl)⟩ ⟨(Nat.le_of_ble_eq_true rfl), (Nat.le_of_ble_eq_true rfl)⟩ dX9_init_135) (fun u590 H locs hw hP hD hS => ?_)
  obtain ⟨q591, q592, q593⟩ := u590
  try dsimp only at hP hD
  have hP : va_P (dC, dI) vwCl [(a0, .inr (9, [.ref q378, .int 0, .ref q379, .ref q400, .ref q421, .ref q426, .ref q551, .ref q558, .ref q561, .ref q576, .null, .null, .null, .int 0, .null, .long 0])), (q378, .inl (cy 0, 1600, .inl (fun _ => 0))), (q379, .inr (4, [.int 0, .int 0, .int 0, .int 0, .int 0, .int 0, .int 0, .ref q391, .ref q392, .ref q393, .int 0, .ref q394, .ref q395, .ref q396, .ref q397, .ref q398, .int 0, .ref q399])), (q400, .inr (4, [.int 0, .int 0, .int 0, .int 0, .int 0, .int 0, .int 0, .ref q412, .ref q413, .ref q414, .int 0, .ref q415, .ref q416, .ref q417, .ref q418, .ref q419, .int 0, .ref q420])), (q417, .inl (cy 0, 200, .inl (fun _ => 0))), (q420, .inl (cy 0, 6, .inl (fun _ => 0))), (q421, .inr (6, [.int 0, .int 0, .int 0, .ref q425])), (q426, .inr (2, [.ref q550, .int 0, .int 0])), (q551, .inr (3, [.ref q556, .ref q557])), (q558, .inr (5, [.ref q378, .int 0, .int 0, .int 0, .int 0, .int 0, .ref q400, .int 0, .int (-1)])), (q561, .inr (7, [.ref q551, .ref q379, .int (-1), .ref q570, .int (-1), .int 0, .int 0, .int 0, .ref q571, .ref q572, .ref q573, .ref q574, .ref q575, .int 0, .int 0, .int 0, .int 0])), (q576, .inr (1, [.ref q561, .ref q580, .int 0])), (q581, .inr (0, [.ref q561, .ref q591, .ref q592, .ref q593, .int 0]))] H := hP
  have hD : va_D A [(a0, .inr (9, [.ref q378, .int 0, .ref q379, .ref q400, .ref q421, .ref q426, .ref q551, .ref q558, .ref q561, .ref q576, .null, .null, .null, .int 0, .null, .long 0])), (q378, .inl (cy 0, 1600, .inl (fun _ => 0))), (q379, .inr (4, [.int 0, .int 0, .int 0, .int 0, .int 0, .int 0, .int 0, .ref q391, .ref q392, .ref q393, .int 0, .ref q394, .ref q395, .ref q396, .ref q397, .ref q398, .int 0, .ref q399])), (q400, .inr (4, [.int 0, .int 0, .int 0, .int 0, .int 0, .int 0, .int 0, .ref q412, .ref q413, .ref q414, .int 0, .ref q415, .ref q416, .ref q417, .ref q418, .ref q419, .int 0, .ref q420])), (q417, .inl (cy 0, 200, .inl (fun _ => 0))), (q420, .inl (cy 0, 6, .inl (fun _ => 0))), (q421, .inr (6, [.int 0, .int 0, .int 0, .ref q425])), (q426, .inr (2, [.ref q550, .int 0, .int 0])), (q551, .inr (3, [.ref q556, .ref q557])), (q558, .inr (5, [.ref q378, .int 0, .int 0, .int 0, .int 0, .int 0, .ref q400, .int 0, .int (-1)])), (q561, .inr (7, [.ref q551, .ref q379, .int (-1), .ref q570, .int (-1), .int 0, .int 0, .int 0, .ref q571, .ref q572, .ref q573, .ref q574, .ref q575, .int 0, .int 0, .int 0, .int 0])), (q576, .inr (1, [.ref q561, .ref q580, .int 0])), (q581, .inr (0, [.ref q561, .ref q591, .ref q592, .ref q593, .int 0]))] := hD
  refine k_putF C0 hin fp_X9_78 hP hD hS 0 rfl rfl rfl (Nat.le_of_ble_eq_true rfl) dX9_init_138 (fun H locs hP hD hS => ?_)
  have hP : va_P (dC, dI) vwCl [(a0, .inr (9, [.ref q378, .int 0, .ref q379, .ref q400, .ref q421, .ref q426, .ref q551, .ref q558, .ref q561, .ref q576, .ref q581, .null, .null, .int 0, .null, .long 0])), (q378, .inl (cy 0, 1600, .inl (fun _ => 0))), (q379, .inr (4, [.int 0, .int 0, .int 0, .int 0, .int 0, .int 0, .int 0, .ref q391, .ref q392, .ref q393, .int 0, .ref q394, .ref q395, .ref q396, .ref q397, .ref q398, .int 0, .ref q399])), (q400, .inr (4, [.int 0, .int 0, .int 0, .int 0, .int 0, .int 0, .int 0, .ref q412, .ref q413, .ref q414, .int 0, .ref q415, .ref q416, .ref q417, .ref q418, .ref q419, .int 0, .ref q420])), (q417, .inl (cy 0, 200, .inl (fun _ => 0))), (q420, .inl (cy 0, 6, .inl (fun _ => 0))), (q421, .inr (6, [.int 0, .int 0, .int 0, .ref q425])), (q426, .inr (2, [.ref q550, .int 0, .int 0])), (q551, .inr (3, [.ref q556, .ref q557])), (q558, .inr (5, [.ref q378, .int 0, .int 0, .int 0, .int 0, .int 0, .ref q400, .int 0, .int (-1)])), (q561, .inr (7, [.ref q551, .ref q379, .int (-1), .ref q570, .int (-1), .int 0, .int 0, .int 0, .ref q571, .ref q572, .ref q573, .ref q574, .ref q575, .int 0, .int 0, .int 0, .int 0])), (q576, .inr (1, [.ref q561, .ref q580, .int 0])), (q581, .inr (0, [.ref q561, .ref q591, .ref q592, .ref q593, .int 0]))] H := hP
  have hD : va_D A [(a0, .inr (9, [.ref q378, .int 0, .ref q379, .ref q400, .ref q421, .ref q426, .ref q551, .ref q558, .ref q561, .ref q576, .ref q581, .null, .null, .int 0, .null, .long 0])), (q378, .inl (cy 0, 1600, .inl (fun _ => 0))), (q379, .inr (4, [.int 0, .int 0, .int 0, .int 0, .int 0, .int 0, .int 0, .ref q391, .ref q392, .ref q393, .int 0, .ref q394, .ref q395, .ref q396, .ref q397, .ref q398, .int 0, .ref q399])), (q400, .inr (4, [.int 0, .int 0, .int 0, .int 0, .int 0, .int 0, .int 0, .ref q412, .ref q413, .ref q414, .int 0, .ref q415, .ref q416, .ref q417, .ref q418, .ref q419, .int 0, .ref q420])), (q417, .inl (cy 0, 200, .inl (fun _ => 0))), (q420, .inl (cy 0, 6, .inl (fun _ => 0))), (q421, .inr (6, [.int 0, .int 0, .int 0, .ref q425])), (q426, .inr (2, [.ref q550, .int 0, .int 0])), (q551, .inr (3, [.ref q556, .ref q557])), (q558, .inr (5, [.ref q378, .int 0, .int 0, .int 0, .int 0, .int 0, .ref q400, .int 0, .int (-1)])), (q561, .inr (7, [.ref q551, .ref q379, .int (-1), .ref q570, .int (-1), .int 0, .int 0, .int 0, .ref q571, .ref q572, .ref q573, .ref q574, .ref q575, .int 0, .int 0, .int 0, .int 0])), (q576, .inr (1, [.ref q561, .ref q580, .int 0])), (q581, .inr (0, [.ref q561, .ref q591, .ref q592, .ref q593, .int 0]))] := hD
  refine lv_aload_n hx hb dX9_init_141 rfl (lv_at hl 0 rfl) ?_
  refine k_new C0 n_X9_82 hP hD hS hA 84 10872 (Nat.le_of_ble_eq_true rfl) (Nat.le_of_ble_eq_true rfl) (Nat.le_of_ble_eq_true rfl) (Nat.le_of_ble_eq_true rfl) dX9_init_142 (fun q594 H hP hD hS => ?_)
  have hP : va_P (dC, dI) vwCl [(a0, .inr (9, [.ref q378, .int 0, .ref q379, .ref q400, .ref q421, .ref q426, .ref q551, .ref q558, .ref q561, .ref q576, .ref q581, .null, .null, .int 0, .null, .long 0])), (q378, .inl (cy 0, 1600, .inl (fun _ => 0))), (q379, .inr (4, [.int 0, .int 0, .int 0, .int 0, .int 0, .int 0, .int 0, .ref q391, .ref q392, .ref q393, .int 0, .ref q394, .ref q395, .ref q396, .ref q397, .ref q398, .int 0, .ref q399])), (q400, .inr (4, [.int 0, .int 0, .int 0, .int 0, .int 0, .int 0, .int 0, .ref q412, .ref q413, .ref q414, .int 0, .ref q415, .ref q416, .ref q417, .ref q418, .ref q419, .int 0, .ref q420])), (q417, .inl (cy 0, 200, .inl (fun _ => 0))), (q420, .inl (cy 0, 6, .inl (fun _ => 0))), (q421, .inr (6, [.int 0, .int 0, .int 0, .ref q425])), (q426, .inr (2, [.ref q550, .int 0, .int 0])), (q551, .inr (3, [.ref q556, .ref q557])), (q558, .inr (5, [.ref q378, .int 0, .int 0, .int 0, .int 0, .int 0, .ref q400, .int 0, .int (-1)])), (q561, .inr (7, [.ref q551, .ref q379, .int (-1), .ref q570, .int (-1), .int 0, .int 0, .int 0, .ref q571, .ref q572, .ref q573, .ref q574, .ref q575, .int 0, .int 0, .int 0, .int 0])), (q576, .inr (1, [.ref q561, .ref q580, .int 0])), (q581, .inr (0, [.ref q561, .ref q591, .ref q592, .ref q593, .int 0])), (q594, .inr (8, [.null, .null, .null, .int 0, .int 0, .null, .int 0, .int 0, .int 0, .int 0, .int 0]))] H := hP
  have hD : va_D A [(a0, .inr (9, [.ref q378, .int 0, .ref q379, .ref q400, .ref q421, .ref q426, .ref q551, .ref q558, .ref q561, .ref q576, .ref q581, .null, .null, .int 0, .null, .long 0])), (q378, .inl (cy 0, 1600, .inl (fun _ => 0))), (q379, .inr (4, [.int 0, .int 0, .int 0, .int 0, .int 0, .int 0, .int 0, .ref q391, .ref q392, .ref q393, .int 0, .ref q394, .ref q395, .ref q396, .ref q397, .ref q398, .int 0, .ref q399])), (q400, .inr (4, [.int 0, .int 0, .int 0, .int 0, .int 0, .int 0, .int 0, .ref q412, .ref q413, .ref q414, .int 0, .ref q415, .ref q416, .ref q417, .ref q418, .ref q419, .int 0, .ref q420])), (q417, .inl (cy 0, 200, .inl (fun _ => 0))), (q420, .inl (cy 0, 6, .inl (fun _ => 0))), (q421, .inr (6, [.int 0, .int 0, .int 0, .ref q425])), (q426, .inr (2, [.ref q550, .int 0, .int 0])), (q551, .inr (3, [.ref q556, .ref q557])), (q558, .inr (5, [.ref q378, .int 0, .int 0, .int 0, .int 0, .int 0, .ref q400, .int 0, .int (-1)])), (q561, .inr (7, [.ref q551, .ref q379, .int (-1), .ref q570, .int (-1), .int 0, .int 0, .int 0, .ref q571, .ref q572, .ref q573, .ref q574, .ref q575, .int 0, .int 0, .int 0, .int 0])), (q576, .inr (1, [.ref q561, .ref q580, .int 0])), (q581, .inr (0, [.ref q561, .ref q591, .ref q592, .ref q593, .int 0])), (q594, .inr (8, [.null, .null, .null, .int 0, .int 0, .null, .int 0, .int 0, .int 0, .int 0, .int 0]))] := hD
  refine lv_dup hx hb dX9_init_145 rfl ?_
  refine lv_aload_n hx hb dX9_init_146 rfl (lv_at hl 0 rfl) ?_
  refine k_get C0 fg_X9_62 hP 0 rfl rfl dX9_init_147 ?_
  refine k_jv hP hD hS hA [13] [0, 1, 2, 3, 4, 5, 6, 7, 8, 9, 10, 11, 12] (wr := [(a0, .inr (9, [.ref q378, .int 0, .ref q379, .ref q400, .ref q421, .ref q426, .ref q551, .ref q558, .ref q561, .ref q576, .ref q581, .null, .null, .int 0, .null, .long 0])), (q378, .inl (cy 0, 1600, .inl (fun _ => 0))), (q379, .inr (4, [.int 0, .int 0, .int 0, .int 0, .int 0, .int 0, .int 0, .ref q391, .ref q392, .ref q393, .int 0, .ref q394, .ref q395, .ref q396, .ref q397, .ref q398, .int 0, .ref q399])), (q400, .inr (4, [.int 0, .int 0, .int 0, .int 0, .int 0, .int 0, .int 0, .ref q412, .ref q413, .ref q414, .int 0, .ref q415, .ref q416, .ref q417, .ref q418, .ref q419, .int 0, .ref q420])), (q417, .inl (cy 0, 200, .inl (fun _ => 0))), (q420, .inl (cy 0, 6, .inl (fun _ => 0))), (q421, .inr (6, [.int 0, .int 0, .int 0, .ref q425])), (q426, .inr (2, [.ref q550, .int 0, .int 0])), (q551, .inr (3, [.ref q556, .ref q557])), (q558, .inr (5, [.ref q378, .int 0, .int 0, .int 0, .int 0, .int 0, .ref q400, .int 0, .int (-1)])), (q561, .inr (7, [.ref q551, .ref q379, .int (-1), .ref q570, .int (-1), .int 0, .int 0, .int 0, .ref q571, .ref q572, .ref q573, .ref q574, .ref q575, .int 0, .int 0, .int 0, .int 0])), (q576, .inr (1, [.ref q561, .ref q580, .int 0])), (q581, .inr (0, [.ref q561, .ref q591, .ref q592, .ref q593, .int 0]))]) rfl rfl (by decide) (by decide) (by decide) 87 11624 (Nat.le_of_ble_eq_true rfl) (Nat.le_of_ble_eq_true rfl) (fun hPc hDc => k_runI (As := [.ref q561]) (rest := [.ref q594, .ref a0]) C0 (c_X8_init l dC dI cy sq q594 q561) mI_X9_84 hPc hDc hl rfl rfl (Nat.le_of_ble_eq_true rfl) ⟨(Nat.le_of_ble_eq_true rfl), (Nat.le_of_ble_eq_true rfl)⟩ ⟨(Nat.le_of_ble_eq_true rfl), (Nat.le_of_ble_eq_true rfl)⟩ dX9_init_150) (fun u599 H locs hw hP hD hS => ?_)
  obtain ⟨q600, q601, q602⟩ := u599
  try dsimp only at hP hD
  have hP : va_P (dC, dI) vwCl [(a0, .inr (9, [.ref q378, .int 0, .ref q379, .ref q400, .ref q421, .ref q426, .ref q551, .ref q558, .ref q561, .ref q576, .ref q581, .null, .null, .int 0, .null, .long 0])), (q378, .inl (cy 0, 1600, .inl (fun _ => 0))), (q379, .inr (4, [.int 0, .int 0, .int 0, .int 0, .int 0, .int 0, .int 0, .ref q391, .ref q392, .ref q393, .int 0, .ref q394, .ref q395, .ref q396, .ref q397, .ref q398, .int 0, .ref q399])), (q400, .inr (4, [.int 0, .int 0, .int 0, .int 0, .int 0, .int 0, .int 0, .ref q412, .ref q413, .ref q414, .int 0, .ref q415, .ref q416, .ref q417, .ref q418, .ref q419, .int 0, .ref q420])), (q417, .inl (cy 0, 200, .inl (fun _ => 0))), (q420, .inl (cy 0, 6, .inl (fun _ => 0))), (q421, .inr (6, [.int 0, .int 0, .int 0, .ref q425])), (q426, .inr (2, [.ref q550, .int 0, .int 0])), (q551, .inr (3, [.ref q556, .ref q557])), (q558, .inr (5, [.ref q378, .int 0, .int 0, .int 0, .int 0, .int 0, .ref q400, .int 0, .int (-1)])), (q561, .inr (7, [.ref q551, .ref q379, .int (-1), .ref q570, .int (-1), .int 0, .int 0, .int 0, .ref q571, .ref q572, .ref q573, .ref q574, .ref q575, .int 0, .int 0, .int 0, .int 0])), (q576, .inr (1, [.ref q561, .ref q580, .int 0])), (q581, .inr (0, [.ref q561, .ref q591, .ref q592, .ref q593, .int 0])), (q594, .inr (8, [.ref q561, .ref q600, .ref q601, .int 0, .int 0, .ref q602, .int 0, .int 0, .int (-1), .int (-1), .int (-1)]))] H := hP
  have hD : va_D A [(a0, .inr (9, [.ref q378, .int 0, .ref q379, .ref q400, .ref q421, .ref q426, .ref q551, .ref q558, .ref q561, .ref q576, .ref q581, .null, .null, .int 0, .null, .long 0])), (q378, .inl (cy 0, 1600, .inl (fun _ => 0))), (q379, .inr (4, [.int 0, .int 0, .int 0, .int 0, .int 0, .int 0, .int 0, .ref q391, .ref q392, .ref q393, .int 0, .ref q394, .ref q395, .ref q396, .ref q397, .ref q398, .int 0, .ref q399])), (q400, .inr (4, [.int 0, .int 0, .int 0, .int 0, .int 0, .int 0, .int 0, .ref q412, .ref q413, .ref q414, .int 0, .ref q415, .ref q416, .ref q417, .ref q418, .ref q419, .int 0, .ref q420])), (q417, .inl (cy 0, 200, .inl (fun _ => 0))), (q420, .inl (cy 0, 6, .inl (fun _ => 0))), (q421, .inr (6, [.int 0, .int 0, .int 0, .ref q425])), (q426, .inr (2, [.ref q550, .int 0, .int 0])), (q551, .inr (3, [.ref q556, .ref q557])), (q558, .inr (5, [.ref q378, .int 0, .int 0, .int 0, .int 0, .int 0, .ref q400, .int 0, .int (-1)])), (q561, .inr (7, [.ref q551, .ref q379, .int (-1), .ref q570, .int (-1), .int 0, .int 0, .int 0, .ref q571, .ref q572, .ref q573, .ref q574, .ref q575, .int 0, .int 0, .int 0, .int 0])), (q576, .inr (1, [.ref q561, .ref q580, .int 0])), (q581, .inr (0, [.ref q561, .ref q591, .ref q592, .ref q593, .int 0])), (q594, .inr (8, [.ref q561, .ref q600, .ref q601, .int 0, .int 0, .ref q602, .int 0, .int 0, .int (-1), .int (-1), .int (-1)]))] := hD
  refine k_putF C0 hin fp_X9_85 hP hD hS 0 rfl rfl rfl (Nat.le_of_ble_eq_true rfl) dX9_init_153 (fun H locs hP hD hS => ?_)
  have hP : va_P (dC, dI) vwCl [(a0, .inr (9, [.ref q378, .int 0, .ref q379, .ref q400, .ref q421, .ref q426, .ref q551, .ref q558, .ref q561, .ref q576, .ref q581, .ref q594, .null, .int 0, .null, .long 0])), (q378, .inl (cy 0, 1600, .inl (fun _ => 0))), (q379, .inr (4, [.int 0, .int 0, .int 0, .int 0, .int 0, .int 0, .int 0, .ref q391, .ref q392, .ref q393, .int 0, .ref q394, .ref q395, .ref q396, .ref q397, .ref q398, .int 0, .ref q399])), (q400, .inr (4, [.int 0, .int 0, .int 0, .int 0, .int 0, .int 0, .int 0, .ref q412, .ref q413, .ref q414, .int 0, .ref q415, .ref q416, .ref q417, .ref q418, .ref q419, .int 0, .ref q420])), (q417, .inl (cy 0, 200, .inl (fun _ => 0))), (q420, .inl (cy 0, 6, .inl (fun _ => 0))), (q421, .inr (6, [.int 0, .int 0, .int 0, .ref q425])), (q426, .inr (2, [.ref q550, .int 0, .int 0])), (q551, .inr (3, [.ref q556, .ref q557])), (q558, .inr (5, [.ref q378, .int 0, .int 0, .int 0, .int 0, .int 0, .ref q400, .int 0, .int (-1)])), (q561, .inr (7, [.ref q551, .ref q379, .int (-1), .ref q570, .int (-1), .int 0, .int 0, .int 0, .ref q571, .ref q572, .ref q573, .ref q574, .ref q575, .int 0, .int 0, .int 0, .int 0])), (q576, .inr (1, [.ref q561, .ref q580, .int 0])), (q581, .inr (0, [.ref q561, .ref q591, .ref q592, .ref q593, .int 0])), (q594, .inr (8, [.ref q561, .ref q600, .ref q601, .int 0, .int 0, .ref q602, .int 0, .int 0, .int (-1), .int (-1), .int (-1)]))] H := hP
  have hD : va_D A [(a0, .inr (9, [.ref q378, .int 0, .ref q379, .ref q400, .ref q421, .ref q426, .ref q551, .ref q558, .ref q561, .ref q576, .ref q581, .ref q594, .null, .int 0, .null, .long 0])), (q378, .inl (cy 0, 1600, .inl (fun _ => 0))), (q379, .inr (4, [.int 0, .int 0, .int 0, .int 0, .int 0, .int 0, .int 0, .ref q391, .ref q392, .ref q393, .int 0, .ref q394, .ref q395, .ref q396, .ref q397, .ref q398, .int 0, .ref q399])), (q400, .inr (4, [.int 0, .int 0, .int 0, .int 0, .int 0, .int 0, .int 0, .ref q412, .ref q413, .ref q414, .int 0, .ref q415, .ref q416, .ref q417, .ref q418, .ref q419, .int 0, .ref q420])), (q417, .inl (cy 0, 200, .inl (fun _ => 0))), (q420, .inl (cy 0, 6, .inl (fun _ => 0))), (q421, .inr (6, [.int 0, .int 0, .int 0, .ref q425])), (q426, .inr (2, [.ref q550, .int 0, .int 0])), (q551, .inr (3, [.ref q556, .ref q557])), (q558, .inr (5, [.ref q378, .int 0, .int 0, .int 0, .int 0, .int 0, .ref q400, .int 0, .int (-1)])), (q561, .inr (7, [.ref q551, .ref q379, .int (-1), .ref q570, .int (-1), .int 0, .int 0, .int 0, .ref q571, .ref q572, .ref q573, .ref q574, .ref q575, .int 0, .int 0, .int 0, .int 0])), (q576, .inr (1, [.ref q561, .ref q580, .int 0])), (q581, .inr (0, [.ref q561, .ref q591, .ref q592, .ref q593, .int 0])), (q594, .inr (8, [.ref q561, .ref q600, .ref q601, .int 0, .int 0, .ref q602, .int 0, .int 0, .int (-1), .int (-1), .int (-1)]))] := hD
  refine lv_aload_n hx hb dX9_init_156 rfl (lv_at hl 0 rfl) ?_
  refine lv_bipush (v := 11) hx hb dX9_init_157 (by decide) ?_
  refine k_newa C0 0 (ty := .int) rfl (atype := .int) rfl wd12 hP hD hS hA (a0 := (11, .inl (fun _ => 0))) (fun _ => rfl) (by decide) (by decide) (Nat.le_of_ble_eq_true rfl) 88 11635 (Nat.le_of_ble_eq_true rfl) (Nat.le_of_ble_eq_true rfl) (Nat.le_of_ble_eq_true rfl) (Nat.le_of_ble_eq_true rfl) dX9_init_159 (fun q603 H hP hD hS => ?_)
  have hP : va_P (dC, dI) vwCl [(a0, .inr (9, [.ref q378, .int 0, .ref q379, .ref q400, .ref q421, .ref q426, .ref q551, .ref q558, .ref q561, .ref q576, .ref q581, .ref q594, .null, .int 0, .null, .long 0])), (q378, .inl (cy 0, 1600, .inl (fun _ => 0))), (q379, .inr (4, [.int 0, .int 0, .int 0, .int 0, .int 0, .int 0, .int 0, .ref q391, .ref q392, .ref q393, .int 0, .ref q394, .ref q395, .ref q396, .ref q397, .ref q398, .int 0, .ref q399])), (q400, .inr (4, [.int 0, .int 0, .int 0, .int 0, .int 0, .int 0, .int 0, .ref q412, .ref q413, .ref q414, .int 0, .ref q415, .ref q416, .ref q417, .ref q418, .ref q419, .int 0, .ref q420])), (q417, .inl (cy 0, 200, .inl (fun _ => 0))), (q420, .inl (cy 0, 6, .inl (fun _ => 0))), (q421, .inr (6, [.int 0, .int 0, .int 0, .ref q425])), (q426, .inr (2, [.ref q550, .int 0, .int 0])), (q551, .inr (3, [.ref q556, .ref q557])), (q558, .inr (5, [.ref q378, .int 0, .int 0, .int 0, .int 0, .int 0, .ref q400, .int 0, .int (-1)])), (q561, .inr (7, [.ref q551, .ref q379, .int (-1), .ref q570, .int (-1), .int 0, .int 0, .int 0, .ref q571, .ref q572, .ref q573, .ref q574, .ref q575, .int 0, .int 0, .int 0, .int 0])), (q576, .inr (1, [.ref q561, .ref q580, .int 0])), (q581, .inr (0, [.ref q561, .ref q591, .ref q592, .ref q593, .int 0])), (q594, .inr (8, [.ref q561, .ref q600, .ref q601, .int 0, .int 0, .ref q602, .int 0, .int 0, .int (-1), .int (-1), .int (-1)])), (q603, .inl (cy 0, 11, .inl (fun _ => 0)))] H := hP
  have hD : va_D A [(a0, .inr (9, [.ref q378, .int 0, .ref q379, .ref q400, .ref q421, .ref q426, .ref q551, .ref q558, .ref q561, .ref q576, .ref q581, .ref q594, .null, .int 0, .null, .long 0])), (q378, .inl (cy 0, 1600, .inl (fun _ => 0))), (q379, .inr (4, [.int 0, .int 0, .int 0, .int 0, .int 0, .int 0, .int 0, .ref q391, .ref q392, .ref q393, .int 0, .ref q394, .ref q395, .ref q396, .ref q397, .ref q398, .int 0, .ref q399])), (q400, .inr (4, [.int 0, .int 0, .int 0, .int 0, .int 0, .int 0, .int 0, .ref q412, .ref q413, .ref q414, .int 0, .ref q415, .ref q416, .ref q417, .ref q418, .ref q419, .int 0, .ref q420])), (q417, .inl (cy 0, 200, .inl (fun _ => 0))), (q420, .inl (cy 0, 6, .inl (fun _ => 0))), (q421, .inr (6, [.int 0, .int 0, .int 0, .ref q425])), (q426, .inr (2, [.ref q550, .int 0, .int 0])), (q551, .inr (3, [.ref q556, .ref q557])), (q558, .inr (5, [.ref q378, .int 0, .int 0, .int 0, .int 0, .int 0, .ref q400, .int 0, .int (-1)])), (q561, .inr (7, [.ref q551, .ref q379, .int (-1), .ref q570, .int (-1), .int 0, .int 0, .int 0, .ref q571, .ref q572, .ref q573, .ref q574, .ref q575, .int 0, .int 0, .int 0, .int 0])), (q576, .inr (1, [.ref q561, .ref q580, .int 0])), (q581, .inr (0, [.ref q561, .ref q591, .ref q592, .ref q593, .int 0])), (q594, .inr (8, [.ref q561, .ref q600, .ref q601, .int 0, .int 0, .ref q602, .int 0, .int 0, .int (-1), .int (-1), .int (-1)])), (q603, .inl (cy 0, 11, .inl (fun _ => 0)))] := hD
  refine k_putF C0 hin fp_X9_89 hP hD hS 0 rfl rfl rfl (Nat.le_of_ble_eq_true rfl) dX9_init_161 (fun H locs hP hD hS => ?_)
  have hP : va_P (dC, dI) vwCl [(a0, .inr (9, [.ref q378, .int 0, .ref q379, .ref q400, .ref q421, .ref q426, .ref q551, .ref q558, .ref q561, .ref q576, .ref q581, .ref q594, .ref q603, .int 0, .null, .long 0])), (q378, .inl (cy 0, 1600, .inl (fun _ => 0))), (q379, .inr (4, [.int 0, .int 0, .int 0, .int 0, .int 0, .int 0, .int 0, .ref q391, .ref q392, .ref q393, .int 0, .ref q394, .ref q395, .ref q396, .ref q397, .ref q398, .int 0, .ref q399])), (q400, .inr (4, [.int 0, .int 0, .int 0, .int 0, .int 0, .int 0, .int 0, .ref q412, .ref q413, .ref q414, .int 0, .ref q415, .ref q416, .ref q417, .ref q418, .ref q419, .int 0, .ref q420])), (q417, .inl (cy 0, 200, .inl (fun _ => 0))), (q420, .inl (cy 0, 6, .inl (fun _ => 0))), (q421, .inr (6, [.int 0, .int 0, .int 0, .ref q425])), (q426, .inr (2, [.ref q550, .int 0, .int 0])), (q551, .inr (3, [.ref q556, .ref q557])), (q558, .inr (5, [.ref q378, .int 0, .int 0, .int 0, .int 0, .int 0, .ref q400, .int 0, .int (-1)])), (q561, .inr (7, [.ref q551, .ref q379, .int (-1), .ref q570, .int (-1), .int 0, .int 0, .int 0, .ref q571, .ref q572, .ref q573, .ref q574, .ref q575, .int 0, .int 0, .int 0, .int 0])), (q576, .inr (1, [.ref q561, .ref q580, .int 0])), (q581, .inr (0, [.ref q561, .ref q591, .ref q592, .ref q593, .int 0])), (q594, .inr (8, [.ref q561, .ref q600, .ref q601, .int 0, .int 0, .ref q602, .int 0, .int 0, .int (-1), .int (-1), .int (-1)])), (q603, .inl (cy 0, 11, .inl (fun _ => 0)))] H := hP
  have hD : va_D A [(a0, .inr (9, [.ref q378, .int 0, .ref q379, .ref q400, .ref q421, .ref q426, .ref q551, .ref q558, .ref q561, .ref q576, .ref q581, .ref q594, .ref q603, .int 0, .null, .long 0])), (q378, .inl (cy 0, 1600, .inl (fun _ => 0))), (q379, .inr (4, [.int 0, .int 0, .int 0, .int 0, .int 0, .int 0, .int 0, .ref q391, .ref q392, .ref q393, .int 0, .ref q394, .ref q395, .ref q396, .ref q397, .ref q398, .int 0, .ref q399])), (q400, .inr (4, [.int 0, .int 0, .int 0, .int 0, .int 0, .int 0, .int 0, .ref q412, .ref q413, .ref q414, .int 0, .ref q415, .ref q416, .ref q417, .ref q418, .ref q419, .int 0, .ref q420])), (q417, .inl (cy 0, 200, .inl (fun _ => 0))), (q420, .inl (cy 0, 6, .inl (fun _ => 0))), (q421, .inr (6, [.int 0, .int 0, .int 0, .ref q425])), (q426, .inr (2, [.ref q550, .int 0, .int 0])), (q551, .inr (3, [.ref q556, .ref q557])), (q558, .inr (5, [.ref q378, .int 0, .int 0, .int 0, .int 0, .int 0, .ref q400, .int 0, .int (-1)])), (q561, .inr (7, [.ref q551, .ref q379, .int (-1), .ref q570, .int (-1), .int 0, .int 0, .int 0, .ref q571, .ref q572, .ref q573, .ref q574, .ref q575, .int 0, .int 0, .int 0, .int 0])), (q576, .inr (1, [.ref q561, .ref q580, .int 0])), (q581, .inr (0, [.ref q561, .ref q591, .ref q592, .ref q593, .int 0])), (q594, .inr (8, [.ref q561, .ref q600, .ref q601, .int 0, .int 0, .ref q602, .int 0, .int 0, .int (-1), .int (-1), .int (-1)])), (q603, .inl (cy 0, 11, .inl (fun _ => 0)))] := hD
  refine lv_aload_n hx hb dX9_init_164 rfl (lv_at hl 0 rfl) ?_
  refine lv_iconst (v := 0) hx hb dX9_init_165 (by decide) ?_
  refine k_put C0 fp_X9_92 hP hD hS 0 rfl rfl rfl (Nat.le_of_ble_eq_true rfl) dX9_init_166 (fun H locs hP hD hS => ?_)
  have hP : va_P (dC, dI) vwCl [(a0, .inr (9, [.ref q378, .int 0, .ref q379, .ref q400, .ref q421, .ref q426, .ref q551, .ref q558, .ref q561, .ref q576, .ref q581, .ref q594, .ref q603, .int 0, .null, .long 0])), (q378, .inl (cy 0, 1600, .inl (fun _ => 0))), (q379, .inr (4, [.int 0, .int 0, .int 0, .int 0, .int 0, .int 0, .int 0, .ref q391, .ref q392, .ref q393, .int 0, .ref q394, .ref q395, .ref q396, .ref q397, .ref q398, .int 0, .ref q399])), (q400, .inr (4, [.int 0, .int 0, .int 0, .int 0, .int 0, .int 0, .int 0, .ref q412, .ref q413, .ref q414, .int 0, .ref q415, .ref q416, .ref q417, .ref q418, .ref q419, .int 0, .ref q420])), (q417, .inl (cy 0, 200, .inl (fun _ => 0))), (q420, .inl (cy 0, 6, .inl (fun _ => 0))), (q421, .inr (6, [.int 0, .int 0, .int 0, .ref q425])), (q426, .inr (2, [.ref q550, .int 0, .int 0])), (q551, .inr (3, [.ref q556, .ref q557])), (q558, .inr (5, [.ref q378, .int 0, .int 0, .int 0, .int 0, .int 0, .ref q400, .int 0, .int (-1)])), (q561, .inr (7, [.ref q551, .ref q379, .int (-1), .ref q570, .int (-1), .int 0, .int 0, .int 0, .ref q571, .ref q572, .ref q573, .ref q574, .ref q575, .int 0, .int 0, .int 0, .int 0])), (q576, .inr (1, [.ref q561, .ref q580, .int 0])), (q581, .inr (0, [.ref q561, .ref q591, .ref q592, .ref q593, .int 0])), (q594, .inr (8, [.ref q561, .ref q600, .ref q601, .int 0, .int 0, .ref q602, .int 0, .int 0, .int (-1), .int (-1), .int (-1)])), (q603, .inl (cy 0, 11, .inl (fun _ => 0)))] H := hP
  have hD : va_D A [(a0, .inr (9, [.ref q378, .int 0, .ref q379, .ref q400, .ref q421, .ref q426, .ref q551, .ref q558, .ref q561, .ref q576, .ref q581, .ref q594, .ref q603, .int 0, .null, .long 0])), (q378, .inl (cy 0, 1600, .inl (fun _ => 0))), (q379, .inr (4, [.int 0, .int 0, .int 0, .int 0, .int 0, .int 0, .int 0, .ref q391, .ref q392, .ref q393, .int 0, .ref q394, .ref q395, .ref q396, .ref q397, .ref q398, .int 0, .ref q399])), (q400, .inr (4, [.int 0, .int 0, .int 0, .int 0, .int 0, .int 0, .int 0, .ref q412, .ref q413, .ref q414, .int 0, .ref q415, .ref q416, .ref q417, .ref q418, .ref q419, .int 0, .ref q420])), (q417, .inl (cy 0, 200, .inl (fun _ => 0))), (q420, .inl (cy 0, 6, .inl (fun _ => 0))), (q421, .inr (6, [.int 0, .int 0, .int 0, .ref q425])), (q426, .inr (2, [.ref q550, .int 0, .int 0])), (q551, .inr (3, [.ref q556, .ref q557])), (q558, .inr (5, [.ref q378, .int 0, .int 0, .int 0, .int 0, .int 0, .ref q400, .int 0, .int (-1)])), (q561, .inr (7, [.ref q551, .ref q379, .int (-1), .ref q570, .int (-1), .int 0, .int 0, .int 0, .ref q571, .ref q572, .ref q573, .ref q574, .ref q575, .int 0, .int 0, .int 0, .int 0])), (q576, .inr (1, [.ref q561, .ref q580, .int 0])), (q581, .inr (0, [.ref q561, .ref q591, .ref q592, .ref q593, .int 0])), (q594, .inr (8, [.ref q561, .ref q600, .ref q601, .int 0, .int 0, .ref q602, .int 0, .int 0, .int (-1), .int (-1), .int (-1)])), (q603, .inl (cy 0, 11, .inl (fun _ => 0)))] := hD
  refine lv_aload_n hx hb dX9_init_169 rfl (lv_at hl 0 rfl) ?_
  refine lv_bipush (v := 6) hx hb dX9_init_170 (by decide) ?_
  refine k_newa C0 0 (ty := .int) rfl (atype := .int) rfl wd12 hP hD hS hA (a0 := (6, .inl (fun _ => 0))) (fun _ => rfl) (by decide) (by decide) (Nat.le_of_ble_eq_true rfl) 89 11641 (Nat.le_of_ble_eq_true rfl) (Nat.le_of_ble_eq_true rfl) (Nat.le_of_ble_eq_true rfl) (Nat.le_of_ble_eq_true rfl) dX9_init_172 (fun q604 H hP hD hS => ?_)
  have hP : va_P (dC, dI) vwCl [(a0, .inr (9, [.ref q378, .int 0, .ref q379, .ref q400, .ref q421, .ref q426, .ref q551, .ref q558, .ref q561, .ref q576, .ref q581, .ref q594, .ref q603, .int 0, .null, .long 0])), (q378, .inl (cy 0, 1600, .inl (fun _ => 0))), (q379, .inr (4, [.int 0, .int 0, .int 0, .int 0, .int 0, .int 0, .int 0, .ref q391, .ref q392, .ref q393, .int 0, .ref q394, .ref q395, .ref q396, .ref q397, .ref q398, .int 0, .ref q399])), (q400, .inr (4, [.int 0, .int 0, .int 0, .int 0, .int 0, .int 0, .int 0, .ref q412, .ref q413, .ref q414, .int 0, .ref q415, .ref q416, .ref q417, .ref q418, .ref q419, .int 0, .ref q420])), (q417, .inl (cy 0, 200, .inl (fun _ => 0))), (q420, .inl (cy 0, 6, .inl (fun _ => 0))), (q421, .inr (6, [.int 0, .int 0, .int 0, .ref q425])), (q426, .inr (2, [.ref q550, .int 0, .int 0])), (q551, .inr (3, [.ref q556, .ref q557])), (q558, .inr (5, [.ref q378, .int 0, .int 0, .int 0, .int 0, .int 0, .ref q400, .int 0, .int (-1)])), (q561, .inr (7, [.ref q551, .ref q379, .int (-1), .ref q570, .int (-1), .int 0, .int 0, .int 0, .ref q571, .ref q572, .ref q573, .ref q574, .ref q575, .int 0, .int 0, .int 0, .int 0])), (q576, .inr (1, [.ref q561, .ref q580, .int 0])), (q581, .inr (0, [.ref q561, .ref q591, .ref q592, .ref q593, .int 0])), (q594, .inr (8, [.ref q561, .ref q600, .ref q601, .int 0, .int 0, .ref q602, .int 0, .int 0, .int (-1), .int (-1), .int (-1)])), (q603, .inl (cy 0, 11, .inl (fun _ => 0))), (q604, .inl (cy 0, 6, .inl (fun _ => 0)))] H := hP
  have hD : va_D A [(a0, .inr (9, [.ref q378, .int 0, .ref q379, .ref q400, .ref q421, .ref q426, .ref q551, .ref q558, .ref q561, .ref q576, .ref q581, .ref q594, .ref q603, .int 0, .null, .long 0])), (q378, .inl (cy 0, 1600, .inl (fun _ => 0))), (q379, .inr (4, [.int 0, .int 0, .int 0, .int 0, .int 0, .int 0, .int 0, .ref q391, .ref q392, .ref q393, .int 0, .ref q394, .ref q395, .ref q396, .ref q397, .ref q398, .int 0, .ref q399])), (q400, .inr (4, [.int 0, .int 0, .int 0, .int 0, .int 0, .int 0, .int 0, .ref q412, .ref q413, .ref q414, .int 0, .ref q415, .ref q416, .ref q417, .ref q418, .ref q419, .int 0, .ref q420])), (q417, .inl (cy 0, 200, .inl (fun _ => 0))), (q420, .inl (cy 0, 6, .inl (fun _ => 0))), (q421, .inr (6, [.int 0, .int 0, .int 0, .ref q425])), (q426, .inr (2, [.ref q550, .int 0, .int 0])), (q551, .inr (3, [.ref q556, .ref q557])), (q558, .inr (5, [.ref q378, .int 0, .int 0, .int 0, .int 0, .int 0, .ref q400, .int 0, .int (-1)])), (q561, .inr (7, [.ref q551, .ref q379, .int (-1), .ref q570, .int (-1), .int 0, .int 0, .int 0, .ref q571, .ref q572, .ref q573, .ref q574, .ref q575, .int 0, .int 0, .int 0, .int 0])), (q576, .inr (1, [.ref q561, .ref q580, .int 0])), (q581, .inr (0, [.ref q561, .ref q591, .ref q592, .ref q593, .int 0])), (q594, .inr (8, [.ref q561, .ref q600, .ref q601, .int 0, .int 0, .ref q602, .int 0, .int 0, .int (-1), .int (-1), .int (-1)])), (q603, .inl (cy 0, 11, .inl (fun _ => 0))), (q604, .inl (cy 0, 6, .inl (fun _ => 0)))] := hD
  refine k_putF C0 hin fp_X9_95 hP hD hS 0 rfl rfl rfl (Nat.le_of_ble_eq_true rfl) dX9_init_174 (fun H locs hP hD hS => ?_)
  have hP : va_P (dC, dI) vwCl [(a0, .inr (9, [.ref q378, .int 0, .ref q379, .ref q400, .ref q421, .ref q426, .ref q551, .ref q558, .ref q561, .ref q576, .ref q581, .ref q594, .ref q603, .int 0, .ref q604, .long 0])), (q378, .inl (cy 0, 1600, .inl (fun _ => 0))), (q379, .inr (4, [.int 0, .int 0, .int 0, .int 0, .int 0, .int 0, .int 0, .ref q391, .ref q392, .ref q393, .int 0, .ref q394, .ref q395, .ref q396, .ref q397, .ref q398, .int 0, .ref q399])), (q400, .inr (4, [.int 0, .int 0, .int 0, .int 0, .int 0, .int 0, .int 0, .ref q412, .ref q413, .ref q414, .int 0, .ref q415, .ref q416, .ref q417, .ref q418, .ref q419, .int 0, .ref q420])), (q417, .inl (cy 0, 200, .inl (fun _ => 0))), (q420, .inl (cy 0, 6, .inl (fun _ => 0))), (q421, .inr (6, [.int 0, .int 0, .int 0, .ref q425])), (q426, .inr (2, [.ref q550, .int 0, .int 0])), (q551, .inr (3, [.ref q556, .ref q557])), (q558, .inr (5, [.ref q378, .int 0, .int 0, .int 0, .int 0, .int 0, .ref q400, .int 0, .int (-1)])), (q561, .inr (7, [.ref q551, .ref q379, .int (-1), .ref q570, .int (-1), .int 0, .int 0, .int 0, .ref q571, .ref q572, .ref q573, .ref q574, .ref q575, .int 0, .int 0, .int 0, .int 0])), (q576, .inr (1, [.ref q561, .ref q580, .int 0])), (q581, .inr (0, [.ref q561, .ref q591, .ref q592, .ref q593, .int 0])), (q594, .inr (8, [.ref q561, .ref q600, .ref q601, .int 0, .int 0, .ref q602, .int 0, .int 0, .int (-1), .int (-1), .int (-1)])), (q603, .inl (cy 0, 11, .inl (fun _ => 0))), (q604, .inl (cy 0, 6, .inl (fun _ => 0)))] H := hP
  have hD : va_D A [(a0, .inr (9, [.ref q378, .int 0, .ref q379, .ref q400, .ref q421, .ref q426, .ref q551, .ref q558, .ref q561, .ref q576, .ref q581, .ref q594, .ref q603, .int 0, .ref q604, .long 0])), (q378, .inl (cy 0, 1600, .inl (fun _ => 0))), (q379, .inr (4, [.int 0, .int 0, .int 0, .int 0, .int 0, .int 0, .int 0, .ref q391, .ref q392, .ref q393, .int 0, .ref q394, .ref q395, .ref q396, .ref q397, .ref q398, .int 0, .ref q399])), (q400, .inr (4, [.int 0, .int 0, .int 0, .int 0, .int 0, .int 0, .int 0, .ref q412, .ref q413, .ref q414, .int 0, .ref q415, .ref q416, .ref q417, .ref q418, .ref q419, .int 0, .ref q420])), (q417, .inl (cy 0, 200, .inl (fun _ => 0))), (q420, .inl (cy 0, 6, .inl (fun _ => 0))), (q421, .inr (6, [.int 0, .int 0, .int 0, .ref q425])), (q426, .inr (2, [.ref q550, .int 0, .int 0])), (q551, .inr (3, [.ref q556, .ref q557])), (q558, .inr (5, [.ref q378, .int 0, .int 0, .int 0, .int 0, .int 0, .ref q400, .int 0, .int (-1)])), (q561, .inr (7, [.ref q551, .ref q379, .int (-1), .ref q570, .int (-1), .int 0, .int 0, .int 0, .ref q571, .ref q572, .ref q573, .ref q574, .ref q575, .int 0, .int 0, .int 0, .int 0])), (q576, .inr (1, [.ref q561, .ref q580, .int 0])), (q581, .inr (0, [.ref q561, .ref q591, .ref q592, .ref q593, .int 0])), (q594, .inr (8, [.ref q561, .ref q600, .ref q601, .int 0, .int 0, .ref q602, .int 0, .int 0, .int (-1), .int (-1), .int (-1)])), (q603, .inl (cy 0, 11, .inl (fun _ => 0))), (q604, .inl (cy 0, 6, .inl (fun _ => 0)))] := hD
  refine lv_aload_n hx hb dX9_init_177 rfl (lv_at hl 0 rfl) ?_
  refine lv_lconst (v := 1) hx hb dX9_init_178 (by decide) ?_
  refine k_put C0 fp_X9_98 hP hD hS 0 rfl rfl rfl (Nat.le_of_ble_eq_true rfl) dX9_init_179 (fun H locs hP hD hS => ?_)
  have hP : va_P (dC, dI) vwCl [(a0, .inr (9, [.ref q378, .int 0, .ref q379, .ref q400, .ref q421, .ref q426, .ref q551, .ref q558, .ref q561, .ref q576, .ref q581, .ref q594, .ref q603, .int 0, .ref q604, .long 1])), (q378, .inl (cy 0, 1600, .inl (fun _ => 0))), (q379, .inr (4, [.int 0, .int 0, .int 0, .int 0, .int 0, .int 0, .int 0, .ref q391, .ref q392, .ref q393, .int 0, .ref q394, .ref q395, .ref q396, .ref q397, .ref q398, .int 0, .ref q399])), (q400, .inr (4, [.int 0, .int 0, .int 0, .int 0, .int 0, .int 0, .int 0, .ref q412, .ref q413, .ref q414, .int 0, .ref q415, .ref q416, .ref q417, .ref q418, .ref q419, .int 0, .ref q420])), (q417, .inl (cy 0, 200, .inl (fun _ => 0))), (q420, .inl (cy 0, 6, .inl (fun _ => 0))), (q421, .inr (6, [.int 0, .int 0, .int 0, .ref q425])), (q426, .inr (2, [.ref q550, .int 0, .int 0])), (q551, .inr (3, [.ref q556, .ref q557])), (q558, .inr (5, [.ref q378, .int 0, .int 0, .int 0, .int 0, .int 0, .ref q400, .int 0, .int (-1)])), (q561, .inr (7, [.ref q551, .ref q379, .int (-1), .ref q570, .int (-1), .int 0, .int 0, .int 0, .ref q571, .ref q572, .ref q573, .ref q574, .ref q575, .int 0, .int 0, .int 0, .int 0])), (q576, .inr (1, [.ref q561, .ref q580, .int 0])), (q581, .inr (0, [.ref q561, .ref q591, .ref q592, .ref q593, .int 0])), (q594, .inr (8, [.ref q561, .ref q600, .ref q601, .int 0, .int 0, .ref q602, .int 0, .int 0, .int (-1), .int (-1), .int (-1)])), (q603, .inl (cy 0, 11, .inl (fun _ => 0))), (q604, .inl (cy 0, 6, .inl (fun _ => 0)))] H := hP
  have hD : va_D A [(a0, .inr (9, [.ref q378, .int 0, .ref q379, .ref q400, .ref q421, .ref q426, .ref q551, .ref q558, .ref q561, .ref q576, .ref q581, .ref q594, .ref q603, .int 0, .ref q604, .long 1])), (q378, .inl (cy 0, 1600, .inl (fun _ => 0))), (q379, .inr (4, [.int 0, .int 0, .int 0, .int 0, .int 0, .int 0, .int 0, .ref q391, .ref q392, .ref q393, .int 0, .ref q394, .ref q395, .ref q396, .ref q397, .ref q398, .int 0, .ref q399])), (q400, .inr (4, [.int 0, .int 0, .int 0, .int 0, .int 0, .int 0, .int 0, .ref q412, .ref q413, .ref q414, .int 0, .ref q415, .ref q416, .ref q417, .ref q418, .ref q419, .int 0, .ref q420])), (q417, .inl (cy 0, 200, .inl (fun _ => 0))), (q420, .inl (cy 0, 6, .inl (fun _ => 0))), (q421, .inr (6, [.int 0, .int 0, .int 0, .ref q425])), (q426, .inr (2, [.ref q550, .int 0, .int 0])), (q551, .inr (3, [.ref q556, .ref q557])), (q558, .inr (5, [.ref q378, .int 0, .int 0, .int 0, .int 0, .int 0, .ref q400, .int 0, .int (-1)])), (q561, .inr (7, [.ref q551, .ref q379, .int (-1), .ref q570, .int (-1), .int 0, .int 0, .int 0, .ref q571, .ref q572, .ref q573, .ref q574, .ref q575, .int 0, .int 0, .int 0, .int 0])), (q576, .inr (1, [.ref q561, .ref q580, .int 0])), (q581, .inr (0, [.ref q561, .ref q591, .ref q592, .ref q593, .int 0])), (q594, .inr (8, [.ref q561, .ref q600, .ref q601, .int 0, .int 0, .ref q602, .int 0, .int 0, .int (-1), .int (-1), .int (-1)])), (q603, .inl (cy 0, 11, .inl (fun _ => 0))), (q604, .inl (cy 0, 6, .inl (fun _ => 0)))] := hD
  exact k_vret hx hb hr hlk (fun k => [q378, q379, q400, q421, q426, q551, q558, q561, q576, q581, q594, q603, q604, q391, q392, q393, q394, q395, q396, q397, q398, q399, q412, q413, q414, q415, q416, q417, q418, q419, q420, q425, q550, q600, q601, q602].getD k 0) hS True.intro (hP.sub [0, 1, 2, 3, 4, 5, 6, 7, 9, 13, 14, 15] rfl) (hD.sub [0, 1, 2, 3, 4, 5, 6, 7, 9, 13, 14, 15] (by decide) rfl) (Nat.le_of_ble_eq_true rfl) (Nat.le_of_ble_eq_true rfl) dX9_init_182
set_option maxHeartbeats 4000000 in
set_option maxRecDepth 100000 in
theorem c_X9_putBytes (l : Launch) (dC : Nat → ClassId) (dI : Nat → Nat → Nat) (cy : Nat → ClassId) (sq : Nat → Nat) (a0 : Nat) (a1 : Nat) (a2 : Nat) (a3 : Nat) (a4 : Nat) (a5 : Nat) (a6 : Nat) (a7 : Nat) (a8 : Nat) (a9 : Nat) (a10 : Nat) (a11 : Nat) (a12 : Nat) (a13 : Nat) (x0 : Int32) : k_Met l yX9_putBytes cX9_putBytes 3 none { frames := 0, cells := 0, slots := 0, locals := 0 } dC dI cy sq [.ref a0, .int x0] [(a0, .inr (9, [.ref a1, .int 0, .ref a2, .ref a3, .ref a4, .ref a5, .ref a6, .ref a7, .ref a8, .ref a9, .ref a10, .ref a11, .ref a12, .int 0, .ref a13, .long 1])), (a1, .inl (cy 0, 1600, .inl (fun _ => 0)))] (k_Qv dC dI (fun _ : (Nat → Int32) => True) (fun f628 : (Nat → Int32) => [(a0, .inr (9, [.ref a1, .int 4, .ref a2, .ref a3, .ref a4, .ref a5, .ref a6, .ref a7, .ref a8, .ref a9, .ref a10, .ref a11, .ref a12, .int 0, .ref a13, .long 1])), (a1, .inl (cy 0, 1600, .inl f628))])) := by
  refine k_ofW (by decide +kernel) (Nat.le_of_ble_eq_true rfl) ?_
  intro p e s m below meth c A ls H locs C0 hr hlk hin hP hD hA hS hl
  have C0 : k_cx p s m _ c cX9_putBytes 3 RX9 dC dI cy sq := C0
  have hx := C0.1
  have hb := C0.2.1
  have hl : lv_has ls 3 [(0, .ref a0), (1, .int x0)] := hl
  refine lv_bipush (v := 24) hx hb dX9_putBytes_0 (by decide) ?_
  refine lv_istore_n (lv' := [(2, .int 24), (0, .ref a0), (1, .int x0)]) hx hb dX9_putBytes_2 rfl hl (by decide) rfl (fun ls hl => ?_)
  refine lv_iload_n hx hb dX9_putBytes_3 rfl (lv_at hl 0 rfl) ?_
  refine lv_if_lt (tgt := 39) hx hb dX9_putBytes_4 (by decide) (fun h9 => absurd h9 (by decide)) (fun _ => ?_)
  refine lv_aload_n hx hb dX9_putBytes_7 rfl (lv_at hl 1 rfl) ?_
  refine k_get C0 fg_X9_9 hP 0 rfl rfl dX9_putBytes_8 ?_
  refine lv_aload_n hx hb dX9_putBytes_11 rfl (lv_at hl 1 rfl) ?_
  refine k_get C0 fg_X9_13 hP 0 rfl rfl dX9_putBytes_12 ?_
  refine lv_iload_n hx hb dX9_putBytes_15 rfl (lv_at hl 2 rfl) ?_
  refine lv_iload_n hx hb dX9_putBytes_16 rfl (lv_at hl 0 rfl) ?_
  refine lv_ishr hx hb dX9_putBytes_17 ?_
  refine lv_topi (fun z617 _ => ?_)
  refine lv_sipush (v := 255) hx hb dX9_putBytes_18 (by decide) ?_
  refine lv_iand hx hb dX9_putBytes_21 ?_
  refine lv_topi (fun z618 _ => ?_)
  refine va_iast hx hb C0.2.2.2.2.2.1 hP hD hS 1 0 rfl rfl (k_in 0 1600 (by decide)) dX9_putBytes_22 (fun H locs hP hD hS => ?_)
  have hP : va_P (dC, dI) vwCl [(a0, .inr (9, [.ref a1, .int 0, .ref a2, .ref a3, .ref a4, .ref a5, .ref a6, .ref a7, .ref a8, .ref a9, .ref a10, .ref a11, .ref a12, .int 0, .ref a13, .long 1])), (a1, .inl (cy 0, 1600, .inl (upd (fun _ => 0) (Int32.toNatClampNeg 0) z618)))] H := hP
  have hD : va_D A [(a0, .inr (9, [.ref a1, .int 0, .ref a2, .ref a3, .ref a4, .ref a5, .ref a6, .ref a7, .ref a8, .ref a9, .ref a10, .ref a11, .ref a12, .int 0, .ref a13, .long 1])), (a1, .inl (cy 0, 1600, .inl (upd (fun _ => 0) (Int32.toNatClampNeg 0) z618)))] := hD
  generalize upd (fun _ => 0) (Int32.toNatClampNeg 0) z618 = f619 at hP hD
  refine lv_aload_n hx hb dX9_putBytes_23 rfl (lv_at hl 1 rfl) ?_
  refine lv_dup hx hb dX9_putBytes_24 rfl ?_
  refine k_get C0 fg_X9_13 hP 0 rfl rfl dX9_putBytes_25 ?_
  refine lv_iconst (v := 1) hx hb dX9_putBytes_28 (by decide) ?_
  refine lv_iadd hx hb dX9_putBytes_29 ?_
  refine k_topi (y := 1) (by decide) ?_
  refine k_put C0 fp_X9_13 hP hD hS 0 rfl rfl rfl (Nat.le_of_ble_eq_true rfl) dX9_putBytes_30 (fun H locs hP hD hS => ?_)
  have hP : va_P (dC, dI) vwCl [(a0, .inr (9, [.ref a1, .int 1, .ref a2, .ref a3, .ref a4, .ref a5, .ref a6, .ref a7, .ref a8, .ref a9, .ref a10, .ref a11, .ref a12, .int 0, .ref a13, .long 1])), (a1, .inl (cy 0, 1600, .inl f619))] H := hP
  have hD : va_D A [(a0, .inr (9, [.ref a1, .int 1, .ref a2, .ref a3, .ref a4, .ref a5, .ref a6, .ref a7, .ref a8, .ref a9, .ref a10, .ref a11, .ref a12, .int 0, .ref a13, .long 1])), (a1, .inl (cy 0, 1600, .inl f619))] := hD
  refine lv_iinc (v := 16) (lv' := [(2, .int 16), (0, .ref a0), (1, .int x0)]) hx hb dX9_putBytes_33 hl (k := 0) rfl (by decide) (by decide) rfl (fun ls hl => ?_)
  refine lv_goto (tgt := 3) hx hb dX9_putBytes_36 (by decide) ?_
  refine lv_iload_n hx hb dX9_putBytes_3 rfl (lv_at hl 0 rfl) ?_
  refine lv_if_lt (tgt := 39) hx hb dX9_putBytes_4 (by decide) (fun h9 => absurd h9 (by decide)) (fun _ => ?_)
  refine lv_aload_n hx hb dX9_putBytes_7 rfl (lv_at hl 1 rfl) ?_
  refine k_get C0 fg_X9_9 hP 0 rfl rfl dX9_putBytes_8 ?_
  refine lv_aload_n hx hb dX9_putBytes_11 rfl (lv_at hl 1 rfl) ?_
  refine k_get C0 fg_X9_13 hP 0 rfl rfl dX9_putBytes_12 ?_
  refine lv_iload_n hx hb dX9_putBytes_15 rfl (lv_at hl 2 rfl) ?_
  refine lv_iload_n hx hb dX9_putBytes_16 rfl (lv_at hl 0 rfl) ?_
  refine lv_ishr hx hb dX9_putBytes_17 ?_
  refine lv_topi (fun z620 _ => ?_)
  refine lv_sipush (v := 255) hx hb dX9_putBytes_18 (by decide) ?_
  refine lv_iand hx hb dX9_putBytes_21 ?_
  refine lv_topi (fun z621 _ => ?_)
  refine va_iast hx hb C0.2.2.2.2.2.1 hP hD hS 1 0 rfl rfl (k_in 1 1600 (by decide)) dX9_putBytes_22 (fun H locs hP hD hS => ?_)
  have hP : va_P (dC, dI) vwCl [(a0, .inr (9, [.ref a1, .int 1, .ref a2, .ref a3, .ref a4, .ref a5, .ref a6, .ref a7, .ref a8, .ref a9, .ref a10, .ref a11, .ref a12, .int 0, .ref a13, .long 1])), (a1, .inl (cy 0, 1600, .inl (upd f619 (Int32.toNatClampNeg 1) z621)))] H := hP
  have hD : va_D A [(a0, .inr (9, [.ref a1, .int 1, .ref a2, .ref a3, .ref a4, .ref a5, .ref a6, .ref a7, .ref a8, .ref a9, .ref a10, .ref a11, .ref a12, .int 0, .ref a13, .long 1])), (a1, .inl (cy 0, 1600, .inl (upd f619 (Int32.toNatClampNeg 1) z621)))] := hD
  generalize upd f619 (Int32.toNatClampNeg 1) z621 = f622 at hP hD
  refine lv_aload_n hx hb dX9_putBytes_23 rfl (lv_at hl 1 rfl) ?_
  refine lv_dup hx hb dX9_putBytes_24 rfl ?_
  refine k_get C0 fg_X9_13 hP 0 rfl rfl dX9_putBytes_25 ?_
  refine lv_iconst (v := 1) hx hb dX9_putBytes_28 (by decide) ?_
  refine lv_iadd hx hb dX9_putBytes_29 ?_
  refine k_topi (y := 2) (by decide) ?_
  refine k_put C0 fp_X9_13 hP hD hS 0 rfl rfl rfl (Nat.le_of_ble_eq_true rfl) dX9_putBytes_30 (fun H locs hP hD hS => ?_)
  have hP : va_P (dC, dI) vwCl [(a0, .inr (9, [.ref a1, .int 2, .ref a2, .ref a3, .ref a4, .ref a5, .ref a6, .ref a7, .ref a8, .ref a9, .ref a10, .ref a11, .ref a12, .int 0, .ref a13, .long 1])), (a1, .inl (cy 0, 1600, .inl f622))] H := hP
  have hD : va_D A [(a0, .inr (9, [.ref a1, .int 2, .ref a2, .ref a3, .ref a4, .ref a5, .ref a6, .ref a7, .ref a8, .ref a9, .ref a10, .ref a11, .ref a12, .int 0, .ref a13, .long 1])), (a1, .inl (cy 0, 1600, .inl f622))] := hD
  refine lv_iinc (v := 8) (lv' := [(2, .int 8), (0, .ref a0), (1, .int x0)]) hx hb dX9_putBytes_33 hl (k := 0) rfl (by decide) (by decide) rfl (fun ls hl => ?_)
  refine lv_goto (tgt := 3) hx hb dX9_putBytes_36 (by decide) ?_
  refine lv_iload_n hx hb dX9_putBytes_3 rfl (lv_at hl 0 rfl) ?_
  refine lv_if_lt (tgt := 39) hx hb dX9_putBytes_4 (by decide) (fun h9 => absurd h9 (by decide)) (fun _ => ?_)
  refine lv_aload_n hx hb dX9_putBytes_7 rfl (lv_at hl 1 rfl) ?_
  refine k_get C0 fg_X9_9 hP 0 rfl rfl dX9_putBytes_8 ?_
  refine lv_aload_n hx hb dX9_putBytes_11 rfl (lv_at hl 1 rfl) ?_
  refine k_get C0 fg_X9_13 hP 0 rfl rfl dX9_putBytes_12 ?_
  refine lv_iload_n hx hb dX9_putBytes_15 rfl (lv_at hl 2 rfl) ?_
  refine lv_iload_n hx hb dX9_putBytes_16 rfl (lv_at hl 0 rfl) ?_
  refine lv_ishr hx hb dX9_putBytes_17 ?_
  refine lv_topi (fun z623 _ => ?_)
  refine lv_sipush (v := 255) hx hb dX9_putBytes_18 (by decide) ?_
  refine lv_iand hx hb dX9_putBytes_21 ?_
  refine lv_topi (fun z624 _ => ?_)
  refine va_iast hx hb C0.2.2.2.2.2.1 hP hD hS 1 0 rfl rfl (k_in 2 1600 (by decide)) dX9_putBytes_22 (fun H locs hP hD hS => ?_)
  have hP : va_P (dC, dI) vwCl [(a0, .inr (9, [.ref a1, .int 2, .ref a2, .ref a3, .ref a4, .ref a5, .ref a6, .ref a7, .ref a8, .ref a9, .ref a10, .ref a11, .ref a12, .int 0, .ref a13, .long 1])), (a1, .inl (cy 0, 1600, .inl (upd f622 (Int32.toNatClampNeg 2) z624)))] H := hP
  have hD : va_D A [(a0, .inr (9, [.ref a1, .int 2, .ref a2, .ref a3, .ref a4, .ref a5, .ref a6, .ref a7, .ref a8, .ref a9, .ref a10, .ref a11, .ref a12, .int 0, .ref a13, .long 1])), (a1, .inl (cy 0, 1600, .inl (upd f622 (Int32.toNatClampNeg 2) z624)))] := hD
  generalize upd f622 (Int32.toNatClampNeg 2) z624 = f625 at hP hD
  refine lv_aload_n hx hb dX9_putBytes_23 rfl (lv_at hl 1 rfl) ?_
  refine lv_dup hx hb dX9_putBytes_24 rfl ?_
  refine k_get C0 fg_X9_13 hP 0 rfl rfl dX9_putBytes_25 ?_
  refine lv_iconst (v := 1) hx hb dX9_putBytes_28 (by decide) ?_
  refine lv_iadd hx hb dX9_putBytes_29 ?_
  refine k_topi (y := 3) (by decide) ?_
  refine k_put C0 fp_X9_13 hP hD hS 0 rfl rfl rfl (Nat.le_of_ble_eq_true rfl) dX9_putBytes_30 (fun H locs hP hD hS => ?_)
  have hP : va_P (dC, dI) vwCl [(a0, .inr (9, [.ref a1, .int 3, .ref a2, .ref a3, .ref a4, .ref a5, .ref a6, .ref a7, .ref a8, .ref a9, .ref a10, .ref a11, .ref a12, .int 0, .ref a13, .long 1])), (a1, .inl (cy 0, 1600, .inl f625))] H := hP
  have hD : va_D A [(a0, .inr (9, [.ref a1, .int 3, .ref a2, .ref a3, .ref a4, .ref a5, .ref a6, .ref a7, .ref a8, .ref a9, .ref a10, .ref a11, .ref a12, .int 0, .ref a13, .long 1])), (a1, .inl (cy 0, 1600, .inl f625))] := hD
  refine lv_iinc (v := 0) (lv' := [(2, .int 0), (0, .ref a0), (1, .int x0)]) hx hb dX9_putBytes_33 hl (k := 0) rfl (by decide) (by decide) rfl (fun ls hl => ?_)
  refine lv_goto (tgt := 3) hx hb dX9_putBytes_36 (by decide) ?_
  refine lv_iload_n hx hb dX9_putBytes_3 rfl (lv_at hl 0 rfl) ?_
  refine lv_if_lt (tgt := 39) hx hb dX9_putBytes_4 (by decide) (fun h9 => absurd h9 (by decide)) (fun _ => ?_)
  refine lv_aload_n hx hb dX9_putBytes_7 rfl (lv_at hl 1 rfl) ?_
  refine k_get C0 fg_X9_9 hP 0 rfl rfl dX9_putBytes_8 ?_
  refine lv_aload_n hx hb dX9_putBytes_11 rfl (lv_at hl 1 rfl) ?_
  refine k_get C0 fg_X9_13 hP 0 rfl rfl dX9_putBytes_12 ?_
  refine lv_iload_n hx hb dX9_putBytes_15 rfl (lv_at hl 2 rfl) ?_
  refine lv_iload_n hx hb dX9_putBytes_16 rfl (lv_at hl 0 rfl) ?_
  refine lv_ishr hx hb dX9_putBytes_17 ?_
  refine lv_topi (fun z626 _ => ?_)
  refine lv_sipush (v := 255) hx hb dX9_putBytes_18 (by decide) ?_
  refine lv_iand hx hb dX9_putBytes_21 ?_
  refine lv_topi (fun z627 _ => ?_)
  refine va_iast hx hb C0.2.2.2.2.2.1 hP hD hS 1 0 rfl rfl (k_in 3 1600 (by decide)) dX9_putBytes_22 (fun H locs hP hD hS => ?_)
  have hP : va_P (dC, dI) vwCl [(a0, .inr (9, [.ref a1, .int 3, .ref a2, .ref a3, .ref a4, .ref a5, .ref a6, .ref a7, .ref a8, .ref a9, .ref a10, .ref a11, .ref a12, .int 0, .ref a13, .long 1])), (a1, .inl (cy 0, 1600, .inl (upd f625 (Int32.toNatClampNeg 3) z627)))] H := hP
  have hD : va_D A [(a0, .inr (9, [.ref a1, .int 3, .ref a2, .ref a3, .ref a4, .ref a5, .ref a6, .ref a7, .ref a8, .ref a9, .ref a10, .ref a11, .ref a12, .int 0, .ref a13, .long 1])), (a1, .inl (cy 0, 1600, .inl (upd f625 (Int32.toNatClampNeg 3) z627)))] := hD
  generalize upd f625 (Int32.toNatClampNeg 3) z627 = f628 at hP hD
  refine lv_aload_n hx hb dX9_putBytes_23 rfl (lv_at hl 1 rfl) ?_
  refine lv_dup hx hb dX9_putBytes_24 rfl ?_
  refine k_get C0 fg_X9_13 hP 0 rfl rfl dX9_putBytes_25 ?_
  refine lv_iconst (v := 1) hx hb dX9_putBytes_28 (by decide) ?_
  refine lv_iadd hx hb dX9_putBytes_29 ?_
  refine k_topi (y := 4) (by decide) ?_
  refine k_put C0 fp_X9_13 hP hD hS 0 rfl rfl rfl (Nat.le_of_ble_eq_true rfl) dX9_putBytes_30 (fun H locs hP hD hS => ?_)
  have hP : va_P (dC, dI) vwCl [(a0, .inr (9, [.ref a1, .int 4, .ref a2, .ref a3, .ref a4, .ref a5, .ref a6, .ref a7, .ref a8, .ref a9, .ref a10, .ref a11, .ref a12, .int 0, .ref a13, .long 1])), (a1, .inl (cy 0, 1600, .inl f628))] H := hP
  have hD : va_D A [(a0, .inr (9, [.ref a1, .int 4, .ref a2, .ref a3, .ref a4, .ref a5, .ref a6, .ref a7, .ref a8, .ref a9, .ref a10, .ref a11, .ref a12, .int 0, .ref a13, .long 1])), (a1, .inl (cy 0, 1600, .inl f628))] := hD
  refine lv_iinc (v := (-8)) (lv' := [(2, .int (-8)), (0, .ref a0), (1, .int x0)]) hx hb dX9_putBytes_33 hl (k := 0) rfl (by decide) (by decide) rfl (fun ls hl => ?_)
  refine lv_goto (tgt := 3) hx hb dX9_putBytes_36 (by decide) ?_
  refine lv_iload_n hx hb dX9_putBytes_3 rfl (lv_at hl 0 rfl) ?_
  refine lv_if_lt (tgt := 39) hx hb dX9_putBytes_4 (by decide) (fun _ => ?_) (fun h9 => absurd (by decide) h9)
  exact k_vret hx hb hr hlk f628 hS True.intro hP hD (Nat.le_of_ble_eq_true rfl) (Nat.le_of_ble_eq_true rfl) dX9_putBytes_39
set_option maxHeartbeats 4000000 in
set_option maxRecDepth 100000 in
theorem c_X9_putBytes_1 (l : Launch) (dC : Nat → ClassId) (dI : Nat → Nat → Nat) (cy : Nat → ClassId) (sq : Nat → Nat) (a0 : Nat) (a1 : Nat) (a2 : Nat) (a3 : Nat) (a4 : Nat) (a5 : Nat) (a6 : Nat) (a7 : Nat) (a8 : Nat) (a9 : Nat) (a10 : Nat) (a11 : Nat) (a12 : Nat) (a13 : Nat) (g0 : Nat → Int32) (x0 : Int32) : k_Met l yX9_putBytes cX9_putBytes 3 none { frames := 0, cells := 0, slots := 0, locals := 0 } dC dI cy sq [.ref a0, .int x0] [(a0, .inr (9, [.ref a1, .int 4, .ref a2, .ref a3, .ref a4, .ref a5, .ref a6, .ref a7, .ref a8, .ref a9, .ref a10, .ref a11, .ref a12, .int 0, .ref a13, .long 1])), (a1, .inl (cy 0, 1600, .inl g0))] (k_Qv dC dI (fun _ : (Nat → Int32) => True) (fun f655 : (Nat → Int32) => [(a0, .inr (9, [.ref a1, .int 8, .ref a2, .ref a3, .ref a4, .ref a5, .ref a6, .ref a7, .ref a8, .ref a9, .ref a10, .ref a11, .ref a12, .int 0, .ref a13, .long 1])), (a1, .inl (cy 0, 1600, .inl f655))])) := by
  refine k_ofW (by decide +kernel) (Nat.le_of_ble_eq_true rfl) ?_
  intro p e s m below meth c A ls H locs C0 hr hlk hin hP hD hA hS hl
  have C0 : k_cx p s m _ c cX9_putBytes 3 RX9 dC dI cy sq := C0
  have hx := C0.1
  have hb := C0.2.1
  have hl : lv_has ls 3 [(0, .ref a0), (1, .int x0)] := hl
  refine lv_bipush (v := 24) hx hb dX9_putBytes_0 (by decide) ?_
  refine lv_istore_n (lv' := [(2, .int 24), (0, .ref a0), (1, .int x0)]) hx hb dX9_putBytes_2 rfl hl (by decide) rfl (fun ls hl => ?_)
  refine lv_iload_n hx hb dX9_putBytes_3 rfl (lv_at hl 0 rfl) ?_
  refine lv_if_lt (tgt := 39) hx hb dX9_putBytes_4 (by decide) (fun h9 => absurd h9 (by decide)) (fun _ => ?_)
  refine lv_aload_n hx hb dX9_putBytes_7 rfl (lv_at hl 1 rfl) ?_
  refine k_get C0 fg_X9_9 hP 0 rfl rfl dX9_putBytes_8 ?_
  refine lv_aload_n hx hb dX9_putBytes_11 rfl (lv_at hl 1 rfl) ?_
  refine k_get C0 fg_X9_13 hP 0 rfl rfl dX9_putBytes_12 ?_
  refine lv_iload_n hx hb dX9_putBytes_15 rfl (lv_at hl 2 rfl) ?_
  refine lv_iload_n hx hb dX9_putBytes_16 rfl (lv_at hl 0 rfl) ?_
  refine lv_ishr hx hb dX9_putBytes_17 ?_
  refine lv_topi (fun z644 _ => ?_)
  refine lv_sipush (v := 255) hx hb dX9_putBytes_18 (by decide) ?_
  refine lv_iand hx hb dX9_putBytes_21 ?_
  refine lv_topi (fun z645 _ => ?_)
  refine va_iast hx hb C0.2.2.2.2.2.1 hP hD hS 1 0 rfl rfl (k_in 4 1600 (by decide)) dX9_putBytes_22 (fun H locs hP hD hS => ?_)
  have hP : va_P (dC, dI) vwCl [(a0, .inr (9, [.ref a1, .int 4, .ref a2, .ref a3, .ref a4, .ref a5, .ref a6, .ref a7, .ref a8, .ref a9, .ref a10, .ref a11, .ref a12, .int 0, .ref a13, .long 1])), (a1, .inl (cy 0, 1600, .inl (upd g0 (Int32.toNatClampNeg 4) z645)))] H := hP
  have hD : va_D A [(a0, .inr (9, [.ref a1, .int 4, .ref a2, .ref a3, .ref a4, .ref a5, .ref a6, .ref a7, .ref a8, .ref a9, .ref a10, .ref a11, .ref a12, .int 0, .ref a13, .long 1])), (a1, .inl (cy 0, 1600, .inl (upd g0 (Int32.toNatClampNeg 4) z645)))] := hD
  generalize upd g0 (Int32.toNatClampNeg 4) z645 = f646 at hP hD
  refine lv_aload_n hx hb dX9_putBytes_23 rfl (lv_at hl 1 rfl) ?_
  refine lv_dup hx hb dX9_putBytes_24 rfl ?_
  refine k_get C0 fg_X9_13 hP 0 rfl rfl dX9_putBytes_25 ?_
  refine lv_iconst (v := 1) hx hb dX9_putBytes_28 (by decide) ?_
  refine lv_iadd hx hb dX9_putBytes_29 ?_
  refine k_topi (y := 5) (by decide) ?_
  refine k_put C0 fp_X9_13 hP hD hS 0 rfl rfl rfl (Nat.le_of_ble_eq_true rfl) dX9_putBytes_30 (fun H locs hP hD hS => ?_)
  have hP : va_P (dC, dI) vwCl [(a0, .inr (9, [.ref a1, .int 5, .ref a2, .ref a3, .ref a4, .ref a5, .ref a6, .ref a7, .ref a8, .ref a9, .ref a10, .ref a11, .ref a12, .int 0, .ref a13, .long 1])), (a1, .inl (cy 0, 1600, .inl f646))] H := hP
  have hD : va_D A [(a0, .inr (9, [.ref a1, .int 5, .ref a2, .ref a3, .ref a4, .ref a5, .ref a6, .ref a7, .ref a8, .ref a9, .ref a10, .ref a11, .ref a12, .int 0, .ref a13, .long 1])), (a1, .inl (cy 0, 1600, .inl f646))] := hD
  refine lv_iinc (v := 16) (lv' := [(2, .int 16), (0, .ref a0), (1, .int x0)]) hx hb dX9_putBytes_33 hl (k := 0) rfl (by decide) (by decide) rfl (fun ls hl => ?_)
  refine lv_goto (tgt := 3) hx hb dX9_putBytes_36 (by decide) ?_
  refine lv_iload_n hx hb dX9_putBytes_3 rfl (lv_at hl 0 rfl) ?_
  refine lv_if_lt (tgt := 39) hx hb dX9_putBytes_4 (by decide) (fun h9 => absurd h9 (by decide)) (fun _ => ?_)
  refine lv_aload_n hx hb dX9_putBytes_7 rfl (lv_at hl 1 rfl) ?_
  refine k_get C0 fg_X9_9 hP 0 rfl rfl dX9_putBytes_8 ?_
  refine lv_aload_n hx hb dX9_putBytes_11 rfl (lv_at hl 1 rfl) ?_
  refine k_get C0 fg_X9_13 hP 0 rfl rfl dX9_putBytes_12 ?_
  refine lv_iload_n hx hb dX9_putBytes_15 rfl (lv_at hl 2 rfl) ?_
  refine lv_iload_n hx hb dX9_putBytes_16 rfl (lv_at hl 0 rfl) ?_
  refine lv_ishr hx hb dX9_putBytes_17 ?_
  refine lv_topi (fun z647 _ => ?_)
  refine lv_sipush (v := 255) hx hb dX9_putBytes_18 (by decide) ?_
  refine lv_iand hx hb dX9_putBytes_21 ?_
  refine lv_topi (fun z648 _ => ?_)
  refine va_iast hx hb C0.2.2.2.2.2.1 hP hD hS 1 0 rfl rfl (k_in 5 1600 (by decide)) dX9_putBytes_22 (fun H locs hP hD hS => ?_)
  have hP : va_P (dC, dI) vwCl [(a0, .inr (9, [.ref a1, .int 5, .ref a2, .ref a3, .ref a4, .ref a5, .ref a6, .ref a7, .ref a8, .ref a9, .ref a10, .ref a11, .ref a12, .int 0, .ref a13, .long 1])), (a1, .inl (cy 0, 1600, .inl (upd f646 (Int32.toNatClampNeg 5) z648)))] H := hP
  have hD : va_D A [(a0, .inr (9, [.ref a1, .int 5, .ref a2, .ref a3, .ref a4, .ref a5, .ref a6, .ref a7, .ref a8, .ref a9, .ref a10, .ref a11, .ref a12, .int 0, .ref a13, .long 1])), (a1, .inl (cy 0, 1600, .inl (upd f646 (Int32.toNatClampNeg 5) z648)))] := hD
  generalize upd f646 (Int32.toNatClampNeg 5) z648 = f649 at hP hD
  refine lv_aload_n hx hb dX9_putBytes_23 rfl (lv_at hl 1 rfl) ?_
  refine lv_dup hx hb dX9_putBytes_24 rfl ?_
  refine k_get C0 fg_X9_13 hP 0 rfl rfl dX9_putBytes_25 ?_
  refine lv_iconst (v := 1) hx hb dX9_putBytes_28 (by decide) ?_
  refine lv_iadd hx hb dX9_putBytes_29 ?_
  refine k_topi (y := 6) (by decide) ?_
  refine k_put C0 fp_X9_13 hP hD hS 0 rfl rfl rfl (Nat.le_of_ble_eq_true rfl) dX9_putBytes_30 (fun H locs hP hD hS => ?_)
  have hP : va_P (dC, dI) vwCl [(a0, .inr (9, [.ref a1, .int 6, .ref a2, .ref a3, .ref a4, .ref a5, .ref a6, .ref a7, .ref a8, .ref a9, .ref a10, .ref a11, .ref a12, .int 0, .ref a13, .long 1])), (a1, .inl (cy 0, 1600, .inl f649))] H := hP
  have hD : va_D A [(a0, .inr (9, [.ref a1, .int 6, .ref a2, .ref a3, .ref a4, .ref a5, .ref a6, .ref a7, .ref a8, .ref a9, .ref a10, .ref a11, .ref a12, .int 0, .ref a13, .long 1])), (a1, .inl (cy 0, 1600, .inl f649))] := hD
  refine lv_iinc (v := 8) (lv' := [(2, .int 8), (0, .ref a0), (1, .int x0)]) hx hb dX9_putBytes_33 hl (k := 0) rfl (by decide) (by decide) rfl (fun ls hl => ?_)
  refine lv_goto (tgt := 3) hx hb dX9_putBytes_36 (by decide) ?_
  refine lv_iload_n hx hb dX9_putBytes_3 rfl (lv_at hl 0 rfl) ?_
  refine lv_if_lt (tgt := 39) hx hb dX9_putBytes_4 (by decide) (fun h9 => absurd h9 (by decide)) (fun _ => ?_)
  refine lv_aload_n hx hb dX9_putBytes_7 rfl (lv_at hl 1 rfl) ?_
  refine k_get C0 fg_X9_9 hP 0 rfl rfl dX9_putBytes_8 ?_
  refine lv_aload_n hx hb dX9_putBytes_11 rfl (lv_at hl 1 rfl) ?_
  refine k_get C0 fg_X9_13 hP 0 rfl rfl dX9_putBytes_12 ?_
  refine lv_iload_n hx hb dX9_putBytes_15 rfl (lv_at hl 2 rfl) ?_
  refine lv_iload_n hx hb dX9_putBytes_16 rfl (lv_at hl 0 rfl) ?_
  refine lv_ishr hx hb dX9_putBytes_17 ?_
  refine lv_topi (fun z650 _ => ?_)
  refine lv_sipush (v := 255) hx hb dX9_putBytes_18 (by decide) ?_
  refine lv_iand hx hb dX9_putBytes_21 ?_
  refine lv_topi (fun z651 _ => ?_)
  refine va_iast hx hb C0.2.2.2.2.2.1 hP hD hS 1 0 rfl rfl (k_in 6 1600 (by decide)) dX9_putBytes_22 (fun H locs hP hD hS => ?_)
  have hP : va_P (dC, dI) vwCl [(a0, .inr (9, [.ref a1, .int 6, .ref a2, .ref a3, .ref a4, .ref a5, .ref a6, .ref a7, .ref a8, .ref a9, .ref a10, .ref a11, .ref a12, .int 0, .ref a13, .long 1])), (a1, .inl (cy 0, 1600, .inl (upd f649 (Int32.toNatClampNeg 6) z651)))] H := hP
  have hD : va_D A [(a0, .inr (9, [.ref a1, .int 6, .ref a2, .ref a3, .ref a4, .ref a5, .ref a6, .ref a7, .ref a8, .ref a9, .ref a10, .ref a11, .ref a12, .int 0, .ref a13, .long 1])), (a1, .inl (cy 0, 1600, .inl (upd f649 (Int32.toNatClampNeg 6) z651)))] := hD
  generalize upd f649 (Int32.toNatClampNeg 6) z651 = f652 at hP hD
  refine lv_aload_n hx hb dX9_putBytes_23 rfl (lv_at hl 1 rfl) ?_
  refine lv_dup hx hb dX9_putBytes_24 rfl ?_
  refine k_get C0 fg_X9_13 hP 0 rfl rfl dX9_putBytes_25 ?_
  refine lv_iconst (v := 1) hx hb dX9_putBytes_28 (by decide) ?_
  refine lv_iadd hx hb dX9_putBytes_29 ?_
  refine k_topi (y := 7) (by decide) ?_
  refine k_put C0 fp_X9_13 hP hD hS 0 rfl rfl rfl (Nat.le_of_ble_eq_true rfl) dX9_putBytes_30 (fun H locs hP hD hS => ?_)
  have hP : va_P (dC, dI) vwCl [(a0, .inr (9, [.ref a1, .int 7, .ref a2, .ref a3, .ref a4, .ref a5, .ref a6, .ref a7, .ref a8, .ref a9, .ref a10, .ref a11, .ref a12, .int 0, .ref a13, .long 1])), (a1, .inl (cy 0, 1600, .inl f652))] H := hP
  have hD : va_D A [(a0, .inr (9, [.ref a1, .int 7, .ref a2, .ref a3, .ref a4, .ref a5, .ref a6, .ref a7, .ref a8, .ref a9, .ref a10, .ref a11, .ref a12, .int 0, .ref a13, .long 1])), (a1, .inl (cy 0, 1600, .inl f652))] := hD
  refine lv_iinc (v := 0) (lv' := [(2, .int 0), (0, .ref a0), (1, .int x0)]) hx hb dX9_putBytes_33 hl (k := 0) rfl (by decide) (by decide) rfl (fun ls hl => ?_)
  refine lv_goto (tgt := 3) hx hb dX9_putBytes_36 (by decide) ?_
  refine lv_iload_n hx hb dX9_putBytes_3 rfl (lv_at hl 0 rfl) ?_
  refine lv_if_lt (tgt := 39) hx hb dX9_putBytes_4 (by decide) (fun h9 => absurd h9 (by decide)) (fun _ => ?_)
  refine lv_aload_n hx hb dX9_putBytes_7 rfl (lv_at hl 1 rfl) ?_
  refine k_get C0 fg_X9_9 hP 0 rfl rfl dX9_putBytes_8 ?_
  refine lv_aload_n hx hb dX9_putBytes_11 rfl (lv_at hl 1 rfl) ?_
  refine k_get C0 fg_X9_13 hP 0 rfl rfl dX9_putBytes_12 ?_
  refine lv_iload_n hx hb dX9_putBytes_15 rfl (lv_at hl 2 rfl) ?_
  refine lv_iload_n hx hb dX9_putBytes_16 rfl (lv_at hl 0 rfl) ?_
  refine lv_ishr hx hb dX9_putBytes_17 ?_
  refine lv_topi (fun z653 _ => ?_)
  refine lv_sipush (v := 255) hx hb dX9_putBytes_18 (by decide) ?_
  refine lv_iand hx hb dX9_putBytes_21 ?_
  refine lv_topi (fun z654 _ => ?_)
  refine va_iast hx hb C0.2.2.2.2.2.1 hP hD hS 1 0 rfl rfl (k_in 7 1600 (by decide)) dX9_putBytes_22 (fun H locs hP hD hS => ?_)
  have hP : va_P (dC, dI) vwCl [(a0, .inr (9, [.ref a1, .int 7, .ref a2, .ref a3, .ref a4, .ref a5, .ref a6, .ref a7, .ref a8, .ref a9, .ref a10, .ref a11, .ref a12, .int 0, .ref a13, .long 1])), (a1, .inl (cy 0, 1600, .inl (upd f652 (Int32.toNatClampNeg 7) z654)))] H := hP
  have hD : va_D A [(a0, .inr (9, [.ref a1, .int 7, .ref a2, .ref a3, .ref a4, .ref a5, .ref a6, .ref a7, .ref a8, .ref a9, .ref a10, .ref a11, .ref a12, .int 0, .ref a13, .long 1])), (a1, .inl (cy 0, 1600, .inl (upd f652 (Int32.toNatClampNeg 7) z654)))] := hD
  generalize upd f652 (Int32.toNatClampNeg 7) z654 = f655 at hP hD
  refine lv_aload_n hx hb dX9_putBytes_23 rfl (lv_at hl 1 rfl) ?_
  refine lv_dup hx hb dX9_putBytes_24 rfl ?_
  refine k_get C0 fg_X9_13 hP 0 rfl rfl dX9_putBytes_25 ?_
  refine lv_iconst (v := 1) hx hb dX9_putBytes_28 (by decide) ?_
  refine lv_iadd hx hb dX9_putBytes_29 ?_
  refine k_topi (y := 8) (by decide) ?_
  refine k_put C0 fp_X9_13 hP hD hS 0 rfl rfl rfl (Nat.le_of_ble_eq_true rfl) dX9_putBytes_30 (fun H locs hP hD hS => ?_)
  have hP : va_P (dC, dI) vwCl [(a0, .inr (9, [.ref a1, .int 8, .ref a2, .ref a3, .ref a4, .ref a5, .ref a6, .ref a7, .ref a8, .ref a9, .ref a10, .ref a11, .ref a12, .int 0, .ref a13, .long 1])), (a1, .inl (cy 0, 1600, .inl f655))] H := hP
  have hD : va_D A [(a0, .inr (9, [.ref a1, .int 8, .ref a2, .ref a3, .ref a4, .ref a5, .ref a6, .ref a7, .ref a8, .ref a9, .ref a10, .ref a11, .ref a12, .int 0, .ref a13, .long 1])), (a1, .inl (cy 0, 1600, .inl f655))] := hD
  refine lv_iinc (v := (-8)) (lv' := [(2, .int (-8)), (0, .ref a0), (1, .int x0)]) hx hb dX9_putBytes_33 hl (k := 0) rfl (by decide) (by decide) rfl (fun ls hl => ?_)
  refine lv_goto (tgt := 3) hx hb dX9_putBytes_36 (by decide) ?_
  refine lv_iload_n hx hb dX9_putBytes_3 rfl (lv_at hl 0 rfl) ?_
  refine lv_if_lt (tgt := 39) hx hb dX9_putBytes_4 (by decide) (fun _ => ?_) (fun h9 => absurd (by decide) h9)
  exact k_vret hx hb hr hlk f655 hS True.intro hP hD (Nat.le_of_ble_eq_true rfl) (Nat.le_of_ble_eq_true rfl) dX9_putBytes_39
set_option maxHeartbeats 4000000 in
set_option maxRecDepth 100000 in
theorem c_X9_putBytes_2 (l : Launch) (dC : Nat → ClassId) (dI : Nat → Nat → Nat) (cy : Nat → ClassId) (sq : Nat → Nat) (a0 : Nat) (a1 : Nat) (a2 : Nat) (a3 : Nat) (a4 : Nat) (a5 : Nat) (a6 : Nat) (a7 : Nat) (a8 : Nat) (a9 : Nat) (a10 : Nat) (a11 : Nat) (a12 : Nat) (a13 : Nat) (g0 : Nat → Int32) (x0 : Int32) : k_Met l yX9_putBytes cX9_putBytes 3 none { frames := 0, cells := 0, slots := 0, locals := 0 } dC dI cy sq [.ref a0, .int x0] [(a0, .inr (9, [.ref a1, .int 8, .ref a2, .ref a3, .ref a4, .ref a5, .ref a6, .ref a7, .ref a8, .ref a9, .ref a10, .ref a11, .ref a12, .int 0, .ref a13, .long 1])), (a1, .inl (cy 0, 1600, .inl g0))] (k_Qv dC dI (fun _ : (Nat → Int32) => True) (fun f682 : (Nat → Int32) => [(a0, .inr (9, [.ref a1, .int 12, .ref a2, .ref a3, .ref a4, .ref a5, .ref a6, .ref a7, .ref a8, .ref a9, .ref a10, .ref a11, .ref a12, .int 0, .ref a13, .long 1])), (a1, .inl (cy 0, 1600, .inl f682))])) := by
  refine k_ofW (by decide +kernel) (Nat.le_of_ble_eq_true rfl) ?_
  intro p e s m below meth c A ls H locs C0 hr hlk hin hP hD hA hS hl
  have C0 : k_cx p s m _ c cX9_putBytes 3 RX9 dC dI cy sq := C0
  have hx := C0.1
  have hb := C0.2.1
  have hl : lv_has ls 3 [(0, .ref a0), (1, .int x0)] := hl
  refine lv_bipush (v := 24) hx hb dX9_putBytes_0 (by decide) ?_
  refine lv_istore_n (lv' := [(2, .int 24), (0, .ref a0), (1, .int x0)]) hx hb dX9_putBytes_2 rfl hl (by decide) rfl (fun ls hl => ?_)
  refine lv_iload_n hx hb dX9_putBytes_3 rfl (lv_at hl 0 rfl) ?_
  refine lv_if_lt (tgt := 39) hx hb dX9_putBytes_4 (by decide) (fun h9 => absurd h9 (by decide)) (fun _ => ?_)
  refine lv_aload_n hx hb dX9_putBytes_7 rfl (lv_at hl 1 rfl) ?_
  refine k_get C0 fg_X9_9 hP 0 rfl rfl dX9_putBytes_8 ?_
  refine lv_aload_n hx hb dX9_putBytes_11 rfl (lv_at hl 1 rfl) ?_
  refine k_get C0 fg_X9_13 hP 0 rfl rfl dX9_putBytes_12 ?_
  refine lv_iload_n hx hb dX9_putBytes_15 rfl (lv_at hl 2 rfl) ?_
  refine lv_iload_n hx hb dX9_putBytes_16 rfl (lv_at hl 0 rfl) ?_
  refine lv_ishr hx hb dX9_putBytes_17 ?_
  refine lv_topi (fun z671 _ => ?_)
  refine lv_sipush (v := 255) hx hb dX9_putBytes_18 (by decide) ?_
  refine lv_iand hx hb dX9_putBytes_21 ?_
  refine lv_topi (fun z672 _ => ?_)
  refine va_iast hx hb C0.2.2.2.2.2.1 hP hD hS 1 0 rfl rfl (k_in 8 1600 (by decide)) dX9_putBytes_22 (fun H locs hP hD hS => ?_)
  have hP : va_P (dC, dI) vwCl [(a0, .inr (9, [.ref a1, .int 8, .ref a2, .ref a3, .ref a4, .ref a5, .ref a6, .ref a7, .ref a8, .ref a9, .ref a10, .ref a11, .ref a12, .int 0, .ref a13, .long 1])), (a1, .inl (cy 0, 1600, .inl (upd g0 (Int32.toNatClampNeg 8) z672)))] H := hP
  have hD : va_D A [(a0, .inr (9, [.ref a1, .int 8, .ref a2, .ref a3, .ref a4, .ref a5, .ref a6, .ref a7, .ref a8, .ref a9, .ref a10, .ref a11, .ref a12, .int 0, .ref a13, .long 1])), (a1, .inl (cy 0, 1600, .inl (upd g0 (Int32.toNatClampNeg 8) z672)))] := hD
  generalize upd g0 (Int32.toNatClampNeg 8) z672 = f673 at hP hD
  refine lv_aload_n hx hb dX9_putBytes_23 rfl (lv_at hl 1 rfl) ?_
  refine lv_dup hx hb dX9_putBytes_24 rfl ?_
  refine k_get C0 fg_X9_13 hP 0 rfl rfl dX9_putBytes_25 ?_
  refine lv_iconst (v := 1) hx hb dX9_putBytes_28 (by decide) ?_
  refine lv_iadd hx hb dX9_putBytes_29 ?_
  refine k_topi (y := 9) (by decide) ?_
  refine k_put C0 fp_X9_13 hP hD hS 0 rfl rfl rfl (Nat.le_of_ble_eq_true rfl) dX9_putBytes_30 (fun H locs hP hD hS => ?_)
  have hP : va_P (dC, dI) vwCl [(a0, .inr (9, [.ref a1, .int 9, .ref a2, .ref a3, .ref a4, .ref a5, .ref a6, .ref a7, .ref a8, .ref a9, .ref a10, .ref a11, .ref a12, .int 0, .ref a13, .long 1])), (a1, .inl (cy 0, 1600, .inl f673))] H := hP
  have hD : va_D A [(a0, .inr (9, [.ref a1, .int 9, .ref a2, .ref a3, .ref a4, .ref a5, .ref a6, .ref a7, .ref a8, .ref a9, .ref a10, .ref a11, .ref a12, .int 0, .ref a13, .long 1])), (a1, .inl (cy 0, 1600, .inl f673))] := hD
  refine lv_iinc (v := 16) (lv' := [(2, .int 16), (0, .ref a0), (1, .int x0)]) hx hb dX9_putBytes_33 hl (k := 0) rfl (by decide) (by decide) rfl (fun ls hl => ?_)
  refine lv_goto (tgt := 3) hx hb dX9_putBytes_36 (by decide) ?_
  refine lv_iload_n hx hb dX9_putBytes_3 rfl (lv_at hl 0 rfl) ?_
  refine lv_if_lt (tgt := 39) hx hb dX9_putBytes_4 (by decide) (fun h9 => absurd h9 (by decide)) (fun _ => ?_)
  refine lv_aload_n hx hb dX9_putBytes_7 rfl (lv_at hl 1 rfl) ?_
  refine k_get C0 fg_X9_9 hP 0 rfl rfl dX9_putBytes_8 ?_
  refine lv_aload_n hx hb dX9_putBytes_11 rfl (lv_at hl 1 rfl) ?_
  refine k_get C0 fg_X9_13 hP 0 rfl rfl dX9_putBytes_12 ?_
  refine lv_iload_n hx hb dX9_putBytes_15 rfl (lv_at hl 2 rfl) ?_
  refine lv_iload_n hx hb dX9_putBytes_16 rfl (lv_at hl 0 rfl) ?_
  refine lv_ishr hx hb dX9_putBytes_17 ?_
  refine lv_topi (fun z674 _ => ?_)
  refine lv_sipush (v := 255) hx hb dX9_putBytes_18 (by decide) ?_
  refine lv_iand hx hb dX9_putBytes_21 ?_
  refine lv_topi (fun z675 _ => ?_)
  refine va_iast hx hb C0.2.2.2.2.2.1 hP hD hS 1 0 rfl rfl (k_in 9 1600 (by decide)) dX9_putBytes_22 (fun H locs hP hD hS => ?_)
  have hP : va_P (dC, dI) vwCl [(a0, .inr (9, [.ref a1, .int 9, .ref a2, .ref a3, .ref a4, .ref a5, .ref a6, .ref a7, .ref a8, .ref a9, .ref a10, .ref a11, .ref a12, .int 0, .ref a13, .long 1])), (a1, .inl (cy 0, 1600, .inl (upd f673 (Int32.toNatClampNeg 9) z675)))] H := hP
  have hD : va_D A [(a0, .inr (9, [.ref a1, .int 9, .ref a2, .ref a3, .ref a4, .ref a5, .ref a6, .ref a7, .ref a8, .ref a9, .ref a10, .ref a11, .ref a12, .int 0, .ref a13, .long 1])), (a1, .inl (cy 0, 1600, .inl (upd f673 (Int32.toNatClampNeg 9) z675)))] := hD
  generalize upd f673 (Int32.toNatClampNeg 9) z675 = f676 at hP hD
  refine lv_aload_n hx hb dX9_putBytes_23 rfl (lv_at hl 1 rfl) ?_
  refine lv_dup hx hb dX9_putBytes_24 rfl ?_
  refine k_get C0 fg_X9_13 hP 0 rfl rfl dX9_putBytes_25 ?_
  refine lv_iconst (v := 1) hx hb dX9_putBytes_28 (by decide) ?_
  refine lv_iadd hx hb dX9_putBytes_29 ?_
  refine k_topi (y := 10) (by decide) ?_
  refine k_put C0 fp_X9_13 hP hD hS 0 rfl rfl rfl (Nat.le_of_ble_eq_true rfl) dX9_putBytes_30 (fun H locs hP hD hS => ?_)
  have hP : va_P (dC, dI) vwCl [(a0, .inr (9, [.ref a1, .int 10, .ref a2, .ref a3, .ref a4, .ref a5, .ref a6, .ref a7, .ref a8, .ref a9, .ref a10, .ref a11, .ref a12, .int 0, .ref a13, .long 1])), (a1, .inl (cy 0, 1600, .inl f676))] H := hP
  have hD : va_D A [(a0, .inr (9, [.ref a1, .int 10, .ref a2, .ref a3, .ref a4, .ref a5, .ref a6, .ref a7, .ref a8, .ref a9, .ref a10, .ref a11, .ref a12, .int 0, .ref a13, .long 1])), (a1, .inl (cy 0, 1600, .inl f676))] := hD
  refine lv_iinc (v := 8) (lv' := [(2, .int 8), (0, .ref a0), (1, .int x0)]) hx hb dX9_putBytes_33 hl (k := 0) rfl (by decide) (by decide) rfl (fun ls hl => ?_)
  refine lv_goto (tgt := 3) hx hb dX9_putBytes_36 (by decide) ?_
  refine lv_iload_n hx hb dX9_putBytes_3 rfl (lv_at hl 0 rfl) ?_
  refine lv_if_lt (tgt := 39) hx hb dX9_putBytes_4 (by decide) (fun h9 => absurd h9 (by decide)) (fun _ => ?_)
  refine lv_aload_n hx hb dX9_putBytes_7 rfl (lv_at hl 1 rfl) ?_
  refine k_get C0 fg_X9_9 hP 0 rfl rfl dX9_putBytes_8 ?_
  refine lv_aload_n hx hb dX9_putBytes_11 rfl (lv_at hl 1 rfl) ?_
  refine k_get C0 fg_X9_13 hP 0 rfl rfl dX9_putBytes_12 ?_
  refine lv_iload_n hx hb dX9_putBytes_15 rfl (lv_at hl 2 rfl) ?_
  refine lv_iload_n hx hb dX9_putBytes_16 rfl (lv_at hl 0 rfl) ?_
  refine lv_ishr hx hb dX9_putBytes_17 ?_
  refine lv_topi (fun z677 _ => ?_)
  refine lv_sipush (v := 255) hx hb dX9_putBytes_18 (by decide) ?_
  refine lv_iand hx hb dX9_putBytes_21 ?_
  refine lv_topi (fun z678 _ => ?_)
  refine va_iast hx hb C0.2.2.2.2.2.1 hP hD hS 1 0 rfl rfl (k_in 10 1600 (by decide)) dX9_putBytes_22 (fun H locs hP hD hS => ?_)
  have hP : va_P (dC, dI) vwCl [(a0, .inr (9, [.ref a1, .int 10, .ref a2, .ref a3, .ref a4, .ref a5, .ref a6, .ref a7, .ref a8, .ref a9, .ref a10, .ref a11, .ref a12, .int 0, .ref a13, .long 1])), (a1, .inl (cy 0, 1600, .inl (upd f676 (Int32.toNatClampNeg 10) z678)))] H := hP
  have hD : va_D A [(a0, .inr (9, [.ref a1, .int 10, .ref a2, .ref a3, .ref a4, .ref a5, .ref a6, .ref a7, .ref a8, .ref a9, .ref a10, .ref a11, .ref a12, .int 0, .ref a13, .long 1])), (a1, .inl (cy 0, 1600, .inl (upd f676 (Int32.toNatClampNeg 10) z678)))] := hD
  generalize upd f676 (Int32.toNatClampNeg 10) z678 = f679 at hP hD
  refine lv_aload_n hx hb dX9_putBytes_23 rfl (lv_at hl 1 rfl) ?_
  refine lv_dup hx hb dX9_putBytes_24 rfl ?_
  refine k_get C0 fg_X9_13 hP 0 rfl rfl dX9_putBytes_25 ?_
  refine lv_iconst (v := 1) hx hb dX9_putBytes_28 (by decide) ?_
  refine lv_iadd hx hb dX9_putBytes_29 ?_
  refine k_topi (y := 11) (by decide) ?_
  refine k_put C0 fp_X9_13 hP hD hS 0 rfl rfl rfl (Nat.le_of_ble_eq_true rfl) dX9_putBytes_30 (fun H locs hP hD hS => ?_)
  have hP : va_P (dC, dI) vwCl [(a0, .inr (9, [.ref a1, .int 11, .ref a2, .ref a3, .ref a4, .ref a5, .ref a6, .ref a7, .ref a8, .ref a9, .ref a10, .ref a11, .ref a12, .int 0, .ref a13, .long 1])), (a1, .inl (cy 0, 1600, .inl f679))] H := hP
  have hD : va_D A [(a0, .inr (9, [.ref a1, .int 11, .ref a2, .ref a3, .ref a4, .ref a5, .ref a6, .ref a7, .ref a8, .ref a9, .ref a10, .ref a11, .ref a12, .int 0, .ref a13, .long 1])), (a1, .inl (cy 0, 1600, .inl f679))] := hD
  refine lv_iinc (v := 0) (lv' := [(2, .int 0), (0, .ref a0), (1, .int x0)]) hx hb dX9_putBytes_33 hl (k := 0) rfl (by decide) (by decide) rfl (fun ls hl => ?_)
  refine lv_goto (tgt := 3) hx hb dX9_putBytes_36 (by decide) ?_
  refine lv_iload_n hx hb dX9_putBytes_3 rfl (lv_at hl 0 rfl) ?_
  refine lv_if_lt (tgt := 39) hx hb dX9_putBytes_4 (by decide) (fun h9 => absurd h9 (by decide)) (fun _ => ?_)
  refine lv_aload_n hx hb dX9_putBytes_7 rfl (lv_at hl 1 rfl) ?_
  refine k_get C0 fg_X9_9 hP 0 rfl rfl dX9_putBytes_8 ?_
  refine lv_aload_n hx hb dX9_putBytes_11 rfl (lv_at hl 1 rfl) ?_
  refine k_get C0 fg_X9_13 hP 0 rfl rfl dX9_putBytes_12 ?_
  refine lv_iload_n hx hb dX9_putBytes_15 rfl (lv_at hl 2 rfl) ?_
  refine lv_iload_n hx hb dX9_putBytes_16 rfl (lv_at hl 0 rfl) ?_
  refine lv_ishr hx hb dX9_putBytes_17 ?_
  refine lv_topi (fun z680 _ => ?_)
  refine lv_sipush (v := 255) hx hb dX9_putBytes_18 (by decide) ?_
  refine lv_iand hx hb dX9_putBytes_21 ?_
  refine lv_topi (fun z681 _ => ?_)
  refine va_iast hx hb C0.2.2.2.2.2.1 hP hD hS 1 0 rfl rfl (k_in 11 1600 (by decide)) dX9_putBytes_22 (fun H locs hP hD hS => ?_)
  have hP : va_P (dC, dI) vwCl [(a0, .inr (9, [.ref a1, .int 11, .ref a2, .ref a3, .ref a4, .ref a5, .ref a6, .ref a7, .ref a8, .ref a9, .ref a10, .ref a11, .ref a12, .int 0, .ref a13, .long 1])), (a1, .inl (cy 0, 1600, .inl (upd f679 (Int32.toNatClampNeg 11) z681)))] H := hP
  have hD : va_D A [(a0, .inr (9, [.ref a1, .int 11, .ref a2, .ref a3, .ref a4, .ref a5, .ref a6, .ref a7, .ref a8, .ref a9, .ref a10, .ref a11, .ref a12, .int 0, .ref a13, .long 1])), (a1, .inl (cy 0, 1600, .inl (upd f679 (Int32.toNatClampNeg 11) z681)))] := hD
  generalize upd f679 (Int32.toNatClampNeg 11) z681 = f682 at hP hD
  refine lv_aload_n hx hb dX9_putBytes_23 rfl (lv_at hl 1 rfl) ?_
  refine lv_dup hx hb dX9_putBytes_24 rfl ?_
  refine k_get C0 fg_X9_13 hP 0 rfl rfl dX9_putBytes_25 ?_
  refine lv_iconst (v := 1) hx hb dX9_putBytes_28 (by decide) ?_
  refine lv_iadd hx hb dX9_putBytes_29 ?_
  refine k_topi (y := 12) (by decide) ?_
  refine k_put C0 fp_X9_13 hP hD hS 0 rfl rfl rfl (Nat.le_of_ble_eq_true rfl) dX9_putBytes_30 (fun H locs hP hD hS => ?_)
  have hP : va_P (dC, dI) vwCl [(a0, .inr (9, [.ref a1, .int 12, .ref a2, .ref a3, .ref a4, .ref a5, .ref a6, .ref a7, .ref a8, .ref a9, .ref a10, .ref a11, .ref a12, .int 0, .ref a13, .long 1])), (a1, .inl (cy 0, 1600, .inl f682))] H := hP
  have hD : va_D A [(a0, .inr (9, [.ref a1, .int 12, .ref a2, .ref a3, .ref a4, .ref a5, .ref a6, .ref a7, .ref a8, .ref a9, .ref a10, .ref a11, .ref a12, .int 0, .ref a13, .long 1])), (a1, .inl (cy 0, 1600, .inl f682))] := hD
  refine lv_iinc (v := (-8)) (lv' := [(2, .int (-8)), (0, .ref a0), (1, .int x0)]) hx hb dX9_putBytes_33 hl (k := 0) rfl (by decide) (by decide) rfl (fun ls hl => ?_)
  refine lv_goto (tgt := 3) hx hb dX9_putBytes_36 (by decide) ?_
  refine lv_iload_n hx hb dX9_putBytes_3 rfl (lv_at hl 0 rfl) ?_
  refine lv_if_lt (tgt := 39) hx hb dX9_putBytes_4 (by decide) (fun _ => ?_) (fun h9 => absurd (by decide) h9)
  exact k_vret hx hb hr hlk f682 hS True.intro hP hD (Nat.le_of_ble_eq_true rfl) (Nat.le_of_ble_eq_true rfl) dX9_putBytes_39
set_option maxHeartbeats 4000000 in
set_option maxRecDepth 100000 in
theorem c_X9_putBytes_3 (l : Launch) (dC : Nat → ClassId) (dI : Nat → Nat → Nat) (cy : Nat → ClassId) (sq : Nat → Nat) (a0 : Nat) (a1 : Nat) (a2 : Nat) (a3 : Nat) (a4 : Nat) (a5 : Nat) (a6 : Nat) (a7 : Nat) (a8 : Nat) (a9 : Nat) (a10 : Nat) (a11 : Nat) (a12 : Nat) (a13 : Nat) (g0 : Nat → Int32) (x0 : Int32) : k_Met l yX9_putBytes cX9_putBytes 3 none { frames := 0, cells := 0, slots := 0, locals := 0 } dC dI cy sq [.ref a0, .int x0] [(a0, .inr (9, [.ref a1, .int 12, .ref a2, .ref a3, .ref a4, .ref a5, .ref a6, .ref a7, .ref a8, .ref a9, .ref a10, .ref a11, .ref a12, .int 0, .ref a13, .long 1])), (a1, .inl (cy 0, 1600, .inl g0))] (k_Qv dC dI (fun _ : (Nat → Int32) => True) (fun f709 : (Nat → Int32) => [(a0, .inr (9, [.ref a1, .int 16, .ref a2, .ref a3, .ref a4, .ref a5, .ref a6, .ref a7, .ref a8, .ref a9, .ref a10, .ref a11, .ref a12, .int 0, .ref a13, .long 1])), (a1, .inl (cy 0, 1600, .inl f709))])) := by
  refine k_ofW (by decide +kernel) (Nat.le_of_ble_eq_true rfl) ?_
  intro p e s m below meth c A ls H locs C0 hr hlk hin hP hD hA hS hl
  have C0 : k_cx p s m _ c cX9_putBytes 3 RX9 dC dI cy sq := C0
  have hx := C0.1
  have hb := C0.2.1
  have hl : lv_has ls 3 [(0, .ref a0), (1, .int x0)] := hl
  refine lv_bipush (v := 24) hx hb dX9_putBytes_0 (by decide) ?_
  refine lv_istore_n (lv' := [(2, .int 24), (0, .ref a0), (1, .int x0)]) hx hb dX9_putBytes_2 rfl hl (by decide) rfl (fun ls hl => ?_)
  refine lv_iload_n hx hb dX9_putBytes_3 rfl (lv_at hl 0 rfl) ?_
  refine lv_if_lt (tgt := 39) hx hb dX9_putBytes_4 (by decide) (fun h9 => absurd h9 (by decide)) (fun _ => ?_)
  refine lv_aload_n hx hb dX9_putBytes_7 rfl (lv_at hl 1 rfl) ?_
  refine k_get C0 fg_X9_9 hP 0 rfl rfl dX9_putBytes_8 ?_
  refine lv_aload_n hx hb dX9_putBytes_11 rfl (lv_at hl 1 rfl) ?_
  refine k_get C0 fg_X9_13 hP 0 rfl rfl dX9_putBytes_12 ?_
  refine lv_iload_n hx hb dX9_putBytes_15 rfl (lv_at hl 2 rfl) ?_
  refine lv_iload_n hx hb dX9_putBytes_16 rfl (lv_at hl 0 rfl) ?_
  refine lv_ishr hx hb dX9_putBytes_17 ?_
  refine lv_topi (fun z698 _ => ?_)
  refine lv_sipush (v := 255) hx hb dX9_putBytes_18 (by decide) ?_
  refine lv_iand hx hb dX9_putBytes_21 ?_
  refine lv_topi (fun z699 _ => ?_)
  refine va_iast hx hb C0.2.2.2.2.2.1 hP hD hS 1 0 rfl rfl (k_in 12 1600 (by decide)) dX9_putBytes_22 (fun H locs hP hD hS => ?_)
  have hP : va_P (dC, dI) vwCl [(a0, .inr (9, [.ref a1, .int 12, .ref a2, .ref a3, .ref a4, .ref a5, .ref a6, .ref a7, .ref a8, .ref a9, .ref a10, .ref a11, .ref a12, .int 0, .ref a13, .long 1])), (a1, .inl (cy 0, 1600, .inl (upd g0 (Int32.toNatClampNeg 12) z699)))] H := hP
  have hD : va_D A [(a0, .inr (9, [.ref a1, .int 12, .ref a2, .ref a3, .ref a4, .ref a5, .ref a6, .ref a7, .ref a8, .ref a9, .ref a10, .ref a11, .ref a12, .int 0, .ref a13, .long 1])), (a1, .inl (cy 0, 1600, .inl (upd g0 (Int32.toNatClampNeg 12) z699)))] := hD
  generalize upd g0 (Int32.toNatClampNeg 12) z699 = f700 at hP hD
  refine lv_aload_n hx hb dX9_putBytes_23 rfl (lv_at hl 1 rfl) ?_
  refine lv_dup hx hb dX9_putBytes_24 rfl ?_
  refine k_get C0 fg_X9_13 hP 0 rfl rfl dX9_putBytes_25 ?_
  refine lv_iconst (v := 1) hx hb dX9_putBytes_28 (by decide) ?_
  refine lv_iadd hx hb dX9_putBytes_29 ?_
  refine k_topi (y := 13) (by decide) ?_
  refine k_put C0 fp_X9_13 hP hD hS 0 rfl rfl rfl (Nat.le_of_ble_eq_true rfl) dX9_putBytes_30 (fun H locs hP hD hS => ?_)
  have hP : va_P (dC, dI) vwCl [(a0, .inr (9, [.ref a1, .int 13, .ref a2, .ref a3, .ref a4, .ref a5, .ref a6, .ref a7, .ref a8, .ref a9, .ref a10, .ref a11, .ref a12, .int 0, .ref a13, .long 1])), (a1, .inl (cy 0, 1600, .inl f700))] H := hP
  have hD : va_D A [(a0, .inr (9, [.ref a1, .int 13, .ref a2, .ref a3, .ref a4, .ref a5, .ref a6, .ref a7, .ref a8, .ref a9, .ref a10, .ref a11, .ref a12, .int 0, .ref a13, .long 1])), (a1, .inl (cy 0, 1600, .inl f700))] := hD
  refine lv_iinc (v := 16) (lv' := [(2, .int 16), (0, .ref a0), (1, .int x0)]) hx hb dX9_putBytes_33 hl (k := 0) rfl (by decide) (by decide) rfl (fun ls hl => ?_)
  refine lv_goto (tgt := 3) hx hb dX9_putBytes_36 (by decide) ?_
  refine lv_iload_n hx hb dX9_putBytes_3 rfl (lv_at hl 0 rfl) ?_
  refine lv_if_lt (tgt := 39) hx hb dX9_putBytes_4 (by decide) (fun h9 => absurd h9 (by decide)) (fun _ => ?_)
  refine lv_aload_n hx hb dX9_putBytes_7 rfl (lv_at hl 1 rfl) ?_
  refine k_get C0 fg_X9_9 hP 0 rfl rfl dX9_putBytes_8 ?_
  refine lv_aload_n hx hb dX9_putBytes_11 rfl (lv_at hl 1 rfl) ?_
  refine k_get C0 fg_X9_13 hP 0 rfl rfl dX9_putBytes_12 ?_
  refine lv_iload_n hx hb dX9_putBytes_15 rfl (lv_at hl 2 rfl) ?_
  refine lv_iload_n hx hb dX9_putBytes_16 rfl (lv_at hl 0 rfl) ?_
  refine lv_ishr hx hb dX9_putBytes_17 ?_
  refine lv_topi (fun z701 _ => ?_)
  refine lv_sipush (v := 255) hx hb dX9_putBytes_18 (by decide) ?_
  refine lv_iand hx hb dX9_putBytes_21 ?_
  refine lv_topi (fun z702 _ => ?_)
  refine va_iast hx hb C0.2.2.2.2.2.1 hP hD hS 1 0 rfl rfl (k_in 13 1600 (by decide)) dX9_putBytes_22 (fun H locs hP hD hS => ?_)
  have hP : va_P (dC, dI) vwCl [(a0, .inr (9, [.ref a1, .int 13, .ref a2, .ref a3, .ref a4, .ref a5, .ref a6, .ref a7, .ref a8, .ref a9, .ref a10, .ref a11, .ref a12, .int 0, .ref a13, .long 1])), (a1, .inl (cy 0, 1600, .inl (upd f700 (Int32.toNatClampNeg 13) z702)))] H := hP
  have hD : va_D A [(a0, .inr (9, [.ref a1, .int 13, .ref a2, .ref a3, .ref a4, .ref a5, .ref a6, .ref a7, .ref a8, .ref a9, .ref a10, .ref a11, .ref a12, .int 0, .ref a13, .long 1])), (a1, .inl (cy 0, 1600, .inl (upd f700 (Int32.toNatClampNeg 13) z702)))] := hD
  generalize upd f700 (Int32.toNatClampNeg 13) z702 = f703 at hP hD
  refine lv_aload_n hx hb dX9_putBytes_23 rfl (lv_at hl 1 rfl) ?_
  refine lv_dup hx hb dX9_putBytes_24 rfl ?_
  refine k_get C0 fg_X9_13 hP 0 rfl rfl dX9_putBytes_25 ?_
  refine lv_iconst (v := 1) hx hb dX9_putBytes_28 (by decide) ?_
  refine lv_iadd hx hb dX9_putBytes_29 ?_
  refine k_topi (y := 14) (by decide) ?_
  refine k_put C0 fp_X9_13 hP hD hS 0 rfl rfl rfl (Nat.le_of_ble_eq_true rfl) dX9_putBytes_30 (fun H locs hP hD hS => ?_)
  have hP : va_P (dC, dI) vwCl [(a0, .inr (9, [.ref a1, .int 14, .ref a2, .ref a3, .ref a4, .ref a5, .ref a6, .ref a7, .ref a8, .ref a9, .ref a10, .ref a11, .ref a12, .int 0, .ref a13, .long 1])), (a1, .inl (cy 0, 1600, .inl f703))] H := hP
  have hD : va_D A [(a0, .inr (9, [.ref a1, .int 14, .ref a2, .ref a3, .ref a4, .ref a5, .ref a6, .ref a7, .ref a8, .ref a9, .ref a10, .ref a11, .ref a12, .int 0, .ref a13, .long 1])), (a1, .inl (cy 0, 1600, .inl f703))] := hD
  refine lv_iinc (v := 8) (lv' := [(2, .int 8), (0, .ref a0), (1, .int x0)]) hx hb dX9_putBytes_33 hl (k := 0) rfl (by decide) (by decide) rfl (fun ls hl => ?_)
  refine lv_goto (tgt := 3) hx hb dX9_putBytes_36 (by decide) ?_
  refine lv_iload_n hx hb dX9_putBytes_3 rfl (lv_at hl 0 rfl) ?_
  refine lv_if_lt (tgt := 39) hx hb dX9_putBytes_4 (by decide) (fun h9 => absurd h9 (by decide)) (fun _ => ?_)
  refine lv_aload_n hx hb dX9_putBytes_7 rfl (lv_at hl 1 rfl) ?_
  refine k_get C0 fg_X9_9 hP 0 rfl rfl dX9_putBytes_8 ?_
  refine lv_aload_n hx hb dX9_putBytes_11 rfl (lv_at hl 1 rfl) ?_
  refine k_get C0 fg_X9_13 hP 0 rfl rfl dX9_putBytes_12 ?_
  refine lv_iload_n hx hb dX9_putBytes_15 rfl (lv_at hl 2 rfl) ?_
  refine lv_iload_n hx hb dX9_putBytes_16 rfl (lv_at hl 0 rfl) ?_
  refine lv_ishr hx hb dX9_putBytes_17 ?_
  refine lv_topi (fun z704 _ => ?_)
  refine lv_sipush (v := 255) hx hb dX9_putBytes_18 (by decide) ?_
  refine lv_iand hx hb dX9_putBytes_21 ?_
  refine lv_topi (fun z705 _ => ?_)
  refine va_iast hx hb C0.2.2.2.2.2.1 hP hD hS 1 0 rfl rfl (k_in 14 1600 (by decide)) dX9_putBytes_22 (fun H locs hP hD hS => ?_)
  have hP : va_P (dC, dI) vwCl [(a0, .inr (9, [.ref a1, .int 14, .ref a2, .ref a3, .ref a4, .ref a5, .ref a6, .ref a7, .ref a8, .ref a9, .ref a10, .ref a11, .ref a12, .int 0, .ref a13, .long 1])), (a1, .inl (cy 0, 1600, .inl (upd f703 (Int32.toNatClampNeg 14) z705)))] H := hP
  have hD : va_D A [(a0, .inr (9, [.ref a1, .int 14, .ref a2, .ref a3, .ref a4, .ref a5, .ref a6, .ref a7, .ref a8, .ref a9, .ref a10, .ref a11, .ref a12, .int 0, .ref a13, .long 1])), (a1, .inl (cy 0, 1600, .inl (upd f703 (Int32.toNatClampNeg 14) z705)))] := hD
  generalize upd f703 (Int32.toNatClampNeg 14) z705 = f706 at hP hD
  refine lv_aload_n hx hb dX9_putBytes_23 rfl (lv_at hl 1 rfl) ?_
  refine lv_dup hx hb dX9_putBytes_24 rfl ?_
  refine k_get C0 fg_X9_13 hP 0 rfl rfl dX9_putBytes_25 ?_
  refine lv_iconst (v := 1) hx hb dX9_putBytes_28 (by decide) ?_
  refine lv_iadd hx hb dX9_putBytes_29 ?_
  refine k_topi (y := 15) (by decide) ?_
  refine k_put C0 fp_X9_13 hP hD hS 0 rfl rfl rfl (Nat.le_of_ble_eq_true rfl) dX9_putBytes_30 (fun H locs hP hD hS => ?_)
  have hP : va_P (dC, dI) vwCl [(a0, .inr (9, [.ref a1, .int 15, .ref a2, .ref a3, .ref a4, .ref a5, .ref a6, .ref a7, .ref a8, .ref a9, .ref a10, .ref a11, .ref a12, .int 0, .ref a13, .long 1])), (a1, .inl (cy 0, 1600, .inl f706))] H := hP
  have hD : va_D A [(a0, .inr (9, [.ref a1, .int 15, .ref a2, .ref a3, .ref a4, .ref a5, .ref a6, .ref a7, .ref a8, .ref a9, .ref a10, .ref a11, .ref a12, .int 0, .ref a13, .long 1])), (a1, .inl (cy 0, 1600, .inl f706))] := hD
  refine lv_iinc (v := 0) (lv' := [(2, .int 0), (0, .ref a0), (1, .int x0)]) hx hb dX9_putBytes_33 hl (k := 0) rfl (by decide) (by decide) rfl (fun ls hl => ?_)
  refine lv_goto (tgt := 3) hx hb dX9_putBytes_36 (by decide) ?_
  refine lv_iload_n hx hb dX9_putBytes_3 rfl (lv_at hl 0 rfl) ?_
  refine lv_if_lt (tgt := 39) hx hb dX9_putBytes_4 (by decide) (fun h9 => absurd h9 (by decide)) (fun _ => ?_)
  refine lv_aload_n hx hb dX9_putBytes_7 rfl (lv_at hl 1 rfl) ?_
  refine k_get C0 fg_X9_9 hP 0 rfl rfl dX9_putBytes_8 ?_
  refine lv_aload_n hx hb dX9_putBytes_11 rfl (lv_at hl 1 rfl) ?_
  refine k_get C0 fg_X9_13 hP 0 rfl rfl dX9_putBytes_12 ?_
  refine lv_iload_n hx hb dX9_putBytes_15 rfl (lv_at hl 2 rfl) ?_
  refine lv_iload_n hx hb dX9_putBytes_16 rfl (lv_at hl 0 rfl) ?_
  refine lv_ishr hx hb dX9_putBytes_17 ?_
  refine lv_topi (fun z707 _ => ?_)
  refine lv_sipush (v := 255) hx hb dX9_putBytes_18 (by decide) ?_
  refine lv_iand hx hb dX9_putBytes_21 ?_
  refine lv_topi (fun z708 _ => ?_)
  refine va_iast hx hb C0.2.2.2.2.2.1 hP hD hS 1 0 rfl rfl (k_in 15 1600 (by decide)) dX9_putBytes_22 (fun H locs hP hD hS => ?_)
  have hP : va_P (dC, dI) vwCl [(a0, .inr (9, [.ref a1, .int 15, .ref a2, .ref a3, .ref a4, .ref a5, .ref a6, .ref a7, .ref a8, .ref a9, .ref a10, .ref a11, .ref a12, .int 0, .ref a13, .long 1])), (a1, .inl (cy 0, 1600, .inl (upd f706 (Int32.toNatClampNeg 15) z708)))] H := hP
  have hD : va_D A [(a0, .inr (9, [.ref a1, .int 15, .ref a2, .ref a3, .ref a4, .ref a5, .ref a6, .ref a7, .ref a8, .ref a9, .ref a10, .ref a11, .ref a12, .int 0, .ref a13, .long 1])), (a1, .inl (cy 0, 1600, .inl (upd f706 (Int32.toNatClampNeg 15) z708)))] := hD
  generalize upd f706 (Int32.toNatClampNeg 15) z708 = f709 at hP hD
  refine lv_aload_n hx hb dX9_putBytes_23 rfl (lv_at hl 1 rfl) ?_
  refine lv_dup hx hb dX9_putBytes_24 rfl ?_
  refine k_get C0 fg_X9_13 hP 0 rfl rfl dX9_putBytes_25 ?_
  refine lv_iconst (v := 1) hx hb dX9_putBytes_28 (by decide) ?_
  refine lv_iadd hx hb dX9_putBytes_29 ?_
  refine k_topi (y := 16) (by decide) ?_
  refine k_put C0 fp_X9_13 hP hD hS 0 rfl rfl rfl (Nat.le_of_ble_eq_true rfl) dX9_putBytes_30 (fun H locs hP hD hS => ?_)
  have hP : va_P (dC, dI) vwCl [(a0, .inr (9, [.ref a1, .int 16, .ref a2, .ref a3, .ref a4, .ref a5, .ref a6, .ref a7, .ref a8, .ref a9, .ref a10, .ref a11, .ref a12, .int 0, .ref a13, .long 1])), (a1, .inl (cy 0, 1600, .inl f709))] H := hP
  have hD : va_D A [(a0, .inr (9, [.ref a1, .int 16, .ref a2, .ref a3, .ref a4, .ref a5, .ref a6, .ref a7, .ref a8, .ref a9, .ref a10, .ref a11, .ref a12, .int 0, .ref a13, .long 1])), (a1, .inl (cy 0, 1600, .inl f709))] := hD
  refine lv_iinc (v := (-8)) (lv' := [(2, .int (-8)), (0, .ref a0), (1, .int x0)]) hx hb dX9_putBytes_33 hl (k := 0) rfl (by decide) (by decide) rfl (fun ls hl => ?_)
  refine lv_goto (tgt := 3) hx hb dX9_putBytes_36 (by decide) ?_
  refine lv_iload_n hx hb dX9_putBytes_3 rfl (lv_at hl 0 rfl) ?_
  refine lv_if_lt (tgt := 39) hx hb dX9_putBytes_4 (by decide) (fun _ => ?_) (fun h9 => absurd (by decide) h9)
  exact k_vret hx hb hr hlk f709 hS True.intro hP hD (Nat.le_of_ble_eq_true rfl) (Nat.le_of_ble_eq_true rfl) dX9_putBytes_39
set_option maxHeartbeats 4000000 in
set_option maxRecDepth 100000 in
theorem c_X9_putBytes_4 (l : Launch) (dC : Nat → ClassId) (dI : Nat → Nat → Nat) (cy : Nat → ClassId) (sq : Nat → Nat) (a0 : Nat) (a1 : Nat) (a2 : Nat) (a3 : Nat) (a4 : Nat) (a5 : Nat) (a6 : Nat) (a7 : Nat) (a8 : Nat) (a9 : Nat) (a10 : Nat) (a11 : Nat) (a12 : Nat) (a13 : Nat) (g0 : Nat → Int32) (x0 : Int32) : k_Met l yX9_putBytes cX9_putBytes 3 none { frames := 0, cells := 0, slots := 0, locals := 0 } dC dI cy sq [.ref a0, .int x0] [(a0, .inr (9, [.ref a1, .int 16, .ref a2, .ref a3, .ref a4, .ref a5, .ref a6, .ref a7, .ref a8, .ref a9, .ref a10, .ref a11, .ref a12, .int 0, .ref a13, .long 1])), (a1, .inl (cy 0, 1600, .inl g0))] (k_Qv dC dI (fun _ : (Nat → Int32) => True) (fun f736 : (Nat → Int32) => [(a0, .inr (9, [.ref a1, .int 20, .ref a2, .ref a3, .ref a4, .ref a5, .ref a6, .ref a7, .ref a8, .ref a9, .ref a10, .ref a11, .ref a12, .int 0, .ref a13, .long 1])), (a1, .inl (cy 0, 1600, .inl f736))])) := by
  refine k_ofW (by decide +kernel) (Nat.le_of_ble_eq_true rfl) ?_
  intro p e s m below meth c A ls H locs C0 hr hlk hin hP hD hA hS hl
  have C0 : k_cx p s m _ c cX9_putBytes 3 RX9 dC dI cy sq := C0
  have hx := C0.1
  have hb := C0.2.1
  have hl : lv_has ls 3 [(0, .ref a0), (1, .int x0)] := hl
  refine lv_bipush (v := 24) hx hb dX9_putBytes_0 (by decide) ?_
  refine lv_istore_n (lv' := [(2, .int 24), (0, .ref a0), (1, .int x0)]) hx hb dX9_putBytes_2 rfl hl (by decide) rfl (fun ls hl => ?_)
  refine lv_iload_n hx hb dX9_putBytes_3 rfl (lv_at hl 0 rfl) ?_
  refine lv_if_lt (tgt := 39) hx hb dX9_putBytes_4 (by decide) (fun h9 => absurd h9 (by decide)) (fun _ => ?_)
  refine lv_aload_n hx hb dX9_putBytes_7 rfl (lv_at hl 1 rfl) ?_
  refine k_get C0 fg_X9_9 hP 0 rfl rfl dX9_putBytes_8 ?_
  refine lv_aload_n hx hb dX9_putBytes_11 rfl (lv_at hl 1 rfl) ?_
  refine k_get C0 fg_X9_13 hP 0 rfl rfl dX9_putBytes_12 ?_
  refine lv_iload_n hx hb dX9_putBytes_15 rfl (lv_at hl 2 rfl) ?_
  refine lv_iload_n hx hb dX9_putBytes_16 rfl (lv_at hl 0 rfl) ?_
  refine lv_ishr hx hb dX9_putBytes_17 ?_
  refine lv_topi (fun z725 _ => ?_)
  refine lv_sipush (v := 255) hx hb dX9_putBytes_18 (by decide) ?_
  refine lv_iand hx hb dX9_putBytes_21 ?_
  refine lv_topi (fun z726 _ => ?_)
  refine va_iast hx hb C0.2.2.2.2.2.1 hP hD hS 1 0 rfl rfl (k_in 16 1600 (by decide)) dX9_putBytes_22 (fun H locs hP hD hS => ?_)
  have hP : va_P (dC, dI) vwCl [(a0, .inr (9, [.ref a1, .int 16, .ref a2, .ref a3, .ref a4, .ref a5, .ref a6, .ref a7, .ref a8, .ref a9, .ref a10, .ref a11, .ref a12, .int 0, .ref a13, .long 1])), (a1, .inl (cy 0, 1600, .inl (upd g0 (Int32.toNatClampNeg 16) z726)))] H := hP
  have hD : va_D A [(a0, .inr (9, [.ref a1, .int 16, .ref a2, .ref a3, .ref a4, .ref a5, .ref a6, .ref a7, .ref a8, .ref a9, .ref a10, .ref a11, .ref a12, .int 0, .ref a13, .long 1])), (a1, .inl (cy 0, 1600, .inl (upd g0 (Int32.toNatClampNeg 16) z726)))] := hD
  generalize upd g0 (Int32.toNatClampNeg 16) z726 = f727 at hP hD
  refine lv_aload_n hx hb dX9_putBytes_23 rfl (lv_at hl 1 rfl) ?_
  refine lv_dup hx hb dX9_putBytes_24 rfl ?_
  refine k_get C0 fg_X9_13 hP 0 rfl rfl dX9_putBytes_25 ?_
  refine lv_iconst (v := 1) hx hb dX9_putBytes_28 (by decide) ?_
  refine lv_iadd hx hb dX9_putBytes_29 ?_
  refine k_topi (y := 17) (by decide) ?_
  refine k_put C0 fp_X9_13 hP hD hS 0 rfl rfl rfl (Nat.le_of_ble_eq_true rfl) dX9_putBytes_30 (fun H locs hP hD hS => ?_)
  have hP : va_P (dC, dI) vwCl [(a0, .inr (9, [.ref a1, .int 17, .ref a2, .ref a3, .ref a4, .ref a5, .ref a6, .ref a7, .ref a8, .ref a9, .ref a10, .ref a11, .ref a12, .int 0, .ref a13, .long 1])), (a1, .inl (cy 0, 1600, .inl f727))] H := hP
  have hD : va_D A [(a0, .inr (9, [.ref a1, .int 17, .ref a2, .ref a3, .ref a4, .ref a5, .ref a6, .ref a7, .ref a8, .ref a9, .ref a10, .ref a11, .ref a12, .int 0, .ref a13, .long 1])), (a1, .inl (cy 0, 1600, .inl f727))] := hD
  refine lv_iinc (v := 16) (lv' := [(2, .int 16), (0, .ref a0), (1, .int x0)]) hx hb dX9_putBytes_33 hl (k := 0) rfl (by decide) (by decide) rfl (fun ls hl => ?_)
  refine lv_goto (tgt := 3) hx hb dX9_putBytes_36 (by decide) ?_
  refine lv_iload_n hx hb dX9_putBytes_3 rfl (lv_at hl 0 rfl) ?_
  refine lv_if_lt (tgt := 39) hx hb dX9_putBytes_4 (by decide) (fun h9 => absurd h9 (by decide)) (fun _ => ?_)
  refine lv_aload_n hx hb dX9_putBytes_7 rfl (lv_at hl 1 rfl) ?_
  refine k_get C0 fg_X9_9 hP 0 rfl rfl dX9_putBytes_8 ?_
  refine lv_aload_n hx hb dX9_putBytes_11 rfl (lv_at hl 1 rfl) ?_
  refine k_get C0 fg_X9_13 hP 0 rfl rfl dX9_putBytes_12 ?_
  refine lv_iload_n hx hb dX9_putBytes_15 rfl (lv_at hl 2 rfl) ?_
  refine lv_iload_n hx hb dX9_putBytes_16 rfl (lv_at hl 0 rfl) ?_
  refine lv_ishr hx hb dX9_putBytes_17 ?_
  refine lv_topi (fun z728 _ => ?_)
  refine lv_sipush (v := 255) hx hb dX9_putBytes_18 (by decide) ?_
  refine lv_iand hx hb dX9_putBytes_21 ?_
  refine lv_topi (fun z729 _ => ?_)
  refine va_iast hx hb C0.2.2.2.2.2.1 hP hD hS 1 0 rfl rfl (k_in 17 1600 (by decide)) dX9_putBytes_22 (fun H locs hP hD hS => ?_)
  have hP : va_P (dC, dI) vwCl [(a0, .inr (9, [.ref a1, .int 17, .ref a2, .ref a3, .ref a4, .ref a5, .ref a6, .ref a7, .ref a8, .ref a9, .ref a10, .ref a11, .ref a12, .int 0, .ref a13, .long 1])), (a1, .inl (cy 0, 1600, .inl (upd f727 (Int32.toNatClampNeg 17) z729)))] H := hP
  have hD : va_D A [(a0, .inr (9, [.ref a1, .int 17, .ref a2, .ref a3, .ref a4, .ref a5, .ref a6, .ref a7, .ref a8, .ref a9, .ref a10, .ref a11, .ref a12, .int 0, .ref a13, .long 1])), (a1, .inl (cy 0, 1600, .inl (upd f727 (Int32.toNatClampNeg 17) z729)))] := hD
  generalize upd f727 (Int32.toNatClampNeg 17) z729 = f730 at hP hD
  refine lv_aload_n hx hb dX9_putBytes_23 rfl (lv_at hl 1 rfl) ?_
  refine lv_dup hx hb dX9_putBytes_24 rfl ?_
  refine k_get C0 fg_X9_13 hP 0 rfl rfl dX9_putBytes_25 ?_
  refine lv_iconst (v := 1) hx hb dX9_putBytes_28 (by decide) ?_
  refine lv_iadd hx hb dX9_putBytes_29 ?_
  refine k_topi (y := 18) (by decide) ?_
  refine k_put C0 fp_X9_13 hP hD hS 0 rfl rfl rfl (Nat.le_of_ble_eq_true rfl) dX9_putBytes_30 (fun H locs hP hD hS => ?_)
  have hP : va_P (dC, dI) vwCl [(a0, .inr (9, [.ref a1, .int 18, .ref a2, .ref a3, .ref a4, .ref a5, .ref a6, .ref a7, .ref a8, .ref a9, .ref a10, .ref a11, .ref a12, .int 0, .ref a13, .long 1])), (a1, .inl (cy 0, 1600, .inl f730))] H := hP
  have hD : va_D A [(a0, .inr (9, [.ref a1, .int 18, .ref a2, .ref a3, .ref a4, .ref a5, .ref a6, .ref a7, .ref a8, .ref a9, .ref a10, .ref a11, .ref a12, .int 0, .ref a13, .long 1])), (a1, .inl (cy 0, 1600, .inl f730))] := hD
  refine lv_iinc (v := 8) (lv' := [(2, .int 8), (0, .ref a0), (1, .int x0)]) hx hb dX9_putBytes_33 hl (k := 0) rfl (by decide) (by decide) rfl (fun ls hl => ?_)
  refine lv_goto (tgt := 3) hx hb dX9_putBytes_36 (by decide) ?_
  refine lv_iload_n hx hb dX9_putBytes_3 rfl (lv_at hl 0 rfl) ?_
  refine lv_if_lt (tgt := 39) hx hb dX9_putBytes_4 (by decide) (fun h9 => absurd h9 (by decide)) (fun _ => ?_)
  refine lv_aload_n hx hb dX9_putBytes_7 rfl (lv_at hl 1 rfl) ?_
  refine k_get C0 fg_X9_9 hP 0 rfl rfl dX9_putBytes_8 ?_
  refine lv_aload_n hx hb dX9_putBytes_11 rfl (lv_at hl 1 rfl) ?_
  refine k_get C0 fg_X9_13 hP 0 rfl rfl dX9_putBytes_12 ?_
  refine lv_iload_n hx hb dX9_putBytes_15 rfl (lv_at hl 2 rfl) ?_
  refine lv_iload_n hx hb dX9_putBytes_16 rfl (lv_at hl 0 rfl) ?_
  refine lv_ishr hx hb dX9_putBytes_17 ?_
  refine lv_topi (fun z731 _ => ?_)
  refine lv_sipush (v := 255) hx hb dX9_putBytes_18 (by decide) ?_
  refine lv_iand hx hb dX9_putBytes_21 ?_
  refine lv_topi (fun z732 _ => ?_)
  refine va_iast hx hb C0.2.2.2.2.2.1 hP hD hS 1 0 rfl rfl (k_in 18 1600 (by decide)) dX9_putBytes_22 (fun H locs hP hD hS => ?_)
  have hP : va_P (dC, dI) vwCl [(a0, .inr (9, [.ref a1, .int 18, .ref a2, .ref a3, .ref a4, .ref a5, .ref a6, .ref a7, .ref a8, .ref a9, .ref a10, .ref a11, .ref a12, .int 0, .ref a13, .long 1])), (a1, .inl (cy 0, 1600, .inl (upd f730 (Int32.toNatClampNeg 18) z732)))] H := hP
  have hD : va_D A [(a0, .inr (9, [.ref a1, .int 18, .ref a2, .ref a3, .ref a4, .ref a5, .ref a6, .ref a7, .ref a8, .ref a9, .ref a10, .ref a11, .ref a12, .int 0, .ref a13, .long 1])), (a1, .inl (cy 0, 1600, .inl (upd f730 (Int32.toNatClampNeg 18) z732)))] := hD
  generalize upd f730 (Int32.toNatClampNeg 18) z732 = f733 at hP hD
  refine lv_aload_n hx hb dX9_putBytes_23 rfl (lv_at hl 1 rfl) ?_
  refine lv_dup hx hb dX9_putBytes_24 rfl ?_
  refine k_get C0 fg_X9_13 hP 0 rfl rfl dX9_putBytes_25 ?_
  refine lv_iconst (v := 1) hx hb dX9_putBytes_28 (by decide) ?_
  refine lv_iadd hx hb dX9_putBytes_29 ?_
  refine k_topi (y := 19) (by decide) ?_
  refine k_put C0 fp_X9_13 hP hD hS 0 rfl rfl rfl (Nat.le_of_ble_eq_true rfl) dX9_putBytes_30 (fun H locs hP hD hS => ?_)
  have hP : va_P (dC, dI) vwCl [(a0, .inr (9, [.ref a1, .int 19, .ref a2, .ref a3, .ref a4, .ref a5, .ref a6, .ref a7, .ref a8, .ref a9, .ref a10, .ref a11, .ref a12, .int 0, .ref a13, .long 1])), (a1, .inl (cy 0, 1600, .inl f733))] H := hP
  have hD : va_D A [(a0, .inr (9, [.ref a1, .int 19, .ref a2, .ref a3, .ref a4, .ref a5, .ref a6, .ref a7, .ref a8, .ref a9, .ref a10, .ref a11, .ref a12, .int 0, .ref a13, .long 1])), (a1, .inl (cy 0, 1600, .inl f733))] := hD
  refine lv_iinc (v := 0) (lv' := [(2, .int 0), (0, .ref a0), (1, .int x0)]) hx hb dX9_putBytes_33 hl (k := 0) rfl (by decide) (by decide) rfl (fun ls hl => ?_)
  refine lv_goto (tgt := 3) hx hb dX9_putBytes_36 (by decide) ?_
  refine lv_iload_n hx hb dX9_putBytes_3 rfl (lv_at hl 0 rfl) ?_
  refine lv_if_lt (tgt := 39) hx hb dX9_putBytes_4 (by decide) (fun h9 => absurd h9 (by decide)) (fun _ => ?_)
  refine lv_aload_n hx hb dX9_putBytes_7 rfl (lv_at hl 1 rfl) ?_
  refine k_get C0 fg_X9_9 hP 0 rfl rfl dX9_putBytes_8 ?_
  refine lv_aload_n hx hb dX9_putBytes_11 rfl (lv_at hl 1 rfl) ?_
  refine k_get C0 fg_X9_13 hP 0 rfl rfl dX9_putBytes_12 ?_
  refine lv_iload_n hx hb dX9_putBytes_15 rfl (lv_at hl 2 rfl) ?_
  refine lv_iload_n hx hb dX9_putBytes_16 rfl (lv_at hl 0 rfl) ?_
  refine lv_ishr hx hb dX9_putBytes_17 ?_
  refine lv_topi (fun z734 _ => ?_)
  refine lv_sipush (v := 255) hx hb dX9_putBytes_18 (by decide) ?_
  refine lv_iand hx hb dX9_putBytes_21 ?_
  refine lv_topi (fun z735 _ => ?_)
  refine va_iast hx hb C0.2.2.2.2.2.1 hP hD hS 1 0 rfl rfl (k_in 19 1600 (by decide)) dX9_putBytes_22 (fun H locs hP hD hS => ?_)
  have hP : va_P (dC, dI) vwCl [(a0, .inr (9, [.ref a1, .int 19, .ref a2, .ref a3, .ref a4, .ref a5, .ref a6, .ref a7, .ref a8, .ref a9, .ref a10, .ref a11, .ref a12, .int 0, .ref a13, .long 1])), (a1, .inl (cy 0, 1600, .inl (upd f733 (Int32.toNatClampNeg 19) z735)))] H := hP
  have hD : va_D A [(a0, .inr (9, [.ref a1, .int 19, .ref a2, .ref a3, .ref a4, .ref a5, .ref a6, .ref a7, .ref a8, .ref a9, .ref a10, .ref a11, .ref a12, .int 0, .ref a13, .long 1])), (a1, .inl (cy 0, 1600, .inl (upd f733 (Int32.toNatClampNeg 19) z735)))] := hD
  generalize upd f733 (Int32.toNatClampNeg 19) z735 = f736 at hP hD
  refine lv_aload_n hx hb dX9_putBytes_23 rfl (lv_at hl 1 rfl) ?_
  refine lv_dup hx hb dX9_putBytes_24 rfl ?_
  refine k_get C0 fg_X9_13 hP 0 rfl rfl dX9_putBytes_25 ?_
  refine lv_iconst (v := 1) hx hb dX9_putBytes_28 (by decide) ?_
  refine lv_iadd hx hb dX9_putBytes_29 ?_
  refine k_topi (y := 20) (by decide) ?_
  refine k_put C0 fp_X9_13 hP hD hS 0 rfl rfl rfl (Nat.le_of_ble_eq_true rfl) dX9_putBytes_30 (fun H locs hP hD hS => ?_)
  have hP : va_P (dC, dI) vwCl [(a0, .inr (9, [.ref a1, .int 20, .ref a2, .ref a3, .ref a4, .ref a5, .ref a6, .ref a7, .ref a8, .ref a9, .ref a10, .ref a11, .ref a12, .int 0, .ref a13, .long 1])), (a1, .inl (cy 0, 1600, .inl f736))] H := hP
  have hD : va_D A [(a0, .inr (9, [.ref a1, .int 20, .ref a2, .ref a3, .ref a4, .ref a5, .ref a6, .ref a7, .ref a8, .ref a9, .ref a10, .ref a11, .ref a12, .int 0, .ref a13, .long 1])), (a1, .inl (cy 0, 1600, .inl f736))] := hD
  refine lv_iinc (v := (-8)) (lv' := [(2, .int (-8)), (0, .ref a0), (1, .int x0)]) hx hb dX9_putBytes_33 hl (k := 0) rfl (by decide) (by decide) rfl (fun ls hl => ?_)
  refine lv_goto (tgt := 3) hx hb dX9_putBytes_36 (by decide) ?_
  refine lv_iload_n hx hb dX9_putBytes_3 rfl (lv_at hl 0 rfl) ?_
  refine lv_if_lt (tgt := 39) hx hb dX9_putBytes_4 (by decide) (fun _ => ?_) (fun h9 => absurd (by decide) h9)
  exact k_vret hx hb hr hlk f736 hS True.intro hP hD (Nat.le_of_ble_eq_true rfl) (Nat.le_of_ble_eq_true rfl) dX9_putBytes_39
set_option maxHeartbeats 4000000 in
set_option maxRecDepth 100000 in
theorem c_X9_feed (l : Launch) (dC : Nat → ClassId) (dI : Nat → Nat → Nat) (cy : Nat → ClassId) (sq : Nat → Nat) (a0 : Nat) (a1 : Nat) (a2 : Nat) (a3 : Nat) (a4 : Nat) (a5 : Nat) (a6 : Nat) (a7 : Nat) (a8 : Nat) (a9 : Nat) (a10 : Nat) (a11 : Nat) (a12 : Nat) (a13 : Nat) (x0 : Int32) (x1 : Int32) (x2 : Int32) (x3 : Int32) (x4 : Int32) : k_Met l yX9_feed cX9_feed 6 (some .int) { frames := 1, cells := 0, slots := 0, locals := 22 } dC dI cy sq [.ref a0, .int x0, .int x1, .int x2, .int x3, .int x4] [(a0, .inr (9, [.ref a1, .int 0, .ref a2, .ref a3, .ref a4, .ref a5, .ref a6, .ref a7, .ref a8, .ref a9, .ref a10, .ref a11, .ref a12, .int 0, .ref a13, .long 1])), (a1, .inl (cy 0, 1600, .inl (fun _ => 0)))] (k_Qi dC dI (fun (r : Int32) (_ : Unit) => r = 20) (fun _ : Unit => [])) := by
  refine k_ofW (by decide +kernel) (Nat.le_of_ble_eq_true rfl) ?_
  intro p e s m below meth c A ls H locs C0 hr hlk hin hP hD hA hS hl
  have C0 : k_cx p s m _ c cX9_feed 6 RX9 dC dI cy sq := C0
  have hx := C0.1
  have hb := C0.2.1
  have hl : lv_has ls 6 [(0, .ref a0), (1, .int x0), (2, .int x1), (3, .int x2), (4, .int x3), (5, .int x4)] := hl
  refine lv_aload_n hx hb dX9_feed_0 rfl (lv_at hl 0 rfl) ?_
  refine k_get C0 fg_X9_13 hP 0 rfl rfl dX9_feed_1 ?_
  refine lv_bipush (v := 20) hx hb dX9_feed_4 (by decide) ?_
  refine lv_iadd hx hb dX9_feed_6 ?_
  refine k_topi (y := 20) (by decide) ?_
  refine lv_sipush (v := 1600) hx hb dX9_feed_7 (by decide) ?_
  refine lv_icmp_le (tgt := 19) hx hb dX9_feed_10 (by decide) (fun _ => ?_) (fun h9 => absurd (by decide) h9)
  refine lv_aload_n hx hb dX9_feed_19 rfl (lv_at hl 0 rfl) ?_
  refine lv_iload_n hx hb dX9_feed_20 rfl (lv_at hl 1 rfl) ?_
  refine k_jv hP hD hS hA [0, 1] [] (wr := []) rfl rfl (by decide) (by decide) (by decide) 0 0 (Nat.le_of_ble_eq_true rfl) (Nat.le_of_ble_eq_true rfl) (fun hPc hDc => k_runV (As := [.int x0]) (rest := []) C0 (c_X9_putBytes l dC dI cy sq a0 a1 a2 a3 a4 a5 a6 a7 a8 a9 a10 a11 a12 a13 x0) mV_X9_106 hPc hDc rfl rfl rfl hl rfl rfl (Nat.le_of_ble_eq_true rfl) ⟨(Nat.le_of_ble_eq_true rfl), (Nat.le_of_ble_eq_true rfl)⟩ ⟨(Nat.le_of_ble_eq_true rfl), (Nat.le_of_ble_eq_true rfl)⟩ dX9_feed_21) (fun u753 H locs hw hP hD hS => ?_)
  obtain ⟨f754, ef754⟩ : ∃ z, z = u753 := ⟨_, rfl⟩; subst ef754
  try dsimp only at hP hD
  have hP : va_P (dC, dI) vwCl [(a0, .inr (9, [.ref a1, .int 4, .ref a2, .ref a3, .ref a4, .ref a5, .ref a6, .ref a7, .ref a8, .ref a9, .ref a10, .ref a11, .ref a12, .int 0, .ref a13, .long 1])), (a1, .inl (cy 0, 1600, .inl f754))] H := hP
  have hD : va_D A [(a0, .inr (9, [.ref a1, .int 4, .ref a2, .ref a3, .ref a4, .ref a5, .ref a6, .ref a7, .ref a8, .ref a9, .ref a10, .ref a11, .ref a12, .int 0, .ref a13, .long 1])), (a1, .inl (cy 0, 1600, .inl f754))] := hD
  refine lv_aload_n hx hb dX9_feed_24 rfl (lv_at hl 0 rfl) ?_
  refine lv_iload_n hx hb dX9_feed_25 rfl (lv_at hl 2 rfl) ?_
  refine k_jv hP hD hS hA [0, 1] [] (wr := []) rfl rfl (by decide) (by decide) (by decide) 0 0 (Nat.le_of_ble_eq_true rfl) (Nat.le_of_ble_eq_true rfl) (fun hPc hDc => k_runV (As := [.int x1]) (rest := []) C0 (c_X9_putBytes_1 l dC dI cy sq a0 a1 a2 a3 a4 a5 a6 a7 a8 a9 a10 a11 a12 a13 f754 x1) mV_X9_106 hPc hDc rfl rfl rfl hl rfl rfl (Nat.le_of_ble_eq_true rfl) ⟨(Nat.le_of_ble_eq_true rfl), (Nat.le_of_ble_eq_true rfl)⟩ ⟨(Nat.le_of_ble_eq_true rfl), (Nat.le_of_ble_eq_true rfl)⟩ dX9_feed_26) (fun u768 H locs hw hP hD hS => ?_)
  obtain ⟨f769, ef769⟩ : ∃ z, z = u768 := ⟨_, rfl⟩; subst ef769
  try dsimp only at hP hD
  have hP : va_P (dC, dI) vwCl [(a0, .inr (9, [.ref a1, .int 8, .ref a2, .ref a3, .ref a4, .ref a5, .ref a6, .ref a7, .ref a8, .ref a9, .ref a10, .ref a11, .ref a12, .int 0, .ref a13, .long 1])), (a1, .inl (cy 0, 1600, .inl f769))] H := hP
  have hD : va_D A [(a0, .inr (9, [.ref a1, .int 8, .ref a2, .ref a3, .ref a4, .ref a5, .ref a6, .ref a7, .ref a8, .ref a9, .ref a10, .ref a11, .ref a12, .int 0, .ref a13, .long 1])), (a1, .inl (cy 0, 1600, .inl f769))] := hD
  refine lv_aload_n hx hb dX9_feed_29 rfl (lv_at hl 0 rfl) ?_
  refine lv_iload_n hx hb dX9_feed_30 rfl (lv_at hl 3 rfl) ?_
  refine k_jv hP hD hS hA [0, 1] [] (wr := []) rfl rfl (by decide) (by decide) (by decide) 0 0 (Nat.le_of_ble_eq_true rfl) (Nat.le_of_ble_eq_true rfl) (fun hPc hDc => k_runV (As := [.int x2]) (rest := []) C0 (c_X9_putBytes_2 l dC dI cy sq a0 a1 a2 a3 a4 a5 a6 a7 a8 a9 a10 a11 a12 a13 f769 x2) mV_X9_106 hPc hDc rfl rfl rfl hl rfl rfl (Nat.le_of_ble_eq_true rfl) ⟨(Nat.le_of_ble_eq_true rfl), (Nat.le_of_ble_eq_true rfl)⟩ ⟨(Nat.le_of_ble_eq_true rfl), (Nat.le_of_ble_eq_true rfl)⟩ dX9_feed_31) (fun u783 H locs hw hP hD hS => ?_)
  obtain ⟨f784, ef784⟩ : ∃ z, z = u783 := ⟨_, rfl⟩; subst ef784
  try dsimp only at hP hD
  have hP : va_P (dC, dI) vwCl [(a0, .inr (9, [.ref a1, .int 12, .ref a2, .ref a3, .ref a4, .ref a5, .ref a6, .ref a7, .ref a8, .ref a9, .ref a10, .ref a11, .ref a12, .int 0, .ref a13, .long 1])), (a1, .inl (cy 0, 1600, .inl f784))] H := hP
  have hD : va_D A [(a0, .inr (9, [.ref a1, .int 12, .ref a2, .ref a3, .ref a4, .ref a5, .ref a6, .ref a7, .ref a8, .ref a9, .ref a10, .ref a11, .ref a12, .int 0, .ref a13, .long 1])), (a1, .inl (cy 0, 1600, .inl f784))] := hD
  refine lv_aload_n hx hb dX9_feed_34 rfl (lv_at hl 0 rfl) ?_
  refine lv_iload hx hb dX9_feed_35 (lv_at hl 4 rfl) ?_
  refine k_jv hP hD hS hA [0, 1] [] (wr := []) rfl rfl (by decide) (by decide) (by decide) 0 0 (Nat.le_of_ble_eq_true rfl) (Nat.le_of_ble_eq_true rfl) (fun hPc hDc => k_runV (As := [.int x3]) (rest := []) C0 (c_X9_putBytes_3 l dC dI cy sq a0 a1 a2 a3 a4 a5 a6 a7 a8 a9 a10 a11 a12 a13 f784 x3) mV_X9_106 hPc hDc rfl rfl rfl hl rfl rfl (Nat.le_of_ble_eq_true rfl) ⟨(Nat.le_of_ble_eq_true rfl), (Nat.le_of_ble_eq_true rfl)⟩ ⟨(Nat.le_of_ble_eq_true rfl), (Nat.le_of_ble_eq_true rfl)⟩ dX9_feed_37) (fun u798 H locs hw hP hD hS => ?_)
  obtain ⟨f799, ef799⟩ : ∃ z, z = u798 := ⟨_, rfl⟩; subst ef799
  try dsimp only at hP hD
  have hP : va_P (dC, dI) vwCl [(a0, .inr (9, [.ref a1, .int 16, .ref a2, .ref a3, .ref a4, .ref a5, .ref a6, .ref a7, .ref a8, .ref a9, .ref a10, .ref a11, .ref a12, .int 0, .ref a13, .long 1])), (a1, .inl (cy 0, 1600, .inl f799))] H := hP
  have hD : va_D A [(a0, .inr (9, [.ref a1, .int 16, .ref a2, .ref a3, .ref a4, .ref a5, .ref a6, .ref a7, .ref a8, .ref a9, .ref a10, .ref a11, .ref a12, .int 0, .ref a13, .long 1])), (a1, .inl (cy 0, 1600, .inl f799))] := hD
  refine lv_aload_n hx hb dX9_feed_40 rfl (lv_at hl 0 rfl) ?_
  refine lv_iload hx hb dX9_feed_41 (lv_at hl 5 rfl) ?_
  refine k_jv hP hD hS hA [0, 1] [] (wr := []) rfl rfl (by decide) (by decide) (by decide) 0 0 (Nat.le_of_ble_eq_true rfl) (Nat.le_of_ble_eq_true rfl) (fun hPc hDc => k_runV (As := [.int x4]) (rest := []) C0 (c_X9_putBytes_4 l dC dI cy sq a0 a1 a2 a3 a4 a5 a6 a7 a8 a9 a10 a11 a12 a13 f799 x4) mV_X9_106 hPc hDc rfl rfl rfl hl rfl rfl (Nat.le_of_ble_eq_true rfl) ⟨(Nat.le_of_ble_eq_true rfl), (Nat.le_of_ble_eq_true rfl)⟩ ⟨(Nat.le_of_ble_eq_true rfl), (Nat.le_of_ble_eq_true rfl)⟩ dX9_feed_43) (fun u813 H locs hw hP hD hS => ?_)
  obtain ⟨f814, ef814⟩ : ∃ z, z = u813 := ⟨_, rfl⟩; subst ef814
  try dsimp only at hP hD
  have hP : va_P (dC, dI) vwCl [(a0, .inr (9, [.ref a1, .int 20, .ref a2, .ref a3, .ref a4, .ref a5, .ref a6, .ref a7, .ref a8, .ref a9, .ref a10, .ref a11, .ref a12, .int 0, .ref a13, .long 1])), (a1, .inl (cy 0, 1600, .inl f814))] H := hP
  have hD : va_D A [(a0, .inr (9, [.ref a1, .int 20, .ref a2, .ref a3, .ref a4, .ref a5, .ref a6, .ref a7, .ref a8, .ref a9, .ref a10, .ref a11, .ref a12, .int 0, .ref a13, .long 1])), (a1, .inl (cy 0, 1600, .inl f814))] := hD
  refine lv_aload_n hx hb dX9_feed_46 rfl (lv_at hl 0 rfl) ?_
  refine k_get C0 fg_X9_13 hP 0 rfl rfl dX9_feed_47 ?_
  exact k_iret hx hb hr hlk rfl () hS rfl (hP.sub [] rfl) (hD.sub [] (by decide) rfl) (Nat.le_of_ble_eq_true rfl) (Nat.le_of_ble_eq_true rfl) dX9_feed_50
set_option maxHeartbeats 4000000 in
set_option maxRecDepth 100000 in
theorem c_X9_deny (l : Launch) (dC : Nat → ClassId) (dI : Nat → Nat → Nat) (cy : Nat → ClassId) (sq : Nat → Nat) (a0 : Nat) (a1 : Nat) (a2 : Nat) (a3 : Nat) (a4 : Nat) (a5 : Nat) (a6 : Nat) (a7 : Nat) (a8 : Nat) (a9 : Nat) (a10 : Nat) (a11 : Nat) (a12 : Nat) (a13 : Nat) : k_Met l yX9_deny cX9_deny 2 (some .boolean) { frames := 0, cells := 0, slots := 0, locals := 0 } dC dI cy sq [.ref a0, .int 0] [(a0, .inr (9, [.ref a2, .int 0, .ref a3, .ref a4, .ref a5, .ref a6, .ref a7, .ref a8, .ref a9, .ref a10, .ref a11, .ref a12, .ref a13, .int 0, .ref a1, .long 1])), (a1, .inl (cy 0, 6, .inl (fun _ => 0)))] (k_Qi dC dI (fun (r : Int32) (_ : Unit) => r = 0) (fun _ : Unit => [(a0, .inr (9, [.ref a2, .int 0, .ref a3, .ref a4, .ref a5, .ref a6, .ref a7, .ref a8, .ref a9, .ref a10, .ref a11, .ref a12, .ref a13, .int 0, .ref a1, .long 1])), (a1, .inl (cy 0, 6, .inl (upd (fun _ => 0) 0 1)))])) := by
  refine k_ofW (by decide +kernel) (Nat.le_of_ble_eq_true rfl) ?_
  intro p e s m below meth c A ls H locs C0 hr hlk hin hP hD hA hS hl
  have C0 : k_cx p s m _ c cX9_deny 2 RX9 dC dI cy sq := C0
  have hx := C0.1
  have hb := C0.2.1
  have hl : lv_has ls 2 [(0, .ref a0), (1, .int 0)] := hl
  refine lv_aload_n hx hb dX9_deny_0 rfl (lv_at hl 0 rfl) ?_
  refine k_get C0 fg_X9_95 hP 0 rfl rfl dX9_deny_1 ?_
  refine lv_iload_n hx hb dX9_deny_4 rfl (lv_at hl 1 rfl) ?_
  refine lv_dup2_11 hx hb dX9_deny_5 rfl rfl ?_
  refine va_iald hx hb C0.2.2.2.2.2.1 hP 1 0 rfl rfl (k_in 0 6 (by decide)) dX9_deny_6 ?_
  refine k_topi (y := 0) rfl ?_
  refine lv_iconst (v := 1) hx hb dX9_deny_7 (by decide) ?_
  refine lv_iadd hx hb dX9_deny_8 ?_
  refine k_topi (y := 1) (by decide) ?_
  refine va_iast hx hb C0.2.2.2.2.2.1 hP hD hS 1 0 rfl rfl (k_in 0 6 (by decide)) dX9_deny_9 (fun H locs hP hD hS => ?_)
  have hP : va_P (dC, dI) vwCl [(a0, .inr (9, [.ref a2, .int 0, .ref a3, .ref a4, .ref a5, .ref a6, .ref a7, .ref a8, .ref a9, .ref a10, .ref a11, .ref a12, .ref a13, .int 0, .ref a1, .long 1])), (a1, .inl (cy 0, 6, .inl (upd (fun _ => 0) 0 1)))] H := hP
  have hD : va_D A [(a0, .inr (9, [.ref a2, .int 0, .ref a3, .ref a4, .ref a5, .ref a6, .ref a7, .ref a8, .ref a9, .ref a10, .ref a11, .ref a12, .ref a13, .int 0, .ref a1, .long 1])), (a1, .inl (cy 0, 6, .inl (upd (fun _ => 0) 0 1)))] := hD
  refine lv_iconst (v := 0) hx hb dX9_deny_10 (by decide) ?_
  exact k_iret hx hb hr hlk (k_nb 0 (by decide)) () hS rfl hP hD (Nat.le_of_ble_eq_true rfl) (Nat.le_of_ble_eq_true rfl) dX9_deny_11
set_option maxHeartbeats 4000000 in
set_option maxRecDepth 100000 in
theorem c_X9_end (l : Launch) (dC : Nat → ClassId) (dI : Nat → Nat → Nat) (cy : Nat → ClassId) (sq : Nat → Nat) (a0 : Nat) (a1 : Nat) (a2 : Nat) (a3 : Nat) (a4 : Nat) (a5 : Nat) (a6 : Nat) (a7 : Nat) (a8 : Nat) (a9 : Nat) (a10 : Nat) (a11 : Nat) (a12 : Nat) (a13 : Nat) (x0 : Int32) : k_Met l yX9_end cX9_end 2 (some .boolean) { frames := 1, cells := 0, slots := 0, locals := 21 } dC dI cy sq [.ref a0, .int x0] [(a0, .inr (9, [.ref a2, .int 0, .ref a3, .ref a4, .ref a5, .ref a6, .ref a7, .ref a8, .ref a9, .ref a10, .ref a11, .ref a12, .ref a13, .int 0, .ref a1, .long 1])), (a1, .inl (cy 0, 6, .inl (fun _ => 0)))] (k_Qi dC dI (fun (r : Int32) (_ : Unit) => r = s_end x0) (fun _ : Unit => [])) := by
  refine k_ofW (by decide +kernel) (Nat.le_of_ble_eq_true rfl) ?_
  intro p e s m below meth c A ls H locs C0 hr hlk hin hP hD hA hS hl
  have C0 : k_cx p s m _ c cX9_end 2 RX9 dC dI cy sq := C0
  have hx := C0.1
  have hb := C0.2.1
  have hl : lv_has ls 2 [(0, .ref a0), (1, .int x0)] := hl
  refine lv_iload_n hx hb dX9_end_0 rfl (lv_at hl 1 rfl) ?_
  refine lv_if_lt (tgt := 12) hx hb dX9_end_1 (by decide) (fun c821 => ?_) (fun c821 => ?_)
  · refine lv_aload_n hx hb dX9_end_12 rfl (lv_at hl 0 rfl) ?_
    refine lv_iconst (v := 0) hx hb dX9_end_13 (by decide) ?_
    refine k_ji hP hD hS hA [0, 1] [] (wr := []) rfl rfl (by decide) (by decide) (by decide) 0 0 (Nat.le_of_ble_eq_true rfl) (Nat.le_of_ble_eq_true rfl) (fun hPc hDc => k_runV (As := [.int 0]) (rest := []) C0 (c_X9_deny l dC dI cy sq a0 a1 a2 a3 a4 a5 a6 a7 a8 a9 a10 a11 a12 a13) mV_X9_110 hPc hDc rfl rfl rfl hl rfl rfl (Nat.le_of_ble_eq_true rfl) ⟨(Nat.le_of_ble_eq_true rfl), (Nat.le_of_ble_eq_true rfl)⟩ ⟨(Nat.le_of_ble_eq_true rfl), (Nat.le_of_ble_eq_true rfl)⟩ dX9_end_14) (fun r822 u823 H locs hw hP hD hS => ?_)
    have hP : va_P (dC, dI) vwCl [(a0, .inr (9, [.ref a2, .int 0, .ref a3, .ref a4, .ref a5, .ref a6, .ref a7, .ref a8, .ref a9, .ref a10, .ref a11, .ref a12, .ref a13, .int 0, .ref a1, .long 1])), (a1, .inl (cy 0, 6, .inl (upd (fun _ => 0) 0 1)))] H := hP
    have hD : va_D A [(a0, .inr (9, [.ref a2, .int 0, .ref a3, .ref a4, .ref a5, .ref a6, .ref a7, .ref a8, .ref a9, .ref a10, .ref a11, .ref a12, .ref a13, .int 0, .ref a1, .long 1])), (a1, .inl (cy 0, 6, .inl (upd (fun _ => 0) 0 1)))] := hD
    subst hw
    exact k_iret hx hb hr hlk (k_nb 0 (by decide)) () hS (if_neg (by simp only [Int32.lt_iff_toInt_lt, Int32.le_iff_toInt_le, ← Int32.toInt_inj, kl0, kl1, kl2, kl3, kl4, kl5, kl6, kl7, kl60, klm1, kl5L] at c821 ⊢ <;> omega)).symm (hP.sub [] rfl) (hD.sub [] (by decide) rfl) (Nat.le_of_ble_eq_true rfl) (Nat.le_of_ble_eq_true rfl) dX9_end_17
  · refine lv_iload_n hx hb dX9_end_4 rfl (lv_at hl 1 rfl) ?_
    refine lv_aload_n hx hb dX9_end_5 rfl (lv_at hl 0 rfl) ?_
    refine k_get C0 fg_X9_13 hP 0 rfl rfl dX9_end_6 ?_
    refine lv_icmp_le (tgt := 18) hx hb dX9_end_9 (by decide) (fun c824 => ?_) (fun c824 => ?_)
    · refine lv_aload_n hx hb dX9_end_18 rfl (lv_at hl 0 rfl) ?_
      refine lv_iload_n hx hb dX9_end_19 rfl (lv_at hl 1 rfl) ?_
      refine k_put C0 fp_X9_13 hP hD hS 0 rfl rfl rfl (Nat.le_of_ble_eq_true rfl) dX9_end_20 (fun H locs hP hD hS => ?_)
      have hP : va_P (dC, dI) vwCl [(a0, .inr (9, [.ref a2, .int x0, .ref a3, .ref a4, .ref a5, .ref a6, .ref a7, .ref a8, .ref a9, .ref a10, .ref a11, .ref a12, .ref a13, .int 0, .ref a1, .long 1])), (a1, .inl (cy 0, 6, .inl (fun _ => 0)))] H := hP
      have hD : va_D A [(a0, .inr (9, [.ref a2, .int x0, .ref a3, .ref a4, .ref a5, .ref a6, .ref a7, .ref a8, .ref a9, .ref a10, .ref a11, .ref a12, .ref a13, .int 0, .ref a1, .long 1])), (a1, .inl (cy 0, 6, .inl (fun _ => 0)))] := hD
      refine lv_iconst (v := 1) hx hb dX9_end_23 (by decide) ?_
      exact k_iret hx hb hr hlk (k_nb 1 (by decide)) () hS (if_pos (by simp only [Int32.lt_iff_toInt_lt, Int32.le_iff_toInt_le, ← Int32.toInt_inj, kl0, kl1, kl2, kl3, kl4, kl5, kl6, kl7, kl60, klm1, kl5L] at c821 c824 ⊢ <;> omega)).symm (hP.sub [] rfl) (hD.sub [] (by decide) rfl) (Nat.le_of_ble_eq_true rfl) (Nat.le_of_ble_eq_true rfl) dX9_end_24
    · refine lv_aload_n hx hb dX9_end_12 rfl (lv_at hl 0 rfl) ?_
      refine lv_iconst (v := 0) hx hb dX9_end_13 (by decide) ?_
      refine k_ji hP hD hS hA [0, 1] [] (wr := []) rfl rfl (by decide) (by decide) (by decide) 0 0 (Nat.le_of_ble_eq_true rfl) (Nat.le_of_ble_eq_true rfl) (fun hPc hDc => k_runV (As := [.int 0]) (rest := []) C0 (c_X9_deny l dC dI cy sq a0 a1 a2 a3 a4 a5 a6 a7 a8 a9 a10 a11 a12 a13) mV_X9_110 hPc hDc rfl rfl rfl hl rfl rfl (Nat.le_of_ble_eq_true rfl) ⟨(Nat.le_of_ble_eq_true rfl), (Nat.le_of_ble_eq_true rfl)⟩ ⟨(Nat.le_of_ble_eq_true rfl), (Nat.le_of_ble_eq_true rfl)⟩ dX9_end_14) (fun r825 u826 H locs hw hP hD hS => ?_)
      have hP : va_P (dC, dI) vwCl [(a0, .inr (9, [.ref a2, .int 0, .ref a3, .ref a4, .ref a5, .ref a6, .ref a7, .ref a8, .ref a9, .ref a10, .ref a11, .ref a12, .ref a13, .int 0, .ref a1, .long 1])), (a1, .inl (cy 0, 6, .inl (upd (fun _ => 0) 0 1)))] H := hP
      have hD : va_D A [(a0, .inr (9, [.ref a2, .int 0, .ref a3, .ref a4, .ref a5, .ref a6, .ref a7, .ref a8, .ref a9, .ref a10, .ref a11, .ref a12, .ref a13, .int 0, .ref a1, .long 1])), (a1, .inl (cy 0, 6, .inl (upd (fun _ => 0) 0 1)))] := hD
      subst hw
      exact k_iret hx hb hr hlk (k_nb 0 (by decide)) () hS (if_neg (by simp only [Int32.lt_iff_toInt_lt, Int32.le_iff_toInt_le, ← Int32.toInt_inj, kl0, kl1, kl2, kl3, kl4, kl5, kl6, kl7, kl60, klm1, kl5L] at c821 c824 ⊢ <;> omega)).symm (hP.sub [] rfl) (hD.sub [] (by decide) rfl) (Nat.le_of_ble_eq_true rfl) (Nat.le_of_ble_eq_true rfl) dX9_end_17
set_option maxHeartbeats 4000000 in
set_option maxRecDepth 100000 in
theorem c_X9_takeTape (l : Launch) (dC : Nat → ClassId) (dI : Nat → Nat → Nat) (cy : Nat → ClassId) (sq : Nat → Nat) (a0 : Nat) (a1 : Nat) (a2 : Nat) (a3 : Nat) (a4 : Nat) (a5 : Nat) (a6 : Nat) (a7 : Nat) (a8 : Nat) (a9 : Nat) (a10 : Nat) (a11 : Nat) (a12 : Nat) (a13 : Nat) : k_Met l yX9_takeTape cX9_takeTape 2 (some .int) { frames := 0, cells := 0, slots := 0, locals := 0 } dC dI cy sq [.ref a0] [(a0, .inr (9, [.ref a1, .int 0, .ref a2, .ref a3, .ref a4, .ref a5, .ref a6, .ref a7, .ref a8, .ref a9, .ref a10, .ref a11, .ref a12, .int 0, .ref a13, .long 1]))] (k_Qi dC dI (fun (r : Int32) (_ : Unit) => r = 0) (fun _ : Unit => [(a0, .inr (9, [.ref a1, .int 0, .ref a2, .ref a3, .ref a4, .ref a5, .ref a6, .ref a7, .ref a8, .ref a9, .ref a10, .ref a11, .ref a12, .int 0, .ref a13, .long 1]))])) := by
  refine k_ofW (by decide +kernel) (Nat.le_of_ble_eq_true rfl) ?_
  intro p e s m below meth c A ls H locs C0 hr hlk hin hP hD hA hS hl
  have C0 : k_cx p s m _ c cX9_takeTape 2 RX9 dC dI cy sq := C0
  have hx := C0.1
  have hb := C0.2.1
  have hl : lv_has ls 2 [(0, .ref a0)] := hl
  refine lv_aload_n hx hb dX9_takeTape_0 rfl (lv_at hl 0 rfl) ?_
  refine k_get C0 fg_X9_13 hP 0 rfl rfl dX9_takeTape_1 ?_
  refine lv_istore_n (lv' := [(1, .int 0), (0, .ref a0)]) hx hb dX9_takeTape_4 rfl hl (by decide) rfl (fun ls hl => ?_)
  refine lv_aload_n hx hb dX9_takeTape_5 rfl (lv_at hl 1 rfl) ?_
  refine lv_iconst (v := 0) hx hb dX9_takeTape_6 (by decide) ?_
  refine k_put C0 fp_X9_13 hP hD hS 0 rfl rfl rfl (Nat.le_of_ble_eq_true rfl) dX9_takeTape_7 (fun H locs hP hD hS => ?_)
  have hP : va_P (dC, dI) vwCl [(a0, .inr (9, [.ref a1, .int 0, .ref a2, .ref a3, .ref a4, .ref a5, .ref a6, .ref a7, .ref a8, .ref a9, .ref a10, .ref a11, .ref a12, .int 0, .ref a13, .long 1]))] H := hP
  have hD : va_D A [(a0, .inr (9, [.ref a1, .int 0, .ref a2, .ref a3, .ref a4, .ref a5, .ref a6, .ref a7, .ref a8, .ref a9, .ref a10, .ref a11, .ref a12, .int 0, .ref a13, .long 1]))] := hD
  refine lv_iload_n hx hb dX9_takeTape_10 rfl (lv_at hl 0 rfl) ?_
  exact k_iret hx hb hr hlk rfl () hS rfl hP hD (Nat.le_of_ble_eq_true rfl) (Nat.le_of_ble_eq_true rfl) dX9_takeTape_11
set_option maxHeartbeats 4000000 in
set_option maxRecDepth 100000 in
theorem c_X4_clear (l : Launch) (dC : Nat → ClassId) (dI : Nat → Nat → Nat) (cy : Nat → ClassId) (sq : Nat → Nat) (a0 : Nat) (a1 : Nat) (a2 : Nat) (a3 : Nat) (a4 : Nat) (a5 : Nat) (a6 : Nat) (a7 : Nat) (a8 : Nat) (a9 : Nat) : k_Met l yX4_clear cX4_clear 1 none { frames := 1, cells := 0, slots := 0, locals := 23 } dC dI cy sq [.ref a0] [(a0, .inr (4, [.int 0, .int 0, .int 0, .int 0, .int 0, .int 0, .int 0, .ref a3, .ref a4, .ref a5, .int 0, .ref a6, .ref a7, .ref a1, .ref a8, .ref a9, .int 0, .ref a2])), (a1, .inl (cy 0, 200, .inl (fun _ => 0))), (a2, .inl (cy 0, 6, .inl (fun _ => 0)))] (k_Qv dC dI (fun _ : (Nat → Int32) × (Nat → Int32) => True) (fun u : (Nat → Int32) × (Nat → Int32) => match u with | (f837, f840) => [(a0, .inr (4, [.int 0, .int 0, .int 0, .int 0, .int 0, .int 0, .int 0, .ref a3, .ref a4, .ref a5, .int 0, .ref a6, .ref a7, .ref a1, .ref a8, .ref a9, .int 0, .ref a2])), (a1, .inl (cy 0, 200, .inl f837)), (a2, .inl (cy 0, 6, .inl f840))])) := by
  refine k_ofW (by decide +kernel) (Nat.le_of_ble_eq_true rfl) ?_
  intro p e s m below meth c A ls H locs C0 hr hlk hin hP hD hA hS hl
  have C0 : k_cx p s m _ c cX4_clear 1 RX4 dC dI cy sq := C0
  have hx := C0.1
  have hb := C0.2.1
  have hl : lv_has ls 1 [(0, .ref a0)] := hl
  refine lv_aload_n hx hb dX4_clear_0 rfl (lv_at hl 0 rfl) ?_
  refine lv_iconst (v := 0) hx hb dX4_clear_1 (by decide) ?_
  refine k_put C0 fp_X4_39 hP hD hS 0 rfl rfl rfl (Nat.le_of_ble_eq_true rfl) dX4_clear_2 (fun H locs hP hD hS => ?_)
  have hP : va_P (dC, dI) vwCl [(a0, .inr (4, [.int 0, .int 0, .int 0, .int 0, .int 0, .int 0, .int 0, .ref a3, .ref a4, .ref a5, .int 0, .ref a6, .ref a7, .ref a1, .ref a8, .ref a9, .int 0, .ref a2])), (a1, .inl (cy 0, 200, .inl (fun _ => 0))), (a2, .inl (cy 0, 6, .inl (fun _ => 0)))] H := hP
  have hD : va_D A [(a0, .inr (4, [.int 0, .int 0, .int 0, .int 0, .int 0, .int 0, .int 0, .ref a3, .ref a4, .ref a5, .int 0, .ref a6, .ref a7, .ref a1, .ref a8, .ref a9, .int 0, .ref a2])), (a1, .inl (cy 0, 200, .inl (fun _ => 0))), (a2, .inl (cy 0, 6, .inl (fun _ => 0)))] := hD
  refine lv_aload_n hx hb dX4_clear_5 rfl (lv_at hl 0 rfl) ?_
  refine lv_iconst (v := 0) hx hb dX4_clear_6 (by decide) ?_
  refine k_put C0 fp_X4_43 hP hD hS 0 rfl rfl rfl (Nat.le_of_ble_eq_true rfl) dX4_clear_7 (fun H locs hP hD hS => ?_)
  have hP : va_P (dC, dI) vwCl [(a0, .inr (4, [.int 0, .int 0, .int 0, .int 0, .int 0, .int 0, .int 0, .ref a3, .ref a4, .ref a5, .int 0, .ref a6, .ref a7, .ref a1, .ref a8, .ref a9, .int 0, .ref a2])), (a1, .inl (cy 0, 200, .inl (fun _ => 0))), (a2, .inl (cy 0, 6, .inl (fun _ => 0)))] H := hP
  have hD : va_D A [(a0, .inr (4, [.int 0, .int 0, .int 0, .int 0, .int 0, .int 0, .int 0, .ref a3, .ref a4, .ref a5, .int 0, .ref a6, .ref a7, .ref a1, .ref a8, .ref a9, .int 0, .ref a2])), (a1, .inl (cy 0, 200, .inl (fun _ => 0))), (a2, .inl (cy 0, 6, .inl (fun _ => 0)))] := hD
  refine lv_aload_n hx hb dX4_clear_10 rfl (lv_at hl 0 rfl) ?_
  refine lv_iconst (v := 0) hx hb dX4_clear_11 (by decide) ?_
  refine k_put C0 fp_X4_46 hP hD hS 0 rfl rfl rfl (Nat.le_of_ble_eq_true rfl) dX4_clear_12 (fun H locs hP hD hS => ?_)
  have hP : va_P (dC, dI) vwCl [(a0, .inr (4, [.int 0, .int 0, .int 0, .int 0, .int 0, .int 0, .int 0, .ref a3, .ref a4, .ref a5, .int 0, .ref a6, .ref a7, .ref a1, .ref a8, .ref a9, .int 0, .ref a2])), (a1, .inl (cy 0, 200, .inl (fun _ => 0))), (a2, .inl (cy 0, 6, .inl (fun _ => 0)))] H := hP
  have hD : va_D A [(a0, .inr (4, [.int 0, .int 0, .int 0, .int 0, .int 0, .int 0, .int 0, .ref a3, .ref a4, .ref a5, .int 0, .ref a6, .ref a7, .ref a1, .ref a8, .ref a9, .int 0, .ref a2])), (a1, .inl (cy 0, 200, .inl (fun _ => 0))), (a2, .inl (cy 0, 6, .inl (fun _ => 0)))] := hD
  refine lv_aload_n hx hb dX4_clear_15 rfl (lv_at hl 0 rfl) ?_
  refine lv_iconst (v := 0) hx hb dX4_clear_16 (by decide) ?_
  refine k_put C0 fp_X4_49 hP hD hS 0 rfl rfl rfl (Nat.le_of_ble_eq_true rfl) dX4_clear_17 (fun H locs hP hD hS => ?_)
  have hP : va_P (dC, dI) vwCl [(a0, .inr (4, [.int 0, .int 0, .int 0, .int 0, .int 0, .int 0, .int 0, .ref a3, .ref a4, .ref a5, .int 0, .ref a6, .ref a7, .ref a1, .ref a8, .ref a9, .int 0, .ref a2])), (a1, .inl (cy 0, 200, .inl (fun _ => 0))), (a2, .inl (cy 0, 6, .inl (fun _ => 0)))] H := hP
  have hD : va_D A [(a0, .inr (4, [.int 0, .int 0, .int 0, .int 0, .int 0, .int 0, .int 0, .ref a3, .ref a4, .ref a5, .int 0, .ref a6, .ref a7, .ref a1, .ref a8, .ref a9, .int 0, .ref a2])), (a1, .inl (cy 0, 200, .inl (fun _ => 0))), (a2, .inl (cy 0, 6, .inl (fun _ => 0)))] := hD
  refine lv_aload_n hx hb dX4_clear_20 rfl (lv_at hl 0 rfl) ?_
  refine lv_iconst (v := 0) hx hb dX4_clear_21 (by decide) ?_
  refine k_put C0 fp_X4_52 hP hD hS 0 rfl rfl rfl (Nat.le_of_ble_eq_true rfl) dX4_clear_22 (fun H locs hP hD hS => ?_)
  have hP : va_P (dC, dI) vwCl [(a0, .inr (4, [.int 0, .int 0, .int 0, .int 0, .int 0, .int 0, .int 0, .ref a3, .ref a4, .ref a5, .int 0, .ref a6, .ref a7, .ref a1, .ref a8, .ref a9, .int 0, .ref a2])), (a1, .inl (cy 0, 200, .inl (fun _ => 0))), (a2, .inl (cy 0, 6, .inl (fun _ => 0)))] H := hP
  have hD : va_D A [(a0, .inr (4, [.int 0, .int 0, .int 0, .int 0, .int 0, .int 0, .int 0, .ref a3, .ref a4, .ref a5, .int 0, .ref a6, .ref a7, .ref a1, .ref a8, .ref a9, .int 0, .ref a2])), (a1, .inl (cy 0, 200, .inl (fun _ => 0))), (a2, .inl (cy 0, 6, .inl (fun _ => 0)))] := hD
  refine lv_aload_n hx hb dX4_clear_25 rfl (lv_at hl 0 rfl) ?_
  refine lv_iconst (v := 0) hx hb dX4_clear_26 (by decide) ?_
  refine k_put C0 fp_X4_55 hP hD hS 0 rfl rfl rfl (Nat.le_of_ble_eq_true rfl) dX4_clear_27 (fun H locs hP hD hS => ?_)
  have hP : va_P (dC, dI) vwCl [(a0, .inr (4, [.int 0, .int 0, .int 0, .int 0, .int 0, .int 0, .int 0, .ref a3, .ref a4, .ref a5, .int 0, .ref a6, .ref a7, .ref a1, .ref a8, .ref a9, .int 0, .ref a2])), (a1, .inl (cy 0, 200, .inl (fun _ => 0))), (a2, .inl (cy 0, 6, .inl (fun _ => 0)))] H := hP
  have hD : va_D A [(a0, .inr (4, [.int 0, .int 0, .int 0, .int 0, .int 0, .int 0, .int 0, .ref a3, .ref a4, .ref a5, .int 0, .ref a6, .ref a7, .ref a1, .ref a8, .ref a9, .int 0, .ref a2])), (a1, .inl (cy 0, 200, .inl (fun _ => 0))), (a2, .inl (cy 0, 6, .inl (fun _ => 0)))] := hD
  refine lv_aload_n hx hb dX4_clear_30 rfl (lv_at hl 0 rfl) ?_
  refine k_get C0 fg_X4_27 hP 0 rfl rfl dX4_clear_31 ?_
  refine lv_iconst (v := 0) hx hb dX4_clear_34 (by decide) ?_
  refine k_jv hP hD hS hA [1] [0, 2] (wr := [(a0, .inr (4, [.int 0, .int 0, .int 0, .int 0, .int 0, .int 0, .int 0, .ref a3, .ref a4, .ref a5, .int 0, .ref a6, .ref a7, .ref a1, .ref a8, .ref a9, .int 0, .ref a2])), (a2, .inl (cy 0, 6, .inl (fun _ => 0)))]) rfl rfl (by decide) (by decide) (by decide) 0 0 (Nat.le_of_ble_eq_true rfl) (Nat.le_of_ble_eq_true rfl) (fun hPc hDc => k_runS (As := [.ref a1, .int 0]) (rest := []) C0 (c_fill l dC dI cy sq a1 200 (fun _ => 0) 0 (Nat.le_of_ble_eq_true rfl)) mS_X4_58 hPc hDc hl rfl rfl (Nat.le_of_ble_eq_true rfl) ⟨(Nat.le_of_ble_eq_true rfl), (Nat.le_of_ble_eq_true rfl)⟩ ⟨(Nat.le_of_ble_eq_true rfl), (Nat.le_of_ble_eq_true rfl)⟩ dX4_clear_35) (fun u836 H locs hw hP hD hS => ?_)
  obtain ⟨f837, ef837⟩ : ∃ z, z = u836 := ⟨_, rfl⟩; subst ef837
  have hP : va_P (dC, dI) vwCl [(a0, .inr (4, [.int 0, .int 0, .int 0, .int 0, .int 0, .int 0, .int 0, .ref a3, .ref a4, .ref a5, .int 0, .ref a6, .ref a7, .ref a1, .ref a8, .ref a9, .int 0, .ref a2])), (a2, .inl (cy 0, 6, .inl (fun _ => 0))), (a1, .inl (cy 0, 200, .inl f837))] H := hP
  have hD : va_D A [(a0, .inr (4, [.int 0, .int 0, .int 0, .int 0, .int 0, .int 0, .int 0, .ref a3, .ref a4, .ref a5, .int 0, .ref a6, .ref a7, .ref a1, .ref a8, .ref a9, .int 0, .ref a2])), (a2, .inl (cy 0, 6, .inl (fun _ => 0))), (a1, .inl (cy 0, 200, .inl f837))] := hD
  refine lv_aload_n hx hb dX4_clear_38 rfl (lv_at hl 0 rfl) ?_
  refine k_get C0 fg_X4_36 hP 0 rfl rfl dX4_clear_39 ?_
  refine lv_iconst (v := 0) hx hb dX4_clear_42 (by decide) ?_
  refine k_jv hP hD hS hA [1] [0, 2] (wr := [(a0, .inr (4, [.int 0, .int 0, .int 0, .int 0, .int 0, .int 0, .int 0, .ref a3, .ref a4, .ref a5, .int 0, .ref a6, .ref a7, .ref a1, .ref a8, .ref a9, .int 0, .ref a2])), (a1, .inl (cy 0, 200, .inl f837))]) rfl rfl (by decide) (by decide) (by decide) 0 0 (Nat.le_of_ble_eq_true rfl) (Nat.le_of_ble_eq_true rfl) (fun hPc hDc => k_runS (As := [.ref a2, .int 0]) (rest := []) C0 (c_fill l dC dI cy sq a2 6 (fun _ => 0) 0 (Nat.le_of_ble_eq_true rfl)) mS_X4_58 hPc hDc hl rfl rfl (Nat.le_of_ble_eq_true rfl) ⟨(Nat.le_of_ble_eq_true rfl), (Nat.le_of_ble_eq_true rfl)⟩ ⟨(Nat.le_of_ble_eq_true rfl), (Nat.le_of_ble_eq_true rfl)⟩ dX4_clear_43) (fun u839 H locs hw hP hD hS => ?_)
  obtain ⟨f840, ef840⟩ : ∃ z, z = u839 := ⟨_, rfl⟩; subst ef840
  have hP : va_P (dC, dI) vwCl [(a0, .inr (4, [.int 0, .int 0, .int 0, .int 0, .int 0, .int 0, .int 0, .ref a3, .ref a4, .ref a5, .int 0, .ref a6, .ref a7, .ref a1, .ref a8, .ref a9, .int 0, .ref a2])), (a1, .inl (cy 0, 200, .inl f837)), (a2, .inl (cy 0, 6, .inl f840))] H := hP
  have hD : va_D A [(a0, .inr (4, [.int 0, .int 0, .int 0, .int 0, .int 0, .int 0, .int 0, .ref a3, .ref a4, .ref a5, .int 0, .ref a6, .ref a7, .ref a1, .ref a8, .ref a9, .int 0, .ref a2])), (a1, .inl (cy 0, 200, .inl f837)), (a2, .inl (cy 0, 6, .inl f840))] := hD
  exact k_vret hx hb hr hlk (f837, f840) hS True.intro hP hD (Nat.le_of_ble_eq_true rfl) (Nat.le_of_ble_eq_true rfl) dX4_clear_46
set_option maxHeartbeats 4000000 in
set_option maxRecDepth 100000 in
theorem c_X5_sortOf (l : Launch) (dC : Nat → ClassId) (dI : Nat → Nat → Nat) (cy : Nat → ClassId) (sq : Nat → Nat) (a0 : Nat) (a1 : Nat) (a2 : Nat) : k_Met l yX5_sortOf cX5_sortOf 2 (some .int) { frames := 0, cells := 0, slots := 0, locals := 0 } dC dI cy sq [.ref a0, .int 0] [(a0, .inr (5, [.ref a1, .int 0, .int 0, .int 0, .int 0, .int 0, .ref a2, .int 0, .int (-1)]))] (k_Qi dC dI (fun (r : Int32) (_ : Unit) => r = 0) (fun _ : Unit => [(a0, .inr (5, [.ref a1, .int 0, .int 0, .int 0, .int 0, .int 0, .ref a2, .int 0, .int (-1)]))])) := by
  refine k_ofW (by decide +kernel) (Nat.le_of_ble_eq_true rfl) ?_
  intro p e s m below meth c A ls H locs C0 hr hlk hin hP hD hA hS hl
  have C0 : k_cx p s m _ c cX5_sortOf 2 RX5 dC dI cy sq := C0
  have hx := C0.1
  have hb := C0.2.1
  have hl : lv_has ls 2 [(0, .ref a0), (1, .int 0)] := hl
  refine lv_iload_n hx hb dX5_sortOf_0 rfl (lv_at hl 1 rfl) ?_
  refine lv_if_lt (tgt := 12) hx hb dX5_sortOf_1 (by decide) (fun h9 => absurd h9 (by decide)) (fun _ => ?_)
  refine lv_iload_n hx hb dX5_sortOf_4 rfl (lv_at hl 1 rfl) ?_
  refine lv_aload_n hx hb dX5_sortOf_5 rfl (lv_at hl 0 rfl) ?_
  refine k_get C0 fg_X5_11 hP 0 rfl rfl dX5_sortOf_6 ?_
  refine lv_icmp_lt (tgt := 14) hx hb dX5_sortOf_9 (by decide) (fun h9 => absurd h9 (by decide)) (fun _ => ?_)
  refine lv_iconst (v := 0) hx hb dX5_sortOf_12 (by decide) ?_
  exact k_iret hx hb hr hlk rfl () hS rfl hP hD (Nat.le_of_ble_eq_true rfl) (Nat.le_of_ble_eq_true rfl) dX5_sortOf_13
set_option maxHeartbeats 4000000 in
set_option maxRecDepth 100000 in
theorem c_X5_moveTo (l : Launch) (dC : Nat → ClassId) (dI : Nat → Nat → Nat) (cy : Nat → ClassId) (sq : Nat → Nat) (a0 : Nat) (a1 : Nat) (a2 : Nat) : k_Met l yX5_moveTo cX5_moveTo 3 none { frames := 1, cells := 0, slots := 0, locals := 21 } dC dI cy sq [.ref a0, .int 0] [(a0, .inr (5, [.ref a1, .int 0, .int 0, .int 0, .int 0, .int 0, .ref a2, .int 0, .int (-1)]))] (k_Qv dC dI (fun _ : Unit => True) (fun _ : Unit => [(a0, .inr (5, [.ref a1, .int 0, .int 0, .int 0, .int 0, .int 0, .ref a2, .int 0, .int (-1)]))])) := by
  refine k_ofW (by decide +kernel) (Nat.le_of_ble_eq_true rfl) ?_
  intro p e s m below meth c A ls H locs C0 hr hlk hin hP hD hA hS hl
  have C0 : k_cx p s m _ c cX5_moveTo 3 RX5 dC dI cy sq := C0
  have hx := C0.1
  have hb := C0.2.1
  have hl : lv_has ls 3 [(0, .ref a0), (1, .int 0)] := hl
  refine lv_aload_n hx hb dX5_moveTo_0 rfl (lv_at hl 0 rfl) ?_
  refine lv_iload_n hx hb dX5_moveTo_1 rfl (lv_at hl 1 rfl) ?_
  refine k_put C0 fp_X5_15 hP hD hS 0 rfl rfl rfl (Nat.le_of_ble_eq_true rfl) dX5_moveTo_2 (fun H locs hP hD hS => ?_)
  have hP : va_P (dC, dI) vwCl [(a0, .inr (5, [.ref a1, .int 0, .int 0, .int 0, .int 0, .int 0, .ref a2, .int 0, .int (-1)]))] H := hP
  have hD : va_D A [(a0, .inr (5, [.ref a1, .int 0, .int 0, .int 0, .int 0, .int 0, .ref a2, .int 0, .int (-1)]))] := hD
  refine lv_aload_n hx hb dX5_moveTo_5 rfl (lv_at hl 0 rfl) ?_
  refine k_get C0 fg_X5_15 hP 0 rfl rfl dX5_moveTo_6 ?_
  refine lv_aload_n hx hb dX5_moveTo_9 rfl (lv_at hl 0 rfl) ?_
  refine k_get C0 fg_X5_11 hP 0 rfl rfl dX5_moveTo_10 ?_
  refine lv_icmp_ge (tgt := 57) hx hb dX5_moveTo_13 (by decide) (fun _ => ?_) (fun h9 => absurd (by decide) h9)
  refine lv_aload_n hx hb dX5_moveTo_57 rfl (lv_at hl 0 rfl) ?_
  refine lv_aload_n hx hb dX5_moveTo_58 rfl (lv_at hl 0 rfl) ?_
  refine lv_aload_n hx hb dX5_moveTo_59 rfl (lv_at hl 0 rfl) ?_
  refine k_get C0 fg_X5_15 hP 0 rfl rfl dX5_moveTo_60 ?_
  refine k_ji hP hD hS hA [0] [] (wr := []) rfl rfl (by decide) (by decide) (by decide) 0 0 (Nat.le_of_ble_eq_true rfl) (Nat.le_of_ble_eq_true rfl) (fun hPc hDc => k_runV (As := [.int 0]) (rest := [.ref a0]) C0 (c_X5_sortOf l dC dI cy sq a0 a1 a2) mV_X5_252 hPc hDc rfl rfl rfl hl rfl rfl (Nat.le_of_ble_eq_true rfl) ⟨(Nat.le_of_ble_eq_true rfl), (Nat.le_of_ble_eq_true rfl)⟩ ⟨(Nat.le_of_ble_eq_true rfl), (Nat.le_of_ble_eq_true rfl)⟩ dX5_moveTo_63) (fun r847 u848 H locs hw hP hD hS => ?_)
  have hP : va_P (dC, dI) vwCl [(a0, .inr (5, [.ref a1, .int 0, .int 0, .int 0, .int 0, .int 0, .ref a2, .int 0, .int (-1)]))] H := hP
  have hD : va_D A [(a0, .inr (5, [.ref a1, .int 0, .int 0, .int 0, .int 0, .int 0, .ref a2, .int 0, .int (-1)]))] := hD
  subst hw
  refine k_put C0 fp_X5_21 hP hD hS 0 rfl rfl rfl (Nat.le_of_ble_eq_true rfl) dX5_moveTo_66 (fun H locs hP hD hS => ?_)
  have hP : va_P (dC, dI) vwCl [(a0, .inr (5, [.ref a1, .int 0, .int 0, .int 0, .int 0, .int 0, .ref a2, .int 0, .int (-1)]))] H := hP
  have hD : va_D A [(a0, .inr (5, [.ref a1, .int 0, .int 0, .int 0, .int 0, .int 0, .ref a2, .int 0, .int (-1)]))] := hD
  refine lv_aload_n hx hb dX5_moveTo_69 rfl (lv_at hl 0 rfl) ?_
  refine lv_aload_n hx hb dX5_moveTo_70 rfl (lv_at hl 0 rfl) ?_
  refine k_get C0 fg_X5_15 hP 0 rfl rfl dX5_moveTo_71 ?_
  refine lv_iconst (v := 1) hx hb dX5_moveTo_74 (by decide) ?_
  refine lv_iadd hx hb dX5_moveTo_75 ?_
  refine k_topi (y := 1) (by decide) ?_
  refine lv_aload_n hx hb dX5_moveTo_76 rfl (lv_at hl 0 rfl) ?_
  refine k_get C0 fg_X5_11 hP 0 rfl rfl dX5_moveTo_77 ?_
  refine va_mmin hx hb (by rw [C0.2.2.1]; exact hl.1.symm) C0.2.2.2.1 (C0.2.2.2.2.1 _ wd297) (C0.2.2.2.2.1 _ wd298) (C0.2.2.2.2.1 _ wd299) (C0.2.2.2.2.1 _ wd300) (Nat.le_of_ble_eq_true rfl) (Nat.le_of_ble_eq_true rfl) (Nat.le_of_ble_eq_true rfl) (Nat.le_of_ble_eq_true rfl) dX5_moveTo_80 ?_
  refine k_topi (y := 0) (by decide) ?_
  refine k_put C0 fp_X5_18 hP hD hS 0 rfl rfl rfl (Nat.le_of_ble_eq_true rfl) dX5_moveTo_83 (fun H locs hP hD hS => ?_)
  have hP : va_P (dC, dI) vwCl [(a0, .inr (5, [.ref a1, .int 0, .int 0, .int 0, .int 0, .int 0, .ref a2, .int 0, .int (-1)]))] H := hP
  have hD : va_D A [(a0, .inr (5, [.ref a1, .int 0, .int 0, .int 0, .int 0, .int 0, .ref a2, .int 0, .int (-1)]))] := hD
  refine lv_aload_n hx hb dX5_moveTo_86 rfl (lv_at hl 0 rfl) ?_
  refine k_get C0 fg_X5_18 hP 0 rfl rfl dX5_moveTo_87 ?_
  refine lv_aload_n hx hb dX5_moveTo_90 rfl (lv_at hl 0 rfl) ?_
  refine k_get C0 fg_X5_11 hP 0 rfl rfl dX5_moveTo_91 ?_
  refine lv_icmp_ge (tgt := 133) hx hb dX5_moveTo_94 (by decide) (fun _ => ?_) (fun h9 => absurd (by decide) h9)
  refine lv_aload_n hx hb dX5_moveTo_133 rfl (lv_at hl 0 rfl) ?_
  refine k_get C0 fg_X5_15 hP 0 rfl rfl dX5_moveTo_134 ?_
  refine lv_iload_n hx hb dX5_moveTo_137 rfl (lv_at hl 1 rfl) ?_
  refine lv_icmp_gt (tgt := 162) hx hb dX5_moveTo_138 (by decide) (fun h9 => absurd h9 (by decide)) (fun _ => ?_)
  refine lv_aload_n hx hb dX5_moveTo_141 rfl (lv_at hl 0 rfl) ?_
  refine k_get C0 fg_X5_15 hP 0 rfl rfl dX5_moveTo_142 ?_
  refine lv_if_eq (tgt := 162) hx hb dX5_moveTo_145 (by decide) (fun _ => ?_) (fun h9 => absurd (by decide) h9)
  refine lv_iconst (v := 1) hx hb dX5_moveTo_162 (by decide) ?_
  refine lv_goto (tgt := 167) hx hb dX5_moveTo_163 (by decide) ?_
  refine lv_istore_n (lv' := [(2, .int 1), (0, .ref a0), (1, .int 0)]) hx hb dX5_moveTo_167 rfl hl (by decide) rfl (fun ls hl => ?_)
  refine lv_iload_n hx hb dX5_moveTo_168 rfl (lv_at hl 0 rfl) ?_
  refine lv_if_ne (tgt := 193) hx hb dX5_moveTo_169 (by decide) (fun _ => ?_) (fun h9 => absurd h9 (by decide))
  exact k_vret hx hb hr hlk () hS True.intro hP hD (Nat.le_of_ble_eq_true rfl) (Nat.le_of_ble_eq_true rfl) dX5_moveTo_193
set_option maxHeartbeats 4000000 in
set_option maxRecDepth 100000 in
theorem c_X5_begin (l : Launch) (dC : Nat → ClassId) (dI : Nat → Nat → Nat) (cy : Nat → ClassId) (sq : Nat → Nat) (a0 : Nat) (a1 : Nat) (a2 : Nat) (a3 : Nat) (a4 : Nat) (a5 : Nat) (a6 : Nat) (a7 : Nat) (a8 : Nat) (a9 : Nat) (a10 : Nat) (a11 : Nat) : k_Met l yX5_begin cX5_begin 3 none { frames := 2, cells := 0, slots := 0, locals := 43 } dC dI cy sq [.ref a0, .ref a1, .int 0] [(a0, .inr (5, [.ref a4, .int 0, .int 0, .int 0, .int 0, .int 0, .ref a1, .int 0, .int (-1)])), (a1, .inr (4, [.int 0, .int 0, .int 0, .int 0, .int 0, .int 0, .int 0, .ref a5, .ref a6, .ref a7, .int 0, .ref a8, .ref a9, .ref a2, .ref a10, .ref a11, .int 0, .ref a3])), (a2, .inl (cy 0, 200, .inl (fun _ => 0))), (a3, .inl (cy 0, 6, .inl (fun _ => 0))), (a4, .inl (cy 0, 1600, .inl (fun _ => 0)))] (k_Qv dC dI (fun _ : (Nat → Int32) × (Nat → Int32) => True) (fun u : (Nat → Int32) × (Nat → Int32) => match u with | (f859, f860) => [(a4, .inl (cy 0, 1600, .inl (fun _ => 0))), (a1, .inr (4, [.int 0, .int 0, .int 0, .int 0, .int 0, .int 0, .int 0, .ref a5, .ref a6, .ref a7, .int 0, .ref a8, .ref a9, .ref a2, .ref a10, .ref a11, .int 0, .ref a3])), (a2, .inl (cy 0, 200, .inl f859)), (a3, .inl (cy 0, 6, .inl f860)), (a0, .inr (5, [.ref a4, .int 0, .int 0, .int 0, .int 0, .int 0, .ref a1, .int 0, .int (-1)]))])) := by
  refine k_ofW (by decide +kernel) (Nat.le_of_ble_eq_true rfl) ?_
  intro p e s m below meth c A ls H locs C0 hr hlk hin hP hD hA hS hl
  have C0 : k_cx p s m _ c cX5_begin 3 RX5 dC dI cy sq := C0
  have hx := C0.1
  have hb := C0.2.1
  have hl : lv_has ls 3 [(0, .ref a0), (1, .ref a1), (2, .int 0)] := hl
  refine lv_aload_n hx hb dX5_begin_0 rfl (lv_at hl 1 rfl) ?_
  refine k_jv hP hD hS hA [1, 2, 3] [0, 4] (wr := [(a0, .inr (5, [.ref a4, .int 0, .int 0, .int 0, .int 0, .int 0, .ref a1, .int 0, .int (-1)])), (a4, .inl (cy 0, 1600, .inl (fun _ => 0)))]) rfl rfl (by decide) (by decide) (by decide) 0 0 (Nat.le_of_ble_eq_true rfl) (Nat.le_of_ble_eq_true rfl) (fun hPc hDc => k_runV (As := []) (rest := []) C0 (c_X4_clear l dC dI cy sq a1 a2 a3 a5 a6 a7 a8 a9 a10 a11) mV_X5_96 hPc hDc rfl rfl rfl hl rfl rfl (Nat.le_of_ble_eq_true rfl) ⟨(Nat.le_of_ble_eq_true rfl), (Nat.le_of_ble_eq_true rfl)⟩ ⟨(Nat.le_of_ble_eq_true rfl), (Nat.le_of_ble_eq_true rfl)⟩ dX5_begin_1) (fun u858 H locs hw hP hD hS => ?_)
  obtain ⟨f859, f860⟩ := u858
  try dsimp only at hP hD
  have hP : va_P (dC, dI) vwCl [(a0, .inr (5, [.ref a4, .int 0, .int 0, .int 0, .int 0, .int 0, .ref a1, .int 0, .int (-1)])), (a4, .inl (cy 0, 1600, .inl (fun _ => 0))), (a1, .inr (4, [.int 0, .int 0, .int 0, .int 0, .int 0, .int 0, .int 0, .ref a5, .ref a6, .ref a7, .int 0, .ref a8, .ref a9, .ref a2, .ref a10, .ref a11, .int 0, .ref a3])), (a2, .inl (cy 0, 200, .inl f859)), (a3, .inl (cy 0, 6, .inl f860))] H := hP
  have hD : va_D A [(a0, .inr (5, [.ref a4, .int 0, .int 0, .int 0, .int 0, .int 0, .ref a1, .int 0, .int (-1)])), (a4, .inl (cy 0, 1600, .inl (fun _ => 0))), (a1, .inr (4, [.int 0, .int 0, .int 0, .int 0, .int 0, .int 0, .int 0, .ref a5, .ref a6, .ref a7, .int 0, .ref a8, .ref a9, .ref a2, .ref a10, .ref a11, .int 0, .ref a3])), (a2, .inl (cy 0, 200, .inl f859)), (a3, .inl (cy 0, 6, .inl f860))] := hD
  refine lv_aload_n hx hb dX5_begin_4 rfl (lv_at hl 0 rfl) ?_
  refine lv_aload_n hx hb dX5_begin_5 rfl (lv_at hl 1 rfl) ?_
  refine k_put C0 fp_X5_37 hP hD hS 0 rfl rfl rfl (Nat.le_of_ble_eq_true rfl) dX5_begin_6 (fun H locs hP hD hS => ?_)
  have hP : va_P (dC, dI) vwCl [(a0, .inr (5, [.ref a4, .int 0, .int 0, .int 0, .int 0, .int 0, .ref a1, .int 0, .int (-1)])), (a4, .inl (cy 0, 1600, .inl (fun _ => 0))), (a1, .inr (4, [.int 0, .int 0, .int 0, .int 0, .int 0, .int 0, .int 0, .ref a5, .ref a6, .ref a7, .int 0, .ref a8, .ref a9, .ref a2, .ref a10, .ref a11, .int 0, .ref a3])), (a2, .inl (cy 0, 200, .inl f859)), (a3, .inl (cy 0, 6, .inl f860))] H := hP
  have hD : va_D A [(a0, .inr (5, [.ref a4, .int 0, .int 0, .int 0, .int 0, .int 0, .ref a1, .int 0, .int (-1)])), (a4, .inl (cy 0, 1600, .inl (fun _ => 0))), (a1, .inr (4, [.int 0, .int 0, .int 0, .int 0, .int 0, .int 0, .int 0, .ref a5, .ref a6, .ref a7, .int 0, .ref a8, .ref a9, .ref a2, .ref a10, .ref a11, .int 0, .ref a3])), (a2, .inl (cy 0, 200, .inl f859)), (a3, .inl (cy 0, 6, .inl f860))] := hD
  refine lv_aload_n hx hb dX5_begin_9 rfl (lv_at hl 0 rfl) ?_
  refine lv_iload_n hx hb dX5_begin_10 rfl (lv_at hl 2 rfl) ?_
  refine lv_aload_n hx hb dX5_begin_11 rfl (lv_at hl 0 rfl) ?_
  refine k_get C0 fg_X5_33 hP 0 rfl rfl dX5_begin_12 ?_
  refine va_alen hx hb C0.2.2.2.2.2.1 hP 1 0 rfl rfl (v := 1600) (by decide) dX5_begin_15 ?_
  refine va_mmin hx hb (by rw [C0.2.2.1]; exact hl.1.symm) C0.2.2.2.1 (C0.2.2.2.2.1 _ wd297) (C0.2.2.2.2.1 _ wd298) (C0.2.2.2.2.1 _ wd299) (C0.2.2.2.2.1 _ wd300) (Nat.le_of_ble_eq_true rfl) (Nat.le_of_ble_eq_true rfl) (Nat.le_of_ble_eq_true rfl) (Nat.le_of_ble_eq_true rfl) dX5_begin_16 ?_
  refine k_topi (y := 0) (by decide) ?_
  refine k_put C0 fp_X5_11 hP hD hS 0 rfl rfl rfl (Nat.le_of_ble_eq_true rfl) dX5_begin_19 (fun H locs hP hD hS => ?_)
  have hP : va_P (dC, dI) vwCl [(a0, .inr (5, [.ref a4, .int 0, .int 0, .int 0, .int 0, .int 0, .ref a1, .int 0, .int (-1)])), (a4, .inl (cy 0, 1600, .inl (fun _ => 0))), (a1, .inr (4, [.int 0, .int 0, .int 0, .int 0, .int 0, .int 0, .int 0, .ref a5, .ref a6, .ref a7, .int 0, .ref a8, .ref a9, .ref a2, .ref a10, .ref a11, .int 0, .ref a3])), (a2, .inl (cy 0, 200, .inl f859)), (a3, .inl (cy 0, 6, .inl f860))] H := hP
  have hD : va_D A [(a0, .inr (5, [.ref a4, .int 0, .int 0, .int 0, .int 0, .int 0, .ref a1, .int 0, .int (-1)])), (a4, .inl (cy 0, 1600, .inl (fun _ => 0))), (a1, .inr (4, [.int 0, .int 0, .int 0, .int 0, .int 0, .int 0, .int 0, .ref a5, .ref a6, .ref a7, .int 0, .ref a8, .ref a9, .ref a2, .ref a10, .ref a11, .int 0, .ref a3])), (a2, .inl (cy 0, 200, .inl f859)), (a3, .inl (cy 0, 6, .inl f860))] := hD
  refine lv_aload_n hx hb dX5_begin_22 rfl (lv_at hl 0 rfl) ?_
  refine lv_iconst (v := 0) hx hb dX5_begin_23 (by decide) ?_
  refine k_put C0 fp_X5_27 hP hD hS 0 rfl rfl rfl (Nat.le_of_ble_eq_true rfl) dX5_begin_24 (fun H locs hP hD hS => ?_)
  have hP : va_P (dC, dI) vwCl [(a0, .inr (5, [.ref a4, .int 0, .int 0, .int 0, .int 0, .int 0, .ref a1, .int 0, .int (-1)])), (a4, .inl (cy 0, 1600, .inl (fun _ => 0))), (a1, .inr (4, [.int 0, .int 0, .int 0, .int 0, .int 0, .int 0, .int 0, .ref a5, .ref a6, .ref a7, .int 0, .ref a8, .ref a9, .ref a2, .ref a10, .ref a11, .int 0, .ref a3])), (a2, .inl (cy 0, 200, .inl f859)), (a3, .inl (cy 0, 6, .inl f860))] H := hP
  have hD : va_D A [(a0, .inr (5, [.ref a4, .int 0, .int 0, .int 0, .int 0, .int 0, .ref a1, .int 0, .int (-1)])), (a4, .inl (cy 0, 1600, .inl (fun _ => 0))), (a1, .inr (4, [.int 0, .int 0, .int 0, .int 0, .int 0, .int 0, .int 0, .ref a5, .ref a6, .ref a7, .int 0, .ref a8, .ref a9, .ref a2, .ref a10, .ref a11, .int 0, .ref a3])), (a2, .inl (cy 0, 200, .inl f859)), (a3, .inl (cy 0, 6, .inl f860))] := hD
  refine lv_aload_n hx hb dX5_begin_27 rfl (lv_at hl 0 rfl) ?_
  refine lv_iconst (v := (-1)) hx hb dX5_begin_28 (by decide) ?_
  refine k_put C0 fp_X5_30 hP hD hS 0 rfl rfl rfl (Nat.le_of_ble_eq_true rfl) dX5_begin_29 (fun H locs hP hD hS => ?_)
  have hP : va_P (dC, dI) vwCl [(a0, .inr (5, [.ref a4, .int 0, .int 0, .int 0, .int 0, .int 0, .ref a1, .int 0, .int (-1)])), (a4, .inl (cy 0, 1600, .inl (fun _ => 0))), (a1, .inr (4, [.int 0, .int 0, .int 0, .int 0, .int 0, .int 0, .int 0, .ref a5, .ref a6, .ref a7, .int 0, .ref a8, .ref a9, .ref a2, .ref a10, .ref a11, .int 0, .ref a3])), (a2, .inl (cy 0, 200, .inl f859)), (a3, .inl (cy 0, 6, .inl f860))] H := hP
  have hD : va_D A [(a0, .inr (5, [.ref a4, .int 0, .int 0, .int 0, .int 0, .int 0, .ref a1, .int 0, .int (-1)])), (a4, .inl (cy 0, 1600, .inl (fun _ => 0))), (a1, .inr (4, [.int 0, .int 0, .int 0, .int 0, .int 0, .int 0, .int 0, .ref a5, .ref a6, .ref a7, .int 0, .ref a8, .ref a9, .ref a2, .ref a10, .ref a11, .int 0, .ref a3])), (a2, .inl (cy 0, 200, .inl f859)), (a3, .inl (cy 0, 6, .inl f860))] := hD
  refine lv_aload_n hx hb dX5_begin_32 rfl (lv_at hl 0 rfl) ?_
  refine lv_iconst (v := 0) hx hb dX5_begin_33 (by decide) ?_
  refine k_jv hP hD hS hA [0] [1, 2, 3, 4] (wr := [(a4, .inl (cy 0, 1600, .inl (fun _ => 0))), (a1, .inr (4, [.int 0, .int 0, .int 0, .int 0, .int 0, .int 0, .int 0, .ref a5, .ref a6, .ref a7, .int 0, .ref a8, .ref a9, .ref a2, .ref a10, .ref a11, .int 0, .ref a3])), (a2, .inl (cy 0, 200, .inl f859)), (a3, .inl (cy 0, 6, .inl f860))]) rfl rfl (by decide) (by decide) (by decide) 0 0 (Nat.le_of_ble_eq_true rfl) (Nat.le_of_ble_eq_true rfl) (fun hPc hDc => k_runV (As := [.int 0]) (rest := []) C0 (c_X5_moveTo l dC dI cy sq a0 a4 a1) mV_X5_86 hPc hDc rfl rfl rfl hl rfl rfl (Nat.le_of_ble_eq_true rfl) ⟨(Nat.le_of_ble_eq_true rfl), (Nat.le_of_ble_eq_true rfl)⟩ ⟨(Nat.le_of_ble_eq_true rfl), (Nat.le_of_ble_eq_true rfl)⟩ dX5_begin_34) (fun u864 H locs hw hP hD hS => ?_)
  have hP : va_P (dC, dI) vwCl [(a4, .inl (cy 0, 1600, .inl (fun _ => 0))), (a1, .inr (4, [.int 0, .int 0, .int 0, .int 0, .int 0, .int 0, .int 0, .ref a5, .ref a6, .ref a7, .int 0, .ref a8, .ref a9, .ref a2, .ref a10, .ref a11, .int 0, .ref a3])), (a2, .inl (cy 0, 200, .inl f859)), (a3, .inl (cy 0, 6, .inl f860)), (a0, .inr (5, [.ref a4, .int 0, .int 0, .int 0, .int 0, .int 0, .ref a1, .int 0, .int (-1)]))] H := hP
  have hD : va_D A [(a4, .inl (cy 0, 1600, .inl (fun _ => 0))), (a1, .inr (4, [.int 0, .int 0, .int 0, .int 0, .int 0, .int 0, .int 0, .ref a5, .ref a6, .ref a7, .int 0, .ref a8, .ref a9, .ref a2, .ref a10, .ref a11, .int 0, .ref a3])), (a2, .inl (cy 0, 200, .inl f859)), (a3, .inl (cy 0, 6, .inl f860)), (a0, .inr (5, [.ref a4, .int 0, .int 0, .int 0, .int 0, .int 0, .ref a1, .int 0, .int (-1)]))] := hD
  exact k_vret hx hb hr hlk (f859, f860) hS True.intro hP hD (Nat.le_of_ble_eq_true rfl) (Nat.le_of_ble_eq_true rfl) dX5_begin_37
set_option maxHeartbeats 4000000 in
set_option maxRecDepth 100000 in
theorem c_X5_wordIn (l : Launch) (dC : Nat → ClassId) (dI : Nat → Nat → Nat) (cy : Nat → ClassId) (sq : Nat → Nat) (a0 : Nat) (a1 : Nat) (a2 : Nat) (a3 : Nat) : k_Met l yX5_wordIn cX5_wordIn 6 (some .int) { frames := 0, cells := 0, slots := 0, locals := 0 } dC dI cy sq [.ref a0, .ref a3] [(a0, .inr (5, [.ref a1, .int 0, .int 0, .int 0, .int 0, .int 0, .ref a2, .int 0, .int (-1)]))] (k_Qi dC dI (fun (r : Int32) (_ : Unit) => r = (-1)) (fun _ : Unit => [(a0, .inr (5, [.ref a1, .int 0, .int 0, .int 0, .int 0, .int 0, .ref a2, .int 0, .int (-1)]))])) := by
  refine k_ofW (by decide +kernel) (Nat.le_of_ble_eq_true rfl) ?_
  intro p e s m below meth c A ls H locs C0 hr hlk hin hP hD hA hS hl
  have C0 : k_cx p s m _ c cX5_wordIn 6 RX5 dC dI cy sq := C0
  have hx := C0.1
  have hb := C0.2.1
  have hl : lv_has ls 6 [(0, .ref a0), (1, .ref a3)] := hl
  refine lv_aload_n hx hb dX5_wordIn_0 rfl (lv_at hl 0 rfl) ?_
  refine k_get C0 fg_X5_21 hP 0 rfl rfl dX5_wordIn_1 ?_
  refine lv_iconst (v := 1) hx hb dX5_wordIn_4 (by decide) ?_
  refine lv_icmp_eq (tgt := 10) hx hb dX5_wordIn_5 (by decide) (fun h9 => absurd h9 (by decide)) (fun _ => ?_)
  refine lv_iconst (v := (-1)) hx hb dX5_wordIn_8 (by decide) ?_
  exact k_iret hx hb hr hlk rfl () hS rfl hP hD (Nat.le_of_ble_eq_true rfl) (Nat.le_of_ble_eq_true rfl) dX5_wordIn_9
set_option maxHeartbeats 4000000 in
set_option maxRecDepth 100000 in
theorem c_X5_fail (l : Launch) (dC : Nat → ClassId) (dI : Nat → Nat → Nat) (cy : Nat → ClassId) (sq : Nat → Nat) (a0 : Nat) (a1 : Nat) (a2 : Nat) : k_Met l yX5_fail cX5_fail 3 none { frames := 0, cells := 0, slots := 0, locals := 0 } dC dI cy sq [.ref a0, .int 1, .int 0] [(a0, .inr (5, [.ref a1, .int 0, .int 0, .int 0, .int 0, .int 0, .ref a2, .int 0, .int (-1)]))] (k_Qv dC dI (fun _ : Unit => True) (fun _ : Unit => [(a0, .inr (5, [.ref a1, .int 0, .int 0, .int 0, .int 0, .int 0, .ref a2, .int 1, .int 0]))])) := by
  refine k_ofW (by decide +kernel) (Nat.le_of_ble_eq_true rfl) ?_
  intro p e s m below meth c A ls H locs C0 hr hlk hin hP hD hA hS hl
  have C0 : k_cx p s m _ c cX5_fail 3 RX5 dC dI cy sq := C0
  have hx := C0.1
  have hb := C0.2.1
  have hl : lv_has ls 3 [(0, .ref a0), (1, .int 1), (2, .int 0)] := hl
  refine lv_aload_n hx hb dX5_fail_0 rfl (lv_at hl 0 rfl) ?_
  refine k_get C0 fg_X5_27 hP 0 rfl rfl dX5_fail_1 ?_
  refine lv_if_ne (tgt := 17) hx hb dX5_fail_4 (by decide) (fun h9 => absurd (by decide) h9) (fun _ => ?_)
  refine lv_aload_n hx hb dX5_fail_7 rfl (lv_at hl 0 rfl) ?_
  refine lv_iload_n hx hb dX5_fail_8 rfl (lv_at hl 1 rfl) ?_
  refine k_put C0 fp_X5_27 hP hD hS 0 rfl rfl rfl (Nat.le_of_ble_eq_true rfl) dX5_fail_9 (fun H locs hP hD hS => ?_)
  have hP : va_P (dC, dI) vwCl [(a0, .inr (5, [.ref a1, .int 0, .int 0, .int 0, .int 0, .int 0, .ref a2, .int 1, .int (-1)]))] H := hP
  have hD : va_D A [(a0, .inr (5, [.ref a1, .int 0, .int 0, .int 0, .int 0, .int 0, .ref a2, .int 1, .int (-1)]))] := hD
  refine lv_aload_n hx hb dX5_fail_12 rfl (lv_at hl 0 rfl) ?_
  refine lv_iload_n hx hb dX5_fail_13 rfl (lv_at hl 2 rfl) ?_
  refine k_put C0 fp_X5_30 hP hD hS 0 rfl rfl rfl (Nat.le_of_ble_eq_true rfl) dX5_fail_14 (fun H locs hP hD hS => ?_)
  have hP : va_P (dC, dI) vwCl [(a0, .inr (5, [.ref a1, .int 0, .int 0, .int 0, .int 0, .int 0, .ref a2, .int 1, .int 0]))] H := hP
  have hD : va_D A [(a0, .inr (5, [.ref a1, .int 0, .int 0, .int 0, .int 0, .int 0, .ref a2, .int 1, .int 0]))] := hD
  refine lv_aload_n hx hb dX5_fail_17 rfl (lv_at hl 0 rfl) ?_
  refine lv_aload_n hx hb dX5_fail_18 rfl (lv_at hl 0 rfl) ?_
  refine k_get C0 fg_X5_11 hP 0 rfl rfl dX5_fail_19 ?_
  refine k_put C0 fp_X5_15 hP hD hS 0 rfl rfl rfl (Nat.le_of_ble_eq_true rfl) dX5_fail_22 (fun H locs hP hD hS => ?_)
  have hP : va_P (dC, dI) vwCl [(a0, .inr (5, [.ref a1, .int 0, .int 0, .int 0, .int 0, .int 0, .ref a2, .int 1, .int 0]))] H := hP
  have hD : va_D A [(a0, .inr (5, [.ref a1, .int 0, .int 0, .int 0, .int 0, .int 0, .ref a2, .int 1, .int 0]))] := hD
  refine lv_aload_n hx hb dX5_fail_25 rfl (lv_at hl 0 rfl) ?_
  refine lv_aload_n hx hb dX5_fail_26 rfl (lv_at hl 0 rfl) ?_
  refine k_get C0 fg_X5_11 hP 0 rfl rfl dX5_fail_27 ?_
  refine k_put C0 fp_X5_18 hP hD hS 0 rfl rfl rfl (Nat.le_of_ble_eq_true rfl) dX5_fail_30 (fun H locs hP hD hS => ?_)
  have hP : va_P (dC, dI) vwCl [(a0, .inr (5, [.ref a1, .int 0, .int 0, .int 0, .int 0, .int 0, .ref a2, .int 1, .int 0]))] H := hP
  have hD : va_D A [(a0, .inr (5, [.ref a1, .int 0, .int 0, .int 0, .int 0, .int 0, .ref a2, .int 1, .int 0]))] := hD
  refine lv_aload_n hx hb dX5_fail_33 rfl (lv_at hl 0 rfl) ?_
  refine lv_iconst (v := 0) hx hb dX5_fail_34 (by decide) ?_
  refine k_put C0 fp_X5_21 hP hD hS 0 rfl rfl rfl (Nat.le_of_ble_eq_true rfl) dX5_fail_35 (fun H locs hP hD hS => ?_)
  have hP : va_P (dC, dI) vwCl [(a0, .inr (5, [.ref a1, .int 0, .int 0, .int 0, .int 0, .int 0, .ref a2, .int 1, .int 0]))] H := hP
  have hD : va_D A [(a0, .inr (5, [.ref a1, .int 0, .int 0, .int 0, .int 0, .int 0, .ref a2, .int 1, .int 0]))] := hD
  exact k_vret hx hb hr hlk () hS True.intro hP hD (Nat.le_of_ble_eq_true rfl) (Nat.le_of_ble_eq_true rfl) dX5_fail_38
set_option maxHeartbeats 4000000 in
set_option maxRecDepth 100000 in
theorem c_X5_needWord (l : Launch) (dC : Nat → ClassId) (dI : Nat → Nat → Nat) (cy : Nat → ClassId) (sq : Nat → Nat) (a0 : Nat) (a1 : Nat) (a2 : Nat) (a3 : Nat) : k_Met l yX5_needWord cX5_needWord 2 none { frames := 1, cells := 0, slots := 0, locals := 25 } dC dI cy sq [.ref a0, .ref a3] [(a0, .inr (5, [.ref a1, .int 0, .int 0, .int 0, .int 0, .int 0, .ref a2, .int 0, .int (-1)]))] (k_Qv dC dI (fun _ : Unit => True) (fun _ : Unit => [(a0, .inr (5, [.ref a1, .int 0, .int 0, .int 0, .int 0, .int 0, .ref a2, .int 1, .int 0]))])) := by
  refine k_ofW (by decide +kernel) (Nat.le_of_ble_eq_true rfl) ?_
  intro p e s m below meth c A ls H locs C0 hr hlk hin hP hD hA hS hl
  have C0 : k_cx p s m _ c cX5_needWord 2 RX5 dC dI cy sq := C0
  have hx := C0.1
  have hb := C0.2.1
  have hl : lv_has ls 2 [(0, .ref a0), (1, .ref a3)] := hl
  refine lv_aload_n hx hb dX5_needWord_0 rfl (lv_at hl 0 rfl) ?_
  refine lv_aload_n hx hb dX5_needWord_1 rfl (lv_at hl 1 rfl) ?_
  refine k_ji hP hD hS hA [0] [] (wr := []) rfl rfl (by decide) (by decide) (by decide) 0 0 (Nat.le_of_ble_eq_true rfl) (Nat.le_of_ble_eq_true rfl) (fun hPc hDc => k_runV (As := [.ref a3]) (rest := []) C0 (c_X5_wordIn l dC dI cy sq a0 a1 a2 a3) mV_X5_54 hPc hDc rfl rfl rfl hl rfl rfl (Nat.le_of_ble_eq_true rfl) ⟨(Nat.le_of_ble_eq_true rfl), (Nat.le_of_ble_eq_true rfl)⟩ ⟨(Nat.le_of_ble_eq_true rfl), (Nat.le_of_ble_eq_true rfl)⟩ dX5_needWord_2) (fun r873 u874 H locs hw hP hD hS => ?_)
  have hP : va_P (dC, dI) vwCl [(a0, .inr (5, [.ref a1, .int 0, .int 0, .int 0, .int 0, .int 0, .ref a2, .int 0, .int (-1)]))] H := hP
  have hD : va_D A [(a0, .inr (5, [.ref a1, .int 0, .int 0, .int 0, .int 0, .int 0, .ref a2, .int 0, .int (-1)]))] := hD
  subst hw
  refine lv_iconst (v := (-1)) hx hb dX5_needWord_5 (by decide) ?_
  refine lv_icmp_ne (tgt := 21) hx hb dX5_needWord_6 (by decide) (fun h9 => absurd (by decide) h9) (fun _ => ?_)
  refine lv_aload_n hx hb dX5_needWord_9 rfl (lv_at hl 0 rfl) ?_
  refine lv_iconst (v := 1) hx hb dX5_needWord_10 (by decide) ?_
  refine lv_aload_n hx hb dX5_needWord_11 rfl (lv_at hl 0 rfl) ?_
  refine k_get C0 fg_X5_15 hP 0 rfl rfl dX5_needWord_12 ?_
  refine k_jv hP hD hS hA [0] [] (wr := []) rfl rfl (by decide) (by decide) (by decide) 0 0 (Nat.le_of_ble_eq_true rfl) (Nat.le_of_ble_eq_true rfl) (fun hPc hDc => k_runV (As := [.int 1, .int 0]) (rest := []) C0 (c_X5_fail l dC dI cy sq a0 a1 a2) mV_X5_78 hPc hDc rfl rfl rfl hl rfl rfl (Nat.le_of_ble_eq_true rfl) ⟨(Nat.le_of_ble_eq_true rfl), (Nat.le_of_ble_eq_true rfl)⟩ ⟨(Nat.le_of_ble_eq_true rfl), (Nat.le_of_ble_eq_true rfl)⟩ dX5_needWord_15) (fun u876 H locs hw hP hD hS => ?_)
  have hP : va_P (dC, dI) vwCl [(a0, .inr (5, [.ref a1, .int 0, .int 0, .int 0, .int 0, .int 0, .ref a2, .int 1, .int 0]))] H := hP
  have hD : va_D A [(a0, .inr (5, [.ref a1, .int 0, .int 0, .int 0, .int 0, .int 0, .ref a2, .int 1, .int 0]))] := hD
  refine lv_goto (tgt := 29) hx hb dX5_needWord_18 (by decide) ?_
  exact k_vret hx hb hr hlk () hS True.intro hP hD (Nat.le_of_ble_eq_true rfl) (Nat.le_of_ble_eq_true rfl) dX5_needWord_29
set_option maxHeartbeats 4000000 in
set_option maxRecDepth 100000 in
theorem c_X5_fail_1 (l : Launch) (dC : Nat → ClassId) (dI : Nat → Nat → Nat) (cy : Nat → ClassId) (sq : Nat → Nat) (a0 : Nat) (a1 : Nat) (a2 : Nat) : k_Met l yX5_fail cX5_fail 3 none { frames := 0, cells := 0, slots := 0, locals := 0 } dC dI cy sq [.ref a0, .int 1, .int 0] [(a0, .inr (5, [.ref a1, .int 0, .int 0, .int 0, .int 0, .int 0, .ref a2, .int 1, .int 0]))] (k_Qv dC dI (fun _ : Unit => True) (fun _ : Unit => [(a0, .inr (5, [.ref a1, .int 0, .int 0, .int 0, .int 0, .int 0, .ref a2, .int 1, .int 0]))])) := by
  refine k_ofW (by decide +kernel) (Nat.le_of_ble_eq_true rfl) ?_
  intro p e s m below meth c A ls H locs C0 hr hlk hin hP hD hA hS hl
  have C0 : k_cx p s m _ c cX5_fail 3 RX5 dC dI cy sq := C0
  have hx := C0.1
  have hb := C0.2.1
  have hl : lv_has ls 3 [(0, .ref a0), (1, .int 1), (2, .int 0)] := hl
  refine lv_aload_n hx hb dX5_fail_0 rfl (lv_at hl 0 rfl) ?_
  refine k_get C0 fg_X5_27 hP 0 rfl rfl dX5_fail_1 ?_
  refine lv_if_ne (tgt := 17) hx hb dX5_fail_4 (by decide) (fun _ => ?_) (fun h9 => absurd h9 (by decide))
  refine lv_aload_n hx hb dX5_fail_17 rfl (lv_at hl 0 rfl) ?_
  refine lv_aload_n hx hb dX5_fail_18 rfl (lv_at hl 0 rfl) ?_
  refine k_get C0 fg_X5_11 hP 0 rfl rfl dX5_fail_19 ?_
  refine k_put C0 fp_X5_15 hP hD hS 0 rfl rfl rfl (Nat.le_of_ble_eq_true rfl) dX5_fail_22 (fun H locs hP hD hS => ?_)
  have hP : va_P (dC, dI) vwCl [(a0, .inr (5, [.ref a1, .int 0, .int 0, .int 0, .int 0, .int 0, .ref a2, .int 1, .int 0]))] H := hP
  have hD : va_D A [(a0, .inr (5, [.ref a1, .int 0, .int 0, .int 0, .int 0, .int 0, .ref a2, .int 1, .int 0]))] := hD
  refine lv_aload_n hx hb dX5_fail_25 rfl (lv_at hl 0 rfl) ?_
  refine lv_aload_n hx hb dX5_fail_26 rfl (lv_at hl 0 rfl) ?_
  refine k_get C0 fg_X5_11 hP 0 rfl rfl dX5_fail_27 ?_
  refine k_put C0 fp_X5_18 hP hD hS 0 rfl rfl rfl (Nat.le_of_ble_eq_true rfl) dX5_fail_30 (fun H locs hP hD hS => ?_)
  have hP : va_P (dC, dI) vwCl [(a0, .inr (5, [.ref a1, .int 0, .int 0, .int 0, .int 0, .int 0, .ref a2, .int 1, .int 0]))] H := hP
  have hD : va_D A [(a0, .inr (5, [.ref a1, .int 0, .int 0, .int 0, .int 0, .int 0, .ref a2, .int 1, .int 0]))] := hD
  refine lv_aload_n hx hb dX5_fail_33 rfl (lv_at hl 0 rfl) ?_
  refine lv_iconst (v := 0) hx hb dX5_fail_34 (by decide) ?_
  refine k_put C0 fp_X5_21 hP hD hS 0 rfl rfl rfl (Nat.le_of_ble_eq_true rfl) dX5_fail_35 (fun H locs hP hD hS => ?_)
  have hP : va_P (dC, dI) vwCl [(a0, .inr (5, [.ref a1, .int 0, .int 0, .int 0, .int 0, .int 0, .ref a2, .int 1, .int 0]))] H := hP
  have hD : va_D A [(a0, .inr (5, [.ref a1, .int 0, .int 0, .int 0, .int 0, .int 0, .ref a2, .int 1, .int 0]))] := hD
  exact k_vret hx hb hr hlk () hS True.intro hP hD (Nat.le_of_ble_eq_true rfl) (Nat.le_of_ble_eq_true rfl) dX5_fail_38
set_option maxHeartbeats 4000000 in
set_option maxRecDepth 100000 in
theorem c_X5_number (l : Launch) (dC : Nat → ClassId) (dI : Nat → Nat → Nat) (cy : Nat → ClassId) (sq : Nat → Nat) (a0 : Nat) (a1 : Nat) (a2 : Nat) : k_Met l yX5_number cX5_number 5 (some .int) { frames := 1, cells := 0, slots := 0, locals := 22 } dC dI cy sq [.ref a0, .int 10, .int 120] [(a0, .inr (5, [.ref a1, .int 0, .int 0, .int 0, .int 0, .int 0, .ref a2, .int 1, .int 0]))] (k_Qi dC dI (fun (r : Int32) (_ : Unit) => r = 10) (fun _ : Unit => [(a0, .inr (5, [.ref a1, .int 0, .int 0, .int 0, .int 0, .int 0, .ref a2, .int 1, .int 0]))])) := by
  refine k_ofW (by decide +kernel) (Nat.le_of_ble_eq_true rfl) ?_
  intro p e s m below meth c A ls H locs C0 hr hlk hin hP hD hA hS hl
  have C0 : k_cx p s m _ c cX5_number 5 RX5 dC dI cy sq := C0
  have hx := C0.1
  have hb := C0.2.1
  have hl : lv_has ls 5 [(0, .ref a0), (1, .int 10), (2, .int 120)] := hl
  refine lv_aload_n hx hb dX5_number_0 rfl (lv_at hl 0 rfl) ?_
  refine k_get C0 fg_X5_21 hP 0 rfl rfl dX5_number_1 ?_
  refine lv_iconst (v := 2) hx hb dX5_number_4 (by decide) ?_
  refine lv_icmp_eq (tgt := 19) hx hb dX5_number_5 (by decide) (fun h9 => absurd h9 (by decide)) (fun _ => ?_)
  refine lv_aload_n hx hb dX5_number_8 rfl (lv_at hl 0 rfl) ?_
  refine lv_iconst (v := 1) hx hb dX5_number_9 (by decide) ?_
  refine lv_aload_n hx hb dX5_number_10 rfl (lv_at hl 0 rfl) ?_
  refine k_get C0 fg_X5_15 hP 0 rfl rfl dX5_number_11 ?_
  refine k_jv hP hD hS hA [0] [] (wr := []) rfl rfl (by decide) (by decide) (by decide) 0 0 (Nat.le_of_ble_eq_true rfl) (Nat.le_of_ble_eq_true rfl) (fun hPc hDc => k_runV (As := [.int 1, .int 0]) (rest := []) C0 (c_X5_fail_1 l dC dI cy sq a0 a1 a2) mV_X5_78 hPc hDc rfl rfl rfl hl rfl rfl (Nat.le_of_ble_eq_true rfl) ⟨(Nat.le_of_ble_eq_true rfl), (Nat.le_of_ble_eq_true rfl)⟩ ⟨(Nat.le_of_ble_eq_true rfl), (Nat.le_of_ble_eq_true rfl)⟩ dX5_number_14) (fun u882 H locs hw hP hD hS => ?_)
  have hP : va_P (dC, dI) vwCl [(a0, .inr (5, [.ref a1, .int 0, .int 0, .int 0, .int 0, .int 0, .ref a2, .int 1, .int 0]))] H := hP
  have hD : va_D A [(a0, .inr (5, [.ref a1, .int 0, .int 0, .int 0, .int 0, .int 0, .ref a2, .int 1, .int 0]))] := hD
  refine lv_iload_n hx hb dX5_number_17 rfl (lv_at hl 1 rfl) ?_
  exact k_iret hx hb hr hlk rfl () hS rfl hP hD (Nat.le_of_ble_eq_true rfl) (Nat.le_of_ble_eq_true rfl) dX5_number_18
set_option maxHeartbeats 4000000 in
set_option maxRecDepth 100000 in
theorem c_X5_numberBehind (l : Launch) (dC : Nat → ClassId) (dI : Nat → Nat → Nat) (cy : Nat → ClassId) (sq : Nat → Nat) (a0 : Nat) (a1 : Nat) (a2 : Nat) (a3 : Nat) : k_Met l yX5_numberBehind cX5_numberBehind 4 (some .int) { frames := 2, cells := 0, slots := 0, locals := 46 } dC dI cy sq [.ref a0, .ref a3, .int 10, .int 120] [(a0, .inr (5, [.ref a1, .int 0, .int 0, .int 0, .int 0, .int 0, .ref a2, .int 0, .int (-1)]))] (k_Qi dC dI (fun (r : Int32) (_ : Unit) => r = 10) (fun _ : Unit => [(a0, .inr (5, [.ref a1, .int 0, .int 0, .int 0, .int 0, .int 0, .ref a2, .int 1, .int 0]))])) := by
  refine k_ofW (by decide +kernel) (Nat.le_of_ble_eq_true rfl) ?_
  intro p e s m below meth c A ls H locs C0 hr hlk hin hP hD hA hS hl
  have C0 : k_cx p s m _ c cX5_numberBehind 4 RX5 dC dI cy sq := C0
  have hx := C0.1
  have hb := C0.2.1
  have hl : lv_has ls 4 [(0, .ref a0), (1, .ref a3), (2, .int 10), (3, .int 120)] := hl
  refine lv_aload_n hx hb dX5_numberBehind_0 rfl (lv_at hl 0 rfl) ?_
  refine lv_aload_n hx hb dX5_numberBehind_1 rfl (lv_at hl 1 rfl) ?_
  refine k_jv hP hD hS hA [0] [] (wr := []) rfl rfl (by decide) (by decide) (by decide) 0 0 (Nat.le_of_ble_eq_true rfl) (Nat.le_of_ble_eq_true rfl) (fun hPc hDc => k_runV (As := [.ref a3]) (rest := []) C0 (c_X5_needWord l dC dI cy sq a0 a1 a2 a3) mV_X5_144 hPc hDc rfl rfl rfl hl rfl rfl (Nat.le_of_ble_eq_true rfl) ⟨(Nat.le_of_ble_eq_true rfl), (Nat.le_of_ble_eq_true rfl)⟩ ⟨(Nat.le_of_ble_eq_true rfl), (Nat.le_of_ble_eq_true rfl)⟩ dX5_numberBehind_2) (fun u890 H locs hw hP hD hS => ?_)
  have hP : va_P (dC, dI) vwCl [(a0, .inr (5, [.ref a1, .int 0, .int 0, .int 0, .int 0, .int 0, .ref a2, .int 1, .int 0]))] H := hP
  have hD : va_D A [(a0, .inr (5, [.ref a1, .int 0, .int 0, .int 0, .int 0, .int 0, .ref a2, .int 1, .int 0]))] := hD
  refine lv_aload_n hx hb dX5_numberBehind_5 rfl (lv_at hl 0 rfl) ?_
  refine lv_iload_n hx hb dX5_numberBehind_6 rfl (lv_at hl 2 rfl) ?_
  refine lv_iload_n hx hb dX5_numberBehind_7 rfl (lv_at hl 3 rfl) ?_
  refine k_ji hP hD hS hA [0] [] (wr := []) rfl rfl (by decide) (by decide) (by decide) 0 0 (Nat.le_of_ble_eq_true rfl) (Nat.le_of_ble_eq_true rfl) (fun hPc hDc => k_runV (As := [.int 10, .int 120]) (rest := []) C0 (c_X5_number l dC dI cy sq a0 a1 a2) mV_X5_168 hPc hDc rfl rfl rfl hl rfl rfl (Nat.le_of_ble_eq_true rfl) ⟨(Nat.le_of_ble_eq_true rfl), (Nat.le_of_ble_eq_true rfl)⟩ ⟨(Nat.le_of_ble_eq_true rfl), (Nat.le_of_ble_eq_true rfl)⟩ dX5_numberBehind_8) (fun r893 u894 H locs hw hP hD hS => ?_)
  have hP : va_P (dC, dI) vwCl [(a0, .inr (5, [.ref a1, .int 0, .int 0, .int 0, .int 0, .int 0, .ref a2, .int 1, .int 0]))] H := hP
  have hD : va_D A [(a0, .inr (5, [.ref a1, .int 0, .int 0, .int 0, .int 0, .int 0, .ref a2, .int 1, .int 0]))] := hD
  subst hw
  exact k_iret hx hb hr hlk rfl () hS rfl hP hD (Nat.le_of_ble_eq_true rfl) (Nat.le_of_ble_eq_true rfl) dX5_numberBehind_11
set_option maxHeartbeats 4000000 in
set_option maxRecDepth 100000 in
theorem c_X5_wordIn_1 (l : Launch) (dC : Nat → ClassId) (dI : Nat → Nat → Nat) (cy : Nat → ClassId) (sq : Nat → Nat) (a0 : Nat) (a1 : Nat) (a2 : Nat) (a3 : Nat) : k_Met l yX5_wordIn cX5_wordIn 6 (some .int) { frames := 0, cells := 0, slots := 0, locals := 0 } dC dI cy sq [.ref a0, .ref a3] [(a0, .inr (5, [.ref a1, .int 0, .int 0, .int 0, .int 0, .int 0, .ref a2, .int 1, .int 0]))] (k_Qi dC dI (fun (r : Int32) (_ : Unit) => r = (-1)) (fun _ : Unit => [(a0, .inr (5, [.ref a1, .int 0, .int 0, .int 0, .int 0, .int 0, .ref a2, .int 1, .int 0]))])) := by
  refine k_ofW (by decide +kernel) (Nat.le_of_ble_eq_true rfl) ?_
  intro p e s m below meth c A ls H locs C0 hr hlk hin hP hD hA hS hl
  have C0 : k_cx p s m _ c cX5_wordIn 6 RX5 dC dI cy sq := C0
  have hx := C0.1
  have hb := C0.2.1
  have hl : lv_has ls 6 [(0, .ref a0), (1, .ref a3)] := hl
  refine lv_aload_n hx hb dX5_wordIn_0 rfl (lv_at hl 0 rfl) ?_
  refine k_get C0 fg_X5_21 hP 0 rfl rfl dX5_wordIn_1 ?_
  refine lv_iconst (v := 1) hx hb dX5_wordIn_4 (by decide) ?_
  refine lv_icmp_eq (tgt := 10) hx hb dX5_wordIn_5 (by decide) (fun h9 => absurd h9 (by decide)) (fun _ => ?_)
  refine lv_iconst (v := (-1)) hx hb dX5_wordIn_8 (by decide) ?_
  exact k_iret hx hb hr hlk rfl () hS rfl hP hD (Nat.le_of_ble_eq_true rfl) (Nat.le_of_ble_eq_true rfl) dX5_wordIn_9
set_option maxHeartbeats 4000000 in
set_option maxRecDepth 100000 in
theorem c_X5_needWord_1 (l : Launch) (dC : Nat → ClassId) (dI : Nat → Nat → Nat) (cy : Nat → ClassId) (sq : Nat → Nat) (a0 : Nat) (a1 : Nat) (a2 : Nat) (a3 : Nat) : k_Met l yX5_needWord cX5_needWord 2 none { frames := 1, cells := 0, slots := 0, locals := 25 } dC dI cy sq [.ref a0, .ref a3] [(a0, .inr (5, [.ref a1, .int 0, .int 0, .int 0, .int 0, .int 0, .ref a2, .int 1, .int 0]))] (k_Qv dC dI (fun _ : Unit => True) (fun _ : Unit => [(a0, .inr (5, [.ref a1, .int 0, .int 0, .int 0, .int 0, .int 0, .ref a2, .int 1, .int 0]))])) := by
  refine k_ofW (by decide +kernel) (Nat.le_of_ble_eq_true rfl) ?_
  intro p e s m below meth c A ls H locs C0 hr hlk hin hP hD hA hS hl
  have C0 : k_cx p s m _ c cX5_needWord 2 RX5 dC dI cy sq := C0
  have hx := C0.1
  have hb := C0.2.1
  have hl : lv_has ls 2 [(0, .ref a0), (1, .ref a3)] := hl
  refine lv_aload_n hx hb dX5_needWord_0 rfl (lv_at hl 0 rfl) ?_
  refine lv_aload_n hx hb dX5_needWord_1 rfl (lv_at hl 1 rfl) ?_
  refine k_ji hP hD hS hA [0] [] (wr := []) rfl rfl (by decide) (by decide) (by decide) 0 0 (Nat.le_of_ble_eq_true rfl) (Nat.le_of_ble_eq_true rfl) (fun hPc hDc => k_runV (As := [.ref a3]) (rest := []) C0 (c_X5_wordIn_1 l dC dI cy sq a0 a1 a2 a3) mV_X5_54 hPc hDc rfl rfl rfl hl rfl rfl (Nat.le_of_ble_eq_true rfl) ⟨(Nat.le_of_ble_eq_true rfl), (Nat.le_of_ble_eq_true rfl)⟩ ⟨(Nat.le_of_ble_eq_true rfl), (Nat.le_of_ble_eq_true rfl)⟩ dX5_needWord_2) (fun r901 u902 H locs hw hP hD hS => ?_)
  have hP : va_P (dC, dI) vwCl [(a0, .inr (5, [.ref a1, .int 0, .int 0, .int 0, .int 0, .int 0, .ref a2, .int 1, .int 0]))] H := hP
  have hD : va_D A [(a0, .inr (5, [.ref a1, .int 0, .int 0, .int 0, .int 0, .int 0, .ref a2, .int 1, .int 0]))] := hD
  subst hw
  refine lv_iconst (v := (-1)) hx hb dX5_needWord_5 (by decide) ?_
  refine lv_icmp_ne (tgt := 21) hx hb dX5_needWord_6 (by decide) (fun h9 => absurd (by decide) h9) (fun _ => ?_)
  refine lv_aload_n hx hb dX5_needWord_9 rfl (lv_at hl 0 rfl) ?_
  refine lv_iconst (v := 1) hx hb dX5_needWord_10 (by decide) ?_
  refine lv_aload_n hx hb dX5_needWord_11 rfl (lv_at hl 0 rfl) ?_
  refine k_get C0 fg_X5_15 hP 0 rfl rfl dX5_needWord_12 ?_
  refine k_jv hP hD hS hA [0] [] (wr := []) rfl rfl (by decide) (by decide) (by decide) 0 0 (Nat.le_of_ble_eq_true rfl) (Nat.le_of_ble_eq_true rfl) (fun hPc hDc => k_runV (As := [.int 1, .int 0]) (rest := []) C0 (c_X5_fail_1 l dC dI cy sq a0 a1 a2) mV_X5_78 hPc hDc rfl rfl rfl hl rfl rfl (Nat.le_of_ble_eq_true rfl) ⟨(Nat.le_of_ble_eq_true rfl), (Nat.le_of_ble_eq_true rfl)⟩ ⟨(Nat.le_of_ble_eq_true rfl), (Nat.le_of_ble_eq_true rfl)⟩ dX5_needWord_15) (fun u904 H locs hw hP hD hS => ?_)
  have hP : va_P (dC, dI) vwCl [(a0, .inr (5, [.ref a1, .int 0, .int 0, .int 0, .int 0, .int 0, .ref a2, .int 1, .int 0]))] H := hP
  have hD : va_D A [(a0, .inr (5, [.ref a1, .int 0, .int 0, .int 0, .int 0, .int 0, .ref a2, .int 1, .int 0]))] := hD
  refine lv_goto (tgt := 29) hx hb dX5_needWord_18 (by decide) ?_
  exact k_vret hx hb hr hlk () hS True.intro hP hD (Nat.le_of_ble_eq_true rfl) (Nat.le_of_ble_eq_true rfl) dX5_needWord_29
set_option maxHeartbeats 4000000 in
set_option maxRecDepth 100000 in
theorem c_X5_number_1 (l : Launch) (dC : Nat → ClassId) (dI : Nat → Nat → Nat) (cy : Nat → ClassId) (sq : Nat → Nat) (a0 : Nat) (a1 : Nat) (a2 : Nat) : k_Met l yX5_number cX5_number 5 (some .int) { frames := 1, cells := 0, slots := 0, locals := 22 } dC dI cy sq [.ref a0, .int 1, .int 9] [(a0, .inr (5, [.ref a1, .int 0, .int 0, .int 0, .int 0, .int 0, .ref a2, .int 1, .int 0]))] (k_Qi dC dI (fun (r : Int32) (_ : Unit) => r = 1) (fun _ : Unit => [(a0, .inr (5, [.ref a1, .int 0, .int 0, .int 0, .int 0, .int 0, .ref a2, .int 1, .int 0]))])) := by
  refine k_ofW (by decide +kernel) (Nat.le_of_ble_eq_true rfl) ?_
  intro p e s m below meth c A ls H locs C0 hr hlk hin hP hD hA hS hl
  have C0 : k_cx p s m _ c cX5_number 5 RX5 dC dI cy sq := C0
  have hx := C0.1
  have hb := C0.2.1
  have hl : lv_has ls 5 [(0, .ref a0), (1, .int 1), (2, .int 9)] := hl
  refine lv_aload_n hx hb dX5_number_0 rfl (lv_at hl 0 rfl) ?_
  refine k_get C0 fg_X5_21 hP 0 rfl rfl dX5_number_1 ?_
  refine lv_iconst (v := 2) hx hb dX5_number_4 (by decide) ?_
  refine lv_icmp_eq (tgt := 19) hx hb dX5_number_5 (by decide) (fun h9 => absurd h9 (by decide)) (fun _ => ?_)
  refine lv_aload_n hx hb dX5_number_8 rfl (lv_at hl 0 rfl) ?_
  refine lv_iconst (v := 1) hx hb dX5_number_9 (by decide) ?_
  refine lv_aload_n hx hb dX5_number_10 rfl (lv_at hl 0 rfl) ?_
  refine k_get C0 fg_X5_15 hP 0 rfl rfl dX5_number_11 ?_
  refine k_jv hP hD hS hA [0] [] (wr := []) rfl rfl (by decide) (by decide) (by decide) 0 0 (Nat.le_of_ble_eq_true rfl) (Nat.le_of_ble_eq_true rfl) (fun hPc hDc => k_runV (As := [.int 1, .int 0]) (rest := []) C0 (c_X5_fail_1 l dC dI cy sq a0 a1 a2) mV_X5_78 hPc hDc rfl rfl rfl hl rfl rfl (Nat.le_of_ble_eq_true rfl) ⟨(Nat.le_of_ble_eq_true rfl), (Nat.le_of_ble_eq_true rfl)⟩ ⟨(Nat.le_of_ble_eq_true rfl), (Nat.le_of_ble_eq_true rfl)⟩ dX5_number_14) (fun u910 H locs hw hP hD hS => ?_)
  have hP : va_P (dC, dI) vwCl [(a0, .inr (5, [.ref a1, .int 0, .int 0, .int 0, .int 0, .int 0, .ref a2, .int 1, .int 0]))] H := hP
  have hD : va_D A [(a0, .inr (5, [.ref a1, .int 0, .int 0, .int 0, .int 0, .int 0, .ref a2, .int 1, .int 0]))] := hD
  refine lv_iload_n hx hb dX5_number_17 rfl (lv_at hl 1 rfl) ?_
  exact k_iret hx hb hr hlk rfl () hS rfl hP hD (Nat.le_of_ble_eq_true rfl) (Nat.le_of_ble_eq_true rfl) dX5_number_18
set_option maxHeartbeats 4000000 in
set_option maxRecDepth 100000 in
theorem c_X5_numberBehind_1 (l : Launch) (dC : Nat → ClassId) (dI : Nat → Nat → Nat) (cy : Nat → ClassId) (sq : Nat → Nat) (a0 : Nat) (a1 : Nat) (a2 : Nat) (a3 : Nat) : k_Met l yX5_numberBehind cX5_numberBehind 4 (some .int) { frames := 2, cells := 0, slots := 0, locals := 46 } dC dI cy sq [.ref a0, .ref a3, .int 1, .int 9] [(a0, .inr (5, [.ref a1, .int 0, .int 0, .int 0, .int 0, .int 0, .ref a2, .int 1, .int 0]))] (k_Qi dC dI (fun (r : Int32) (_ : Unit) => r = 1) (fun _ : Unit => [(a0, .inr (5, [.ref a1, .int 0, .int 0, .int 0, .int 0, .int 0, .ref a2, .int 1, .int 0]))])) := by
  refine k_ofW (by decide +kernel) (Nat.le_of_ble_eq_true rfl) ?_
  intro p e s m below meth c A ls H locs C0 hr hlk hin hP hD hA hS hl
  have C0 : k_cx p s m _ c cX5_numberBehind 4 RX5 dC dI cy sq := C0
  have hx := C0.1
  have hb := C0.2.1
  have hl : lv_has ls 4 [(0, .ref a0), (1, .ref a3), (2, .int 1), (3, .int 9)] := hl
  refine lv_aload_n hx hb dX5_numberBehind_0 rfl (lv_at hl 0 rfl) ?_
  refine lv_aload_n hx hb dX5_numberBehind_1 rfl (lv_at hl 1 rfl) ?_
  refine k_jv hP hD hS hA [0] [] (wr := []) rfl rfl (by decide) (by decide) (by decide) 0 0 (Nat.le_of_ble_eq_true rfl) (Nat.le_of_ble_eq_true rfl) (fun hPc hDc => k_runV (As := [.ref a3]) (rest := []) C0 (c_X5_needWord_1 l dC dI cy sq a0 a1 a2 a3) mV_X5_144 hPc hDc rfl rfl rfl hl rfl rfl (Nat.le_of_ble_eq_true rfl) ⟨(Nat.le_of_ble_eq_true rfl), (Nat.le_of_ble_eq_true rfl)⟩ ⟨(Nat.le_of_ble_eq_true rfl), (Nat.le_of_ble_eq_true rfl)⟩ dX5_numberBehind_2) (fun u918 H locs hw hP hD hS => ?_)
  have hP : va_P (dC, dI) vwCl [(a0, .inr (5, [.ref a1, .int 0, .int 0, .int 0, .int 0, .int 0, .ref a2, .int 1, .int 0]))] H := hP
  have hD : va_D A [(a0, .inr (5, [.ref a1, .int 0, .int 0, .int 0, .int 0, .int 0, .ref a2, .int 1, .int 0]))] := hD
  refine lv_aload_n hx hb dX5_numberBehind_5 rfl (lv_at hl 0 rfl) ?_
  refine lv_iload_n hx hb dX5_numberBehind_6 rfl (lv_at hl 2 rfl) ?_
  refine lv_iload_n hx hb dX5_numberBehind_7 rfl (lv_at hl 3 rfl) ?_
  refine k_ji hP hD hS hA [0] [] (wr := []) rfl rfl (by decide) (by decide) (by decide) 0 0 (Nat.le_of_ble_eq_true rfl) (Nat.le_of_ble_eq_true rfl) (fun hPc hDc => k_runV (As := [.int 1, .int 9]) (rest := []) C0 (c_X5_number_1 l dC dI cy sq a0 a1 a2) mV_X5_168 hPc hDc rfl rfl rfl hl rfl rfl (Nat.le_of_ble_eq_true rfl) ⟨(Nat.le_of_ble_eq_true rfl), (Nat.le_of_ble_eq_true rfl)⟩ ⟨(Nat.le_of_ble_eq_true rfl), (Nat.le_of_ble_eq_true rfl)⟩ dX5_numberBehind_8) (fun r921 u922 H locs hw hP hD hS => ?_)
  have hP : va_P (dC, dI) vwCl [(a0, .inr (5, [.ref a1, .int 0, .int 0, .int 0, .int 0, .int 0, .ref a2, .int 1, .int 0]))] H := hP
  have hD : va_D A [(a0, .inr (5, [.ref a1, .int 0, .int 0, .int 0, .int 0, .int 0, .ref a2, .int 1, .int 0]))] := hD
  subst hw
  exact k_iret hx hb hr hlk rfl () hS rfl hP hD (Nat.le_of_ble_eq_true rfl) (Nat.le_of_ble_eq_true rfl) dX5_numberBehind_11
set_option maxHeartbeats 4000000 in
set_option maxRecDepth 100000 in
theorem c_X5_number_2 (l : Launch) (dC : Nat → ClassId) (dI : Nat → Nat → Nat) (cy : Nat → ClassId) (sq : Nat → Nat) (a0 : Nat) (a1 : Nat) (a2 : Nat) : k_Met l yX5_number cX5_number 5 (some .int) { frames := 1, cells := 0, slots := 0, locals := 22 } dC dI cy sq [.ref a0, .int 0, .int 2] [(a0, .inr (5, [.ref a1, .int 0, .int 0, .int 0, .int 0, .int 0, .ref a2, .int 1, .int 0]))] (k_Qi dC dI (fun (r : Int32) (_ : Unit) => r = 0) (fun _ : Unit => [(a0, .inr (5, [.ref a1, .int 0, .int 0, .int 0, .int 0, .int 0, .ref a2, .int 1, .int 0]))])) := by
  refine k_ofW (by decide +kernel) (Nat.le_of_ble_eq_true rfl) ?_
  intro p e s m below meth c A ls H locs C0 hr hlk hin hP hD hA hS hl
  have C0 : k_cx p s m _ c cX5_number 5 RX5 dC dI cy sq := C0
  have hx := C0.1
  have hb := C0.2.1
  have hl : lv_has ls 5 [(0, .ref a0), (1, .int 0), (2, .int 2)] := hl
  refine lv_aload_n hx hb dX5_number_0 rfl (lv_at hl 0 rfl) ?_
  refine k_get C0 fg_X5_21 hP 0 rfl rfl dX5_number_1 ?_
  refine lv_iconst (v := 2) hx hb dX5_number_4 (by decide) ?_
  refine lv_icmp_eq (tgt := 19) hx hb dX5_number_5 (by decide) (fun h9 => absurd h9 (by decide)) (fun _ => ?_)
  refine lv_aload_n hx hb dX5_number_8 rfl (lv_at hl 0 rfl) ?_
  refine lv_iconst (v := 1) hx hb dX5_number_9 (by decide) ?_
  refine lv_aload_n hx hb dX5_number_10 rfl (lv_at hl 0 rfl) ?_
  refine k_get C0 fg_X5_15 hP 0 rfl rfl dX5_number_11 ?_
  refine k_jv hP hD hS hA [0] [] (wr := []) rfl rfl (by decide) (by decide) (by decide) 0 0 (Nat.le_of_ble_eq_true rfl) (Nat.le_of_ble_eq_true rfl) (fun hPc hDc => k_runV (As := [.int 1, .int 0]) (rest := []) C0 (c_X5_fail_1 l dC dI cy sq a0 a1 a2) mV_X5_78 hPc hDc rfl rfl rfl hl rfl rfl (Nat.le_of_ble_eq_true rfl) ⟨(Nat.le_of_ble_eq_true rfl), (Nat.le_of_ble_eq_true rfl)⟩ ⟨(Nat.le_of_ble_eq_true rfl), (Nat.le_of_ble_eq_true rfl)⟩ dX5_number_14) (fun u934 H locs hw hP hD hS => ?_)
  have hP : va_P (dC, dI) vwCl [(a0, .inr (5, [.ref a1, .int 0, .int 0, .int 0, .int 0, .int 0, .ref a2, .int 1, .int 0]))] H := hP
  have hD : va_D A [(a0, .inr (5, [.ref a1, .int 0, .int 0, .int 0, .int 0, .int 0, .ref a2, .int 1, .int 0]))] := hD
  refine lv_iload_n hx hb dX5_number_17 rfl (lv_at hl 1 rfl) ?_
  exact k_iret hx hb hr hlk rfl () hS rfl hP hD (Nat.le_of_ble_eq_true rfl) (Nat.le_of_ble_eq_true rfl) dX5_number_18
set_option maxHeartbeats 4000000 in
set_option maxRecDepth 100000 in
theorem c_X5_numberBehind_2 (l : Launch) (dC : Nat → ClassId) (dI : Nat → Nat → Nat) (cy : Nat → ClassId) (sq : Nat → Nat) (a0 : Nat) (a1 : Nat) (a2 : Nat) (a3 : Nat) : k_Met l yX5_numberBehind cX5_numberBehind 4 (some .int) { frames := 2, cells := 0, slots := 0, locals := 46 } dC dI cy sq [.ref a0, .ref a3, .int 0, .int 2] [(a0, .inr (5, [.ref a1, .int 0, .int 0, .int 0, .int 0, .int 0, .ref a2, .int 1, .int 0]))] (k_Qi dC dI (fun (r : Int32) (_ : Unit) => r = 0) (fun _ : Unit => [(a0, .inr (5, [.ref a1, .int 0, .int 0, .int 0, .int 0, .int 0, .ref a2, .int 1, .int 0]))])) := by
  refine k_ofW (by decide +kernel) (Nat.le_of_ble_eq_true rfl) ?_
  intro p e s m below meth c A ls H locs C0 hr hlk hin hP hD hA hS hl
  have C0 : k_cx p s m _ c cX5_numberBehind 4 RX5 dC dI cy sq := C0
  have hx := C0.1
  have hb := C0.2.1
  have hl : lv_has ls 4 [(0, .ref a0), (1, .ref a3), (2, .int 0), (3, .int 2)] := hl
  refine lv_aload_n hx hb dX5_numberBehind_0 rfl (lv_at hl 0 rfl) ?_
  refine lv_aload_n hx hb dX5_numberBehind_1 rfl (lv_at hl 1 rfl) ?_
  refine k_jv hP hD hS hA [0] [] (wr := []) rfl rfl (by decide) (by decide) (by decide) 0 0 (Nat.le_of_ble_eq_true rfl) (Nat.le_of_ble_eq_true rfl) (fun hPc hDc => k_runV (As := [.ref a3]) (rest := []) C0 (c_X5_needWord_1 l dC dI cy sq a0 a1 a2 a3) mV_X5_144 hPc hDc rfl rfl rfl hl rfl rfl (Nat.le_of_ble_eq_true rfl) ⟨(Nat.le_of_ble_eq_true rfl), (Nat.le_of_ble_eq_true rfl)⟩ ⟨(Nat.le_of_ble_eq_true rfl), (Nat.le_of_ble_eq_true rfl)⟩ dX5_numberBehind_2) (fun u942 H locs hw hP hD hS => ?_)
  have hP : va_P (dC, dI) vwCl [(a0, .inr (5, [.ref a1, .int 0, .int 0, .int 0, .int 0, .int 0, .ref a2, .int 1, .int 0]))] H := hP
  have hD : va_D A [(a0, .inr (5, [.ref a1, .int 0, .int 0, .int 0, .int 0, .int 0, .ref a2, .int 1, .int 0]))] := hD
  refine lv_aload_n hx hb dX5_numberBehind_5 rfl (lv_at hl 0 rfl) ?_
  refine lv_iload_n hx hb dX5_numberBehind_6 rfl (lv_at hl 2 rfl) ?_
  refine lv_iload_n hx hb dX5_numberBehind_7 rfl (lv_at hl 3 rfl) ?_
  refine k_ji hP hD hS hA [0] [] (wr := []) rfl rfl (by decide) (by decide) (by decide) 0 0 (Nat.le_of_ble_eq_true rfl) (Nat.le_of_ble_eq_true rfl) (fun hPc hDc => k_runV (As := [.int 0, .int 2]) (rest := []) C0 (c_X5_number_2 l dC dI cy sq a0 a1 a2) mV_X5_168 hPc hDc rfl rfl rfl hl rfl rfl (Nat.le_of_ble_eq_true rfl) ⟨(Nat.le_of_ble_eq_true rfl), (Nat.le_of_ble_eq_true rfl)⟩ ⟨(Nat.le_of_ble_eq_true rfl), (Nat.le_of_ble_eq_true rfl)⟩ dX5_numberBehind_8) (fun r945 u946 H locs hw hP hD hS => ?_)
  have hP : va_P (dC, dI) vwCl [(a0, .inr (5, [.ref a1, .int 0, .int 0, .int 0, .int 0, .int 0, .ref a2, .int 1, .int 0]))] H := hP
  have hD : va_D A [(a0, .inr (5, [.ref a1, .int 0, .int 0, .int 0, .int 0, .int 0, .ref a2, .int 1, .int 0]))] := hD
  subst hw
  exact k_iret hx hb hr hlk rfl () hS rfl hP hD (Nat.le_of_ble_eq_true rfl) (Nat.le_of_ble_eq_true rfl) dX5_numberBehind_11
set_option maxHeartbeats 4000000 in
set_option maxRecDepth 100000 in
theorem c_X5_number_3 (l : Launch) (dC : Nat → ClassId) (dI : Nat → Nat → Nat) (cy : Nat → ClassId) (sq : Nat → Nat) (a0 : Nat) (a1 : Nat) (a2 : Nat) : k_Met l yX5_number cX5_number 5 (some .int) { frames := 1, cells := 0, slots := 0, locals := 22 } dC dI cy sq [.ref a0, .int 0, .int 99] [(a0, .inr (5, [.ref a1, .int 0, .int 0, .int 0, .int 0, .int 0, .ref a2, .int 1, .int 0]))] (k_Qi dC dI (fun (r : Int32) (_ : Unit) => r = 0) (fun _ : Unit => [(a0, .inr (5, [.ref a1, .int 0, .int 0, .int 0, .int 0, .int 0, .ref a2, .int 1, .int 0]))])) := by
  refine k_ofW (by decide +kernel) (Nat.le_of_ble_eq_true rfl) ?_
  intro p e s m below meth c A ls H locs C0 hr hlk hin hP hD hA hS hl
  have C0 : k_cx p s m _ c cX5_number 5 RX5 dC dI cy sq := C0
  have hx := C0.1
  have hb := C0.2.1
  have hl : lv_has ls 5 [(0, .ref a0), (1, .int 0), (2, .int 99)] := hl
  refine lv_aload_n hx hb dX5_number_0 rfl (lv_at hl 0 rfl) ?_
  refine k_get C0 fg_X5_21 hP 0 rfl rfl dX5_number_1 ?_
  refine lv_iconst (v := 2) hx hb dX5_number_4 (by decide) ?_
  refine lv_icmp_eq (tgt := 19) hx hb dX5_number_5 (by decide) (fun h9 => absurd h9 (by decide)) (fun _ => ?_)
  refine lv_aload_n hx hb dX5_number_8 rfl (lv_at hl 0 rfl) ?_
  refine lv_iconst (v := 1) hx hb dX5_number_9 (by decide) ?_
  refine lv_aload_n hx hb dX5_number_10 rfl (lv_at hl 0 rfl) ?_
  refine k_get C0 fg_X5_15 hP 0 rfl rfl dX5_number_11 ?_
  refine k_jv hP hD hS hA [0] [] (wr := []) rfl rfl (by decide) (by decide) (by decide) 0 0 (Nat.le_of_ble_eq_true rfl) (Nat.le_of_ble_eq_true rfl) (fun hPc hDc => k_runV (As := [.int 1, .int 0]) (rest := []) C0 (c_X5_fail_1 l dC dI cy sq a0 a1 a2) mV_X5_78 hPc hDc rfl rfl rfl hl rfl rfl (Nat.le_of_ble_eq_true rfl) ⟨(Nat.le_of_ble_eq_true rfl), (Nat.le_of_ble_eq_true rfl)⟩ ⟨(Nat.le_of_ble_eq_true rfl), (Nat.le_of_ble_eq_true rfl)⟩ dX5_number_14) (fun u958 H locs hw hP hD hS => ?_)
  have hP : va_P (dC, dI) vwCl [(a0, .inr (5, [.ref a1, .int 0, .int 0, .int 0, .int 0, .int 0, .ref a2, .int 1, .int 0]))] H := hP
  have hD : va_D A [(a0, .inr (5, [.ref a1, .int 0, .int 0, .int 0, .int 0, .int 0, .ref a2, .int 1, .int 0]))] := hD
  refine lv_iload_n hx hb dX5_number_17 rfl (lv_at hl 1 rfl) ?_
  exact k_iret hx hb hr hlk rfl () hS rfl hP hD (Nat.le_of_ble_eq_true rfl) (Nat.le_of_ble_eq_true rfl) dX5_number_18
set_option maxHeartbeats 4000000 in
set_option maxRecDepth 100000 in
theorem c_X5_numberBehind_3 (l : Launch) (dC : Nat → ClassId) (dI : Nat → Nat → Nat) (cy : Nat → ClassId) (sq : Nat → Nat) (a0 : Nat) (a1 : Nat) (a2 : Nat) (a3 : Nat) : k_Met l yX5_numberBehind cX5_numberBehind 4 (some .int) { frames := 2, cells := 0, slots := 0, locals := 46 } dC dI cy sq [.ref a0, .ref a3, .int 0, .int 99] [(a0, .inr (5, [.ref a1, .int 0, .int 0, .int 0, .int 0, .int 0, .ref a2, .int 1, .int 0]))] (k_Qi dC dI (fun (r : Int32) (_ : Unit) => r = 0) (fun _ : Unit => [(a0, .inr (5, [.ref a1, .int 0, .int 0, .int 0, .int 0, .int 0, .ref a2, .int 1, .int 0]))])) := by
  refine k_ofW (by decide +kernel) (Nat.le_of_ble_eq_true rfl) ?_
  intro p e s m below meth c A ls H locs C0 hr hlk hin hP hD hA hS hl
  have C0 : k_cx p s m _ c cX5_numberBehind 4 RX5 dC dI cy sq := C0
  have hx := C0.1
  have hb := C0.2.1
  have hl : lv_has ls 4 [(0, .ref a0), (1, .ref a3), (2, .int 0), (3, .int 99)] := hl
  refine lv_aload_n hx hb dX5_numberBehind_0 rfl (lv_at hl 0 rfl) ?_
  refine lv_aload_n hx hb dX5_numberBehind_1 rfl (lv_at hl 1 rfl) ?_
  refine k_jv hP hD hS hA [0] [] (wr := []) rfl rfl (by decide) (by decide) (by decide) 0 0 (Nat.le_of_ble_eq_true rfl) (Nat.le_of_ble_eq_true rfl) (fun hPc hDc => k_runV (As := [.ref a3]) (rest := []) C0 (c_X5_needWord_1 l dC dI cy sq a0 a1 a2 a3) mV_X5_144 hPc hDc rfl rfl rfl hl rfl rfl (Nat.le_of_ble_eq_true rfl) ⟨(Nat.le_of_ble_eq_true rfl), (Nat.le_of_ble_eq_true rfl)⟩ ⟨(Nat.le_of_ble_eq_true rfl), (Nat.le_of_ble_eq_true rfl)⟩ dX5_numberBehind_2) (fun u966 H locs hw hP hD hS => ?_)
  have hP : va_P (dC, dI) vwCl [(a0, .inr (5, [.ref a1, .int 0, .int 0, .int 0, .int 0, .int 0, .ref a2, .int 1, .int 0]))] H := hP
  have hD : va_D A [(a0, .inr (5, [.ref a1, .int 0, .int 0, .int 0, .int 0, .int 0, .ref a2, .int 1, .int 0]))] := hD
  refine lv_aload_n hx hb dX5_numberBehind_5 rfl (lv_at hl 0 rfl) ?_
  refine lv_iload_n hx hb dX5_numberBehind_6 rfl (lv_at hl 2 rfl) ?_
  refine lv_iload_n hx hb dX5_numberBehind_7 rfl (lv_at hl 3 rfl) ?_
  refine k_ji hP hD hS hA [0] [] (wr := []) rfl rfl (by decide) (by decide) (by decide) 0 0 (Nat.le_of_ble_eq_true rfl) (Nat.le_of_ble_eq_true rfl) (fun hPc hDc => k_runV (As := [.int 0, .int 99]) (rest := []) C0 (c_X5_number_3 l dC dI cy sq a0 a1 a2) mV_X5_168 hPc hDc rfl rfl rfl hl rfl rfl (Nat.le_of_ble_eq_true rfl) ⟨(Nat.le_of_ble_eq_true rfl), (Nat.le_of_ble_eq_true rfl)⟩ ⟨(Nat.le_of_ble_eq_true rfl), (Nat.le_of_ble_eq_true rfl)⟩ dX5_numberBehind_8) (fun r969 u970 H locs hw hP hD hS => ?_)
  have hP : va_P (dC, dI) vwCl [(a0, .inr (5, [.ref a1, .int 0, .int 0, .int 0, .int 0, .int 0, .ref a2, .int 1, .int 0]))] H := hP
  have hD : va_D A [(a0, .inr (5, [.ref a1, .int 0, .int 0, .int 0, .int 0, .int 0, .ref a2, .int 1, .int 0]))] := hD
  subst hw
  exact k_iret hx hb hr hlk rfl () hS rfl hP hD (Nat.le_of_ble_eq_true rfl) (Nat.le_of_ble_eq_true rfl) dX5_numberBehind_11
set_option maxHeartbeats 4000000 in
set_option maxRecDepth 100000 in
theorem c_X5_firstStatement (l : Launch) (dC : Nat → ClassId) (dI : Nat → Nat → Nat) (cy : Nat → ClassId) (sq : Nat → Nat) (a0 : Nat) (a1 : Nat) (a2 : Nat) (a3 : Nat) (a4 : Nat) (a5 : Nat) (a6 : Nat) (a7 : Nat) (a8 : Nat) (a9 : Nat) (a10 : Nat) (a11 : Nat) : k_Met l yX5_firstStatement cX5_firstStatement 1 none { frames := 3, cells := 0, slots := 0, locals := 69 } dC dI cy sq [.ref a0] [(a0, .inr (5, [.ref a2, .int 0, .int 0, .int 0, .int 0, .int 0, .ref a1, .int 0, .int (-1)])), (a1, .inr (4, [.int 0, .int 0, .int 0, .int 0, .int 0, .int 0, .int 0, .ref a3, .ref a4, .ref a5, .int 0, .ref a6, .ref a7, .ref a8, .ref a9, .ref a10, .int 0, .ref a11]))] (k_Qv dC dI (fun _ : Unit => True) (fun _ : Unit => [(a1, .inr (4, [.int 10, .int 1, .int 0, .int 0, .int 0, .int 0, .int 0, .ref a3, .ref a4, .ref a5, .int 0, .ref a6, .ref a7, .ref a8, .ref a9, .ref a10, .int 0, .ref a11])), (a0, .inr (5, [.ref a2, .int 0, .int 0, .int 0, .int 0, .int 0, .ref a1, .int 1, .int 0]))])) := by
  refine k_ofW (by decide +kernel) (Nat.le_of_ble_eq_true rfl) ?_
  intro p e s m below meth c A ls H locs C0 hr hlk hin hP hD hA hS hl
  have C0 : k_cx p s m _ c cX5_firstStatement 1 RX5 dC dI cy sq := C0
  have hx := C0.1
  have hb := C0.2.1
  have hl : lv_has ls 1 [(0, .ref a0)] := hl
  refine lv_aload_n hx hb dX5_firstStatement_0 rfl (lv_at hl 0 rfl) ?_
  refine k_get C0 fg_X5_37 hP 0 rfl rfl dX5_firstStatement_1 ?_
  refine lv_aload_n hx hb dX5_firstStatement_4 rfl (lv_at hl 0 rfl) ?_
  refine va_ldcS hx hb C0.2.2.2.1 (C0.2.2.2.2.2.2.2.2.2.2.2.2.1) dX5_firstStatement_5 ?_
  refine lv_bipush (v := 10) hx hb dX5_firstStatement_7 (by decide) ?_
  refine lv_bipush (v := 120) hx hb dX5_firstStatement_9 (by decide) ?_
  refine k_ji hP hD hS hA [0] [1] (wr := [(a1, .inr (4, [.int 0, .int 0, .int 0, .int 0, .int 0, .int 0, .int 0, .ref a3, .ref a4, .ref a5, .int 0, .ref a6, .ref a7, .ref a8, .ref a9, .ref a10, .int 0, .ref a11]))]) rfl rfl (by decide) (by decide) (by decide) 0 0 (Nat.le_of_ble_eq_true rfl) (Nat.le_of_ble_eq_true rfl) (fun hPc hDc => k_runV (As := [.ref (sq 0), .int 10, .int 120]) (rest := [.ref a1]) C0 (c_X5_numberBehind l dC dI cy sq a0 a2 a1 (sq 0)) mV_X5_70 hPc hDc rfl rfl rfl hl rfl rfl (Nat.le_of_ble_eq_true rfl) ⟨(Nat.le_of_ble_eq_true rfl), (Nat.le_of_ble_eq_true rfl)⟩ ⟨(Nat.le_of_ble_eq_true rfl), (Nat.le_of_ble_eq_true rfl)⟩ dX5_firstStatement_11) (fun r983 u984 H locs hw hP hD hS => ?_)
  have hP : va_P (dC, dI) vwCl [(a1, .inr (4, [.int 0, .int 0, .int 0, .int 0, .int 0, .int 0, .int 0, .ref a3, .ref a4, .ref a5, .int 0, .ref a6, .ref a7, .ref a8, .ref a9, .ref a10, .int 0, .ref a11])), (a0, .inr (5, [.ref a2, .int 0, .int 0, .int 0, .int 0, .int 0, .ref a1, .int 1, .int 0]))] H := hP
  have hD : va_D A [(a1, .inr (4, [.int 0, .int 0, .int 0, .int 0, .int 0, .int 0, .int 0, .ref a3, .ref a4, .ref a5, .int 0, .ref a6, .ref a7, .ref a8, .ref a9, .ref a10, .int 0, .ref a11])), (a0, .inr (5, [.ref a2, .int 0, .int 0, .int 0, .int 0, .int 0, .ref a1, .int 1, .int 0]))] := hD
  subst hw
  refine k_put C0 fp_X5_107 hP hD hS 0 rfl rfl rfl (Nat.le_of_ble_eq_true rfl) dX5_firstStatement_14 (fun H locs hP hD hS => ?_)
  have hP : va_P (dC, dI) vwCl [(a1, .inr (4, [.int 10, .int 0, .int 0, .int 0, .int 0, .int 0, .int 0, .ref a3, .ref a4, .ref a5, .int 0, .ref a6, .ref a7, .ref a8, .ref a9, .ref a10, .int 0, .ref a11])), (a0, .inr (5, [.ref a2, .int 0, .int 0, .int 0, .int 0, .int 0, .ref a1, .int 1, .int 0]))] H := hP
  have hD : va_D A [(a1, .inr (4, [.int 10, .int 0, .int 0, .int 0, .int 0, .int 0, .int 0, .ref a3, .ref a4, .ref a5, .int 0, .ref a6, .ref a7, .ref a8, .ref a9, .ref a10, .int 0, .ref a11])), (a0, .inr (5, [.ref a2, .int 0, .int 0, .int 0, .int 0, .int 0, .ref a1, .int 1, .int 0]))] := hD
  refine lv_aload_n hx hb dX5_firstStatement_17 rfl (lv_at hl 0 rfl) ?_
  refine k_get C0 fg_X5_37 hP 1 rfl rfl dX5_firstStatement_18 ?_
  refine lv_aload_n hx hb dX5_firstStatement_21 rfl (lv_at hl 0 rfl) ?_
  refine va_ldcS hx hb C0.2.2.2.1 (C0.2.2.2.2.2.2.2.2.2.2.2.2.2.1) dX5_firstStatement_22 ?_
  refine lv_iconst (v := 1) hx hb dX5_firstStatement_24 (by decide) ?_
  refine lv_bipush (v := 60) hx hb dX5_firstStatement_25 (by decide) ?_
  refine lv_aload_n hx hb dX5_firstStatement_27 rfl (lv_at hl 0 rfl) ?_
  refine k_get C0 fg_X5_37 hP 1 rfl rfl dX5_firstStatement_28 ?_
  refine k_get C0 fg_X5_107 hP 0 rfl rfl dX5_firstStatement_31 ?_
  refine lv_iconst (v := 1) hx hb dX5_firstStatement_34 (by decide) ?_
  refine lv_isub hx hb dX5_firstStatement_35 ?_
  refine k_topi (y := 9) (by decide) ?_
  refine va_mmin hx hb (by rw [C0.2.2.1]; exact hl.1.symm) C0.2.2.2.1 (C0.2.2.2.2.1 _ wd297) (C0.2.2.2.2.1 _ wd298) (C0.2.2.2.2.1 _ wd299) (C0.2.2.2.2.1 _ wd300) (Nat.le_of_ble_eq_true rfl) (Nat.le_of_ble_eq_true rfl) (Nat.le_of_ble_eq_true rfl) (Nat.le_of_ble_eq_true rfl) dX5_firstStatement_36 ?_
  refine k_topi (y := 9) (by decide) ?_
  refine k_ji hP hD hS hA [1] [0] (wr := [(a1, .inr (4, [.int 10, .int 0, .int 0, .int 0, .int 0, .int 0, .int 0, .ref a3, .ref a4, .ref a5, .int 0, .ref a6, .ref a7, .ref a8, .ref a9, .ref a10, .int 0, .ref a11]))]) rfl rfl (by decide) (by decide) (by decide) 0 0 (Nat.le_of_ble_eq_true rfl) (Nat.le_of_ble_eq_true rfl) (fun hPc hDc => k_runV (As := [.ref (sq 1), .int 1, .int 9]) (rest := [.ref a1]) C0 (c_X5_numberBehind_1 l dC dI cy sq a0 a2 a1 (sq 1)) mV_X5_70 hPc hDc rfl rfl rfl hl rfl rfl (Nat.le_of_ble_eq_true rfl) ⟨(Nat.le_of_ble_eq_true rfl), (Nat.le_of_ble_eq_true rfl)⟩ ⟨(Nat.le_of_ble_eq_true rfl), (Nat.le_of_ble_eq_true rfl)⟩ dX5_firstStatement_39) (fun r995 u996 H locs hw hP hD hS => ?_)
  have hP : va_P (dC, dI) vwCl [(a1, .inr (4, [.int 10, .int 0, .int 0, .int 0, .int 0, .int 0, .int 0, .ref a3, .ref a4, .ref a5, .int 0, .ref a6, .ref a7, .ref a8, .ref a9, .ref a10, .int 0, .ref a11])), (a0, .inr (5, [.ref a2, .int 0, .int 0, .int 0, .int 0, .int 0, .ref a1, .int 1, .int 0]))] H := hP
  have hD : va_D A [(a1, .inr (4, [.int 10, .int 0, .int 0, .int 0, .int 0, .int 0, .int 0, .ref a3, .ref a4, .ref a5, .int 0, .ref a6, .ref a7, .ref a8, .ref a9, .ref a10, .int 0, .ref a11])), (a0, .inr (5, [.ref a2, .int 0, .int 0, .int 0, .int 0, .int 0, .ref a1, .int 1, .int 0]))] := hD
  subst hw
  refine k_put C0 fp_X5_111 hP hD hS 0 rfl rfl rfl (Nat.le_of_ble_eq_true rfl) dX5_firstStatement_42 (fun H locs hP hD hS => ?_)
  have hP : va_P (dC, dI) vwCl [(a1, .inr (4, [.int 10, .int 1, .int 0, .int 0, .int 0, .int 0, .int 0, .ref a3, .ref a4, .ref a5, .int 0, .ref a6, .ref a7, .ref a8, .ref a9, .ref a10, .int 0, .ref a11])), (a0, .inr (5, [.ref a2, .int 0, .int 0, .int 0, .int 0, .int 0, .ref a1, .int 1, .int 0]))] H := hP
  have hD : va_D A [(a1, .inr (4, [.int 10, .int 1, .int 0, .int 0, .int 0, .int 0, .int 0, .ref a3, .ref a4, .ref a5, .int 0, .ref a6, .ref a7, .ref a8, .ref a9, .ref a10, .int 0, .ref a11])), (a0, .inr (5, [.ref a2, .int 0, .int 0, .int 0, .int 0, .int 0, .ref a1, .int 1, .int 0]))] := hD
  refine lv_aload_n hx hb dX5_firstStatement_45 rfl (lv_at hl 0 rfl) ?_
  refine k_get C0 fg_X5_37 hP 1 rfl rfl dX5_firstStatement_46 ?_
  refine lv_aload_n hx hb dX5_firstStatement_49 rfl (lv_at hl 0 rfl) ?_
  refine va_ldcS hx hb C0.2.2.2.1 (C0.2.2.2.2.2.2.2.2.2.2.2.2.2.2.1) dX5_firstStatement_50 ?_
  refine lv_iconst (v := 0) hx hb dX5_firstStatement_52 (by decide) ?_
  refine lv_iconst (v := 2) hx hb dX5_firstStatement_53 (by decide) ?_
  refine k_ji hP hD hS hA [1] [0] (wr := [(a1, .inr (4, [.int 10, .int 1, .int 0, .int 0, .int 0, .int 0, .int 0, .ref a3, .ref a4, .ref a5, .int 0, .ref a6, .ref a7, .ref a8, .ref a9, .ref a10, .int 0, .ref a11]))]) rfl rfl (by decide) (by decide) (by decide) 0 0 (Nat.le_of_ble_eq_true rfl) (Nat.le_of_ble_eq_true rfl) (fun hPc hDc => k_runV (As := [.ref (sq 2), .int 0, .int 2]) (rest := [.ref a1]) C0 (c_X5_numberBehind_2 l dC dI cy sq a0 a2 a1 (sq 2)) mV_X5_70 hPc hDc rfl rfl rfl hl rfl rfl (Nat.le_of_ble_eq_true rfl) ⟨(Nat.le_of_ble_eq_true rfl), (Nat.le_of_ble_eq_true rfl)⟩ ⟨(Nat.le_of_ble_eq_true rfl), (Nat.le_of_ble_eq_true rfl)⟩ dX5_firstStatement_54) (fun r1007 u1008 H locs hw hP hD hS => ?_)
  have hP : va_P (dC, dI) vwCl [(a1, .inr (4, [.int 10, .int 1, .int 0, .int 0, .int 0, .int 0, .int 0, .ref a3, .ref a4, .ref a5, .int 0, .ref a6, .ref a7, .ref a8, .ref a9, .ref a10, .int 0, .ref a11])), (a0, .inr (5, [.ref a2, .int 0, .int 0, .int 0, .int 0, .int 0, .ref a1, .int 1, .int 0]))] H := hP
  have hD : va_D A [(a1, .inr (4, [.int 10, .int 1, .int 0, .int 0, .int 0, .int 0, .int 0, .ref a3, .ref a4, .ref a5, .int 0, .ref a6, .ref a7, .ref a8, .ref a9, .ref a10, .int 0, .ref a11])), (a0, .inr (5, [.ref a2, .int 0, .int 0, .int 0, .int 0, .int 0, .ref a1, .int 1, .int 0]))] := hD
  subst hw
  refine k_put C0 fp_X5_115 hP hD hS 0 rfl rfl rfl (Nat.le_of_ble_eq_true rfl) dX5_firstStatement_57 (fun H locs hP hD hS => ?_)
  have hP : va_P (dC, dI) vwCl [(a1, .inr (4, [.int 10, .int 1, .int 0, .int 0, .int 0, .int 0, .int 0, .ref a3, .ref a4, .ref a5, .int 0, .ref a6, .ref a7, .ref a8, .ref a9, .ref a10, .int 0, .ref a11])), (a0, .inr (5, [.ref a2, .int 0, .int 0, .int 0, .int 0, .int 0, .ref a1, .int 1, .int 0]))] H := hP
  have hD : va_D A [(a1, .inr (4, [.int 10, .int 1, .int 0, .int 0, .int 0, .int 0, .int 0, .ref a3, .ref a4, .ref a5, .int 0, .ref a6, .ref a7, .ref a8, .ref a9, .ref a10, .int 0, .ref a11])), (a0, .inr (5, [.ref a2, .int 0, .int 0, .int 0, .int 0, .int 0, .ref a1, .int 1, .int 0]))] := hD
  refine lv_aload_n hx hb dX5_firstStatement_60 rfl (lv_at hl 0 rfl) ?_
  refine k_get C0 fg_X5_37 hP 1 rfl rfl dX5_firstStatement_61 ?_
  refine lv_aload_n hx hb dX5_firstStatement_64 rfl (lv_at hl 0 rfl) ?_
  refine va_ldcS hx hb C0.2.2.2.1 (C0.2.2.2.2.2.2.2.2.2.2.2.2.2.2.2) dX5_firstStatement_65 ?_
  refine lv_iconst (v := 0) hx hb dX5_firstStatement_67 (by decide) ?_
  refine lv_bipush (v := 99) hx hb dX5_firstStatement_68 (by decide) ?_
  refine k_ji hP hD hS hA [1] [0] (wr := [(a1, .inr (4, [.int 10, .int 1, .int 0, .int 0, .int 0, .int 0, .int 0, .ref a3, .ref a4, .ref a5, .int 0, .ref a6, .ref a7, .ref a8, .ref a9, .ref a10, .int 0, .ref a11]))]) rfl rfl (by decide) (by decide) (by decide) 0 0 (Nat.le_of_ble_eq_true rfl) (Nat.le_of_ble_eq_true rfl) (fun hPc hDc => k_runV (As := [.ref (sq 3), .int 0, .int 99]) (rest := [.ref a1]) C0 (c_X5_numberBehind_3 l dC dI cy sq a0 a2 a1 (sq 3)) mV_X5_70 hPc hDc rfl rfl rfl hl rfl rfl (Nat.le_of_ble_eq_true rfl) ⟨(Nat.le_of_ble_eq_true rfl), (Nat.le_of_ble_eq_true rfl)⟩ ⟨(Nat.le_of_ble_eq_true rfl), (Nat.le_of_ble_eq_true rfl)⟩ dX5_firstStatement_70) (fun r1019 u1020 H locs hw hP hD hS => ?_)
  have hP : va_P (dC, dI) vwCl [(a1, .inr (4, [.int 10, .int 1, .int 0, .int 0, .int 0, .int 0, .int 0, .ref a3, .ref a4, .ref a5, .int 0, .ref a6, .ref a7, .ref a8, .ref a9, .ref a10, .int 0, .ref a11])), (a0, .inr (5, [.ref a2, .int 0, .int 0, .int 0, .int 0, .int 0, .ref a1, .int 1, .int 0]))] H := hP
  have hD : va_D A [(a1, .inr (4, [.int 10, .int 1, .int 0, .int 0, .int 0, .int 0, .int 0, .ref a3, .ref a4, .ref a5, .int 0, .ref a6, .ref a7, .ref a8, .ref a9, .ref a10, .int 0, .ref a11])), (a0, .inr (5, [.ref a2, .int 0, .int 0, .int 0, .int 0, .int 0, .ref a1, .int 1, .int 0]))] := hD
  subst hw
  refine k_put C0 fp_X5_119 hP hD hS 0 rfl rfl rfl (Nat.le_of_ble_eq_true rfl) dX5_firstStatement_73 (fun H locs hP hD hS => ?_)
  have hP : va_P (dC, dI) vwCl [(a1, .inr (4, [.int 10, .int 1, .int 0, .int 0, .int 0, .int 0, .int 0, .ref a3, .ref a4, .ref a5, .int 0, .ref a6, .ref a7, .ref a8, .ref a9, .ref a10, .int 0, .ref a11])), (a0, .inr (5, [.ref a2, .int 0, .int 0, .int 0, .int 0, .int 0, .ref a1, .int 1, .int 0]))] H := hP
  have hD : va_D A [(a1, .inr (4, [.int 10, .int 1, .int 0, .int 0, .int 0, .int 0, .int 0, .ref a3, .ref a4, .ref a5, .int 0, .ref a6, .ref a7, .ref a8, .ref a9, .ref a10, .int 0, .ref a11])), (a0, .inr (5, [.ref a2, .int 0, .int 0, .int 0, .int 0, .int 0, .ref a1, .int 1, .int 0]))] := hD
  exact k_vret hx hb hr hlk () hS True.intro hP hD (Nat.le_of_ble_eq_true rfl) (Nat.le_of_ble_eq_true rfl) dX5_firstStatement_76
set_option maxHeartbeats 4000000 in
set_option maxRecDepth 100000 in
theorem c_X5_sees (l : Launch) (dC : Nat → ClassId) (dI : Nat → Nat → Nat) (cy : Nat → ClassId) (sq : Nat → Nat) (a0 : Nat) (a1 : Nat) (a2 : Nat) : k_Met l yX5_sees cX5_sees 2 (some .boolean) { frames := 0, cells := 0, slots := 0, locals := 0 } dC dI cy sq [.ref a0, .int 59] [(a0, .inr (5, [.ref a1, .int 0, .int 0, .int 0, .int 0, .int 0, .ref a2, .int 1, .int 0]))] (k_Qi dC dI (fun (r : Int32) (_ : Unit) => r = 0) (fun _ : Unit => [(a0, .inr (5, [.ref a1, .int 0, .int 0, .int 0, .int 0, .int 0, .ref a2, .int 1, .int 0]))])) := by
  refine k_ofW (by decide +kernel) (Nat.le_of_ble_eq_true rfl) ?_
  intro p e s m below meth c A ls H locs C0 hr hlk hin hP hD hA hS hl
  have C0 : k_cx p s m _ c cX5_sees 2 RX5 dC dI cy sq := C0
  have hx := C0.1
  have hb := C0.2.1
  have hl : lv_has ls 2 [(0, .ref a0), (1, .int 59)] := hl
  refine lv_aload_n hx hb dX5_sees_0 rfl (lv_at hl 0 rfl) ?_
  refine k_get C0 fg_X5_21 hP 0 rfl rfl dX5_sees_1 ?_
  refine lv_iconst (v := 3) hx hb dX5_sees_4 (by decide) ?_
  refine lv_icmp_ne (tgt := 25) hx hb dX5_sees_5 (by decide) (fun _ => ?_) (fun h9 => absurd h9 (by decide))
  refine lv_iconst (v := 0) hx hb dX5_sees_25 (by decide) ?_
  exact k_iret hx hb hr hlk (k_nb 0 (by decide)) () hS rfl hP hD (Nat.le_of_ble_eq_true rfl) (Nat.le_of_ble_eq_true rfl) dX5_sees_26
set_option maxHeartbeats 4000000 in
set_option maxRecDepth 100000 in
theorem c_X5_need (l : Launch) (dC : Nat → ClassId) (dI : Nat → Nat → Nat) (cy : Nat → ClassId) (sq : Nat → Nat) (a0 : Nat) (a1 : Nat) (a2 : Nat) : k_Met l yX5_need cX5_need 2 none { frames := 1, cells := 0, slots := 0, locals := 22 } dC dI cy sq [.ref a0, .int 59] [(a0, .inr (5, [.ref a1, .int 0, .int 0, .int 0, .int 0, .int 0, .ref a2, .int 1, .int 0]))] (k_Qv dC dI (fun _ : Unit => True) (fun _ : Unit => [(a0, .inr (5, [.ref a1, .int 0, .int 0, .int 0, .int 0, .int 0, .ref a2, .int 1, .int 0]))])) := by
  refine k_ofW (by decide +kernel) (Nat.le_of_ble_eq_true rfl) ?_
  intro p e s m below meth c A ls H locs C0 hr hlk hin hP hD hA hS hl
  have C0 : k_cx p s m _ c cX5_need 2 RX5 dC dI cy sq := C0
  have hx := C0.1
  have hb := C0.2.1
  have hl : lv_has ls 2 [(0, .ref a0), (1, .int 59)] := hl
  refine lv_aload_n hx hb dX5_need_0 rfl (lv_at hl 0 rfl) ?_
  refine lv_iload_n hx hb dX5_need_1 rfl (lv_at hl 1 rfl) ?_
  refine k_ji hP hD hS hA [0] [] (wr := []) rfl rfl (by decide) (by decide) (by decide) 0 0 (Nat.le_of_ble_eq_true rfl) (Nat.le_of_ble_eq_true rfl) (fun hPc hDc => k_runV (As := [.int 59]) (rest := []) C0 (c_X5_sees l dC dI cy sq a0 a1 a2) mV_X5_213 hPc hDc rfl rfl rfl hl rfl rfl (Nat.le_of_ble_eq_true rfl) ⟨(Nat.le_of_ble_eq_true rfl), (Nat.le_of_ble_eq_true rfl)⟩ ⟨(Nat.le_of_ble_eq_true rfl), (Nat.le_of_ble_eq_true rfl)⟩ dX5_need_2) (fun r1027 u1028 H locs hw hP hD hS => ?_)
  have hP : va_P (dC, dI) vwCl [(a0, .inr (5, [.ref a1, .int 0, .int 0, .int 0, .int 0, .int 0, .ref a2, .int 1, .int 0]))] H := hP
  have hD : va_D A [(a0, .inr (5, [.ref a1, .int 0, .int 0, .int 0, .int 0, .int 0, .ref a2, .int 1, .int 0]))] := hD
  subst hw
  refine lv_if_eq (tgt := 19) hx hb dX5_need_5 (by decide) (fun _ => ?_) (fun h9 => absurd (by decide) h9)
  refine lv_aload_n hx hb dX5_need_19 rfl (lv_at hl 0 rfl) ?_
  refine lv_iconst (v := 1) hx hb dX5_need_20 (by decide) ?_
  refine lv_aload_n hx hb dX5_need_21 rfl (lv_at hl 0 rfl) ?_
  refine k_get C0 fg_X5_15 hP 0 rfl rfl dX5_need_22 ?_
  refine k_jv hP hD hS hA [0] [] (wr := []) rfl rfl (by decide) (by decide) (by decide) 0 0 (Nat.le_of_ble_eq_true rfl) (Nat.le_of_ble_eq_true rfl) (fun hPc hDc => k_runV (As := [.int 1, .int 0]) (rest := []) C0 (c_X5_fail_1 l dC dI cy sq a0 a1 a2) mV_X5_78 hPc hDc rfl rfl rfl hl rfl rfl (Nat.le_of_ble_eq_true rfl) ⟨(Nat.le_of_ble_eq_true rfl), (Nat.le_of_ble_eq_true rfl)⟩ ⟨(Nat.le_of_ble_eq_true rfl), (Nat.le_of_ble_eq_true rfl)⟩ dX5_need_25) (fun u1030 H locs hw hP hD hS => ?_)
  have hP : va_P (dC, dI) vwCl [(a0, .inr (5, [.ref a1, .int 0, .int 0, .int 0, .int 0, .int 0, .ref a2, .int 1, .int 0]))] H := hP
  have hD : va_D A [(a0, .inr (5, [.ref a1, .int 0, .int 0, .int 0, .int 0, .int 0, .ref a2, .int 1, .int 0]))] := hD
  exact k_vret hx hb hr hlk () hS True.intro hP hD (Nat.le_of_ble_eq_true rfl) (Nat.le_of_ble_eq_true rfl) dX5_need_28
set_option maxHeartbeats 4000000 in
set_option maxRecDepth 100000 in
theorem c_X5_readCrossing (l : Launch) (dC : Nat → ClassId) (dI : Nat → Nat → Nat) (cy : Nat → ClassId) (sq : Nat → Nat) (a0 : Nat) (a1 : Nat) (a2 : Nat) (a3 : Nat) (a4 : Nat) (a5 : Nat) (a6 : Nat) (a7 : Nat) (a8 : Nat) (a9 : Nat) (a10 : Nat) (a11 : Nat) : k_Met l yX5_readCrossing cX5_readCrossing 4 none { frames := 4, cells := 0, slots := 0, locals := 89 } dC dI cy sq [.ref a0, .ref a1, .int 0] [(a0, .inr (5, [.ref a4, .int 0, .int 0, .int 0, .int 0, .int 0, .ref a1, .int 0, .int (-1)])), (a1, .inr (4, [.int 0, .int 0, .int 0, .int 0, .int 0, .int 0, .int 0, .ref a5, .ref a6, .ref a7, .int 0, .ref a8, .ref a9, .ref a2, .ref a10, .ref a11, .int 0, .ref a3])), (a2, .inl (cy 0, 200, .inl (fun _ => 0))), (a3, .inl (cy 0, 6, .inl (fun _ => 0))), (a4, .inl (cy 0, 1600, .inl (fun _ => 0)))] (k_Qv dC dI (fun _ : (Nat → Int32) × (Nat → Int32) => True) (fun u : (Nat → Int32) × (Nat → Int32) => match u with | (f1049, f1050) => [(a4, .inl (cy 0, 1600, .inl (fun _ => 0))), (a2, .inl (cy 0, 200, .inl f1049)), (a3, .inl (cy 0, 6, .inl f1050)), (a1, .inr (4, [.int 10, .int 1, .int 0, .int 0, .int 0, .int 1, .int 0, .ref a5, .ref a6, .ref a7, .int 0, .ref a8, .ref a9, .ref a2, .ref a10, .ref a11, .int 0, .ref a3])), (a0, .inr (5, [.ref a4, .int 0, .int 0, .int 0, .int 0, .int 0, .ref a1, .int 1, .int 0]))])) := by
  refine k_ofW (by decide +kernel) (Nat.le_of_ble_eq_true rfl) ?_
  intro p e s m below meth c A ls H locs C0 hr hlk hin hP hD hA hS hl
  have C0 : k_cx p s m _ c cX5_readCrossing 4 RX5 dC dI cy sq := C0
  have hx := C0.1
  have hb := C0.2.1
  have hl : lv_has ls 4 [(0, .ref a0), (1, .ref a1), (2, .int 0)] := hl
  refine lv_aload_n hx hb dX5_readCrossing_0 rfl (lv_at hl 0 rfl) ?_
  refine lv_aload_n hx hb dX5_readCrossing_1 rfl (lv_at hl 1 rfl) ?_
  refine lv_iload_n hx hb dX5_readCrossing_2 rfl (lv_at hl 2 rfl) ?_
  refine k_jv hP hD hS hA [0, 1, 2, 3, 4] [] (wr := []) rfl rfl (by decide) (by decide) (by decide) 0 0 (Nat.le_of_ble_eq_true rfl) (Nat.le_of_ble_eq_true rfl) (fun hPc hDc => k_runV (As := [.ref a1, .int 0]) (rest := []) C0 (c_X5_begin l dC dI cy sq a0 a1 a2 a3 a4 a5 a6 a7 a8 a9 a10 a11) mV_X5_41 hPc hDc rfl rfl rfl hl rfl rfl (Nat.le_of_ble_eq_true rfl) ⟨(Nat.le_of_ble_eq_true rfl), (Nat.le_of_ble_eq_true rfl)⟩ ⟨(Nat.le_of_ble_eq_true rfl), (Nat.le_of_ble_eq_true rfl)⟩ dX5_readCrossing_3) (fun u1048 H locs hw hP hD hS => ?_)
  obtain ⟨f1049, f1050⟩ := u1048
  try dsimp only at hP hD
  have hP : va_P (dC, dI) vwCl [(a4, .inl (cy 0, 1600, .inl (fun _ => 0))), (a1, .inr (4, [.int 0, .int 0, .int 0, .int 0, .int 0, .int 0, .int 0, .ref a5, .ref a6, .ref a7, .int 0, .ref a8, .ref a9, .ref a2, .ref a10, .ref a11, .int 0, .ref a3])), (a2, .inl (cy 0, 200, .inl f1049)), (a3, .inl (cy 0, 6, .inl f1050)), (a0, .inr (5, [.ref a4, .int 0, .int 0, .int 0, .int 0, .int 0, .ref a1, .int 0, .int (-1)]))] H := hP
  have hD : va_D A [(a4, .inl (cy 0, 1600, .inl (fun _ => 0))), (a1, .inr (4, [.int 0, .int 0, .int 0, .int 0, .int 0, .int 0, .int 0, .ref a5, .ref a6, .ref a7, .int 0, .ref a8, .ref a9, .ref a2, .ref a10, .ref a11, .int 0, .ref a3])), (a2, .inl (cy 0, 200, .inl f1049)), (a3, .inl (cy 0, 6, .inl f1050)), (a0, .inr (5, [.ref a4, .int 0, .int 0, .int 0, .int 0, .int 0, .ref a1, .int 0, .int (-1)]))] := hD
  refine lv_aload_n hx hb dX5_readCrossing_6 rfl (lv_at hl 0 rfl) ?_
  refine k_jv hP hD hS hA [4, 1] [0, 2, 3] (wr := [(a4, .inl (cy 0, 1600, .inl (fun _ => 0))), (a2, .inl (cy 0, 200, .inl f1049)), (a3, .inl (cy 0, 6, .inl f1050))]) rfl rfl (by decide) (by decide) (by decide) 0 0 (Nat.le_of_ble_eq_true rfl) (Nat.le_of_ble_eq_true rfl) (fun hPc hDc => k_runV (As := []) (rest := []) C0 (c_X5_firstStatement l dC dI cy sq a0 a1 a4 a5 a6 a7 a8 a9 a2 a10 a11 a3) mV_X5_45 hPc hDc rfl rfl rfl hl rfl rfl (Nat.le_of_ble_eq_true rfl) ⟨(Nat.le_of_ble_eq_true rfl), (Nat.le_of_ble_eq_true rfl)⟩ ⟨(Nat.le_of_ble_eq_true rfl), (Nat.le_of_ble_eq_true rfl)⟩ dX5_readCrossing_7) (fun u1100 H locs hw hP hD hS => ?_)
  have hP : va_P (dC, dI) vwCl [(a4, .inl (cy 0, 1600, .inl (fun _ => 0))), (a2, .inl (cy 0, 200, .inl f1049)), (a3, .inl (cy 0, 6, .inl f1050)), (a1, .inr (4, [.int 10, .int 1, .int 0, .int 0, .int 0, .int 0, .int 0, .ref a5, .ref a6, .ref a7, .int 0, .ref a8, .ref a9, .ref a2, .ref a10, .ref a11, .int 0, .ref a3])), (a0, .inr (5, [.ref a4, .int 0, .int 0, .int 0, .int 0, .int 0, .ref a1, .int 1, .int 0]))] H := hP
  have hD : va_D A [(a4, .inl (cy 0, 1600, .inl (fun _ => 0))), (a2, .inl (cy 0, 200, .inl f1049)), (a3, .inl (cy 0, 6, .inl f1050)), (a1, .inr (4, [.int 10, .int 1, .int 0, .int 0, .int 0, .int 0, .int 0, .ref a5, .ref a6, .ref a7, .int 0, .ref a8, .ref a9, .ref a2, .ref a10, .ref a11, .int 0, .ref a3])), (a0, .inr (5, [.ref a4, .int 0, .int 0, .int 0, .int 0, .int 0, .ref a1, .int 1, .int 0]))] := hD
  refine lv_aload_n hx hb dX5_readCrossing_10 rfl (lv_at hl 0 rfl) ?_
  refine lv_bipush (v := 59) hx hb dX5_readCrossing_11 (by decide) ?_
  refine k_jv hP hD hS hA [4] [0, 1, 2, 3] (wr := [(a4, .inl (cy 0, 1600, .inl (fun _ => 0))), (a2, .inl (cy 0, 200, .inl f1049)), (a3, .inl (cy 0, 6, .inl f1050)), (a1, .inr (4, [.int 10, .int 1, .int 0, .int 0, .int 0, .int 0, .int 0, .ref a5, .ref a6, .ref a7, .int 0, .ref a8, .ref a9, .ref a2, .ref a10, .ref a11, .int 0, .ref a3]))]) rfl rfl (by decide) (by decide) (by decide) 0 0 (Nat.le_of_ble_eq_true rfl) (Nat.le_of_ble_eq_true rfl) (fun hPc hDc => k_runV (As := [.int 59]) (rest := []) C0 (c_X5_need l dC dI cy sq a0 a4 a1) mV_X5_48 hPc hDc rfl rfl rfl hl rfl rfl (Nat.le_of_ble_eq_true rfl) ⟨(Nat.le_of_ble_eq_true rfl), (Nat.le_of_ble_eq_true rfl)⟩ ⟨(Nat.le_of_ble_eq_true rfl), (Nat.le_of_ble_eq_true rfl)⟩ dX5_readCrossing_13) (fun u1106 H locs hw hP hD hS => ?_)
  have hP : va_P (dC, dI) vwCl [(a4, .inl (cy 0, 1600, .inl (fun _ => 0))), (a2, .inl (cy 0, 200, .inl f1049)), (a3, .inl (cy 0, 6, .inl f1050)), (a1, .inr (4, [.int 10, .int 1, .int 0, .int 0, .int 0, .int 0, .int 0, .ref a5, .ref a6, .ref a7, .int 0, .ref a8, .ref a9, .ref a2, .ref a10, .ref a11, .int 0, .ref a3])), (a0, .inr (5, [.ref a4, .int 0, .int 0, .int 0, .int 0, .int 0, .ref a1, .int 1, .int 0]))] H := hP
  have hD : va_D A [(a4, .inl (cy 0, 1600, .inl (fun _ => 0))), (a2, .inl (cy 0, 200, .inl f1049)), (a3, .inl (cy 0, 6, .inl f1050)), (a1, .inr (4, [.int 10, .int 1, .int 0, .int 0, .int 0, .int 0, .int 0, .ref a5, .ref a6, .ref a7, .int 0, .ref a8, .ref a9, .ref a2, .ref a10, .ref a11, .int 0, .ref a3])), (a0, .inr (5, [.ref a4, .int 0, .int 0, .int 0, .int 0, .int 0, .ref a1, .int 1, .int 0]))] := hD
  refine lv_iconst (v := 1) hx hb dX5_readCrossing_16 (by decide) ?_
  refine lv_istore_n (lv' := [(3, .int 1), (0, .ref a0), (1, .ref a1), (2, .int 0)]) hx hb dX5_readCrossing_17 rfl hl (by decide) rfl (fun ls hl => ?_)
  refine lv_aload_n hx hb dX5_readCrossing_18 rfl (lv_at hl 1 rfl) ?_
  refine k_get C0 fg_X5_21 hP 4 rfl rfl dX5_readCrossing_19 ?_
  refine lv_if_eq (tgt := 158) hx hb dX5_readCrossing_22 (by decide) (fun _ => ?_) (fun h9 => absurd (by decide) h9)
  refine lv_aload_n hx hb dX5_readCrossing_158 rfl (lv_at hl 1 rfl) ?_
  refine k_get C0 fg_X5_21 hP 4 rfl rfl dX5_readCrossing_159 ?_
  refine lv_if_eq (tgt := 174) hx hb dX5_readCrossing_162 (by decide) (fun _ => ?_) (fun h9 => absurd (by decide) h9)
  refine lv_aload_n hx hb dX5_readCrossing_174 rfl (lv_at hl 2 rfl) ?_
  refine lv_iload_n hx hb dX5_readCrossing_175 rfl (lv_at hl 0 rfl) ?_
  refine k_put C0 fp_X5_81 hP hD hS 3 rfl rfl rfl (Nat.le_of_ble_eq_true rfl) dX5_readCrossing_176 (fun H locs hP hD hS => ?_)
  have hP : va_P (dC, dI) vwCl [(a4, .inl (cy 0, 1600, .inl (fun _ => 0))), (a2, .inl (cy 0, 200, .inl f1049)), (a3, .inl (cy 0, 6, .inl f1050)), (a1, .inr (4, [.int 10, .int 1, .int 0, .int 0, .int 0, .int 1, .int 0, .ref a5, .ref a6, .ref a7, .int 0, .ref a8, .ref a9, .ref a2, .ref a10, .ref a11, .int 0, .ref a3])), (a0, .inr (5, [.ref a4, .int 0, .int 0, .int 0, .int 0, .int 0, .ref a1, .int 1, .int 0]))] H := hP
  have hD : va_D A [(a4, .inl (cy 0, 1600, .inl (fun _ => 0))), (a2, .inl (cy 0, 200, .inl f1049)), (a3, .inl (cy 0, 6, .inl f1050)), (a1, .inr (4, [.int 10, .int 1, .int 0, .int 0, .int 0, .int 1, .int 0, .ref a5, .ref a6, .ref a7, .int 0, .ref a8, .ref a9, .ref a2, .ref a10, .ref a11, .int 0, .ref a3])), (a0, .inr (5, [.ref a4, .int 0, .int 0, .int 0, .int 0, .int 0, .ref a1, .int 1, .int 0]))] := hD
  exact k_vret hx hb hr hlk (f1049, f1050) hS True.intro hP hD (Nat.le_of_ble_eq_true rfl) (Nat.le_of_ble_eq_true rfl) dX5_readCrossing_179
set_option maxHeartbeats 4000000 in
set_option maxRecDepth 100000 in
theorem c_X9_refuse (l : Launch) (dC : Nat → ClassId) (dI : Nat → Nat → Nat) (cy : Nat → ClassId) (sq : Nat → Nat) (a0 : Nat) (a1 : Nat) (a2 : Nat) (a3 : Nat) (a4 : Nat) (a5 : Nat) (a6 : Nat) (a7 : Nat) (a8 : Nat) (a9 : Nat) (a10 : Nat) (a11 : Nat) (a12 : Nat) (a13 : Nat) : k_Met l yX9_refuse cX9_refuse 2 (some .int) { frames := 0, cells := 0, slots := 0, locals := 0 } dC dI cy sq [.ref a0, .int 1] [(a0, .inr (9, [.ref a2, .int 0, .ref a3, .ref a4, .ref a5, .ref a6, .ref a7, .ref a8, .ref a9, .ref a10, .ref a11, .ref a12, .ref a13, .int 0, .ref a1, .long 1])), (a1, .inl (cy 0, 6, .inl (fun _ => 0)))] (k_Qi dC dI (fun (r : Int32) (_ : Unit) => r = (-1)) (fun _ : Unit => [(a0, .inr (9, [.ref a2, .int 0, .ref a3, .ref a4, .ref a5, .ref a6, .ref a7, .ref a8, .ref a9, .ref a10, .ref a11, .ref a12, .ref a13, .int 0, .ref a1, .long 1])), (a1, .inl (cy 0, 6, .inl (upd (fun _ => 0) 1 1)))])) := by
  refine k_ofW (by decide +kernel) (Nat.le_of_ble_eq_true rfl) ?_
  intro p e s m below meth c A ls H locs C0 hr hlk hin hP hD hA hS hl
  have C0 : k_cx p s m _ c cX9_refuse 2 RX9 dC dI cy sq := C0
  have hx := C0.1
  have hb := C0.2.1
  have hl : lv_has ls 2 [(0, .ref a0), (1, .int 1)] := hl
  refine lv_aload_n hx hb dX9_refuse_0 rfl (lv_at hl 0 rfl) ?_
  refine k_get C0 fg_X9_95 hP 0 rfl rfl dX9_refuse_1 ?_
  refine lv_iload_n hx hb dX9_refuse_4 rfl (lv_at hl 1 rfl) ?_
  refine lv_dup2_11 hx hb dX9_refuse_5 rfl rfl ?_
  refine va_iald hx hb C0.2.2.2.2.2.1 hP 1 0 rfl rfl (k_in 1 6 (by decide)) dX9_refuse_6 ?_
  refine k_topi (y := 0) rfl ?_
  refine lv_iconst (v := 1) hx hb dX9_refuse_7 (by decide) ?_
  refine lv_iadd hx hb dX9_refuse_8 ?_
  refine k_topi (y := 1) (by decide) ?_
  refine va_iast hx hb C0.2.2.2.2.2.1 hP hD hS 1 0 rfl rfl (k_in 1 6 (by decide)) dX9_refuse_9 (fun H locs hP hD hS => ?_)
  have hP : va_P (dC, dI) vwCl [(a0, .inr (9, [.ref a2, .int 0, .ref a3, .ref a4, .ref a5, .ref a6, .ref a7, .ref a8, .ref a9, .ref a10, .ref a11, .ref a12, .ref a13, .int 0, .ref a1, .long 1])), (a1, .inl (cy 0, 6, .inl (upd (fun _ => 0) 1 1)))] H := hP
  have hD : va_D A [(a0, .inr (9, [.ref a2, .int 0, .ref a3, .ref a4, .ref a5, .ref a6, .ref a7, .ref a8, .ref a9, .ref a10, .ref a11, .ref a12, .ref a13, .int 0, .ref a1, .long 1])), (a1, .inl (cy 0, 6, .inl (upd (fun _ => 0) 1 1)))] := hD
  refine lv_iconst (v := (-1)) hx hb dX9_refuse_10 (by decide) ?_
  exact k_iret hx hb hr hlk rfl () hS rfl hP hD (Nat.le_of_ble_eq_true rfl) (Nat.le_of_ble_eq_true rfl) dX9_refuse_11
set_option maxHeartbeats 4000000 in
set_option maxRecDepth 100000 in
theorem c_X9_crossing (l : Launch) (dC : Nat → ClassId) (dI : Nat → Nat → Nat) (cy : Nat → ClassId) (sq : Nat → Nat) (a0 : Nat) (a1 : Nat) (a2 : Nat) (a3 : Nat) (a4 : Nat) (a5 : Nat) (a6 : Nat) (a7 : Nat) (a8 : Nat) (a9 : Nat) (a10 : Nat) (a11 : Nat) (a12 : Nat) (a13 : Nat) (a14 : Nat) (a15 : Nat) (a16 : Nat) (a17 : Nat) (a18 : Nat) (a19 : Nat) (a20 : Nat) (a21 : Nat) (a22 : Nat) : k_Met l yX9_crossing cX9_crossing 2 (some .int) { frames := 5, cells := 0, slots := 0, locals := 112 } dC dI cy sq [.ref a0] [(a0, .inr (9, [.ref a5, .int 0, .ref a7, .ref a2, .ref a8, .ref a9, .ref a10, .ref a1, .ref a11, .ref a12, .ref a13, .ref a14, .ref a15, .int 0, .ref a6, .long 1])), (a1, .inr (5, [.ref a5, .int 0, .int 0, .int 0, .int 0, .int 0, .ref a2, .int 0, .int (-1)])), (a2, .inr (4, [.int 0, .int 0, .int 0, .int 0, .int 0, .int 0, .int 0, .ref a16, .ref a17, .ref a18, .int 0, .ref a19, .ref a20, .ref a3, .ref a21, .ref a22, .int 0, .ref a4])), (a3, .inl (cy 0, 200, .inl (fun _ => 0))), (a4, .inl (cy 0, 6, .inl (fun _ => 0))), (a5, .inl (cy 0, 1600, .inl (fun _ => 0))), (a6, .inl (cy 0, 6, .inl (fun _ => 0)))] (k_Qi dC dI (fun (r : Int32) (_ : Unit) => r = (-1)) (fun _ : Unit => [])) := by
  refine k_ofW (by decide +kernel) (Nat.le_of_ble_eq_true rfl) ?_
  intro p e s m below meth c A ls H locs C0 hr hlk hin hP hD hA hS hl
  have C0 : k_cx p s m _ c cX9_crossing 2 RX9 dC dI cy sq := C0
  have hx := C0.1
  have hb := C0.2.1
  have hl : lv_has ls 2 [(0, .ref a0)] := hl
  refine lv_aload_n hx hb dX9_crossing_0 rfl (lv_at hl 0 rfl) ?_
  refine k_get C0 fg_X9_24 hP 0 rfl rfl dX9_crossing_1 ?_
  refine lv_astore_n (lv' := [(1, .ref a2), (0, .ref a0)]) hx hb dX9_crossing_4 rfl hl (by decide) rfl (fun ls hl => ?_)
  refine lv_aload_n hx hb dX9_crossing_5 rfl (lv_at hl 1 rfl) ?_
  refine k_get C0 fg_X9_53 hP 0 rfl rfl dX9_crossing_6 ?_
  refine lv_aload_n hx hb dX9_crossing_9 rfl (lv_at hl 0 rfl) ?_
  refine lv_aload_n hx hb dX9_crossing_10 rfl (lv_at hl 1 rfl) ?_
  refine k_ji hP hD hS hA [0] [1, 2, 3, 4, 5, 6] (wr := [(a1, .inr (5, [.ref a5, .int 0, .int 0, .int 0, .int 0, .int 0, .ref a2, .int 0, .int (-1)])), (a2, .inr (4, [.int 0, .int 0, .int 0, .int 0, .int 0, .int 0, .int 0, .ref a16, .ref a17, .ref a18, .int 0, .ref a19, .ref a20, .ref a3, .ref a21, .ref a22, .int 0, .ref a4])), (a3, .inl (cy 0, 200, .inl (fun _ => 0))), (a4, .inl (cy 0, 6, .inl (fun _ => 0))), (a5, .inl (cy 0, 1600, .inl (fun _ => 0))), (a6, .inl (cy 0, 6, .inl (fun _ => 0)))]) rfl rfl (by decide) (by decide) (by decide) 0 0 (Nat.le_of_ble_eq_true rfl) (Nat.le_of_ble_eq_true rfl) (fun hPc hDc => k_runV (As := []) (rest := [.ref a2, .ref a1]) C0 (c_X9_takeTape l dC dI cy sq a0 a5 a7 a2 a8 a9 a10 a1 a11 a12 a13 a14 a15 a6) mV_X9_114 hPc hDc rfl rfl rfl hl rfl rfl (Nat.le_of_ble_eq_true rfl) ⟨(Nat.le_of_ble_eq_true rfl), (Nat.le_of_ble_eq_true rfl)⟩ ⟨(Nat.le_of_ble_eq_true rfl), (Nat.le_of_ble_eq_true rfl)⟩ dX9_crossing_11) (fun r1113 u1114 H locs hw hP hD hS => ?_)
  have hP : va_P (dC, dI) vwCl [(a1, .inr (5, [.ref a5, .int 0, .int 0, .int 0, .int 0, .int 0, .ref a2, .int 0, .int (-1)])), (a2, .inr (4, [.int 0, .int 0, .int 0, .int 0, .int 0, .int 0, .int 0, .ref a16, .ref a17, .ref a18, .int 0, .ref a19, .ref a20, .ref a3, .ref a21, .ref a22, .int 0, .ref a4])), (a3, .inl (cy 0, 200, .inl (fun _ => 0))), (a4, .inl (cy 0, 6, .inl (fun _ => 0))), (a5, .inl (cy 0, 1600, .inl (fun _ => 0))), (a6, .inl (cy 0, 6, .inl (fun _ => 0))), (a0, .inr (9, [.ref a5, .int 0, .ref a7, .ref a2, .ref a8, .ref a9, .ref a10, .ref a1, .ref a11, .ref a12, .ref a13, .ref a14, .ref a15, .int 0, .ref a6, .long 1]))] H := hP
  have hD : va_D A [(a1, .inr (5, [.ref a5, .int 0, .int 0, .int 0, .int 0, .int 0, .ref a2, .int 0, .int (-1)])), (a2, .inr (4, [.int 0, .int 0, .int 0, .int 0, .int 0, .int 0, .int 0, .ref a16, .ref a17, .ref a18, .int 0, .ref a19, .ref a20, .ref a3, .ref a21, .ref a22, .int 0, .ref a4])), (a3, .inl (cy 0, 200, .inl (fun _ => 0))), (a4, .inl (cy 0, 6, .inl (fun _ => 0))), (a5, .inl (cy 0, 1600, .inl (fun _ => 0))), (a6, .inl (cy 0, 6, .inl (fun _ => 0))), (a0, .inr (9, [.ref a5, .int 0, .ref a7, .ref a2, .ref a8, .ref a9, .ref a10, .ref a1, .ref a11, .ref a12, .ref a13, .ref a14, .ref a15, .int 0, .ref a6, .long 1]))] := hD
  subst hw
  refine k_jv hP hD hS hA [0, 1, 2, 3, 4] [5, 6] (wr := [(a6, .inl (cy 0, 6, .inl (fun _ => 0))), (a0, .inr (9, [.ref a5, .int 0, .ref a7, .ref a2, .ref a8, .ref a9, .ref a10, .ref a1, .ref a11, .ref a12, .ref a13, .ref a14, .ref a15, .int 0, .ref a6, .long 1]))]) rfl rfl (by decide) (by decide) (by decide) 0 0 (Nat.le_of_ble_eq_true rfl) (Nat.le_of_ble_eq_true rfl) (fun hPc hDc => k_runV (As := [.ref a2, .int 0]) (rest := []) C0 (c_X5_readCrossing l dC dI cy sq a1 a2 a3 a4 a5 a16 a17 a18 a19 a20 a21 a22) mV_X9_118 hPc hDc rfl rfl rfl hl rfl rfl (Nat.le_of_ble_eq_true rfl) ⟨(Nat.le_of_ble_eq_true rfl), (Nat.le_of_ble_eq_true rfl)⟩ ⟨(Nat.le_of_ble_eq_true rfl), (Nat.le_of_ble_eq_true rfl)⟩ dX9_crossing_14) (fun u1190 H locs hw hP hD hS => ?_)
  obtain ⟨f1191, f1192⟩ := u1190
  try dsimp only at hP hD
  have hP : va_P (dC, dI) vwCl [(a6, .inl (cy 0, 6, .inl (fun _ => 0))), (a0, .inr (9, [.ref a5, .int 0, .ref a7, .ref a2, .ref a8, .ref a9, .ref a10, .ref a1, .ref a11, .ref a12, .ref a13, .ref a14, .ref a15, .int 0, .ref a6, .long 1])), (a5, .inl (cy 0, 1600, .inl (fun _ => 0))), (a3, .inl (cy 0, 200, .inl f1191)), (a4, .inl (cy 0, 6, .inl f1192)), (a2, .inr (4, [.int 10, .int 1, .int 0, .int 0, .int 0, .int 1, .int 0, .ref a16, .ref a17, .ref a18, .int 0, .ref a19, .ref a20, .ref a3, .ref a21, .ref a22, .int 0, .ref a4])), (a1, .inr (5, [.ref a5, .int 0, .int 0, .int 0, .int 0, .int 0, .ref a2, .int 1, .int 0]))] H := hP
  have hD : va_D A [(a6, .inl (cy 0, 6, .inl (fun _ => 0))), (a0, .inr (9, [.ref a5, .int 0, .ref a7, .ref a2, .ref a8, .ref a9, .ref a10, .ref a1, .ref a11, .ref a12, .ref a13, .ref a14, .ref a15, .int 0, .ref a6, .long 1])), (a5, .inl (cy 0, 1600, .inl (fun _ => 0))), (a3, .inl (cy 0, 200, .inl f1191)), (a4, .inl (cy 0, 6, .inl f1192)), (a2, .inr (4, [.int 10, .int 1, .int 0, .int 0, .int 0, .int 1, .int 0, .ref a16, .ref a17, .ref a18, .int 0, .ref a19, .ref a20, .ref a3, .ref a21, .ref a22, .int 0, .ref a4])), (a1, .inr (5, [.ref a5, .int 0, .int 0, .int 0, .int 0, .int 0, .ref a2, .int 1, .int 0]))] := hD
  refine lv_aload_n hx hb dX9_crossing_17 rfl (lv_at hl 1 rfl) ?_
  refine k_get C0 fg_X9_53 hP 1 rfl rfl dX9_crossing_18 ?_
  refine k_get C0 fg_X9_122 hP 6 rfl rfl dX9_crossing_21 ?_
  refine lv_if_eq (tgt := 33) hx hb dX9_crossing_24 (by decide) (fun h9 => absurd h9 (by decide)) (fun _ => ?_)
  refine lv_aload_n hx hb dX9_crossing_27 rfl (lv_at hl 1 rfl) ?_
  refine lv_iconst (v := 1) hx hb dX9_crossing_28 (by decide) ?_
  refine k_ji hP hD hS hA [1, 0] [2, 3, 4, 5, 6] (wr := [(a5, .inl (cy 0, 1600, .inl (fun _ => 0))), (a3, .inl (cy 0, 200, .inl f1191)), (a4, .inl (cy 0, 6, .inl f1192)), (a2, .inr (4, [.int 10, .int 1, .int 0, .int 0, .int 0, .int 1, .int 0, .ref a16, .ref a17, .ref a18, .int 0, .ref a19, .ref a20, .ref a3, .ref a21, .ref a22, .int 0, .ref a4])), (a1, .inr (5, [.ref a5, .int 0, .int 0, .int 0, .int 0, .int 0, .ref a2, .int 1, .int 0]))]) rfl rfl (by decide) (by decide) (by decide) 0 0 (Nat.le_of_ble_eq_true rfl) (Nat.le_of_ble_eq_true rfl) (fun hPc hDc => k_runV (As := [.int 1]) (rest := []) C0 (c_X9_refuse l dC dI cy sq a0 a6 a5 a7 a2 a8 a9 a10 a1 a11 a12 a13 a14 a15) mV_X9_102 hPc hDc rfl rfl rfl hl rfl rfl (Nat.le_of_ble_eq_true rfl) ⟨(Nat.le_of_ble_eq_true rfl), (Nat.le_of_ble_eq_true rfl)⟩ ⟨(Nat.le_of_ble_eq_true rfl), (Nat.le_of_ble_eq_true rfl)⟩ dX9_crossing_29) (fun r1193 u1194 H locs hw hP hD hS => ?_)
  have hP : va_P (dC, dI) vwCl [(a5, .inl (cy 0, 1600, .inl (fun _ => 0))), (a3, .inl (cy 0, 200, .inl f1191)), (a4, .inl (cy 0, 6, .inl f1192)), (a2, .inr (4, [.int 10, .int 1, .int 0, .int 0, .int 0, .int 1, .int 0, .ref a16, .ref a17, .ref a18, .int 0, .ref a19, .ref a20, .ref a3, .ref a21, .ref a22, .int 0, .ref a4])), (a1, .inr (5, [.ref a5, .int 0, .int 0, .int 0, .int 0, .int 0, .ref a2, .int 1, .int 0])), (a0, .inr (9, [.ref a5, .int 0, .ref a7, .ref a2, .ref a8, .ref a9, .ref a10, .ref a1, .ref a11, .ref a12, .ref a13, .ref a14, .ref a15, .int 0, .ref a6, .long 1])), (a6, .inl (cy 0, 6, .inl (upd (fun _ => 0) 1 1)))] H := hP
  have hD : va_D A [(a5, .inl (cy 0, 1600, .inl (fun _ => 0))), (a3, .inl (cy 0, 200, .inl f1191)), (a4, .inl (cy 0, 6, .inl f1192)), (a2, .inr (4, [.int 10, .int 1, .int 0, .int 0, .int 0, .int 1, .int 0, .ref a16, .ref a17, .ref a18, .int 0, .ref a19, .ref a20, .ref a3, .ref a21, .ref a22, .int 0, .ref a4])), (a1, .inr (5, [.ref a5, .int 0, .int 0, .int 0, .int 0, .int 0, .ref a2, .int 1, .int 0])), (a0, .inr (9, [.ref a5, .int 0, .ref a7, .ref a2, .ref a8, .ref a9, .ref a10, .ref a1, .ref a11, .ref a12, .ref a13, .ref a14, .ref a15, .int 0, .ref a6, .long 1])), (a6, .inl (cy 0, 6, .inl (upd (fun _ => 0) 1 1)))] := hD
  subst hw
  exact k_iret hx hb hr hlk rfl () hS rfl (hP.sub [] rfl) (hD.sub [] (by decide) rfl) (Nat.le_of_ble_eq_true rfl) (Nat.le_of_ble_eq_true rfl) dX9_crossing_32
set_option maxHeartbeats 4000000 in
set_option maxRecDepth 100000 in
theorem c_X9_fault (l : Launch) (dC : Nat → ClassId) (dI : Nat → Nat → Nat) (cy : Nat → ClassId) (sq : Nat → Nat) (a0 : Nat) (a1 : Nat) (a2 : Nat) (a3 : Nat) (a4 : Nat) (a5 : Nat) (a6 : Nat) (a7 : Nat) (a8 : Nat) (a9 : Nat) (a10 : Nat) (a11 : Nat) (a12 : Nat) (a13 : Nat) (x0 : Int32) : k_Met l yX9_fault cX9_fault 2 (some .int) { frames := 0, cells := 0, slots := 0, locals := 0 } dC dI cy sq [.ref a0, .int x0] [(a0, .inr (9, [.ref a2, .int 0, .ref a3, .ref a4, .ref a5, .ref a6, .ref a7, .ref a1, .ref a8, .ref a9, .ref a10, .ref a11, .ref a12, .int 0, .ref a13, .long 1])), (a1, .inr (5, [.ref a2, .int 0, .int 0, .int 0, .int 0, .int 0, .ref a4, .int 0, .int (-1)]))] (k_Qi dC dI (fun (r : Int32) (_ : Unit) => r = s_fault x0) (fun _ : Unit => [])) := by
  refine k_ofW (by decide +kernel) (Nat.le_of_ble_eq_true rfl) ?_
  intro p e s m below meth c A ls H locs C0 hr hlk hin hP hD hA hS hl
  have C0 : k_cx p s m _ c cX9_fault 2 RX9 dC dI cy sq := C0
  have hx := C0.1
  have hb := C0.2.1
  have hl : lv_has ls 2 [(0, .ref a0), (1, .int x0)] := hl
  refine lv_iload_n hx hb dX9_fault_0 rfl (lv_at hl 1 rfl) ?_
  rcases Decidable.em (x0 = 0) with s1196_0 | s1196_0
  · subst s1196_0
    refine lv_lookup (tgt := 28) hx hb dX9_fault_1 (by decide) rfl (by decide) ?_
    refine lv_aload_n hx hb dX9_fault_28 rfl (lv_at hl 0 rfl) ?_
    refine k_get C0 fg_X9_53 hP 0 rfl rfl dX9_fault_29 ?_
    refine k_get C0 fg_X9_122 hP 1 rfl rfl dX9_fault_32 ?_
    exact k_iret hx hb hr hlk rfl () hS (by decide) (hP.sub [] rfl) (hD.sub [] (by decide) rfl) (Nat.le_of_ble_eq_true rfl) (Nat.le_of_ble_eq_true rfl) dX9_fault_35
  rcases Decidable.em (x0 = 1) with s1196_1 | s1196_1
  · subst s1196_1
    refine lv_lookup (tgt := 36) hx hb dX9_fault_1 (by decide) rfl (by decide) ?_
    refine lv_aload_n hx hb dX9_fault_36 rfl (lv_at hl 0 rfl) ?_
    refine k_get C0 fg_X9_53 hP 0 rfl rfl dX9_fault_37 ?_
    refine k_get C0 fg_X9_142 hP 1 rfl rfl dX9_fault_40 ?_
    exact k_iret hx hb hr hlk rfl () hS (by decide) (hP.sub [] rfl) (hD.sub [] (by decide) rfl) (Nat.le_of_ble_eq_true rfl) (Nat.le_of_ble_eq_true rfl) dX9_fault_43
  refine lv_lookup (tgt := 44) hx hb dX9_fault_1 (by decide) (off := 43) (k_look x0 s1196_0 s1196_1) (by decide) ?_
  refine lv_iconst (v := (-1)) hx hb dX9_fault_44 (by decide) ?_
  exact k_iret hx hb hr hlk rfl () hS (if_neg (by simp only [Int32.lt_iff_toInt_lt, Int32.le_iff_toInt_le, ← Int32.toInt_inj, kl0, kl1, kl2, kl3, kl4, kl5, kl6, kl7, kl60, klm1, kl5L] at s1196_0 s1196_1 ⊢ <;> omega)).symm (hP.sub [] rfl) (hD.sub [] (by decide) rfl) (Nat.le_of_ble_eq_true rfl) (Nat.le_of_ble_eq_true rfl) dX9_fault_45
set_option maxHeartbeats 4000000 in
set_option maxRecDepth 100000 in
theorem c_X9_has (l : Launch) (dC : Nat → ClassId) (dI : Nat → Nat → Nat) (cy : Nat → ClassId) (sq : Nat → Nat) (a0 : Nat) (a1 : Nat) (a2 : Nat) (a3 : Nat) (a4 : Nat) (a5 : Nat) (a6 : Nat) (a7 : Nat) (a8 : Nat) (a9 : Nat) (a10 : Nat) (a11 : Nat) (a12 : Nat) (a13 : Nat) (a14 : Nat) (a15 : Nat) (a16 : Nat) (a17 : Nat) (a18 : Nat) (a19 : Nat) (a20 : Nat) (a21 : Nat) (a22 : Nat) (a23 : Nat) (a24 : Nat) (a25 : Nat) (a26 : Nat) (a27 : Nat) (x0 : Int32) : k_Met l yX9_has cX9_has 2 (some .int) { frames := 0, cells := 0, slots := 0, locals := 0 } dC dI cy sq [.ref a0, .int x0] [(a0, .inr (9, [.ref a5, .int 0, .ref a1, .ref a6, .ref a2, .ref a4, .ref a7, .ref a8, .ref a9, .ref a10, .ref a11, .ref a3, .ref a12, .int 0, .ref a13, .long 1])), (a1, .inr (4, [.int 0, .int 0, .int 0, .int 0, .int 0, .int 0, .int 0, .ref a14, .ref a15, .ref a16, .int 0, .ref a17, .ref a18, .ref a19, .ref a20, .ref a21, .int 0, .ref a22])), (a2, .inr (6, [.int 0, .int 0, .int 0, .ref a23])), (a3, .inr (8, [.ref a9, .ref a24, .ref a25, .int 0, .int 0, .ref a26, .int 0, .int 0, .int (-1), .int (-1), .int (-1)])), (a4, .inr (2, [.ref a27, .int 0, .int 0]))] (k_Qi dC dI (fun (r : Int32) (_ : Unit) => r = s_has x0) (fun _ : Unit => [])) := by
  refine k_ofW (by decide +kernel) (Nat.le_of_ble_eq_true rfl) ?_
  intro p e s m below meth c A ls H locs C0 hr hlk hin hP hD hA hS hl
  have C0 : k_cx p s m _ c cX9_has 2 RX9 dC dI cy sq := C0
  have hx := C0.1
  have hb := C0.2.1
  have hl : lv_has ls 2 [(0, .ref a0), (1, .int x0)] := hl
  refine lv_iload_n hx hb dX9_has_0 rfl (lv_at hl 1 rfl) ?_
  rcases Decidable.em (x0 = 0) with s1198_0 | s1198_0
  · subst s1198_0
    refine lv_tableIn (off := 47) (tgt := 48) hx hb dX9_has_1 (by decide) (by decide) (by decide) (by decide) ?_
    refine lv_aload_n hx hb dX9_has_48 rfl (lv_at hl 0 rfl) ?_
    refine k_get C0 fg_X9_20 hP 0 rfl rfl dX9_has_49 ?_
    refine k_get C0 fg_X9_145 hP 1 rfl rfl dX9_has_52 ?_
    exact k_iret hx hb hr hlk rfl () hS (by decide) (hP.sub [] rfl) (hD.sub [] (by decide) rfl) (Nat.le_of_ble_eq_true rfl) (Nat.le_of_ble_eq_true rfl) dX9_has_55
  rcases Decidable.em (x0 = 1) with s1198_1 | s1198_1
  · subst s1198_1
    refine lv_tableIn (off := 55) (tgt := 56) hx hb dX9_has_1 (by decide) (by decide) (by decide) (by decide) ?_
    refine lv_aload_n hx hb dX9_has_56 rfl (lv_at hl 0 rfl) ?_
    refine k_get C0 fg_X9_20 hP 0 rfl rfl dX9_has_57 ?_
    refine k_get C0 fg_X9_148 hP 1 rfl rfl dX9_has_60 ?_
    exact k_iret hx hb hr hlk rfl () hS (by decide) (hP.sub [] rfl) (hD.sub [] (by decide) rfl) (Nat.le_of_ble_eq_true rfl) (Nat.le_of_ble_eq_true rfl) dX9_has_63
  rcases Decidable.em (x0 = 2) with s1198_2 | s1198_2
  · subst s1198_2
    refine lv_tableIn (off := 63) (tgt := 64) hx hb dX9_has_1 (by decide) (by decide) (by decide) (by decide) ?_
    refine lv_aload_n hx hb dX9_has_64 rfl (lv_at hl 0 rfl) ?_
    refine k_get C0 fg_X9_20 hP 0 rfl rfl dX9_has_65 ?_
    refine k_get C0 fg_X9_151 hP 1 rfl rfl dX9_has_68 ?_
    exact k_iret hx hb hr hlk rfl () hS (by decide) (hP.sub [] rfl) (hD.sub [] (by decide) rfl) (Nat.le_of_ble_eq_true rfl) (Nat.le_of_ble_eq_true rfl) dX9_has_71
  rcases Decidable.em (x0 = 3) with s1198_3 | s1198_3
  · subst s1198_3
    refine lv_tableIn (off := 71) (tgt := 72) hx hb dX9_has_1 (by decide) (by decide) (by decide) (by decide) ?_
    refine lv_aload_n hx hb dX9_has_72 rfl (lv_at hl 0 rfl) ?_
    refine k_get C0 fg_X9_30 hP 0 rfl rfl dX9_has_73 ?_
    refine k_get C0 fg_X9_154 hP 2 rfl rfl dX9_has_76 ?_
    exact k_iret hx hb hr hlk rfl () hS (by decide) (hP.sub [] rfl) (hD.sub [] (by decide) rfl) (Nat.le_of_ble_eq_true rfl) (Nat.le_of_ble_eq_true rfl) dX9_has_79
  rcases Decidable.em (x0 = 4) with s1198_4 | s1198_4
  · subst s1198_4
    refine lv_tableIn (off := 79) (tgt := 80) hx hb dX9_has_1 (by decide) (by decide) (by decide) (by decide) ?_
    refine lv_aload_n hx hb dX9_has_80 rfl (lv_at hl 0 rfl) ?_
    refine k_get C0 fg_X9_30 hP 0 rfl rfl dX9_has_81 ?_
    refine k_get C0 fg_X9_157 hP 2 rfl rfl dX9_has_84 ?_
    exact k_iret hx hb hr hlk rfl () hS (by decide) (hP.sub [] rfl) (hD.sub [] (by decide) rfl) (Nat.le_of_ble_eq_true rfl) (Nat.le_of_ble_eq_true rfl) dX9_has_87
  rcases Decidable.em (x0 = 5) with s1198_5 | s1198_5
  · subst s1198_5
    refine lv_tableIn (off := 87) (tgt := 88) hx hb dX9_has_1 (by decide) (by decide) (by decide) (by decide) ?_
    refine lv_aload_n hx hb dX9_has_88 rfl (lv_at hl 0 rfl) ?_
    refine k_get C0 fg_X9_30 hP 0 rfl rfl dX9_has_89 ?_
    refine k_get C0 fg_X9_160 hP 2 rfl rfl dX9_has_92 ?_
    exact k_iret hx hb hr hlk rfl () hS (by decide) (hP.sub [] rfl) (hD.sub [] (by decide) rfl) (Nat.le_of_ble_eq_true rfl) (Nat.le_of_ble_eq_true rfl) dX9_has_95
  rcases Decidable.em (x0 = 6) with s1198_6 | s1198_6
  · subst s1198_6
    refine lv_tableIn (off := 95) (tgt := 96) hx hb dX9_has_1 (by decide) (by decide) (by decide) (by decide) ?_
    refine lv_aload_n hx hb dX9_has_96 rfl (lv_at hl 0 rfl) ?_
    refine k_get C0 fg_X9_85 hP 0 rfl rfl dX9_has_97 ?_
    refine k_get C0 fg_X9_163 hP 3 rfl rfl dX9_has_100 ?_
    exact k_iret hx hb hr hlk rfl () hS (by decide) (hP.sub [] rfl) (hD.sub [] (by decide) rfl) (Nat.le_of_ble_eq_true rfl) (Nat.le_of_ble_eq_true rfl) dX9_has_103
  rcases Decidable.em (x0 = 7) with s1198_7 | s1198_7
  · subst s1198_7
    refine lv_tableIn (off := 103) (tgt := 104) hx hb dX9_has_1 (by decide) (by decide) (by decide) (by decide) ?_
    refine lv_aload_n hx hb dX9_has_104 rfl (lv_at hl 0 rfl) ?_
    refine k_get C0 fg_X9_37 hP 0 rfl rfl dX9_has_105 ?_
    refine k_get C0 fg_X9_166 hP 4 rfl rfl dX9_has_108 ?_
    exact k_iret hx hb hr hlk rfl () hS (by decide) (hP.sub [] rfl) (hD.sub [] (by decide) rfl) (Nat.le_of_ble_eq_true rfl) (Nat.le_of_ble_eq_true rfl) dX9_has_111
  refine lv_tableOut (tgt := 112) hx hb dX9_has_1 (by simp only [← Int32.toInt_inj, kl0, kl1, kl2, kl3, kl4, kl5, kl6, kl7, kl60, klm1] at s1198_0 s1198_1 s1198_2 s1198_3 s1198_4 s1198_5 s1198_6 s1198_7; omega) (by decide) ?_
  refine lv_iconst (v := (-1)) hx hb dX9_has_112 (by decide) ?_
  exact k_iret hx hb hr hlk rfl () hS (if_neg (by simp only [Int32.lt_iff_toInt_lt, Int32.le_iff_toInt_le, ← Int32.toInt_inj, kl0, kl1, kl2, kl3, kl4, kl5, kl6, kl7, kl60, klm1, kl5L] at s1198_0 s1198_1 s1198_2 s1198_3 s1198_4 s1198_5 s1198_6 s1198_7 ⊢ <;> omega)).symm (hP.sub [] rfl) (hD.sub [] (by decide) rfl) (Nat.le_of_ble_eq_true rfl) (Nat.le_of_ble_eq_true rfl) dX9_has_113
set_option maxHeartbeats 4000000 in
set_option maxRecDepth 100000 in
theorem c_X9_isWalker (l : Launch) (dC : Nat → ClassId) (dI : Nat → Nat → Nat) (cy : Nat → ClassId) (sq : Nat → Nat) (a0 : Nat) (a1 : Nat) (a2 : Nat) (a3 : Nat) (a4 : Nat) (a5 : Nat) (a6 : Nat) (a7 : Nat) (a8 : Nat) (a9 : Nat) (a10 : Nat) (a11 : Nat) (a12 : Nat) (a13 : Nat) (a14 : Nat) (a15 : Nat) (a16 : Nat) (a17 : Nat) (a18 : Nat) (a19 : Nat) (a20 : Nat) (a21 : Nat) (a22 : Nat) (x0 : Int32) : k_Met l yX9_isWalker cX9_isWalker 2 (some .boolean) { frames := 0, cells := 0, slots := 0, locals := 0 } dC dI cy sq [.ref a0, .int x0] [(a0, .inr (9, [.ref a2, .int 0, .ref a1, .ref a3, .ref a4, .ref a5, .ref a6, .ref a7, .ref a8, .ref a9, .ref a10, .ref a11, .ref a12, .int 0, .ref a13, .long 1])), (a1, .inr (4, [.int 0, .int 0, .int 0, .int 0, .int 0, .int 0, .int 0, .ref a14, .ref a15, .ref a16, .int 0, .ref a17, .ref a18, .ref a19, .ref a20, .ref a21, .int 0, .ref a22]))] (k_Qi dC dI (fun (r : Int32) (_ : Unit) => r = 0) (fun _ : Unit => [(a0, .inr (9, [.ref a2, .int 0, .ref a1, .ref a3, .ref a4, .ref a5, .ref a6, .ref a7, .ref a8, .ref a9, .ref a10, .ref a11, .ref a12, .int 0, .ref a13, .long 1])), (a1, .inr (4, [.int 0, .int 0, .int 0, .int 0, .int 0, .int 0, .int 0, .ref a14, .ref a15, .ref a16, .int 0, .ref a17, .ref a18, .ref a19, .ref a20, .ref a21, .int 0, .ref a22]))])) := by
  refine k_ofW (by decide +kernel) (Nat.le_of_ble_eq_true rfl) ?_
  intro p e s m below meth c A ls H locs C0 hr hlk hin hP hD hA hS hl
  have C0 : k_cx p s m _ c cX9_isWalker 2 RX9 dC dI cy sq := C0
  have hx := C0.1
  have hb := C0.2.1
  have hl : lv_has ls 2 [(0, .ref a0), (1, .int x0)] := hl
  refine lv_iload_n hx hb dX9_isWalker_0 rfl (lv_at hl 1 rfl) ?_
  refine lv_if_lt (tgt := 19) hx hb dX9_isWalker_1 (by decide) (fun c1203 => ?_) (fun c1203 => ?_)
  · refine lv_iconst (v := 0) hx hb dX9_isWalker_19 (by decide) ?_
    exact k_iret hx hb hr hlk (k_nb 0 (by decide)) () hS rfl hP hD (Nat.le_of_ble_eq_true rfl) (Nat.le_of_ble_eq_true rfl) dX9_isWalker_20
  · refine lv_iload_n hx hb dX9_isWalker_4 rfl (lv_at hl 1 rfl) ?_
    refine lv_aload_n hx hb dX9_isWalker_5 rfl (lv_at hl 0 rfl) ?_
    refine k_get C0 fg_X9_20 hP 0 rfl rfl dX9_isWalker_6 ?_
    refine k_get C0 fg_X9_151 hP 1 rfl rfl dX9_isWalker_9 ?_
    refine lv_icmp_ge (tgt := 19) hx hb dX9_isWalker_12 (by decide) (fun c1204 => ?_) (fun c1204 => ?_)
    · refine lv_iconst (v := 0) hx hb dX9_isWalker_19 (by decide) ?_
      exact k_iret hx hb hr hlk (k_nb 0 (by decide)) () hS rfl hP hD (Nat.le_of_ble_eq_true rfl) (Nat.le_of_ble_eq_true rfl) dX9_isWalker_20
    · exact False.elim (by simp only [Int32.lt_iff_toInt_lt, Int32.le_iff_toInt_le, ← Int32.toInt_inj, kl0, kl1, kl2, kl3, kl4, kl5, kl6, kl7, kl60, klm1] at c1203 c1204 <;> omega)
set_option maxHeartbeats 4000000 in
set_option maxRecDepth 100000 in
theorem c_X9_isKind (l : Launch) (dC : Nat → ClassId) (dI : Nat → Nat → Nat) (cy : Nat → ClassId) (sq : Nat → Nat) (a0 : Nat) (a1 : Nat) (a2 : Nat) (a3 : Nat) (a4 : Nat) (a5 : Nat) (a6 : Nat) (a7 : Nat) (a8 : Nat) (a9 : Nat) (a10 : Nat) (a11 : Nat) (a12 : Nat) (a13 : Nat) (a14 : Nat) (a15 : Nat) (a16 : Nat) (a17 : Nat) (a18 : Nat) (a19 : Nat) (a20 : Nat) (a21 : Nat) (a22 : Nat) (x0 : Int32) : k_Met l yX9_isKind cX9_isKind 2 (some .boolean) { frames := 0, cells := 0, slots := 0, locals := 0 } dC dI cy sq [.ref a0, .int x0] [(a0, .inr (9, [.ref a2, .int 0, .ref a1, .ref a3, .ref a4, .ref a5, .ref a6, .ref a7, .ref a8, .ref a9, .ref a10, .ref a11, .ref a12, .int 0, .ref a13, .long 1])), (a1, .inr (4, [.int 0, .int 0, .int 0, .int 0, .int 0, .int 0, .int 0, .ref a14, .ref a15, .ref a16, .int 0, .ref a17, .ref a18, .ref a19, .ref a20, .ref a21, .int 0, .ref a22]))] (k_Qi dC dI (fun (r : Int32) (_ : Unit) => r = 0) (fun _ : Unit => [(a0, .inr (9, [.ref a2, .int 0, .ref a1, .ref a3, .ref a4, .ref a5, .ref a6, .ref a7, .ref a8, .ref a9, .ref a10, .ref a11, .ref a12, .int 0, .ref a13, .long 1])), (a1, .inr (4, [.int 0, .int 0, .int 0, .int 0, .int 0, .int 0, .int 0, .ref a14, .ref a15, .ref a16, .int 0, .ref a17, .ref a18, .ref a19, .ref a20, .ref a21, .int 0, .ref a22]))])) := by
  refine k_ofW (by decide +kernel) (Nat.le_of_ble_eq_true rfl) ?_
  intro p e s m below meth c A ls H locs C0 hr hlk hin hP hD hA hS hl
  have C0 : k_cx p s m _ c cX9_isKind 2 RX9 dC dI cy sq := C0
  have hx := C0.1
  have hb := C0.2.1
  have hl : lv_has ls 2 [(0, .ref a0), (1, .int x0)] := hl
  refine lv_iload_n hx hb dX9_isKind_0 rfl (lv_at hl 1 rfl) ?_
  refine lv_if_lt (tgt := 19) hx hb dX9_isKind_1 (by decide) (fun c1209 => ?_) (fun c1209 => ?_)
  · refine lv_iconst (v := 0) hx hb dX9_isKind_19 (by decide) ?_
    exact k_iret hx hb hr hlk (k_nb 0 (by decide)) () hS rfl hP hD (Nat.le_of_ble_eq_true rfl) (Nat.le_of_ble_eq_true rfl) dX9_isKind_20
  · refine lv_iload_n hx hb dX9_isKind_4 rfl (lv_at hl 1 rfl) ?_
    refine lv_aload_n hx hb dX9_isKind_5 rfl (lv_at hl 0 rfl) ?_
    refine k_get C0 fg_X9_20 hP 0 rfl rfl dX9_isKind_6 ?_
    refine k_get C0 fg_X9_148 hP 1 rfl rfl dX9_isKind_9 ?_
    refine lv_icmp_ge (tgt := 19) hx hb dX9_isKind_12 (by decide) (fun c1210 => ?_) (fun c1210 => ?_)
    · refine lv_iconst (v := 0) hx hb dX9_isKind_19 (by decide) ?_
      exact k_iret hx hb hr hlk (k_nb 0 (by decide)) () hS rfl hP hD (Nat.le_of_ble_eq_true rfl) (Nat.le_of_ble_eq_true rfl) dX9_isKind_20
    · exact False.elim (by simp only [Int32.lt_iff_toInt_lt, Int32.le_iff_toInt_le, ← Int32.toInt_inj, kl0, kl1, kl2, kl3, kl4, kl5, kl6, kl7, kl60, klm1] at c1209 c1210 <;> omega)
set_option maxHeartbeats 4000000 in
set_option maxRecDepth 100000 in
theorem c_X9_letter (l : Launch) (dC : Nat → ClassId) (dI : Nat → Nat → Nat) (cy : Nat → ClassId) (sq : Nat → Nat) (a0 : Nat) (a1 : Nat) (a2 : Nat) (a3 : Nat) (a4 : Nat) (a5 : Nat) (a6 : Nat) (a7 : Nat) (a8 : Nat) (a9 : Nat) (a10 : Nat) (a11 : Nat) (a12 : Nat) (a13 : Nat) (a14 : Nat) (a15 : Nat) (a16 : Nat) (a17 : Nat) (a18 : Nat) (a19 : Nat) (a20 : Nat) (a21 : Nat) (a22 : Nat) (x0 : Int32) (x1 : Int32) (x2 : Int32) : k_Met l yX9_letter cX9_letter 6 (some .int) { frames := 1, cells := 0, slots := 0, locals := 21 } dC dI cy sq [.ref a0, .int x0, .int x1, .int x2] [(a0, .inr (9, [.ref a2, .int 0, .ref a1, .ref a3, .ref a4, .ref a5, .ref a6, .ref a7, .ref a8, .ref a9, .ref a10, .ref a11, .ref a12, .int 0, .ref a13, .long 1])), (a1, .inr (4, [.int 0, .int 0, .int 0, .int 0, .int 0, .int 0, .int 0, .ref a14, .ref a15, .ref a16, .int 0, .ref a17, .ref a18, .ref a19, .ref a20, .ref a21, .int 0, .ref a22]))] (k_Qi dC dI (fun (r : Int32) (_ : Unit) => r = (-1)) (fun _ : Unit => [])) := by
  refine k_ofW (by decide +kernel) (Nat.le_of_ble_eq_true rfl) ?_
  intro p e s m below meth c A ls H locs C0 hr hlk hin hP hD hA hS hl
  have C0 : k_cx p s m _ c cX9_letter 6 RX9 dC dI cy sq := C0
  have hx := C0.1
  have hb := C0.2.1
  have hl : lv_has ls 6 [(0, .ref a0), (1, .int x0), (2, .int x1), (3, .int x2)] := hl
  refine lv_iload_n hx hb dX9_letter_0 rfl (lv_at hl 1 rfl) ?_
  refine lv_if_ne (tgt := 12) hx hb dX9_letter_1 (by decide) (fun c1214 => ?_) (fun c1214 => ?_)
  · refine lv_iload_n hx hb dX9_letter_12 rfl (lv_at hl 1 rfl) ?_
    refine lv_iconst (v := 1) hx hb dX9_letter_13 (by decide) ?_
    refine lv_icmp_ne (tgt := 29) hx hb dX9_letter_14 (by decide) (fun c1215 => ?_) (fun c1215 => ?_)
    · refine lv_iconst (v := 0) hx hb dX9_letter_29 (by decide) ?_
      refine lv_istore (lv' := [(4, .int 0), (0, .ref a0), (1, .int x0), (2, .int x1), (3, .int x2)]) hx hb dX9_letter_30 hl (by decide) rfl (fun ls hl => ?_)
      refine lv_iload hx hb dX9_letter_32 (lv_at hl 0 rfl) ?_
      refine lv_if_eq (tgt := 47) hx hb dX9_letter_34 (by decide) (fun _ => ?_) (fun h9 => absurd (by decide) h9)
      refine lv_iconst (v := (-1)) hx hb dX9_letter_47 (by decide) ?_
      exact k_iret hx hb hr hlk rfl () hS rfl (hP.sub [] rfl) (hD.sub [] (by decide) rfl) (Nat.le_of_ble_eq_true rfl) (Nat.le_of_ble_eq_true rfl) dX9_letter_48
    · refine lv_aload_n hx hb dX9_letter_17 rfl (lv_at hl 0 rfl) ?_
      refine lv_iload_n hx hb dX9_letter_18 rfl (lv_at hl 2 rfl) ?_
      refine k_ji hP hD hS hA [0, 1] [] (wr := []) rfl rfl (by decide) (by decide) (by decide) 0 0 (Nat.le_of_ble_eq_true rfl) (Nat.le_of_ble_eq_true rfl) (fun hPc hDc => k_runV (As := [.int x1]) (rest := []) C0 (c_X9_isWalker l dC dI cy sq a0 a1 a2 a3 a4 a5 a6 a7 a8 a9 a10 a11 a12 a13 a14 a15 a16 a17 a18 a19 a20 a21 a22 x1) mV_X9_172 hPc hDc rfl rfl rfl hl rfl rfl (Nat.le_of_ble_eq_true rfl) ⟨(Nat.le_of_ble_eq_true rfl), (Nat.le_of_ble_eq_true rfl)⟩ ⟨(Nat.le_of_ble_eq_true rfl), (Nat.le_of_ble_eq_true rfl)⟩ dX9_letter_19) (fun r1218 u1219 H locs hw hP hD hS => ?_)
      have hP : va_P (dC, dI) vwCl [(a0, .inr (9, [.ref a2, .int 0, .ref a1, .ref a3, .ref a4, .ref a5, .ref a6, .ref a7, .ref a8, .ref a9, .ref a10, .ref a11, .ref a12, .int 0, .ref a13, .long 1])), (a1, .inr (4, [.int 0, .int 0, .int 0, .int 0, .int 0, .int 0, .int 0, .ref a14, .ref a15, .ref a16, .int 0, .ref a17, .ref a18, .ref a19, .ref a20, .ref a21, .int 0, .ref a22]))] H := hP
      have hD : va_D A [(a0, .inr (9, [.ref a2, .int 0, .ref a1, .ref a3, .ref a4, .ref a5, .ref a6, .ref a7, .ref a8, .ref a9, .ref a10, .ref a11, .ref a12, .int 0, .ref a13, .long 1])), (a1, .inr (4, [.int 0, .int 0, .int 0, .int 0, .int 0, .int 0, .int 0, .ref a14, .ref a15, .ref a16, .int 0, .ref a17, .ref a18, .ref a19, .ref a20, .ref a21, .int 0, .ref a22]))] := hD
      subst hw
      refine lv_if_eq (tgt := 29) hx hb dX9_letter_22 (by decide) (fun _ => ?_) (fun h9 => absurd (by decide) h9)
      refine lv_iconst (v := 0) hx hb dX9_letter_29 (by decide) ?_
      refine lv_istore (lv' := [(4, .int 0), (0, .ref a0), (1, .int x0), (2, .int x1), (3, .int x2)]) hx hb dX9_letter_30 hl (by decide) rfl (fun ls hl => ?_)
      refine lv_iload hx hb dX9_letter_32 (lv_at hl 0 rfl) ?_
      refine lv_if_eq (tgt := 47) hx hb dX9_letter_34 (by decide) (fun _ => ?_) (fun h9 => absurd (by decide) h9)
      refine lv_iconst (v := (-1)) hx hb dX9_letter_47 (by decide) ?_
      exact k_iret hx hb hr hlk rfl () hS rfl (hP.sub [] rfl) (hD.sub [] (by decide) rfl) (Nat.le_of_ble_eq_true rfl) (Nat.le_of_ble_eq_true rfl) dX9_letter_48
  · refine lv_aload_n hx hb dX9_letter_4 rfl (lv_at hl 0 rfl) ?_
    refine lv_iload_n hx hb dX9_letter_5 rfl (lv_at hl 2 rfl) ?_
    refine k_ji hP hD hS hA [0, 1] [] (wr := []) rfl rfl (by decide) (by decide) (by decide) 0 0 (Nat.le_of_ble_eq_true rfl) (Nat.le_of_ble_eq_true rfl) (fun hPc hDc => k_runV (As := [.int x1]) (rest := []) C0 (c_X9_isKind l dC dI cy sq a0 a1 a2 a3 a4 a5 a6 a7 a8 a9 a10 a11 a12 a13 a14 a15 a16 a17 a18 a19 a20 a21 a22 x1) mV_X9_169 hPc hDc rfl rfl rfl hl rfl rfl (Nat.le_of_ble_eq_true rfl) ⟨(Nat.le_of_ble_eq_true rfl), (Nat.le_of_ble_eq_true rfl)⟩ ⟨(Nat.le_of_ble_eq_true rfl), (Nat.le_of_ble_eq_true rfl)⟩ dX9_letter_6) (fun r1222 u1223 H locs hw hP hD hS => ?_)
    have hP : va_P (dC, dI) vwCl [(a0, .inr (9, [.ref a2, .int 0, .ref a1, .ref a3, .ref a4, .ref a5, .ref a6, .ref a7, .ref a8, .ref a9, .ref a10, .ref a11, .ref a12, .int 0, .ref a13, .long 1])), (a1, .inr (4, [.int 0, .int 0, .int 0, .int 0, .int 0, .int 0, .int 0, .ref a14, .ref a15, .ref a16, .int 0, .ref a17, .ref a18, .ref a19, .ref a20, .ref a21, .int 0, .ref a22]))] H := hP
    have hD : va_D A [(a0, .inr (9, [.ref a2, .int 0, .ref a1, .ref a3, .ref a4, .ref a5, .ref a6, .ref a7, .ref a8, .ref a9, .ref a10, .ref a11, .ref a12, .int 0, .ref a13, .long 1])), (a1, .inr (4, [.int 0, .int 0, .int 0, .int 0, .int 0, .int 0, .int 0, .ref a14, .ref a15, .ref a16, .int 0, .ref a17, .ref a18, .ref a19, .ref a20, .ref a21, .int 0, .ref a22]))] := hD
    subst hw
    refine lv_if_ne (tgt := 25) hx hb dX9_letter_9 (by decide) (fun h9 => absurd (by decide) h9) (fun _ => ?_)
    refine lv_iload_n hx hb dX9_letter_12 rfl (lv_at hl 1 rfl) ?_
    refine lv_iconst (v := 1) hx hb dX9_letter_13 (by decide) ?_
    refine lv_icmp_ne (tgt := 29) hx hb dX9_letter_14 (by decide) (fun c1224 => ?_) (fun c1224 => ?_)
    · refine lv_iconst (v := 0) hx hb dX9_letter_29 (by decide) ?_
      refine lv_istore (lv' := [(4, .int 0), (0, .ref a0), (1, .int x0), (2, .int x1), (3, .int x2)]) hx hb dX9_letter_30 hl (by decide) rfl (fun ls hl => ?_)
      refine lv_iload hx hb dX9_letter_32 (lv_at hl 0 rfl) ?_
      refine lv_if_eq (tgt := 47) hx hb dX9_letter_34 (by decide) (fun _ => ?_) (fun h9 => absurd (by decide) h9)
      refine lv_iconst (v := (-1)) hx hb dX9_letter_47 (by decide) ?_
      exact k_iret hx hb hr hlk rfl () hS rfl (hP.sub [] rfl) (hD.sub [] (by decide) rfl) (Nat.le_of_ble_eq_true rfl) (Nat.le_of_ble_eq_true rfl) dX9_letter_48
    · exact False.elim (by simp only [Int32.lt_iff_toInt_lt, Int32.le_iff_toInt_le, ← Int32.toInt_inj, kl0, kl1, kl2, kl3, kl4, kl5, kl6, kl7, kl60, klm1] at c1224 c1214 <;> omega)
set_option maxHeartbeats 4000000 in
set_option maxRecDepth 100000 in
theorem c_X9_kind (l : Launch) (dC : Nat → ClassId) (dI : Nat → Nat → Nat) (cy : Nat → ClassId) (sq : Nat → Nat) (a0 : Nat) (a1 : Nat) (a2 : Nat) (a3 : Nat) (a4 : Nat) (a5 : Nat) (a6 : Nat) (a7 : Nat) (a8 : Nat) (a9 : Nat) (a10 : Nat) (a11 : Nat) (a12 : Nat) (a13 : Nat) (a14 : Nat) (a15 : Nat) (a16 : Nat) (a17 : Nat) (a18 : Nat) (a19 : Nat) (a20 : Nat) (a21 : Nat) (a22 : Nat) (x0 : Int32) (x1 : Int32) : k_Met l yX9_kind cX9_kind 3 (some .int) { frames := 1, cells := 0, slots := 0, locals := 21 } dC dI cy sq [.ref a0, .int x0, .int x1] [(a0, .inr (9, [.ref a2, .int 0, .ref a1, .ref a3, .ref a4, .ref a5, .ref a6, .ref a7, .ref a8, .ref a9, .ref a10, .ref a11, .ref a12, .int 0, .ref a13, .long 1])), (a1, .inr (4, [.int 0, .int 0, .int 0, .int 0, .int 0, .int 0, .int 0, .ref a14, .ref a15, .ref a16, .int 0, .ref a17, .ref a18, .ref a19, .ref a20, .ref a21, .int 0, .ref a22]))] (k_Qi dC dI (fun (r : Int32) (_ : Unit) => r = (-1)) (fun _ : Unit => [])) := by
  refine k_ofW (by decide +kernel) (Nat.le_of_ble_eq_true rfl) ?_
  intro p e s m below meth c A ls H locs C0 hr hlk hin hP hD hA hS hl
  have C0 : k_cx p s m _ c cX9_kind 3 RX9 dC dI cy sq := C0
  have hx := C0.1
  have hb := C0.2.1
  have hl : lv_has ls 3 [(0, .ref a0), (1, .int x0), (2, .int x1)] := hl
  refine lv_aload_n hx hb dX9_kind_0 rfl (lv_at hl 0 rfl) ?_
  refine lv_iload_n hx hb dX9_kind_1 rfl (lv_at hl 1 rfl) ?_
  refine k_ji hP hD hS hA [0, 1] [] (wr := []) rfl rfl (by decide) (by decide) (by decide) 0 0 (Nat.le_of_ble_eq_true rfl) (Nat.le_of_ble_eq_true rfl) (fun hPc hDc => k_runV (As := [.int x0]) (rest := []) C0 (c_X9_isKind l dC dI cy sq a0 a1 a2 a3 a4 a5 a6 a7 a8 a9 a10 a11 a12 a13 a14 a15 a16 a17 a18 a19 a20 a21 a22 x0) mV_X9_169 hPc hDc rfl rfl rfl hl rfl rfl (Nat.le_of_ble_eq_true rfl) ⟨(Nat.le_of_ble_eq_true rfl), (Nat.le_of_ble_eq_true rfl)⟩ ⟨(Nat.le_of_ble_eq_true rfl), (Nat.le_of_ble_eq_true rfl)⟩ dX9_kind_2) (fun r1231 u1232 H locs hw hP hD hS => ?_)
  have hP : va_P (dC, dI) vwCl [(a0, .inr (9, [.ref a2, .int 0, .ref a1, .ref a3, .ref a4, .ref a5, .ref a6, .ref a7, .ref a8, .ref a9, .ref a10, .ref a11, .ref a12, .int 0, .ref a13, .long 1])), (a1, .inr (4, [.int 0, .int 0, .int 0, .int 0, .int 0, .int 0, .int 0, .ref a14, .ref a15, .ref a16, .int 0, .ref a17, .ref a18, .ref a19, .ref a20, .ref a21, .int 0, .ref a22]))] H := hP
  have hD : va_D A [(a0, .inr (9, [.ref a2, .int 0, .ref a1, .ref a3, .ref a4, .ref a5, .ref a6, .ref a7, .ref a8, .ref a9, .ref a10, .ref a11, .ref a12, .int 0, .ref a13, .long 1])), (a1, .inr (4, [.int 0, .int 0, .int 0, .int 0, .int 0, .int 0, .int 0, .ref a14, .ref a15, .ref a16, .int 0, .ref a17, .ref a18, .ref a19, .ref a20, .ref a21, .int 0, .ref a22]))] := hD
  subst hw
  refine lv_if_ne (tgt := 10) hx hb dX9_kind_5 (by decide) (fun h9 => absurd (by decide) h9) (fun _ => ?_)
  refine lv_iconst (v := (-1)) hx hb dX9_kind_8 (by decide) ?_
  exact k_iret hx hb hr hlk rfl () hS rfl (hP.sub [] rfl) (hD.sub [] (by decide) rfl) (Nat.le_of_ble_eq_true rfl) (Nat.le_of_ble_eq_true rfl) dX9_kind_9
set_option maxHeartbeats 4000000 in
set_option maxRecDepth 100000 in
theorem c_X9_walker (l : Launch) (dC : Nat → ClassId) (dI : Nat → Nat → Nat) (cy : Nat → ClassId) (sq : Nat → Nat) (a0 : Nat) (a1 : Nat) (a2 : Nat) (a3 : Nat) (a4 : Nat) (a5 : Nat) (a6 : Nat) (a7 : Nat) (a8 : Nat) (a9 : Nat) (a10 : Nat) (a11 : Nat) (a12 : Nat) (a13 : Nat) (a14 : Nat) (a15 : Nat) (a16 : Nat) (a17 : Nat) (a18 : Nat) (a19 : Nat) (a20 : Nat) (a21 : Nat) (a22 : Nat) (x0 : Int32) (x1 : Int32) : k_Met l yX9_walker cX9_walker 3 (some .int) { frames := 1, cells := 0, slots := 0, locals := 21 } dC dI cy sq [.ref a0, .int x0, .int x1] [(a0, .inr (9, [.ref a2, .int 0, .ref a1, .ref a3, .ref a4, .ref a5, .ref a6, .ref a7, .ref a8, .ref a9, .ref a10, .ref a11, .ref a12, .int 0, .ref a13, .long 1])), (a1, .inr (4, [.int 0, .int 0, .int 0, .int 0, .int 0, .int 0, .int 0, .ref a14, .ref a15, .ref a16, .int 0, .ref a17, .ref a18, .ref a19, .ref a20, .ref a21, .int 0, .ref a22]))] (k_Qi dC dI (fun (r : Int32) (_ : Unit) => r = (-1)) (fun _ : Unit => [])) := by
  refine k_ofW (by decide +kernel) (Nat.le_of_ble_eq_true rfl) ?_
  intro p e s m below meth c A ls H locs C0 hr hlk hin hP hD hA hS hl
  have C0 : k_cx p s m _ c cX9_walker 3 RX9 dC dI cy sq := C0
  have hx := C0.1
  have hb := C0.2.1
  have hl : lv_has ls 3 [(0, .ref a0), (1, .int x0), (2, .int x1)] := hl
  refine lv_aload_n hx hb dX9_walker_0 rfl (lv_at hl 0 rfl) ?_
  refine lv_iload_n hx hb dX9_walker_1 rfl (lv_at hl 1 rfl) ?_
  refine k_ji hP hD hS hA [0, 1] [] (wr := []) rfl rfl (by decide) (by decide) (by decide) 0 0 (Nat.le_of_ble_eq_true rfl) (Nat.le_of_ble_eq_true rfl) (fun hPc hDc => k_runV (As := [.int x0]) (rest := []) C0 (c_X9_isWalker l dC dI cy sq a0 a1 a2 a3 a4 a5 a6 a7 a8 a9 a10 a11 a12 a13 a14 a15 a16 a17 a18 a19 a20 a21 a22 x0) mV_X9_172 hPc hDc rfl rfl rfl hl rfl rfl (Nat.le_of_ble_eq_true rfl) ⟨(Nat.le_of_ble_eq_true rfl), (Nat.le_of_ble_eq_true rfl)⟩ ⟨(Nat.le_of_ble_eq_true rfl), (Nat.le_of_ble_eq_true rfl)⟩ dX9_walker_2) (fun r1239 u1240 H locs hw hP hD hS => ?_)
  have hP : va_P (dC, dI) vwCl [(a0, .inr (9, [.ref a2, .int 0, .ref a1, .ref a3, .ref a4, .ref a5, .ref a6, .ref a7, .ref a8, .ref a9, .ref a10, .ref a11, .ref a12, .int 0, .ref a13, .long 1])), (a1, .inr (4, [.int 0, .int 0, .int 0, .int 0, .int 0, .int 0, .int 0, .ref a14, .ref a15, .ref a16, .int 0, .ref a17, .ref a18, .ref a19, .ref a20, .ref a21, .int 0, .ref a22]))] H := hP
  have hD : va_D A [(a0, .inr (9, [.ref a2, .int 0, .ref a1, .ref a3, .ref a4, .ref a5, .ref a6, .ref a7, .ref a8, .ref a9, .ref a10, .ref a11, .ref a12, .int 0, .ref a13, .long 1])), (a1, .inr (4, [.int 0, .int 0, .int 0, .int 0, .int 0, .int 0, .int 0, .ref a14, .ref a15, .ref a16, .int 0, .ref a17, .ref a18, .ref a19, .ref a20, .ref a21, .int 0, .ref a22]))] := hD
  subst hw
  refine lv_if_ne (tgt := 10) hx hb dX9_walker_5 (by decide) (fun h9 => absurd (by decide) h9) (fun _ => ?_)
  refine lv_iconst (v := (-1)) hx hb dX9_walker_8 (by decide) ?_
  exact k_iret hx hb hr hlk rfl () hS rfl (hP.sub [] rfl) (hD.sub [] (by decide) rfl) (Nat.le_of_ble_eq_true rfl) (Nat.le_of_ble_eq_true rfl) dX9_walker_9
set_option maxHeartbeats 4000000 in
set_option maxRecDepth 100000 in
theorem c_X9_stands (l : Launch) (dC : Nat → ClassId) (dI : Nat → Nat → Nat) (cy : Nat → ClassId) (sq : Nat → Nat) (a0 : Nat) (a1 : Nat) (a2 : Nat) (a3 : Nat) (a4 : Nat) (a5 : Nat) (a6 : Nat) (a7 : Nat) (a8 : Nat) (a9 : Nat) (a10 : Nat) (a11 : Nat) (a12 : Nat) (a13 : Nat) (a14 : Nat) (a15 : Nat) (a16 : Nat) (a17 : Nat) (a18 : Nat) (a19 : Nat) (a20 : Nat) (a21 : Nat) (a22 : Nat) : k_Met l yX9_stands cX9_stands 1 (some .boolean) { frames := 0, cells := 0, slots := 0, locals := 0 } dC dI cy sq [.ref a0] [(a0, .inr (9, [.ref a2, .int 0, .ref a1, .ref a3, .ref a4, .ref a5, .ref a6, .ref a7, .ref a8, .ref a9, .ref a10, .ref a11, .ref a12, .int 0, .ref a13, .long 1])), (a1, .inr (4, [.int 0, .int 0, .int 0, .int 0, .int 0, .int 0, .int 0, .ref a14, .ref a15, .ref a16, .int 0, .ref a17, .ref a18, .ref a19, .ref a20, .ref a21, .int 0, .ref a22]))] (k_Qi dC dI (fun (r : Int32) (_ : Unit) => r = 0) (fun _ : Unit => [(a0, .inr (9, [.ref a2, .int 0, .ref a1, .ref a3, .ref a4, .ref a5, .ref a6, .ref a7, .ref a8, .ref a9, .ref a10, .ref a11, .ref a12, .int 0, .ref a13, .long 1])), (a1, .inr (4, [.int 0, .int 0, .int 0, .int 0, .int 0, .int 0, .int 0, .ref a14, .ref a15, .ref a16, .int 0, .ref a17, .ref a18, .ref a19, .ref a20, .ref a21, .int 0, .ref a22]))])) := by
  refine k_ofW (by decide +kernel) (Nat.le_of_ble_eq_true rfl) ?_
  intro p e s m below meth c A ls H locs C0 hr hlk hin hP hD hA hS hl
  have C0 : k_cx p s m _ c cX9_stands 1 RX9 dC dI cy sq := C0
  have hx := C0.1
  have hb := C0.2.1
  have hl : lv_has ls 1 [(0, .ref a0)] := hl
  refine lv_aload_n hx hb dX9_stands_0 rfl (lv_at hl 0 rfl) ?_
  refine k_get C0 fg_X9_20 hP 0 rfl rfl dX9_stands_1 ?_
  refine k_get C0 fg_X9_145 hP 1 rfl rfl dX9_stands_4 ?_
  refine lv_if_le (tgt := 14) hx hb dX9_stands_7 (by decide) (fun _ => ?_) (fun h9 => absurd (by decide) h9)
  refine lv_iconst (v := 0) hx hb dX9_stands_14 (by decide) ?_
  exact k_iret hx hb hr hlk (k_nb 0 (by decide)) () hS rfl hP hD (Nat.le_of_ble_eq_true rfl) (Nat.le_of_ble_eq_true rfl) dX9_stands_15
set_option maxHeartbeats 4000000 in
set_option maxRecDepth 100000 in
theorem c_X9_light (l : Launch) (dC : Nat → ClassId) (dI : Nat → Nat → Nat) (cy : Nat → ClassId) (sq : Nat → Nat) (a0 : Nat) (a1 : Nat) (a2 : Nat) (a3 : Nat) (a4 : Nat) (a5 : Nat) (a6 : Nat) (a7 : Nat) (a8 : Nat) (a9 : Nat) (a10 : Nat) (a11 : Nat) (a12 : Nat) (a13 : Nat) (a14 : Nat) (a15 : Nat) (a16 : Nat) (a17 : Nat) (a18 : Nat) (a19 : Nat) (a20 : Nat) (a21 : Nat) (a22 : Nat) (x0 : Int32) : k_Met l yX9_light cX9_light 2 (some .int) { frames := 1, cells := 0, slots := 0, locals := 20 } dC dI cy sq [.ref a0, .int x0] [(a0, .inr (9, [.ref a2, .int 0, .ref a1, .ref a3, .ref a4, .ref a5, .ref a6, .ref a7, .ref a8, .ref a9, .ref a10, .ref a11, .ref a12, .int 0, .ref a13, .long 1])), (a1, .inr (4, [.int 0, .int 0, .int 0, .int 0, .int 0, .int 0, .int 0, .ref a14, .ref a15, .ref a16, .int 0, .ref a17, .ref a18, .ref a19, .ref a20, .ref a21, .int 0, .ref a22]))] (k_Qi dC dI (fun (r : Int32) (_ : Unit) => r = (-1)) (fun _ : Unit => [])) := by
  refine k_ofW (by decide +kernel) (Nat.le_of_ble_eq_true rfl) ?_
  intro p e s m below meth c A ls H locs C0 hr hlk hin hP hD hA hS hl
  have C0 : k_cx p s m _ c cX9_light 2 RX9 dC dI cy sq := C0
  have hx := C0.1
  have hb := C0.2.1
  have hl : lv_has ls 2 [(0, .ref a0), (1, .int x0)] := hl
  refine lv_aload_n hx hb dX9_light_0 rfl (lv_at hl 0 rfl) ?_
  refine k_ji hP hD hS hA [0, 1] [] (wr := []) rfl rfl (by decide) (by decide) (by decide) 0 0 (Nat.le_of_ble_eq_true rfl) (Nat.le_of_ble_eq_true rfl) (fun hPc hDc => k_runV (As := []) (rest := []) C0 (c_X9_stands l dC dI cy sq a0 a1 a2 a3 a4 a5 a6 a7 a8 a9 a10 a11 a12 a13 a14 a15 a16 a17 a18 a19 a20 a21 a22) mV_X9_218 hPc hDc rfl rfl rfl hl rfl rfl (Nat.le_of_ble_eq_true rfl) ⟨(Nat.le_of_ble_eq_true rfl), (Nat.le_of_ble_eq_true rfl)⟩ ⟨(Nat.le_of_ble_eq_true rfl), (Nat.le_of_ble_eq_true rfl)⟩ dX9_light_1) (fun r1243 u1244 H locs hw hP hD hS => ?_)
  have hP : va_P (dC, dI) vwCl [(a0, .inr (9, [.ref a2, .int 0, .ref a1, .ref a3, .ref a4, .ref a5, .ref a6, .ref a7, .ref a8, .ref a9, .ref a10, .ref a11, .ref a12, .int 0, .ref a13, .long 1])), (a1, .inr (4, [.int 0, .int 0, .int 0, .int 0, .int 0, .int 0, .int 0, .ref a14, .ref a15, .ref a16, .int 0, .ref a17, .ref a18, .ref a19, .ref a20, .ref a21, .int 0, .ref a22]))] H := hP
  have hD : va_D A [(a0, .inr (9, [.ref a2, .int 0, .ref a1, .ref a3, .ref a4, .ref a5, .ref a6, .ref a7, .ref a8, .ref a9, .ref a10, .ref a11, .ref a12, .int 0, .ref a13, .long 1])), (a1, .inr (4, [.int 0, .int 0, .int 0, .int 0, .int 0, .int 0, .int 0, .ref a14, .ref a15, .ref a16, .int 0, .ref a17, .ref a18, .ref a19, .ref a20, .ref a21, .int 0, .ref a22]))] := hD
  subst hw
  refine lv_if_eq (tgt := 18) hx hb dX9_light_4 (by decide) (fun _ => ?_) (fun h9 => absurd (by decide) h9)
  refine lv_iconst (v := (-1)) hx hb dX9_light_18 (by decide) ?_
  exact k_iret hx hb hr hlk rfl () hS rfl (hP.sub [] rfl) (hD.sub [] (by decide) rfl) (Nat.le_of_ble_eq_true rfl) (Nat.le_of_ble_eq_true rfl) dX9_light_19
set_option maxHeartbeats 4000000 in
set_option maxRecDepth 100000 in
theorem c_X9_car (l : Launch) (dC : Nat → ClassId) (dI : Nat → Nat → Nat) (cy : Nat → ClassId) (sq : Nat → Nat) (a0 : Nat) (a1 : Nat) (a2 : Nat) (a3 : Nat) (a4 : Nat) (a5 : Nat) (a6 : Nat) (a7 : Nat) (a8 : Nat) (a9 : Nat) (a10 : Nat) (a11 : Nat) (a12 : Nat) (a13 : Nat) (a14 : Nat) (a15 : Nat) (a16 : Nat) (a17 : Nat) (a18 : Nat) (a19 : Nat) (a20 : Nat) (a21 : Nat) (a22 : Nat) (x0 : Int32) : k_Met l yX9_car cX9_car 2 (some .int) { frames := 1, cells := 0, slots := 0, locals := 20 } dC dI cy sq [.ref a0, .int x0] [(a0, .inr (9, [.ref a2, .int 0, .ref a1, .ref a3, .ref a4, .ref a5, .ref a6, .ref a7, .ref a8, .ref a9, .ref a10, .ref a11, .ref a12, .int 0, .ref a13, .long 1])), (a1, .inr (4, [.int 0, .int 0, .int 0, .int 0, .int 0, .int 0, .int 0, .ref a14, .ref a15, .ref a16, .int 0, .ref a17, .ref a18, .ref a19, .ref a20, .ref a21, .int 0, .ref a22]))] (k_Qi dC dI (fun (r : Int32) (_ : Unit) => r = (-1)) (fun _ : Unit => [])) := by
  refine k_ofW (by decide +kernel) (Nat.le_of_ble_eq_true rfl) ?_
  intro p e s m below meth c A ls H locs C0 hr hlk hin hP hD hA hS hl
  have C0 : k_cx p s m _ c cX9_car 2 RX9 dC dI cy sq := C0
  have hx := C0.1
  have hb := C0.2.1
  have hl : lv_has ls 2 [(0, .ref a0), (1, .int x0)] := hl
  refine lv_aload_n hx hb dX9_car_0 rfl (lv_at hl 0 rfl) ?_
  refine k_ji hP hD hS hA [0, 1] [] (wr := []) rfl rfl (by decide) (by decide) (by decide) 0 0 (Nat.le_of_ble_eq_true rfl) (Nat.le_of_ble_eq_true rfl) (fun hPc hDc => k_runV (As := []) (rest := []) C0 (c_X9_stands l dC dI cy sq a0 a1 a2 a3 a4 a5 a6 a7 a8 a9 a10 a11 a12 a13 a14 a15 a16 a17 a18 a19 a20 a21 a22) mV_X9_218 hPc hDc rfl rfl rfl hl rfl rfl (Nat.le_of_ble_eq_true rfl) ⟨(Nat.le_of_ble_eq_true rfl), (Nat.le_of_ble_eq_true rfl)⟩ ⟨(Nat.le_of_ble_eq_true rfl), (Nat.le_of_ble_eq_true rfl)⟩ dX9_car_1) (fun r1247 u1248 H locs hw hP hD hS => ?_)
  have hP : va_P (dC, dI) vwCl [(a0, .inr (9, [.ref a2, .int 0, .ref a1, .ref a3, .ref a4, .ref a5, .ref a6, .ref a7, .ref a8, .ref a9, .ref a10, .ref a11, .ref a12, .int 0, .ref a13, .long 1])), (a1, .inr (4, [.int 0, .int 0, .int 0, .int 0, .int 0, .int 0, .int 0, .ref a14, .ref a15, .ref a16, .int 0, .ref a17, .ref a18, .ref a19, .ref a20, .ref a21, .int 0, .ref a22]))] H := hP
  have hD : va_D A [(a0, .inr (9, [.ref a2, .int 0, .ref a1, .ref a3, .ref a4, .ref a5, .ref a6, .ref a7, .ref a8, .ref a9, .ref a10, .ref a11, .ref a12, .int 0, .ref a13, .long 1])), (a1, .inr (4, [.int 0, .int 0, .int 0, .int 0, .int 0, .int 0, .int 0, .ref a14, .ref a15, .ref a16, .int 0, .ref a17, .ref a18, .ref a19, .ref a20, .ref a21, .int 0, .ref a22]))] := hD
  subst hw
  refine lv_if_eq (tgt := 18) hx hb dX9_car_4 (by decide) (fun _ => ?_) (fun h9 => absurd (by decide) h9)
  refine lv_iconst (v := (-1)) hx hb dX9_car_18 (by decide) ?_
  exact k_iret hx hb hr hlk rfl () hS rfl (hP.sub [] rfl) (hD.sub [] (by decide) rfl) (Nat.le_of_ble_eq_true rfl) (Nat.le_of_ble_eq_true rfl) dX9_car_19
set_option maxHeartbeats 4000000 in
set_option maxRecDepth 100000 in
theorem c_X9_day (l : Launch) (dC : Nat → ClassId) (dI : Nat → Nat → Nat) (cy : Nat → ClassId) (sq : Nat → Nat) (a0 : Nat) (a1 : Nat) (a2 : Nat) (a3 : Nat) (a4 : Nat) (a5 : Nat) (a6 : Nat) (a7 : Nat) (a8 : Nat) (a9 : Nat) (a10 : Nat) (a11 : Nat) (a12 : Nat) (a13 : Nat) (a14 : Nat) (a15 : Nat) (a16 : Nat) (a17 : Nat) (a18 : Nat) (a19 : Nat) (a20 : Nat) (a21 : Nat) (a22 : Nat) (x0 : Int32) : k_Met l yX9_day cX9_day 2 (some .int) { frames := 1, cells := 0, slots := 0, locals := 20 } dC dI cy sq [.ref a0, .int x0] [(a0, .inr (9, [.ref a2, .int 0, .ref a1, .ref a3, .ref a4, .ref a5, .ref a6, .ref a7, .ref a8, .ref a9, .ref a10, .ref a11, .ref a12, .int 0, .ref a13, .long 1])), (a1, .inr (4, [.int 0, .int 0, .int 0, .int 0, .int 0, .int 0, .int 0, .ref a14, .ref a15, .ref a16, .int 0, .ref a17, .ref a18, .ref a19, .ref a20, .ref a21, .int 0, .ref a22]))] (k_Qi dC dI (fun (r : Int32) (_ : Unit) => r = (-1)) (fun _ : Unit => [])) := by
  refine k_ofW (by decide +kernel) (Nat.le_of_ble_eq_true rfl) ?_
  intro p e s m below meth c A ls H locs C0 hr hlk hin hP hD hA hS hl
  have C0 : k_cx p s m _ c cX9_day 2 RX9 dC dI cy sq := C0
  have hx := C0.1
  have hb := C0.2.1
  have hl : lv_has ls 2 [(0, .ref a0), (1, .int x0)] := hl
  refine lv_aload_n hx hb dX9_day_0 rfl (lv_at hl 0 rfl) ?_
  refine k_ji hP hD hS hA [0, 1] [] (wr := []) rfl rfl (by decide) (by decide) (by decide) 0 0 (Nat.le_of_ble_eq_true rfl) (Nat.le_of_ble_eq_true rfl) (fun hPc hDc => k_runV (As := []) (rest := []) C0 (c_X9_stands l dC dI cy sq a0 a1 a2 a3 a4 a5 a6 a7 a8 a9 a10 a11 a12 a13 a14 a15 a16 a17 a18 a19 a20 a21 a22) mV_X9_218 hPc hDc rfl rfl rfl hl rfl rfl (Nat.le_of_ble_eq_true rfl) ⟨(Nat.le_of_ble_eq_true rfl), (Nat.le_of_ble_eq_true rfl)⟩ ⟨(Nat.le_of_ble_eq_true rfl), (Nat.le_of_ble_eq_true rfl)⟩ dX9_day_1) (fun r1251 u1252 H locs hw hP hD hS => ?_)
  have hP : va_P (dC, dI) vwCl [(a0, .inr (9, [.ref a2, .int 0, .ref a1, .ref a3, .ref a4, .ref a5, .ref a6, .ref a7, .ref a8, .ref a9, .ref a10, .ref a11, .ref a12, .int 0, .ref a13, .long 1])), (a1, .inr (4, [.int 0, .int 0, .int 0, .int 0, .int 0, .int 0, .int 0, .ref a14, .ref a15, .ref a16, .int 0, .ref a17, .ref a18, .ref a19, .ref a20, .ref a21, .int 0, .ref a22]))] H := hP
  have hD : va_D A [(a0, .inr (9, [.ref a2, .int 0, .ref a1, .ref a3, .ref a4, .ref a5, .ref a6, .ref a7, .ref a8, .ref a9, .ref a10, .ref a11, .ref a12, .int 0, .ref a13, .long 1])), (a1, .inr (4, [.int 0, .int 0, .int 0, .int 0, .int 0, .int 0, .int 0, .ref a14, .ref a15, .ref a16, .int 0, .ref a17, .ref a18, .ref a19, .ref a20, .ref a21, .int 0, .ref a22]))] := hD
  subst hw
  refine lv_if_ne (tgt := 9) hx hb dX9_day_4 (by decide) (fun h9 => absurd (by decide) h9) (fun _ => ?_)
  refine lv_iconst (v := (-1)) hx hb dX9_day_7 (by decide) ?_
  exact k_iret hx hb hr hlk rfl () hS rfl (hP.sub [] rfl) (hD.sub [] (by decide) rfl) (Nat.le_of_ble_eq_true rfl) (Nat.le_of_ble_eq_true rfl) dX9_day_8
set_option maxHeartbeats 4000000 in
set_option maxRecDepth 100000 in
theorem c_X9_best (l : Launch) (dC : Nat → ClassId) (dI : Nat → Nat → Nat) (cy : Nat → ClassId) (sq : Nat → Nat) (a0 : Nat) (a1 : Nat) (a2 : Nat) (a3 : Nat) (a4 : Nat) (a5 : Nat) (a6 : Nat) (a7 : Nat) (a8 : Nat) (a9 : Nat) (a10 : Nat) (a11 : Nat) (a12 : Nat) (a13 : Nat) (a14 : Nat) (a15 : Nat) (a16 : Nat) (a17 : Nat) (a18 : Nat) (a19 : Nat) (a20 : Nat) (a21 : Nat) (a22 : Nat) (x0 : Int32) (x1 : Int32) : k_Met l yX9_best cX9_best 3 (some .int) { frames := 1, cells := 0, slots := 0, locals := 20 } dC dI cy sq [.ref a0, .int x0, .int x1] [(a0, .inr (9, [.ref a2, .int 0, .ref a1, .ref a3, .ref a4, .ref a5, .ref a6, .ref a7, .ref a8, .ref a9, .ref a10, .ref a11, .ref a12, .int 0, .ref a13, .long 1])), (a1, .inr (4, [.int 0, .int 0, .int 0, .int 0, .int 0, .int 0, .int 0, .ref a14, .ref a15, .ref a16, .int 0, .ref a17, .ref a18, .ref a19, .ref a20, .ref a21, .int 0, .ref a22]))] (k_Qi dC dI (fun (r : Int32) (_ : Unit) => r = (-1)) (fun _ : Unit => [])) := by
  refine k_ofW (by decide +kernel) (Nat.le_of_ble_eq_true rfl) ?_
  intro p e s m below meth c A ls H locs C0 hr hlk hin hP hD hA hS hl
  have C0 : k_cx p s m _ c cX9_best 3 RX9 dC dI cy sq := C0
  have hx := C0.1
  have hb := C0.2.1
  have hl : lv_has ls 3 [(0, .ref a0), (1, .int x0), (2, .int x1)] := hl
  refine lv_aload_n hx hb dX9_best_0 rfl (lv_at hl 0 rfl) ?_
  refine k_ji hP hD hS hA [0, 1] [] (wr := []) rfl rfl (by decide) (by decide) (by decide) 0 0 (Nat.le_of_ble_eq_true rfl) (Nat.le_of_ble_eq_true rfl) (fun hPc hDc => k_runV (As := []) (rest := []) C0 (c_X9_stands l dC dI cy sq a0 a1 a2 a3 a4 a5 a6 a7 a8 a9 a10 a11 a12 a13 a14 a15 a16 a17 a18 a19 a20 a21 a22) mV_X9_218 hPc hDc rfl rfl rfl hl rfl rfl (Nat.le_of_ble_eq_true rfl) ⟨(Nat.le_of_ble_eq_true rfl), (Nat.le_of_ble_eq_true rfl)⟩ ⟨(Nat.le_of_ble_eq_true rfl), (Nat.le_of_ble_eq_true rfl)⟩ dX9_best_1) (fun r1255 u1256 H locs hw hP hD hS => ?_)
  have hP : va_P (dC, dI) vwCl [(a0, .inr (9, [.ref a2, .int 0, .ref a1, .ref a3, .ref a4, .ref a5, .ref a6, .ref a7, .ref a8, .ref a9, .ref a10, .ref a11, .ref a12, .int 0, .ref a13, .long 1])), (a1, .inr (4, [.int 0, .int 0, .int 0, .int 0, .int 0, .int 0, .int 0, .ref a14, .ref a15, .ref a16, .int 0, .ref a17, .ref a18, .ref a19, .ref a20, .ref a21, .int 0, .ref a22]))] H := hP
  have hD : va_D A [(a0, .inr (9, [.ref a2, .int 0, .ref a1, .ref a3, .ref a4, .ref a5, .ref a6, .ref a7, .ref a8, .ref a9, .ref a10, .ref a11, .ref a12, .int 0, .ref a13, .long 1])), (a1, .inr (4, [.int 0, .int 0, .int 0, .int 0, .int 0, .int 0, .int 0, .ref a14, .ref a15, .ref a16, .int 0, .ref a17, .ref a18, .ref a19, .ref a20, .ref a21, .int 0, .ref a22]))] := hD
  subst hw
  refine lv_if_eq (tgt := 26) hx hb dX9_best_4 (by decide) (fun _ => ?_) (fun h9 => absurd (by decide) h9)
  refine lv_iconst (v := (-1)) hx hb dX9_best_26 (by decide) ?_
  exact k_iret hx hb hr hlk rfl () hS rfl (hP.sub [] rfl) (hD.sub [] (by decide) rfl) (Nat.le_of_ble_eq_true rfl) (Nat.le_of_ble_eq_true rfl) dX9_best_27
set_option maxHeartbeats 4000000 in
set_option maxRecDepth 100000 in
theorem c_X9_least (l : Launch) (dC : Nat → ClassId) (dI : Nat → Nat → Nat) (cy : Nat → ClassId) (sq : Nat → Nat) (a0 : Nat) (a1 : Nat) (a2 : Nat) (a3 : Nat) (a4 : Nat) (a5 : Nat) (a6 : Nat) (a7 : Nat) (a8 : Nat) (a9 : Nat) (a10 : Nat) (a11 : Nat) (a12 : Nat) (a13 : Nat) (a14 : Nat) (a15 : Nat) (a16 : Nat) (a17 : Nat) (a18 : Nat) (a19 : Nat) (a20 : Nat) (a21 : Nat) (a22 : Nat) : k_Met l yX9_least cX9_least 1 (some .int) { frames := 1, cells := 0, slots := 0, locals := 20 } dC dI cy sq [.ref a0] [(a0, .inr (9, [.ref a2, .int 0, .ref a1, .ref a3, .ref a4, .ref a5, .ref a6, .ref a7, .ref a8, .ref a9, .ref a10, .ref a11, .ref a12, .int 0, .ref a13, .long 1])), (a1, .inr (4, [.int 0, .int 0, .int 0, .int 0, .int 0, .int 0, .int 0, .ref a14, .ref a15, .ref a16, .int 0, .ref a17, .ref a18, .ref a19, .ref a20, .ref a21, .int 0, .ref a22]))] (k_Qi dC dI (fun (r : Int32) (_ : Unit) => r = (-1)) (fun _ : Unit => [])) := by
  refine k_ofW (by decide +kernel) (Nat.le_of_ble_eq_true rfl) ?_
  intro p e s m below meth c A ls H locs C0 hr hlk hin hP hD hA hS hl
  have C0 : k_cx p s m _ c cX9_least 1 RX9 dC dI cy sq := C0
  have hx := C0.1
  have hb := C0.2.1
  have hl : lv_has ls 1 [(0, .ref a0)] := hl
  refine lv_aload_n hx hb dX9_least_0 rfl (lv_at hl 0 rfl) ?_
  refine k_ji hP hD hS hA [0, 1] [] (wr := []) rfl rfl (by decide) (by decide) (by decide) 0 0 (Nat.le_of_ble_eq_true rfl) (Nat.le_of_ble_eq_true rfl) (fun hPc hDc => k_runV (As := []) (rest := []) C0 (c_X9_stands l dC dI cy sq a0 a1 a2 a3 a4 a5 a6 a7 a8 a9 a10 a11 a12 a13 a14 a15 a16 a17 a18 a19 a20 a21 a22) mV_X9_218 hPc hDc rfl rfl rfl hl rfl rfl (Nat.le_of_ble_eq_true rfl) ⟨(Nat.le_of_ble_eq_true rfl), (Nat.le_of_ble_eq_true rfl)⟩ ⟨(Nat.le_of_ble_eq_true rfl), (Nat.le_of_ble_eq_true rfl)⟩ dX9_least_1) (fun r1259 u1260 H locs hw hP hD hS => ?_)
  have hP : va_P (dC, dI) vwCl [(a0, .inr (9, [.ref a2, .int 0, .ref a1, .ref a3, .ref a4, .ref a5, .ref a6, .ref a7, .ref a8, .ref a9, .ref a10, .ref a11, .ref a12, .int 0, .ref a13, .long 1])), (a1, .inr (4, [.int 0, .int 0, .int 0, .int 0, .int 0, .int 0, .int 0, .ref a14, .ref a15, .ref a16, .int 0, .ref a17, .ref a18, .ref a19, .ref a20, .ref a21, .int 0, .ref a22]))] H := hP
  have hD : va_D A [(a0, .inr (9, [.ref a2, .int 0, .ref a1, .ref a3, .ref a4, .ref a5, .ref a6, .ref a7, .ref a8, .ref a9, .ref a10, .ref a11, .ref a12, .int 0, .ref a13, .long 1])), (a1, .inr (4, [.int 0, .int 0, .int 0, .int 0, .int 0, .int 0, .int 0, .ref a14, .ref a15, .ref a16, .int 0, .ref a17, .ref a18, .ref a19, .ref a20, .ref a21, .int 0, .ref a22]))] := hD
  subst hw
  refine lv_if_eq (tgt := 21) hx hb dX9_least_4 (by decide) (fun _ => ?_) (fun h9 => absurd (by decide) h9)
  refine lv_iconst (v := (-1)) hx hb dX9_least_21 (by decide) ?_
  exact k_iret hx hb hr hlk rfl () hS rfl (hP.sub [] rfl) (hD.sub [] (by decide) rfl) (Nat.le_of_ble_eq_true rfl) (Nat.le_of_ble_eq_true rfl) dX9_least_22
set_option maxHeartbeats 4000000 in
set_option maxRecDepth 100000 in
theorem c_X9_hold (l : Launch) (dC : Nat → ClassId) (dI : Nat → Nat → Nat) (cy : Nat → ClassId) (sq : Nat → Nat) (a0 : Nat) (a1 : Nat) (a2 : Nat) (a3 : Nat) (a4 : Nat) (a5 : Nat) (a6 : Nat) (a7 : Nat) (a8 : Nat) (a9 : Nat) (a10 : Nat) (a11 : Nat) (a12 : Nat) (a13 : Nat) (a14 : Nat) (a15 : Nat) (a16 : Nat) (a17 : Nat) (a18 : Nat) (a19 : Nat) (a20 : Nat) (a21 : Nat) (a22 : Nat) : k_Met l yX9_hold cX9_hold 1 (some .int) { frames := 1, cells := 0, slots := 0, locals := 20 } dC dI cy sq [.ref a0] [(a0, .inr (9, [.ref a2, .int 0, .ref a1, .ref a3, .ref a4, .ref a5, .ref a6, .ref a7, .ref a8, .ref a9, .ref a10, .ref a11, .ref a12, .int 0, .ref a13, .long 1])), (a1, .inr (4, [.int 0, .int 0, .int 0, .int 0, .int 0, .int 0, .int 0, .ref a14, .ref a15, .ref a16, .int 0, .ref a17, .ref a18, .ref a19, .ref a20, .ref a21, .int 0, .ref a22]))] (k_Qi dC dI (fun (r : Int32) (_ : Unit) => r = (-1)) (fun _ : Unit => [])) := by
  refine k_ofW (by decide +kernel) (Nat.le_of_ble_eq_true rfl) ?_
  intro p e s m below meth c A ls H locs C0 hr hlk hin hP hD hA hS hl
  have C0 : k_cx p s m _ c cX9_hold 1 RX9 dC dI cy sq := C0
  have hx := C0.1
  have hb := C0.2.1
  have hl : lv_has ls 1 [(0, .ref a0)] := hl
  refine lv_aload_n hx hb dX9_hold_0 rfl (lv_at hl 0 rfl) ?_
  refine k_ji hP hD hS hA [0, 1] [] (wr := []) rfl rfl (by decide) (by decide) (by decide) 0 0 (Nat.le_of_ble_eq_true rfl) (Nat.le_of_ble_eq_true rfl) (fun hPc hDc => k_runV (As := []) (rest := []) C0 (c_X9_stands l dC dI cy sq a0 a1 a2 a3 a4 a5 a6 a7 a8 a9 a10 a11 a12 a13 a14 a15 a16 a17 a18 a19 a20 a21 a22) mV_X9_218 hPc hDc rfl rfl rfl hl rfl rfl (Nat.le_of_ble_eq_true rfl) ⟨(Nat.le_of_ble_eq_true rfl), (Nat.le_of_ble_eq_true rfl)⟩ ⟨(Nat.le_of_ble_eq_true rfl), (Nat.le_of_ble_eq_true rfl)⟩ dX9_hold_1) (fun r1263 u1264 H locs hw hP hD hS => ?_)
  have hP : va_P (dC, dI) vwCl [(a0, .inr (9, [.ref a2, .int 0, .ref a1, .ref a3, .ref a4, .ref a5, .ref a6, .ref a7, .ref a8, .ref a9, .ref a10, .ref a11, .ref a12, .int 0, .ref a13, .long 1])), (a1, .inr (4, [.int 0, .int 0, .int 0, .int 0, .int 0, .int 0, .int 0, .ref a14, .ref a15, .ref a16, .int 0, .ref a17, .ref a18, .ref a19, .ref a20, .ref a21, .int 0, .ref a22]))] H := hP
  have hD : va_D A [(a0, .inr (9, [.ref a2, .int 0, .ref a1, .ref a3, .ref a4, .ref a5, .ref a6, .ref a7, .ref a8, .ref a9, .ref a10, .ref a11, .ref a12, .int 0, .ref a13, .long 1])), (a1, .inr (4, [.int 0, .int 0, .int 0, .int 0, .int 0, .int 0, .int 0, .ref a14, .ref a15, .ref a16, .int 0, .ref a17, .ref a18, .ref a19, .ref a20, .ref a21, .int 0, .ref a22]))] := hD
  subst hw
  refine lv_if_ne (tgt := 9) hx hb dX9_hold_4 (by decide) (fun h9 => absurd (by decide) h9) (fun _ => ?_)
  refine lv_iconst (v := (-1)) hx hb dX9_hold_7 (by decide) ?_
  exact k_iret hx hb hr hlk rfl () hS rfl (hP.sub [] rfl) (hD.sub [] (by decide) rfl) (Nat.le_of_ble_eq_true rfl) (Nat.le_of_ble_eq_true rfl) dX9_hold_8
set_option maxHeartbeats 4000000 in
set_option maxRecDepth 100000 in
theorem c_X9_later (l : Launch) (dC : Nat → ClassId) (dI : Nat → Nat → Nat) (cy : Nat → ClassId) (sq : Nat → Nat) (a0 : Nat) (a1 : Nat) (a2 : Nat) (a3 : Nat) (a4 : Nat) (a5 : Nat) (a6 : Nat) (a7 : Nat) (a8 : Nat) (a9 : Nat) (a10 : Nat) (a11 : Nat) (a12 : Nat) (a13 : Nat) (a14 : Nat) (a15 : Nat) (a16 : Nat) (a17 : Nat) (a18 : Nat) (a19 : Nat) (a20 : Nat) (a21 : Nat) (a22 : Nat) (x0 : Int32) (x1 : Int32) : k_Met l yX9_later cX9_later 3 (some .int) { frames := 1, cells := 0, slots := 0, locals := 20 } dC dI cy sq [.ref a0, .int x0, .int x1] [(a0, .inr (9, [.ref a2, .int 0, .ref a1, .ref a3, .ref a4, .ref a5, .ref a6, .ref a7, .ref a8, .ref a9, .ref a10, .ref a11, .ref a12, .int 0, .ref a13, .long 1])), (a1, .inr (4, [.int 0, .int 0, .int 0, .int 0, .int 0, .int 0, .int 0, .ref a14, .ref a15, .ref a16, .int 0, .ref a17, .ref a18, .ref a19, .ref a20, .ref a21, .int 0, .ref a22]))] (k_Qi dC dI (fun (r : Int32) (_ : Unit) => r = (-1)) (fun _ : Unit => [])) := by
  refine k_ofW (by decide +kernel) (Nat.le_of_ble_eq_true rfl) ?_
  intro p e s m below meth c A ls H locs C0 hr hlk hin hP hD hA hS hl
  have C0 : k_cx p s m _ c cX9_later 3 RX9 dC dI cy sq := C0
  have hx := C0.1
  have hb := C0.2.1
  have hl : lv_has ls 3 [(0, .ref a0), (1, .int x0), (2, .int x1)] := hl
  refine lv_aload_n hx hb dX9_later_0 rfl (lv_at hl 0 rfl) ?_
  refine k_ji hP hD hS hA [0, 1] [] (wr := []) rfl rfl (by decide) (by decide) (by decide) 0 0 (Nat.le_of_ble_eq_true rfl) (Nat.le_of_ble_eq_true rfl) (fun hPc hDc => k_runV (As := []) (rest := []) C0 (c_X9_stands l dC dI cy sq a0 a1 a2 a3 a4 a5 a6 a7 a8 a9 a10 a11 a12 a13 a14 a15 a16 a17 a18 a19 a20 a21 a22) mV_X9_218 hPc hDc rfl rfl rfl hl rfl rfl (Nat.le_of_ble_eq_true rfl) ⟨(Nat.le_of_ble_eq_true rfl), (Nat.le_of_ble_eq_true rfl)⟩ ⟨(Nat.le_of_ble_eq_true rfl), (Nat.le_of_ble_eq_true rfl)⟩ dX9_later_1) (fun r1267 u1268 H locs hw hP hD hS => ?_)
  have hP : va_P (dC, dI) vwCl [(a0, .inr (9, [.ref a2, .int 0, .ref a1, .ref a3, .ref a4, .ref a5, .ref a6, .ref a7, .ref a8, .ref a9, .ref a10, .ref a11, .ref a12, .int 0, .ref a13, .long 1])), (a1, .inr (4, [.int 0, .int 0, .int 0, .int 0, .int 0, .int 0, .int 0, .ref a14, .ref a15, .ref a16, .int 0, .ref a17, .ref a18, .ref a19, .ref a20, .ref a21, .int 0, .ref a22]))] H := hP
  have hD : va_D A [(a0, .inr (9, [.ref a2, .int 0, .ref a1, .ref a3, .ref a4, .ref a5, .ref a6, .ref a7, .ref a8, .ref a9, .ref a10, .ref a11, .ref a12, .int 0, .ref a13, .long 1])), (a1, .inr (4, [.int 0, .int 0, .int 0, .int 0, .int 0, .int 0, .int 0, .ref a14, .ref a15, .ref a16, .int 0, .ref a17, .ref a18, .ref a19, .ref a20, .ref a21, .int 0, .ref a22]))] := hD
  subst hw
  refine lv_if_eq (tgt := 32) hx hb dX9_later_4 (by decide) (fun _ => ?_) (fun h9 => absurd (by decide) h9)
  refine lv_iconst (v := (-1)) hx hb dX9_later_32 (by decide) ?_
  exact k_iret hx hb hr hlk rfl () hS rfl (hP.sub [] rfl) (hD.sub [] (by decide) rfl) (Nat.le_of_ble_eq_true rfl) (Nat.le_of_ble_eq_true rfl) dX9_later_33
set_option maxHeartbeats 4000000 in
set_option maxRecDepth 100000 in
theorem c_X9_doubts (l : Launch) (dC : Nat → ClassId) (dI : Nat → Nat → Nat) (cy : Nat → ClassId) (sq : Nat → Nat) (a0 : Nat) (a1 : Nat) (a2 : Nat) (a3 : Nat) (a4 : Nat) (a5 : Nat) (a6 : Nat) (a7 : Nat) (a8 : Nat) (a9 : Nat) (a10 : Nat) (a11 : Nat) (a12 : Nat) (a13 : Nat) (a14 : Nat) (a15 : Nat) (a16 : Nat) (a17 : Nat) (a18 : Nat) (a19 : Nat) (a20 : Nat) (a21 : Nat) (a22 : Nat) (x0 : Int32) : k_Met l yX9_doubts cX9_doubts 4 (some .int) { frames := 1, cells := 0, slots := 0, locals := 21 } dC dI cy sq [.ref a0, .int x0] [(a0, .inr (9, [.ref a2, .int 0, .ref a1, .ref a3, .ref a4, .ref a5, .ref a6, .ref a7, .ref a8, .ref a9, .ref a10, .ref a11, .ref a12, .int 0, .ref a13, .long 1])), (a1, .inr (4, [.int 0, .int 0, .int 0, .int 0, .int 0, .int 0, .int 0, .ref a14, .ref a15, .ref a16, .int 0, .ref a17, .ref a18, .ref a19, .ref a20, .ref a21, .int 0, .ref a22]))] (k_Qi dC dI (fun (r : Int32) (_ : Unit) => r = (-1)) (fun _ : Unit => [])) := by
  refine k_ofW (by decide +kernel) (Nat.le_of_ble_eq_true rfl) ?_
  intro p e s m below meth c A ls H locs C0 hr hlk hin hP hD hA hS hl
  have C0 : k_cx p s m _ c cX9_doubts 4 RX9 dC dI cy sq := C0
  have hx := C0.1
  have hb := C0.2.1
  have hl : lv_has ls 4 [(0, .ref a0), (1, .int x0)] := hl
  refine lv_aload_n hx hb dX9_doubts_0 rfl (lv_at hl 0 rfl) ?_
  refine lv_iload_n hx hb dX9_doubts_1 rfl (lv_at hl 1 rfl) ?_
  refine k_ji hP hD hS hA [0, 1] [] (wr := []) rfl rfl (by decide) (by decide) (by decide) 0 0 (Nat.le_of_ble_eq_true rfl) (Nat.le_of_ble_eq_true rfl) (fun hPc hDc => k_runV (As := [.int x0]) (rest := []) C0 (c_X9_isKind l dC dI cy sq a0 a1 a2 a3 a4 a5 a6 a7 a8 a9 a10 a11 a12 a13 a14 a15 a16 a17 a18 a19 a20 a21 a22 x0) mV_X9_169 hPc hDc rfl rfl rfl hl rfl rfl (Nat.le_of_ble_eq_true rfl) ⟨(Nat.le_of_ble_eq_true rfl), (Nat.le_of_ble_eq_true rfl)⟩ ⟨(Nat.le_of_ble_eq_true rfl), (Nat.le_of_ble_eq_true rfl)⟩ dX9_doubts_2) (fun r1275 u1276 H locs hw hP hD hS => ?_)
  have hP : va_P (dC, dI) vwCl [(a0, .inr (9, [.ref a2, .int 0, .ref a1, .ref a3, .ref a4, .ref a5, .ref a6, .ref a7, .ref a8, .ref a9, .ref a10, .ref a11, .ref a12, .int 0, .ref a13, .long 1])), (a1, .inr (4, [.int 0, .int 0, .int 0, .int 0, .int 0, .int 0, .int 0, .ref a14, .ref a15, .ref a16, .int 0, .ref a17, .ref a18, .ref a19, .ref a20, .ref a21, .int 0, .ref a22]))] H := hP
  have hD : va_D A [(a0, .inr (9, [.ref a2, .int 0, .ref a1, .ref a3, .ref a4, .ref a5, .ref a6, .ref a7, .ref a8, .ref a9, .ref a10, .ref a11, .ref a12, .int 0, .ref a13, .long 1])), (a1, .inr (4, [.int 0, .int 0, .int 0, .int 0, .int 0, .int 0, .int 0, .ref a14, .ref a15, .ref a16, .int 0, .ref a17, .ref a18, .ref a19, .ref a20, .ref a21, .int 0, .ref a22]))] := hD
  subst hw
  refine lv_if_ne (tgt := 10) hx hb dX9_doubts_5 (by decide) (fun h9 => absurd (by decide) h9) (fun _ => ?_)
  refine lv_iconst (v := (-1)) hx hb dX9_doubts_8 (by decide) ?_
  exact k_iret hx hb hr hlk rfl () hS rfl (hP.sub [] rfl) (hD.sub [] (by decide) rfl) (Nat.le_of_ble_eq_true rfl) (Nat.le_of_ble_eq_true rfl) dX9_doubts_9
set_option maxHeartbeats 4000000 in
set_option maxRecDepth 100000 in
theorem c_X8_accepts (l : Launch) (dC : Nat → ClassId) (dI : Nat → Nat → Nat) (cy : Nat → ClassId) (sq : Nat → Nat) (a0 : Nat) (a1 : Nat) (a2 : Nat) (a3 : Nat) (a4 : Nat) (a5 : Nat) : k_Met l yX8_accepts cX8_accepts 6 (some .boolean) { frames := 0, cells := 0, slots := 0, locals := 0 } dC dI cy sq [.ref a0, .ref a5, .int 0, .int 0] [(a0, .inr (8, [.ref a1, .ref a2, .ref a3, .int 0, .int 0, .ref a4, .int 0, .int 0, .int (-1), .int (-1), .int (-1)]))] (k_Qi dC dI (fun (r : Int32) (_ : Unit) => r = 0) (fun _ : Unit => [(a0, .inr (8, [.ref a1, .ref a2, .ref a3, .int 0, .int 0, .ref a4, .int 0, .int 0, .int (-1), .int (-1), .int (-1)]))])) := by
  refine k_ofW (by decide +kernel) (Nat.le_of_ble_eq_true rfl) ?_
  intro p e s m below meth c A ls H locs C0 hr hlk hin hP hD hA hS hl
  have C0 : k_cx p s m _ c cX8_accepts 6 RX8 dC dI cy sq := C0
  have hx := C0.1
  have hb := C0.2.1
  have hl : lv_has ls 6 [(0, .ref a0), (1, .ref a5), (2, .int 0), (3, .int 0)] := hl
  refine lv_iload_n hx hb dX8_accepts_0 rfl (lv_at hl 2 rfl) ?_
  refine lv_iconst (v := 3) hx hb dX8_accepts_1 (by decide) ?_
  refine lv_icmp_lt (tgt := 17) hx hb dX8_accepts_2 (by decide) (fun _ => ?_) (fun h9 => absurd (by decide) h9)
  refine lv_iconst (v := 0) hx hb dX8_accepts_17 (by decide) ?_
  exact k_iret hx hb hr hlk (k_nb 0 (by decide)) () hS rfl hP hD (Nat.le_of_ble_eq_true rfl) (Nat.le_of_ble_eq_true rfl) dX8_accepts_18
set_option maxHeartbeats 4000000 in
set_option maxRecDepth 100000 in
theorem c_X9_see (l : Launch) (dC : Nat → ClassId) (dI : Nat → Nat → Nat) (cy : Nat → ClassId) (sq : Nat → Nat) (a0 : Nat) (a1 : Nat) (a2 : Nat) (a3 : Nat) (a4 : Nat) (a5 : Nat) (a6 : Nat) (a7 : Nat) (a8 : Nat) (a9 : Nat) (a10 : Nat) (a11 : Nat) (a12 : Nat) (a13 : Nat) (a14 : Nat) (a15 : Nat) (a16 : Nat) (a17 : Nat) (a18 : Nat) (a19 : Nat) (a20 : Nat) (a21 : Nat) (a22 : Nat) (a23 : Nat) (a24 : Nat) (a25 : Nat) : k_Met l yX9_see cX9_see 2 (some .int) { frames := 1, cells := 0, slots := 0, locals := 25 } dC dI cy sq [.ref a0] [(a0, .inr (9, [.ref a4, .int 0, .ref a1, .ref a5, .ref a6, .ref a7, .ref a8, .ref a9, .ref a10, .ref a11, .ref a12, .ref a2, .ref a13, .int 0, .ref a3, .long 1])), (a1, .inr (4, [.int 0, .int 0, .int 0, .int 0, .int 0, .int 0, .int 0, .ref a14, .ref a15, .ref a16, .int 0, .ref a17, .ref a18, .ref a19, .ref a20, .ref a21, .int 0, .ref a22])), (a2, .inr (8, [.ref a10, .ref a23, .ref a24, .int 0, .int 0, .ref a25, .int 0, .int 0, .int (-1), .int (-1), .int (-1)])), (a3, .inl (cy 0, 6, .inl (fun _ => 0)))] (k_Qi dC dI (fun (r : Int32) (_ : Unit) => r = (-1)) (fun _ : Unit => [])) := by
  refine k_ofW (by decide +kernel) (Nat.le_of_ble_eq_true rfl) ?_
  intro p e s m below meth c A ls H locs C0 hr hlk hin hP hD hA hS hl
  have C0 : k_cx p s m _ c cX9_see 2 RX9 dC dI cy sq := C0
  have hx := C0.1
  have hb := C0.2.1
  have hl : lv_has ls 2 [(0, .ref a0)] := hl
  refine lv_aload_n hx hb dX9_see_0 rfl (lv_at hl 0 rfl) ?_
  refine k_ji hP hD hS hA [0] [1, 2, 3] (wr := [(a1, .inr (4, [.int 0, .int 0, .int 0, .int 0, .int 0, .int 0, .int 0, .ref a14, .ref a15, .ref a16, .int 0, .ref a17, .ref a18, .ref a19, .ref a20, .ref a21, .int 0, .ref a22])), (a2, .inr (8, [.ref a10, .ref a23, .ref a24, .int 0, .int 0, .ref a25, .int 0, .int 0, .int (-1), .int (-1), .int (-1)])), (a3, .inl (cy 0, 6, .inl (fun _ => 0)))]) rfl rfl (by decide) (by decide) (by decide) 0 0 (Nat.le_of_ble_eq_true rfl) (Nat.le_of_ble_eq_true rfl) (fun hPc hDc => k_runV (As := []) (rest := []) C0 (c_X9_takeTape l dC dI cy sq a0 a4 a1 a5 a6 a7 a8 a9 a10 a11 a12 a2 a13 a3) mV_X9_114 hPc hDc rfl rfl rfl hl rfl rfl (Nat.le_of_ble_eq_true rfl) ⟨(Nat.le_of_ble_eq_true rfl), (Nat.le_of_ble_eq_true rfl)⟩ ⟨(Nat.le_of_ble_eq_true rfl), (Nat.le_of_ble_eq_true rfl)⟩ dX9_see_1) (fun r1283 u1284 H locs hw hP hD hS => ?_)
  have hP : va_P (dC, dI) vwCl [(a1, .inr (4, [.int 0, .int 0, .int 0, .int 0, .int 0, .int 0, .int 0, .ref a14, .ref a15, .ref a16, .int 0, .ref a17, .ref a18, .ref a19, .ref a20, .ref a21, .int 0, .ref a22])), (a2, .inr (8, [.ref a10, .ref a23, .ref a24, .int 0, .int 0, .ref a25, .int 0, .int 0, .int (-1), .int (-1), .int (-1)])), (a3, .inl (cy 0, 6, .inl (fun _ => 0))), (a0, .inr (9, [.ref a4, .int 0, .ref a1, .ref a5, .ref a6, .ref a7, .ref a8, .ref a9, .ref a10, .ref a11, .ref a12, .ref a2, .ref a13, .int 0, .ref a3, .long 1]))] H := hP
  have hD : va_D A [(a1, .inr (4, [.int 0, .int 0, .int 0, .int 0, .int 0, .int 0, .int 0, .ref a14, .ref a15, .ref a16, .int 0, .ref a17, .ref a18, .ref a19, .ref a20, .ref a21, .int 0, .ref a22])), (a2, .inr (8, [.ref a10, .ref a23, .ref a24, .int 0, .int 0, .ref a25, .int 0, .int 0, .int (-1), .int (-1), .int (-1)])), (a3, .inl (cy 0, 6, .inl (fun _ => 0))), (a0, .inr (9, [.ref a4, .int 0, .ref a1, .ref a5, .ref a6, .ref a7, .ref a8, .ref a9, .ref a10, .ref a11, .ref a12, .ref a2, .ref a13, .int 0, .ref a3, .long 1]))] := hD
  subst hw
  refine lv_istore_n (lv' := [(1, .int 0), (0, .ref a0)]) hx hb dX9_see_4 rfl hl (by decide) rfl (fun ls hl => ?_)
  refine lv_aload_n hx hb dX9_see_5 rfl (lv_at hl 1 rfl) ?_
  refine k_get C0 fg_X9_85 hP 3 rfl rfl dX9_see_6 ?_
  refine lv_aload_n hx hb dX9_see_9 rfl (lv_at hl 1 rfl) ?_
  refine k_get C0 fg_X9_9 hP 3 rfl rfl dX9_see_10 ?_
  refine lv_iload_n hx hb dX9_see_13 rfl (lv_at hl 0 rfl) ?_
  refine lv_aload_n hx hb dX9_see_14 rfl (lv_at hl 1 rfl) ?_
  refine k_get C0 fg_X9_20 hP 3 rfl rfl dX9_see_15 ?_
  refine k_get C0 fg_X9_151 hP 0 rfl rfl dX9_see_18 ?_
  refine k_ji hP hD hS hA [1] [0, 2, 3] (wr := [(a1, .inr (4, [.int 0, .int 0, .int 0, .int 0, .int 0, .int 0, .int 0, .ref a14, .ref a15, .ref a16, .int 0, .ref a17, .ref a18, .ref a19, .ref a20, .ref a21, .int 0, .ref a22])), (a3, .inl (cy 0, 6, .inl (fun _ => 0))), (a0, .inr (9, [.ref a4, .int 0, .ref a1, .ref a5, .ref a6, .ref a7, .ref a8, .ref a9, .ref a10, .ref a11, .ref a12, .ref a2, .ref a13, .int 0, .ref a3, .long 1]))]) rfl rfl (by decide) (by decide) (by decide) 0 0 (Nat.le_of_ble_eq_true rfl) (Nat.le_of_ble_eq_true rfl) (fun hPc hDc => k_runV (As := [.ref a4, .int 0, .int 0]) (rest := []) C0 (c_X8_accepts l dC dI cy sq a2 a10 a23 a24 a25 a4) mV_X9_254 hPc hDc rfl rfl rfl hl rfl rfl (Nat.le_of_ble_eq_true rfl) ⟨(Nat.le_of_ble_eq_true rfl), (Nat.le_of_ble_eq_true rfl)⟩ ⟨(Nat.le_of_ble_eq_true rfl), (Nat.le_of_ble_eq_true rfl)⟩ dX9_see_21) (fun r1285 u1286 H locs hw hP hD hS => ?_)
  have hP : va_P (dC, dI) vwCl [(a1, .inr (4, [.int 0, .int 0, .int 0, .int 0, .int 0, .int 0, .int 0, .ref a14, .ref a15, .ref a16, .int 0, .ref a17, .ref a18, .ref a19, .ref a20, .ref a21, .int 0, .ref a22])), (a3, .inl (cy 0, 6, .inl (fun _ => 0))), (a0, .inr (9, [.ref a4, .int 0, .ref a1, .ref a5, .ref a6, .ref a7, .ref a8, .ref a9, .ref a10, .ref a11, .ref a12, .ref a2, .ref a13, .int 0, .ref a3, .long 1])), (a2, .inr (8, [.ref a10, .ref a23, .ref a24, .int 0, .int 0, .ref a25, .int 0, .int 0, .int (-1), .int (-1), .int (-1)]))] H := hP
  have hD : va_D A [(a1, .inr (4, [.int 0, .int 0, .int 0, .int 0, .int 0, .int 0, .int 0, .ref a14, .ref a15, .ref a16, .int 0, .ref a17, .ref a18, .ref a19, .ref a20, .ref a21, .int 0, .ref a22])), (a3, .inl (cy 0, 6, .inl (fun _ => 0))), (a0, .inr (9, [.ref a4, .int 0, .ref a1, .ref a5, .ref a6, .ref a7, .ref a8, .ref a9, .ref a10, .ref a11, .ref a12, .ref a2, .ref a13, .int 0, .ref a3, .long 1])), (a2, .inr (8, [.ref a10, .ref a23, .ref a24, .int 0, .int 0, .ref a25, .int 0, .int 0, .int (-1), .int (-1), .int (-1)]))] := hD
  subst hw
  refine lv_if_ne (tgt := 33) hx hb dX9_see_24 (by decide) (fun h9 => absurd (by decide) h9) (fun _ => ?_)
  refine lv_aload_n hx hb dX9_see_27 rfl (lv_at hl 1 rfl) ?_
  refine lv_iconst (v := 1) hx hb dX9_see_28 (by decide) ?_
  refine k_ji hP hD hS hA [2, 1] [0, 3] (wr := [(a1, .inr (4, [.int 0, .int 0, .int 0, .int 0, .int 0, .int 0, .int 0, .ref a14, .ref a15, .ref a16, .int 0, .ref a17, .ref a18, .ref a19, .ref a20, .ref a21, .int 0, .ref a22])), (a2, .inr (8, [.ref a10, .ref a23, .ref a24, .int 0, .int 0, .ref a25, .int 0, .int 0, .int (-1), .int (-1), .int (-1)]))]) rfl rfl (by decide) (by decide) (by decide) 0 0 (Nat.le_of_ble_eq_true rfl) (Nat.le_of_ble_eq_true rfl) (fun hPc hDc => k_runV (As := [.int 1]) (rest := []) C0 (c_X9_refuse l dC dI cy sq a0 a3 a4 a1 a5 a6 a7 a8 a9 a10 a11 a12 a2 a13) mV_X9_102 hPc hDc rfl rfl rfl hl rfl rfl (Nat.le_of_ble_eq_true rfl) ⟨(Nat.le_of_ble_eq_true rfl), (Nat.le_of_ble_eq_true rfl)⟩ ⟨(Nat.le_of_ble_eq_true rfl), (Nat.le_of_ble_eq_true rfl)⟩ dX9_see_29) (fun r1287 u1288 H locs hw hP hD hS => ?_)
  have hP : va_P (dC, dI) vwCl [(a1, .inr (4, [.int 0, .int 0, .int 0, .int 0, .int 0, .int 0, .int 0, .ref a14, .ref a15, .ref a16, .int 0, .ref a17, .ref a18, .ref a19, .ref a20, .ref a21, .int 0, .ref a22])), (a2, .inr (8, [.ref a10, .ref a23, .ref a24, .int 0, .int 0, .ref a25, .int 0, .int 0, .int (-1), .int (-1), .int (-1)])), (a0, .inr (9, [.ref a4, .int 0, .ref a1, .ref a5, .ref a6, .ref a7, .ref a8, .ref a9, .ref a10, .ref a11, .ref a12, .ref a2, .ref a13, .int 0, .ref a3, .long 1])), (a3, .inl (cy 0, 6, .inl (upd (fun _ => 0) 1 1)))] H := hP
  have hD : va_D A [(a1, .inr (4, [.int 0, .int 0, .int 0, .int 0, .int 0, .int 0, .int 0, .ref a14, .ref a15, .ref a16, .int 0, .ref a17, .ref a18, .ref a19, .ref a20, .ref a21, .int 0, .ref a22])), (a2, .inr (8, [.ref a10, .ref a23, .ref a24, .int 0, .int 0, .ref a25, .int 0, .int 0, .int (-1), .int (-1), .int (-1)])), (a0, .inr (9, [.ref a4, .int 0, .ref a1, .ref a5, .ref a6, .ref a7, .ref a8, .ref a9, .ref a10, .ref a11, .ref a12, .ref a2, .ref a13, .int 0, .ref a3, .long 1])), (a3, .inl (cy 0, 6, .inl (upd (fun _ => 0) 1 1)))] := hD
  subst hw
  exact k_iret hx hb hr hlk rfl () hS rfl (hP.sub [] rfl) (hD.sub [] (by decide) rfl) (Nat.le_of_ble_eq_true rfl) (Nat.le_of_ble_eq_true rfl) dX9_see_32
set_option maxHeartbeats 4000000 in
set_option maxRecDepth 100000 in
theorem c_X9_fits (l : Launch) (dC : Nat → ClassId) (dI : Nat → Nat → Nat) (cy : Nat → ClassId) (sq : Nat → Nat) (a0 : Nat) (a1 : Nat) (a2 : Nat) (a3 : Nat) (a4 : Nat) (a5 : Nat) (a6 : Nat) (a7 : Nat) (a8 : Nat) (a9 : Nat) (a10 : Nat) (a11 : Nat) (a12 : Nat) (a13 : Nat) (a14 : Nat) (a15 : Nat) (a16 : Nat) (a17 : Nat) (a18 : Nat) (a19 : Nat) (a20 : Nat) (a21 : Nat) (a22 : Nat) (x0 : Int32) : k_Met l yX9_fits cX9_fits 2 (some .int) { frames := 1, cells := 0, slots := 0, locals := 20 } dC dI cy sq [.ref a0, .int x0] [(a0, .inr (9, [.ref a2, .int 0, .ref a1, .ref a3, .ref a4, .ref a5, .ref a6, .ref a7, .ref a8, .ref a9, .ref a10, .ref a11, .ref a12, .int 0, .ref a13, .long 1])), (a1, .inr (4, [.int 0, .int 0, .int 0, .int 0, .int 0, .int 0, .int 0, .ref a14, .ref a15, .ref a16, .int 0, .ref a17, .ref a18, .ref a19, .ref a20, .ref a21, .int 0, .ref a22]))] (k_Qi dC dI (fun (r : Int32) (_ : Unit) => r = (-1)) (fun _ : Unit => [])) := by
  refine k_ofW (by decide +kernel) (Nat.le_of_ble_eq_true rfl) ?_
  intro p e s m below meth c A ls H locs C0 hr hlk hin hP hD hA hS hl
  have C0 : k_cx p s m _ c cX9_fits 2 RX9 dC dI cy sq := C0
  have hx := C0.1
  have hb := C0.2.1
  have hl : lv_has ls 2 [(0, .ref a0), (1, .int x0)] := hl
  refine lv_aload_n hx hb dX9_fits_0 rfl (lv_at hl 0 rfl) ?_
  refine k_ji hP hD hS hA [0, 1] [] (wr := []) rfl rfl (by decide) (by decide) (by decide) 0 0 (Nat.le_of_ble_eq_true rfl) (Nat.le_of_ble_eq_true rfl) (fun hPc hDc => k_runV (As := []) (rest := []) C0 (c_X9_stands l dC dI cy sq a0 a1 a2 a3 a4 a5 a6 a7 a8 a9 a10 a11 a12 a13 a14 a15 a16 a17 a18 a19 a20 a21 a22) mV_X9_218 hPc hDc rfl rfl rfl hl rfl rfl (Nat.le_of_ble_eq_true rfl) ⟨(Nat.le_of_ble_eq_true rfl), (Nat.le_of_ble_eq_true rfl)⟩ ⟨(Nat.le_of_ble_eq_true rfl), (Nat.le_of_ble_eq_true rfl)⟩ dX9_fits_1) (fun r1291 u1292 H locs hw hP hD hS => ?_)
  have hP : va_P (dC, dI) vwCl [(a0, .inr (9, [.ref a2, .int 0, .ref a1, .ref a3, .ref a4, .ref a5, .ref a6, .ref a7, .ref a8, .ref a9, .ref a10, .ref a11, .ref a12, .int 0, .ref a13, .long 1])), (a1, .inr (4, [.int 0, .int 0, .int 0, .int 0, .int 0, .int 0, .int 0, .ref a14, .ref a15, .ref a16, .int 0, .ref a17, .ref a18, .ref a19, .ref a20, .ref a21, .int 0, .ref a22]))] H := hP
  have hD : va_D A [(a0, .inr (9, [.ref a2, .int 0, .ref a1, .ref a3, .ref a4, .ref a5, .ref a6, .ref a7, .ref a8, .ref a9, .ref a10, .ref a11, .ref a12, .int 0, .ref a13, .long 1])), (a1, .inr (4, [.int 0, .int 0, .int 0, .int 0, .int 0, .int 0, .int 0, .ref a14, .ref a15, .ref a16, .int 0, .ref a17, .ref a18, .ref a19, .ref a20, .ref a21, .int 0, .ref a22]))] := hD
  subst hw
  refine lv_if_ne (tgt := 9) hx hb dX9_fits_4 (by decide) (fun h9 => absurd (by decide) h9) (fun _ => ?_)
  refine lv_iconst (v := (-1)) hx hb dX9_fits_7 (by decide) ?_
  exact k_iret hx hb hr hlk rfl () hS rfl (hP.sub [] rfl) (hD.sub [] (by decide) rfl) (Nat.le_of_ble_eq_true rfl) (Nat.le_of_ble_eq_true rfl) dX9_fits_8
set_option maxHeartbeats 4000000 in
set_option maxRecDepth 100000 in
theorem c_X9_watched (l : Launch) (dC : Nat → ClassId) (dI : Nat → Nat → Nat) (cy : Nat → ClassId) (sq : Nat → Nat) (a0 : Nat) (a1 : Nat) (a2 : Nat) (a3 : Nat) (a4 : Nat) (a5 : Nat) (a6 : Nat) (a7 : Nat) (a8 : Nat) (a9 : Nat) (a10 : Nat) (a11 : Nat) (a12 : Nat) (a13 : Nat) (a14 : Nat) (a15 : Nat) (a16 : Nat) (a17 : Nat) (a18 : Nat) (a19 : Nat) (a20 : Nat) (a21 : Nat) (a22 : Nat) (x0 : Int32) : k_Met l yX9_watched cX9_watched 2 (some .int) { frames := 1, cells := 0, slots := 0, locals := 20 } dC dI cy sq [.ref a0, .int x0] [(a0, .inr (9, [.ref a2, .int 0, .ref a1, .ref a3, .ref a4, .ref a5, .ref a6, .ref a7, .ref a8, .ref a9, .ref a10, .ref a11, .ref a12, .int 0, .ref a13, .long 1])), (a1, .inr (4, [.int 0, .int 0, .int 0, .int 0, .int 0, .int 0, .int 0, .ref a14, .ref a15, .ref a16, .int 0, .ref a17, .ref a18, .ref a19, .ref a20, .ref a21, .int 0, .ref a22]))] (k_Qi dC dI (fun (r : Int32) (_ : Unit) => r = (-1)) (fun _ : Unit => [])) := by
  refine k_ofW (by decide +kernel) (Nat.le_of_ble_eq_true rfl) ?_
  intro p e s m below meth c A ls H locs C0 hr hlk hin hP hD hA hS hl
  have C0 : k_cx p s m _ c cX9_watched 2 RX9 dC dI cy sq := C0
  have hx := C0.1
  have hb := C0.2.1
  have hl : lv_has ls 2 [(0, .ref a0), (1, .int x0)] := hl
  refine lv_aload_n hx hb dX9_watched_0 rfl (lv_at hl 0 rfl) ?_
  refine k_ji hP hD hS hA [0, 1] [] (wr := []) rfl rfl (by decide) (by decide) (by decide) 0 0 (Nat.le_of_ble_eq_true rfl) (Nat.le_of_ble_eq_true rfl) (fun hPc hDc => k_runV (As := []) (rest := []) C0 (c_X9_stands l dC dI cy sq a0 a1 a2 a3 a4 a5 a6 a7 a8 a9 a10 a11 a12 a13 a14 a15 a16 a17 a18 a19 a20 a21 a22) mV_X9_218 hPc hDc rfl rfl rfl hl rfl rfl (Nat.le_of_ble_eq_true rfl) ⟨(Nat.le_of_ble_eq_true rfl), (Nat.le_of_ble_eq_true rfl)⟩ ⟨(Nat.le_of_ble_eq_true rfl), (Nat.le_of_ble_eq_true rfl)⟩ dX9_watched_1) (fun r1295 u1296 H locs hw hP hD hS => ?_)
  have hP : va_P (dC, dI) vwCl [(a0, .inr (9, [.ref a2, .int 0, .ref a1, .ref a3, .ref a4, .ref a5, .ref a6, .ref a7, .ref a8, .ref a9, .ref a10, .ref a11, .ref a12, .int 0, .ref a13, .long 1])), (a1, .inr (4, [.int 0, .int 0, .int 0, .int 0, .int 0, .int 0, .int 0, .ref a14, .ref a15, .ref a16, .int 0, .ref a17, .ref a18, .ref a19, .ref a20, .ref a21, .int 0, .ref a22]))] H := hP
  have hD : va_D A [(a0, .inr (9, [.ref a2, .int 0, .ref a1, .ref a3, .ref a4, .ref a5, .ref a6, .ref a7, .ref a8, .ref a9, .ref a10, .ref a11, .ref a12, .int 0, .ref a13, .long 1])), (a1, .inr (4, [.int 0, .int 0, .int 0, .int 0, .int 0, .int 0, .int 0, .ref a14, .ref a15, .ref a16, .int 0, .ref a17, .ref a18, .ref a19, .ref a20, .ref a21, .int 0, .ref a22]))] := hD
  subst hw
  refine lv_if_ne (tgt := 9) hx hb dX9_watched_4 (by decide) (fun h9 => absurd (by decide) h9) (fun _ => ?_)
  refine lv_iconst (v := (-1)) hx hb dX9_watched_7 (by decide) ?_
  exact k_iret hx hb hr hlk rfl () hS rfl (hP.sub [] rfl) (hD.sub [] (by decide) rfl) (Nat.le_of_ble_eq_true rfl) (Nat.le_of_ble_eq_true rfl) dX9_watched_8
set_option maxHeartbeats 4000000 in
set_option maxRecDepth 100000 in
theorem c_X9_deny_1 (l : Launch) (dC : Nat → ClassId) (dI : Nat → Nat → Nat) (cy : Nat → ClassId) (sq : Nat → Nat) (a0 : Nat) (a1 : Nat) (a2 : Nat) (a3 : Nat) (a4 : Nat) (a5 : Nat) (a6 : Nat) (a7 : Nat) (a8 : Nat) (a9 : Nat) (a10 : Nat) (a11 : Nat) (a12 : Nat) (a13 : Nat) : k_Met l yX9_deny cX9_deny 2 (some .boolean) { frames := 0, cells := 0, slots := 0, locals := 0 } dC dI cy sq [.ref a0, .int 2] [(a0, .inr (9, [.ref a2, .int 0, .ref a3, .ref a4, .ref a5, .ref a6, .ref a7, .ref a8, .ref a9, .ref a10, .ref a11, .ref a12, .ref a13, .int 0, .ref a1, .long 1])), (a1, .inl (cy 0, 6, .inl (fun _ => 0)))] (k_Qi dC dI (fun (r : Int32) (_ : Unit) => r = 0) (fun _ : Unit => [(a0, .inr (9, [.ref a2, .int 0, .ref a3, .ref a4, .ref a5, .ref a6, .ref a7, .ref a8, .ref a9, .ref a10, .ref a11, .ref a12, .ref a13, .int 0, .ref a1, .long 1])), (a1, .inl (cy 0, 6, .inl (upd (fun _ => 0) 2 1)))])) := by
  refine k_ofW (by decide +kernel) (Nat.le_of_ble_eq_true rfl) ?_
  intro p e s m below meth c A ls H locs C0 hr hlk hin hP hD hA hS hl
  have C0 : k_cx p s m _ c cX9_deny 2 RX9 dC dI cy sq := C0
  have hx := C0.1
  have hb := C0.2.1
  have hl : lv_has ls 2 [(0, .ref a0), (1, .int 2)] := hl
  refine lv_aload_n hx hb dX9_deny_0 rfl (lv_at hl 0 rfl) ?_
  refine k_get C0 fg_X9_95 hP 0 rfl rfl dX9_deny_1 ?_
  refine lv_iload_n hx hb dX9_deny_4 rfl (lv_at hl 1 rfl) ?_
  refine lv_dup2_11 hx hb dX9_deny_5 rfl rfl ?_
  refine va_iald hx hb C0.2.2.2.2.2.1 hP 1 0 rfl rfl (k_in 2 6 (by decide)) dX9_deny_6 ?_
  refine k_topi (y := 0) rfl ?_
  refine lv_iconst (v := 1) hx hb dX9_deny_7 (by decide) ?_
  refine lv_iadd hx hb dX9_deny_8 ?_
  refine k_topi (y := 1) (by decide) ?_
  refine va_iast hx hb C0.2.2.2.2.2.1 hP hD hS 1 0 rfl rfl (k_in 2 6 (by decide)) dX9_deny_9 (fun H locs hP hD hS => ?_)
  have hP : va_P (dC, dI) vwCl [(a0, .inr (9, [.ref a2, .int 0, .ref a3, .ref a4, .ref a5, .ref a6, .ref a7, .ref a8, .ref a9, .ref a10, .ref a11, .ref a12, .ref a13, .int 0, .ref a1, .long 1])), (a1, .inl (cy 0, 6, .inl (upd (fun _ => 0) 2 1)))] H := hP
  have hD : va_D A [(a0, .inr (9, [.ref a2, .int 0, .ref a3, .ref a4, .ref a5, .ref a6, .ref a7, .ref a8, .ref a9, .ref a10, .ref a11, .ref a12, .ref a13, .int 0, .ref a1, .long 1])), (a1, .inl (cy 0, 6, .inl (upd (fun _ => 0) 2 1)))] := hD
  refine lv_iconst (v := 0) hx hb dX9_deny_10 (by decide) ?_
  exact k_iret hx hb hr hlk (k_nb 0 (by decide)) () hS rfl hP hD (Nat.le_of_ble_eq_true rfl) (Nat.le_of_ble_eq_true rfl) dX9_deny_11
set_option maxHeartbeats 4000000 in
set_option maxRecDepth 100000 in
theorem c_X9_rule (l : Launch) (dC : Nat → ClassId) (dI : Nat → Nat → Nat) (cy : Nat → ClassId) (sq : Nat → Nat) (a0 : Nat) (a1 : Nat) (a2 : Nat) (a3 : Nat) (a4 : Nat) (a5 : Nat) (a6 : Nat) (a7 : Nat) (a8 : Nat) (a9 : Nat) (a10 : Nat) (a11 : Nat) (a12 : Nat) (a13 : Nat) (a14 : Nat) (a15 : Nat) (a16 : Nat) (a17 : Nat) (a18 : Nat) (a19 : Nat) (a20 : Nat) (a21 : Nat) (a22 : Nat) (x0 : Int32) : k_Met l yX9_rule cX9_rule 2 (some .boolean) { frames := 1, cells := 0, slots := 0, locals := 21 } dC dI cy sq [.ref a0, .int x0] [(a0, .inr (9, [.ref a3, .int 0, .ref a1, .ref a4, .ref a5, .ref a6, .ref a7, .ref a8, .ref a9, .ref a10, .ref a11, .ref a12, .ref a13, .int 0, .ref a2, .long 1])), (a1, .inr (4, [.int 0, .int 0, .int 0, .int 0, .int 0, .int 0, .int 0, .ref a14, .ref a15, .ref a16, .int 0, .ref a17, .ref a18, .ref a19, .ref a20, .ref a21, .int 0, .ref a22])), (a2, .inl (cy 0, 6, .inl (fun _ => 0)))] (k_Qi dC dI (fun (r : Int32) (_ : Unit) => r = 0) (fun _ : Unit => [])) := by
  refine k_ofW (by decide +kernel) (Nat.le_of_ble_eq_true rfl) ?_
  intro p e s m below meth c A ls H locs C0 hr hlk hin hP hD hA hS hl
  have C0 : k_cx p s m _ c cX9_rule 2 RX9 dC dI cy sq := C0
  have hx := C0.1
  have hb := C0.2.1
  have hl : lv_has ls 2 [(0, .ref a0), (1, .int x0)] := hl
  refine lv_aload_n hx hb dX9_rule_0 rfl (lv_at hl 0 rfl) ?_
  refine k_ji hP hD hS hA [0, 1] [2] (wr := [(a2, .inl (cy 0, 6, .inl (fun _ => 0)))]) rfl rfl (by decide) (by decide) (by decide) 0 0 (Nat.le_of_ble_eq_true rfl) (Nat.le_of_ble_eq_true rfl) (fun hPc hDc => k_runV (As := []) (rest := []) C0 (c_X9_stands l dC dI cy sq a0 a1 a3 a4 a5 a6 a7 a8 a9 a10 a11 a12 a13 a2 a14 a15 a16 a17 a18 a19 a20 a21 a22) mV_X9_218 hPc hDc rfl rfl rfl hl rfl rfl (Nat.le_of_ble_eq_true rfl) ⟨(Nat.le_of_ble_eq_true rfl), (Nat.le_of_ble_eq_true rfl)⟩ ⟨(Nat.le_of_ble_eq_true rfl), (Nat.le_of_ble_eq_true rfl)⟩ dX9_rule_1) (fun r1301 u1302 H locs hw hP hD hS => ?_)
  have hP : va_P (dC, dI) vwCl [(a2, .inl (cy 0, 6, .inl (fun _ => 0))), (a0, .inr (9, [.ref a3, .int 0, .ref a1, .ref a4, .ref a5, .ref a6, .ref a7, .ref a8, .ref a9, .ref a10, .ref a11, .ref a12, .ref a13, .int 0, .ref a2, .long 1])), (a1, .inr (4, [.int 0, .int 0, .int 0, .int 0, .int 0, .int 0, .int 0, .ref a14, .ref a15, .ref a16, .int 0, .ref a17, .ref a18, .ref a19, .ref a20, .ref a21, .int 0, .ref a22]))] H := hP
  have hD : va_D A [(a2, .inl (cy 0, 6, .inl (fun _ => 0))), (a0, .inr (9, [.ref a3, .int 0, .ref a1, .ref a4, .ref a5, .ref a6, .ref a7, .ref a8, .ref a9, .ref a10, .ref a11, .ref a12, .ref a13, .int 0, .ref a2, .long 1])), (a1, .inr (4, [.int 0, .int 0, .int 0, .int 0, .int 0, .int 0, .int 0, .ref a14, .ref a15, .ref a16, .int 0, .ref a17, .ref a18, .ref a19, .ref a20, .ref a21, .int 0, .ref a22]))] := hD
  subst hw
  refine lv_if_eq (tgt := 27) hx hb dX9_rule_4 (by decide) (fun _ => ?_) (fun h9 => absurd (by decide) h9)
  refine lv_aload_n hx hb dX9_rule_27 rfl (lv_at hl 0 rfl) ?_
  refine lv_iconst (v := 2) hx hb dX9_rule_28 (by decide) ?_
  refine k_ji hP hD hS hA [1, 0] [2] (wr := [(a1, .inr (4, [.int 0, .int 0, .int 0, .int 0, .int 0, .int 0, .int 0, .ref a14, .ref a15, .ref a16, .int 0, .ref a17, .ref a18, .ref a19, .ref a20, .ref a21, .int 0, .ref a22]))]) rfl rfl (by decide) (by decide) (by decide) 0 0 (Nat.le_of_ble_eq_true rfl) (Nat.le_of_ble_eq_true rfl) (fun hPc hDc => k_runV (As := [.int 2]) (rest := []) C0 (c_X9_deny_1 l dC dI cy sq a0 a2 a3 a1 a4 a5 a6 a7 a8 a9 a10 a11 a12 a13) mV_X9_110 hPc hDc rfl rfl rfl hl rfl rfl (Nat.le_of_ble_eq_true rfl) ⟨(Nat.le_of_ble_eq_true rfl), (Nat.le_of_ble_eq_true rfl)⟩ ⟨(Nat.le_of_ble_eq_true rfl), (Nat.le_of_ble_eq_true rfl)⟩ dX9_rule_29) (fun r1303 u1304 H locs hw hP hD hS => ?_)
  have hP : va_P (dC, dI) vwCl [(a1, .inr (4, [.int 0, .int 0, .int 0, .int 0, .int 0, .int 0, .int 0, .ref a14, .ref a15, .ref a16, .int 0, .ref a17, .ref a18, .ref a19, .ref a20, .ref a21, .int 0, .ref a22])), (a0, .inr (9, [.ref a3, .int 0, .ref a1, .ref a4, .ref a5, .ref a6, .ref a7, .ref a8, .ref a9, .ref a10, .ref a11, .ref a12, .ref a13, .int 0, .ref a2, .long 1])), (a2, .inl (cy 0, 6, .inl (upd (fun _ => 0) 2 1)))] H := hP
  have hD : va_D A [(a1, .inr (4, [.int 0, .int 0, .int 0, .int 0, .int 0, .int 0, .int 0, .ref a14, .ref a15, .ref a16, .int 0, .ref a17, .ref a18, .ref a19, .ref a20, .ref a21, .int 0, .ref a22])), (a0, .inr (9, [.ref a3, .int 0, .ref a1, .ref a4, .ref a5, .ref a6, .ref a7, .ref a8, .ref a9, .ref a10, .ref a11, .ref a12, .ref a13, .int 0, .ref a2, .long 1])), (a2, .inl (cy 0, 6, .inl (upd (fun _ => 0) 2 1)))] := hD
  subst hw
  exact k_iret hx hb hr hlk (k_nb 0 (by decide)) () hS rfl (hP.sub [] rfl) (hD.sub [] (by decide) rfl) (Nat.le_of_ble_eq_true rfl) (Nat.le_of_ble_eq_true rfl) dX9_rule_32
set_option maxHeartbeats 4000000 in
set_option maxRecDepth 100000 in
theorem c_X4_allowsGreen (l : Launch) (dC : Nat → ClassId) (dI : Nat → Nat → Nat) (cy : Nat → ClassId) (sq : Nat → Nat) (a0 : Nat) (a1 : Nat) (a2 : Nat) (a3 : Nat) (a4 : Nat) (a5 : Nat) (a6 : Nat) (a7 : Nat) (a8 : Nat) (a9 : Nat) (x0 : Int32) : k_Met l yX4_allowsGreen cX4_allowsGreen 2 (some .boolean) { frames := 0, cells := 0, slots := 0, locals := 0 } dC dI cy sq [.ref a0, .int x0] [(a0, .inr (4, [.int 0, .int 0, .int 0, .int 0, .int 0, .int 0, .int 0, .ref a1, .ref a2, .ref a3, .int 0, .ref a4, .ref a5, .ref a6, .ref a7, .ref a8, .int 0, .ref a9]))] (k_Qi dC dI (fun (r : Int32) (_ : Unit) => r = 0) (fun _ : Unit => [(a0, .inr (4, [.int 0, .int 0, .int 0, .int 0, .int 0, .int 0, .int 0, .ref a1, .ref a2, .ref a3, .int 0, .ref a4, .ref a5, .ref a6, .ref a7, .ref a8, .int 0, .ref a9]))])) := by
  refine k_ofW (by decide +kernel) (Nat.le_of_ble_eq_true rfl) ?_
  intro p e s m below meth c A ls H locs C0 hr hlk hin hP hD hA hS hl
  have C0 : k_cx p s m _ c cX4_allowsGreen 2 RX4 dC dI cy sq := C0
  have hx := C0.1
  have hb := C0.2.1
  have hl : lv_has ls 2 [(0, .ref a0), (1, .int x0)] := hl
  refine lv_iload_n hx hb dX4_allowsGreen_0 rfl (lv_at hl 1 rfl) ?_
  refine lv_iconst (v := 1) hx hb dX4_allowsGreen_1 (by decide) ?_
  refine lv_icmp_lt (tgt := 23) hx hb dX4_allowsGreen_2 (by decide) (fun c1308 => ?_) (fun c1308 => ?_)
  · refine lv_iconst (v := 0) hx hb dX4_allowsGreen_23 (by decide) ?_
    exact k_iret hx hb hr hlk (k_nb 0 (by decide)) () hS rfl hP hD (Nat.le_of_ble_eq_true rfl) (Nat.le_of_ble_eq_true rfl) dX4_allowsGreen_24
  · refine lv_iload_n hx hb dX4_allowsGreen_5 rfl (lv_at hl 1 rfl) ?_
    refine lv_bipush (v := 60) hx hb dX4_allowsGreen_6 (by decide) ?_
    refine lv_icmp_gt (tgt := 23) hx hb dX4_allowsGreen_8 (by decide) (fun c1309 => ?_) (fun c1309 => ?_)
    · refine lv_iconst (v := 0) hx hb dX4_allowsGreen_23 (by decide) ?_
      exact k_iret hx hb hr hlk (k_nb 0 (by decide)) () hS rfl hP hD (Nat.le_of_ble_eq_true rfl) (Nat.le_of_ble_eq_true rfl) dX4_allowsGreen_24
    · refine lv_iload_n hx hb dX4_allowsGreen_11 rfl (lv_at hl 1 rfl) ?_
      refine lv_aload_n hx hb dX4_allowsGreen_12 rfl (lv_at hl 0 rfl) ?_
      refine k_get C0 fg_X4_39 hP 0 rfl rfl dX4_allowsGreen_13 ?_
      refine lv_icmp_ge (tgt := 23) hx hb dX4_allowsGreen_16 (by decide) (fun c1310 => ?_) (fun c1310 => ?_)
      · refine lv_iconst (v := 0) hx hb dX4_allowsGreen_23 (by decide) ?_
        exact k_iret hx hb hr hlk (k_nb 0 (by decide)) () hS rfl hP hD (Nat.le_of_ble_eq_true rfl) (Nat.le_of_ble_eq_true rfl) dX4_allowsGreen_24
      · exact False.elim (by simp only [Int32.lt_iff_toInt_lt, Int32.le_iff_toInt_le, ← Int32.toInt_inj, kl0, kl1, kl2, kl3, kl4, kl5, kl6, kl7, kl60, klm1] at c1308 c1310 <;> omega)
set_option maxHeartbeats 4000000 in
set_option maxRecDepth 100000 in
theorem c_X9_green (l : Launch) (dC : Nat → ClassId) (dI : Nat → Nat → Nat) (cy : Nat → ClassId) (sq : Nat → Nat) (a0 : Nat) (a1 : Nat) (a2 : Nat) (a3 : Nat) (a4 : Nat) (a5 : Nat) (a6 : Nat) (a7 : Nat) (a8 : Nat) (a9 : Nat) (a10 : Nat) (a11 : Nat) (a12 : Nat) (a13 : Nat) (a14 : Nat) (a15 : Nat) (a16 : Nat) (a17 : Nat) (a18 : Nat) (a19 : Nat) (a20 : Nat) (a21 : Nat) (a22 : Nat) (x0 : Int32) : k_Met l yX9_green cX9_green 2 (some .boolean) { frames := 1, cells := 0, slots := 0, locals := 21 } dC dI cy sq [.ref a0, .int x0] [(a0, .inr (9, [.ref a3, .int 0, .ref a1, .ref a4, .ref a5, .ref a6, .ref a7, .ref a8, .ref a9, .ref a10, .ref a11, .ref a12, .ref a13, .int 0, .ref a2, .long 1])), (a1, .inr (4, [.int 0, .int 0, .int 0, .int 0, .int 0, .int 0, .int 0, .ref a14, .ref a15, .ref a16, .int 0, .ref a17, .ref a18, .ref a19, .ref a20, .ref a21, .int 0, .ref a22])), (a2, .inl (cy 0, 6, .inl (fun _ => 0)))] (k_Qi dC dI (fun (r : Int32) (_ : Unit) => r = 0) (fun _ : Unit => [])) := by
  refine k_ofW (by decide +kernel) (Nat.le_of_ble_eq_true rfl) ?_
  intro p e s m below meth c A ls H locs C0 hr hlk hin hP hD hA hS hl
  have C0 : k_cx p s m _ c cX9_green 2 RX9 dC dI cy sq := C0
  have hx := C0.1
  have hb := C0.2.1
  have hl : lv_has ls 2 [(0, .ref a0), (1, .int x0)] := hl
  refine lv_aload_n hx hb dX9_green_0 rfl (lv_at hl 0 rfl) ?_
  refine k_get C0 fg_X9_20 hP 0 rfl rfl dX9_green_1 ?_
  refine lv_iload_n hx hb dX9_green_4 rfl (lv_at hl 1 rfl) ?_
  refine k_ji hP hD hS hA [1] [0, 2] (wr := [(a0, .inr (9, [.ref a3, .int 0, .ref a1, .ref a4, .ref a5, .ref a6, .ref a7, .ref a8, .ref a9, .ref a10, .ref a11, .ref a12, .ref a13, .int 0, .ref a2, .long 1])), (a2, .inl (cy 0, 6, .inl (fun _ => 0)))]) rfl rfl (by decide) (by decide) (by decide) 0 0 (Nat.le_of_ble_eq_true rfl) (Nat.le_of_ble_eq_true rfl) (fun hPc hDc => k_runV (As := [.int x0]) (rest := []) C0 (c_X4_allowsGreen l dC dI cy sq a1 a14 a15 a16 a17 a18 a19 a20 a21 a22 x0) mV_X9_284 hPc hDc rfl rfl rfl hl rfl rfl (Nat.le_of_ble_eq_true rfl) ⟨(Nat.le_of_ble_eq_true rfl), (Nat.le_of_ble_eq_true rfl)⟩ ⟨(Nat.le_of_ble_eq_true rfl), (Nat.le_of_ble_eq_true rfl)⟩ dX9_green_5) (fun r1318 u1319 H locs hw hP hD hS => ?_)
  have hP : va_P (dC, dI) vwCl [(a0, .inr (9, [.ref a3, .int 0, .ref a1, .ref a4, .ref a5, .ref a6, .ref a7, .ref a8, .ref a9, .ref a10, .ref a11, .ref a12, .ref a13, .int 0, .ref a2, .long 1])), (a2, .inl (cy 0, 6, .inl (fun _ => 0))), (a1, .inr (4, [.int 0, .int 0, .int 0, .int 0, .int 0, .int 0, .int 0, .ref a14, .ref a15, .ref a16, .int 0, .ref a17, .ref a18, .ref a19, .ref a20, .ref a21, .int 0, .ref a22]))] H := hP
  have hD : va_D A [(a0, .inr (9, [.ref a3, .int 0, .ref a1, .ref a4, .ref a5, .ref a6, .ref a7, .ref a8, .ref a9, .ref a10, .ref a11, .ref a12, .ref a13, .int 0, .ref a2, .long 1])), (a2, .inl (cy 0, 6, .inl (fun _ => 0))), (a1, .inr (4, [.int 0, .int 0, .int 0, .int 0, .int 0, .int 0, .int 0, .ref a14, .ref a15, .ref a16, .int 0, .ref a17, .ref a18, .ref a19, .ref a20, .ref a21, .int 0, .ref a22]))] := hD
  subst hw
  refine lv_if_eq (tgt := 22) hx hb dX9_green_8 (by decide) (fun _ => ?_) (fun h9 => absurd (by decide) h9)
  refine lv_aload_n hx hb dX9_green_22 rfl (lv_at hl 0 rfl) ?_
  refine lv_iconst (v := 2) hx hb dX9_green_23 (by decide) ?_
  refine k_ji hP hD hS hA [0, 1] [2] (wr := [(a1, .inr (4, [.int 0, .int 0, .int 0, .int 0, .int 0, .int 0, .int 0, .ref a14, .ref a15, .ref a16, .int 0, .ref a17, .ref a18, .ref a19, .ref a20, .ref a21, .int 0, .ref a22]))]) rfl rfl (by decide) (by decide) (by decide) 0 0 (Nat.le_of_ble_eq_true rfl) (Nat.le_of_ble_eq_true rfl) (fun hPc hDc => k_runV (As := [.int 2]) (rest := []) C0 (c_X9_deny_1 l dC dI cy sq a0 a2 a3 a1 a4 a5 a6 a7 a8 a9 a10 a11 a12 a13) mV_X9_110 hPc hDc rfl rfl rfl hl rfl rfl (Nat.le_of_ble_eq_true rfl) ⟨(Nat.le_of_ble_eq_true rfl), (Nat.le_of_ble_eq_true rfl)⟩ ⟨(Nat.le_of_ble_eq_true rfl), (Nat.le_of_ble_eq_true rfl)⟩ dX9_green_24) (fun r1320 u1321 H locs hw hP hD hS => ?_)
  have hP : va_P (dC, dI) vwCl [(a1, .inr (4, [.int 0, .int 0, .int 0, .int 0, .int 0, .int 0, .int 0, .ref a14, .ref a15, .ref a16, .int 0, .ref a17, .ref a18, .ref a19, .ref a20, .ref a21, .int 0, .ref a22])), (a0, .inr (9, [.ref a3, .int 0, .ref a1, .ref a4, .ref a5, .ref a6, .ref a7, .ref a8, .ref a9, .ref a10, .ref a11, .ref a12, .ref a13, .int 0, .ref a2, .long 1])), (a2, .inl (cy 0, 6, .inl (upd (fun _ => 0) 2 1)))] H := hP
  have hD : va_D A [(a1, .inr (4, [.int 0, .int 0, .int 0, .int 0, .int 0, .int 0, .int 0, .ref a14, .ref a15, .ref a16, .int 0, .ref a17, .ref a18, .ref a19, .ref a20, .ref a21, .int 0, .ref a22])), (a0, .inr (9, [.ref a3, .int 0, .ref a1, .ref a4, .ref a5, .ref a6, .ref a7, .ref a8, .ref a9, .ref a10, .ref a11, .ref a12, .ref a13, .int 0, .ref a2, .long 1])), (a2, .inl (cy 0, 6, .inl (upd (fun _ => 0) 2 1)))] := hD
  subst hw
  exact k_iret hx hb hr hlk (k_nb 0 (by decide)) () hS rfl (hP.sub [] rfl) (hD.sub [] (by decide) rfl) (Nat.le_of_ble_eq_true rfl) (Nat.le_of_ble_eq_true rfl) dX9_green_27
set_option maxHeartbeats 4000000 in
set_option maxRecDepth 100000 in
theorem c_X9_trust (l : Launch) (dC : Nat → ClassId) (dI : Nat → Nat → Nat) (cy : Nat → ClassId) (sq : Nat → Nat) (a0 : Nat) (a1 : Nat) (a2 : Nat) (a3 : Nat) (a4 : Nat) (a5 : Nat) (a6 : Nat) (a7 : Nat) (a8 : Nat) (a9 : Nat) (a10 : Nat) (a11 : Nat) (a12 : Nat) (a13 : Nat) (a14 : Nat) (a15 : Nat) (a16 : Nat) (a17 : Nat) (a18 : Nat) (a19 : Nat) (a20 : Nat) (a21 : Nat) (a22 : Nat) (x0 : Int32) (x1 : Int32) : k_Met l yX9_trust cX9_trust 3 (some .boolean) { frames := 1, cells := 0, slots := 0, locals := 21 } dC dI cy sq [.ref a0, .int x0, .int x1] [(a0, .inr (9, [.ref a3, .int 0, .ref a1, .ref a4, .ref a5, .ref a6, .ref a7, .ref a8, .ref a9, .ref a10, .ref a11, .ref a12, .ref a13, .int 0, .ref a2, .long 1])), (a1, .inr (4, [.int 0, .int 0, .int 0, .int 0, .int 0, .int 0, .int 0, .ref a14, .ref a15, .ref a16, .int 0, .ref a17, .ref a18, .ref a19, .ref a20, .ref a21, .int 0, .ref a22])), (a2, .inl (cy 0, 6, .inl (fun _ => 0)))] (k_Qi dC dI (fun (r : Int32) (_ : Unit) => r = 0) (fun _ : Unit => [])) := by
  refine k_ofW (by decide +kernel) (Nat.le_of_ble_eq_true rfl) ?_
  intro p e s m below meth c A ls H locs C0 hr hlk hin hP hD hA hS hl
  have C0 : k_cx p s m _ c cX9_trust 3 RX9 dC dI cy sq := C0
  have hx := C0.1
  have hb := C0.2.1
  have hl : lv_has ls 3 [(0, .ref a0), (1, .int x0), (2, .int x1)] := hl
  refine lv_aload_n hx hb dX9_trust_0 rfl (lv_at hl 0 rfl) ?_
  refine lv_iload_n hx hb dX9_trust_1 rfl (lv_at hl 1 rfl) ?_
  refine k_ji hP hD hS hA [0, 1] [2] (wr := [(a2, .inl (cy 0, 6, .inl (fun _ => 0)))]) rfl rfl (by decide) (by decide) (by decide) 0 0 (Nat.le_of_ble_eq_true rfl) (Nat.le_of_ble_eq_true rfl) (fun hPc hDc => k_runV (As := [.int x0]) (rest := []) C0 (c_X9_isKind l dC dI cy sq a0 a1 a3 a4 a5 a6 a7 a8 a9 a10 a11 a12 a13 a2 a14 a15 a16 a17 a18 a19 a20 a21 a22 x0) mV_X9_169 hPc hDc rfl rfl rfl hl rfl rfl (Nat.le_of_ble_eq_true rfl) ⟨(Nat.le_of_ble_eq_true rfl), (Nat.le_of_ble_eq_true rfl)⟩ ⟨(Nat.le_of_ble_eq_true rfl), (Nat.le_of_ble_eq_true rfl)⟩ dX9_trust_2) (fun r1330 u1331 H locs hw hP hD hS => ?_)
  have hP : va_P (dC, dI) vwCl [(a2, .inl (cy 0, 6, .inl (fun _ => 0))), (a0, .inr (9, [.ref a3, .int 0, .ref a1, .ref a4, .ref a5, .ref a6, .ref a7, .ref a8, .ref a9, .ref a10, .ref a11, .ref a12, .ref a13, .int 0, .ref a2, .long 1])), (a1, .inr (4, [.int 0, .int 0, .int 0, .int 0, .int 0, .int 0, .int 0, .ref a14, .ref a15, .ref a16, .int 0, .ref a17, .ref a18, .ref a19, .ref a20, .ref a21, .int 0, .ref a22]))] H := hP
  have hD : va_D A [(a2, .inl (cy 0, 6, .inl (fun _ => 0))), (a0, .inr (9, [.ref a3, .int 0, .ref a1, .ref a4, .ref a5, .ref a6, .ref a7, .ref a8, .ref a9, .ref a10, .ref a11, .ref a12, .ref a13, .int 0, .ref a2, .long 1])), (a1, .inr (4, [.int 0, .int 0, .int 0, .int 0, .int 0, .int 0, .int 0, .ref a14, .ref a15, .ref a16, .int 0, .ref a17, .ref a18, .ref a19, .ref a20, .ref a21, .int 0, .ref a22]))] := hD
  subst hw
  refine lv_if_eq (tgt := 31) hx hb dX9_trust_5 (by decide) (fun _ => ?_) (fun h9 => absurd (by decide) h9)
  refine lv_aload_n hx hb dX9_trust_31 rfl (lv_at hl 0 rfl) ?_
  refine lv_iconst (v := 2) hx hb dX9_trust_32 (by decide) ?_
  refine k_ji hP hD hS hA [1, 0] [2] (wr := [(a1, .inr (4, [.int 0, .int 0, .int 0, .int 0, .int 0, .int 0, .int 0, .ref a14, .ref a15, .ref a16, .int 0, .ref a17, .ref a18, .ref a19, .ref a20, .ref a21, .int 0, .ref a22]))]) rfl rfl (by decide) (by decide) (by decide) 0 0 (Nat.le_of_ble_eq_true rfl) (Nat.le_of_ble_eq_true rfl) (fun hPc hDc => k_runV (As := [.int 2]) (rest := []) C0 (c_X9_deny_1 l dC dI cy sq a0 a2 a3 a1 a4 a5 a6 a7 a8 a9 a10 a11 a12 a13) mV_X9_110 hPc hDc rfl rfl rfl hl rfl rfl (Nat.le_of_ble_eq_true rfl) ⟨(Nat.le_of_ble_eq_true rfl), (Nat.le_of_ble_eq_true rfl)⟩ ⟨(Nat.le_of_ble_eq_true rfl), (Nat.le_of_ble_eq_true rfl)⟩ dX9_trust_33) (fun r1332 u1333 H locs hw hP hD hS => ?_)
  have hP : va_P (dC, dI) vwCl [(a1, .inr (4, [.int 0, .int 0, .int 0, .int 0, .int 0, .int 0, .int 0, .ref a14, .ref a15, .ref a16, .int 0, .ref a17, .ref a18, .ref a19, .ref a20, .ref a21, .int 0, .ref a22])), (a0, .inr (9, [.ref a3, .int 0, .ref a1, .ref a4, .ref a5, .ref a6, .ref a7, .ref a8, .ref a9, .ref a10, .ref a11, .ref a12, .ref a13, .int 0, .ref a2, .long 1])), (a2, .inl (cy 0, 6, .inl (upd (fun _ => 0) 2 1)))] H := hP
  have hD : va_D A [(a1, .inr (4, [.int 0, .int 0, .int 0, .int 0, .int 0, .int 0, .int 0, .ref a14, .ref a15, .ref a16, .int 0, .ref a17, .ref a18, .ref a19, .ref a20, .ref a21, .int 0, .ref a22])), (a0, .inr (9, [.ref a3, .int 0, .ref a1, .ref a4, .ref a5, .ref a6, .ref a7, .ref a8, .ref a9, .ref a10, .ref a11, .ref a12, .ref a13, .int 0, .ref a2, .long 1])), (a2, .inl (cy 0, 6, .inl (upd (fun _ => 0) 2 1)))] := hD
  subst hw
  exact k_iret hx hb hr hlk (k_nb 0 (by decide)) () hS rfl (hP.sub [] rfl) (hD.sub [] (by decide) rfl) (Nat.le_of_ble_eq_true rfl) (Nat.le_of_ble_eq_true rfl) dX9_trust_36
set_option maxHeartbeats 4000000 in
set_option maxRecDepth 100000 in
theorem c_X9_canLive (l : Launch) (dC : Nat → ClassId) (dI : Nat → Nat → Nat) (cy : Nat → ClassId) (sq : Nat → Nat) (a0 : Nat) (a1 : Nat) (a2 : Nat) (a3 : Nat) (a4 : Nat) (a5 : Nat) (a6 : Nat) (a7 : Nat) (a8 : Nat) (a9 : Nat) (a10 : Nat) (a11 : Nat) (a12 : Nat) (a13 : Nat) (a14 : Nat) (a15 : Nat) (a16 : Nat) (a17 : Nat) (a18 : Nat) (a19 : Nat) (a20 : Nat) (a21 : Nat) (a22 : Nat) (x0 : Int32) : k_Met l yX9_canLive cX9_canLive 2 (some .boolean) { frames := 1, cells := 0, slots := 0, locals := 20 } dC dI cy sq [.ref a0, .int x0] [(a0, .inr (9, [.ref a2, .int 0, .ref a1, .ref a3, .ref a4, .ref a5, .ref a6, .ref a7, .ref a8, .ref a9, .ref a10, .ref a11, .ref a12, .int 0, .ref a13, .long 1])), (a1, .inr (4, [.int 0, .int 0, .int 0, .int 0, .int 0, .int 0, .int 0, .ref a14, .ref a15, .ref a16, .int 0, .ref a17, .ref a18, .ref a19, .ref a20, .ref a21, .int 0, .ref a22]))] (k_Qi dC dI (fun (r : Int32) (_ : Unit) => r = 0) (fun _ : Unit => [(a0, .inr (9, [.ref a2, .int 0, .ref a1, .ref a3, .ref a4, .ref a5, .ref a6, .ref a7, .ref a8, .ref a9, .ref a10, .ref a11, .ref a12, .int 0, .ref a13, .long 1])), (a1, .inr (4, [.int 0, .int 0, .int 0, .int 0, .int 0, .int 0, .int 0, .ref a14, .ref a15, .ref a16, .int 0, .ref a17, .ref a18, .ref a19, .ref a20, .ref a21, .int 0, .ref a22]))])) := by
  refine k_ofW (by decide +kernel) (Nat.le_of_ble_eq_true rfl) ?_
  intro p e s m below meth c A ls H locs C0 hr hlk hin hP hD hA hS hl
  have C0 : k_cx p s m _ c cX9_canLive 2 RX9 dC dI cy sq := C0
  have hx := C0.1
  have hb := C0.2.1
  have hl : lv_has ls 2 [(0, .ref a0), (1, .int x0)] := hl
  refine lv_aload_n hx hb dX9_canLive_0 rfl (lv_at hl 0 rfl) ?_
  refine k_ji hP hD hS hA [0, 1] [] (wr := []) rfl rfl (by decide) (by decide) (by decide) 0 0 (Nat.le_of_ble_eq_true rfl) (Nat.le_of_ble_eq_true rfl) (fun hPc hDc => k_runV (As := []) (rest := []) C0 (c_X9_stands l dC dI cy sq a0 a1 a2 a3 a4 a5 a6 a7 a8 a9 a10 a11 a12 a13 a14 a15 a16 a17 a18 a19 a20 a21 a22) mV_X9_218 hPc hDc rfl rfl rfl hl rfl rfl (Nat.le_of_ble_eq_true rfl) ⟨(Nat.le_of_ble_eq_true rfl), (Nat.le_of_ble_eq_true rfl)⟩ ⟨(Nat.le_of_ble_eq_true rfl), (Nat.le_of_ble_eq_true rfl)⟩ dX9_canLive_1) (fun r1336 u1337 H locs hw hP hD hS => ?_)
  have hP : va_P (dC, dI) vwCl [(a0, .inr (9, [.ref a2, .int 0, .ref a1, .ref a3, .ref a4, .ref a5, .ref a6, .ref a7, .ref a8, .ref a9, .ref a10, .ref a11, .ref a12, .int 0, .ref a13, .long 1])), (a1, .inr (4, [.int 0, .int 0, .int 0, .int 0, .int 0, .int 0, .int 0, .ref a14, .ref a15, .ref a16, .int 0, .ref a17, .ref a18, .ref a19, .ref a20, .ref a21, .int 0, .ref a22]))] H := hP
  have hD : va_D A [(a0, .inr (9, [.ref a2, .int 0, .ref a1, .ref a3, .ref a4, .ref a5, .ref a6, .ref a7, .ref a8, .ref a9, .ref a10, .ref a11, .ref a12, .int 0, .ref a13, .long 1])), (a1, .inr (4, [.int 0, .int 0, .int 0, .int 0, .int 0, .int 0, .int 0, .ref a14, .ref a15, .ref a16, .int 0, .ref a17, .ref a18, .ref a19, .ref a20, .ref a21, .int 0, .ref a22]))] := hD
  subst hw
  refine lv_if_eq (tgt := 37) hx hb dX9_canLive_4 (by decide) (fun _ => ?_) (fun h9 => absurd (by decide) h9)
  refine lv_iconst (v := 0) hx hb dX9_canLive_37 (by decide) ?_
  exact k_iret hx hb hr hlk (k_nb 0 (by decide)) () hS rfl hP hD (Nat.le_of_ble_eq_true rfl) (Nat.le_of_ble_eq_true rfl) dX9_canLive_38
set_option maxHeartbeats 4000000 in
set_option maxRecDepth 100000 in
theorem c_X9_refuse_1 (l : Launch) (dC : Nat → ClassId) (dI : Nat → Nat → Nat) (cy : Nat → ClassId) (sq : Nat → Nat) (a0 : Nat) (a1 : Nat) (a2 : Nat) (a3 : Nat) (a4 : Nat) (a5 : Nat) (a6 : Nat) (a7 : Nat) (a8 : Nat) (a9 : Nat) (a10 : Nat) (a11 : Nat) (a12 : Nat) (a13 : Nat) : k_Met l yX9_refuse cX9_refuse 2 (some .int) { frames := 0, cells := 0, slots := 0, locals := 0 } dC dI cy sq [.ref a0, .int 3] [(a0, .inr (9, [.ref a2, .int 0, .ref a3, .ref a4, .ref a5, .ref a6, .ref a7, .ref a8, .ref a9, .ref a10, .ref a11, .ref a12, .ref a13, .int 0, .ref a1, .long 1])), (a1, .inl (cy 0, 6, .inl (fun _ => 0)))] (k_Qi dC dI (fun (r : Int32) (_ : Unit) => r = (-1)) (fun _ : Unit => [(a0, .inr (9, [.ref a2, .int 0, .ref a3, .ref a4, .ref a5, .ref a6, .ref a7, .ref a8, .ref a9, .ref a10, .ref a11, .ref a12, .ref a13, .int 0, .ref a1, .long 1])), (a1, .inl (cy 0, 6, .inl (upd (fun _ => 0) 3 1)))])) := by
  refine k_ofW (by decide +kernel) (Nat.le_of_ble_eq_true rfl) ?_
  intro p e s m below meth c A ls H locs C0 hr hlk hin hP hD hA hS hl
  have C0 : k_cx p s m _ c cX9_refuse 2 RX9 dC dI cy sq := C0
  have hx := C0.1
  have hb := C0.2.1
  have hl : lv_has ls 2 [(0, .ref a0), (1, .int 3)] := hl
  refine lv_aload_n hx hb dX9_refuse_0 rfl (lv_at hl 0 rfl) ?_
  refine k_get C0 fg_X9_95 hP 0 rfl rfl dX9_refuse_1 ?_
  refine lv_iload_n hx hb dX9_refuse_4 rfl (lv_at hl 1 rfl) ?_
  refine lv_dup2_11 hx hb dX9_refuse_5 rfl rfl ?_
  refine va_iald hx hb C0.2.2.2.2.2.1 hP 1 0 rfl rfl (k_in 3 6 (by decide)) dX9_refuse_6 ?_
  refine k_topi (y := 0) rfl ?_
  refine lv_iconst (v := 1) hx hb dX9_refuse_7 (by decide) ?_
  refine lv_iadd hx hb dX9_refuse_8 ?_
  refine k_topi (y := 1) (by decide) ?_
  refine va_iast hx hb C0.2.2.2.2.2.1 hP hD hS 1 0 rfl rfl (k_in 3 6 (by decide)) dX9_refuse_9 (fun H locs hP hD hS => ?_)
  have hP : va_P (dC, dI) vwCl [(a0, .inr (9, [.ref a2, .int 0, .ref a3, .ref a4, .ref a5, .ref a6, .ref a7, .ref a8, .ref a9, .ref a10, .ref a11, .ref a12, .ref a13, .int 0, .ref a1, .long 1])), (a1, .inl (cy 0, 6, .inl (upd (fun _ => 0) 3 1)))] H := hP
  have hD : va_D A [(a0, .inr (9, [.ref a2, .int 0, .ref a3, .ref a4, .ref a5, .ref a6, .ref a7, .ref a8, .ref a9, .ref a10, .ref a11, .ref a12, .ref a13, .int 0, .ref a1, .long 1])), (a1, .inl (cy 0, 6, .inl (upd (fun _ => 0) 3 1)))] := hD
  refine lv_iconst (v := (-1)) hx hb dX9_refuse_10 (by decide) ?_
  exact k_iret hx hb hr hlk rfl () hS rfl hP hD (Nat.le_of_ble_eq_true rfl) (Nat.le_of_ble_eq_true rfl) dX9_refuse_11
set_option maxHeartbeats 4000000 in
set_option maxRecDepth 100000 in
theorem c_X9_days (l : Launch) (dC : Nat → ClassId) (dI : Nat → Nat → Nat) (cy : Nat → ClassId) (sq : Nat → Nat) (a0 : Nat) (a1 : Nat) (a2 : Nat) (a3 : Nat) (a4 : Nat) (a5 : Nat) (a6 : Nat) (a7 : Nat) (a8 : Nat) (a9 : Nat) (a10 : Nat) (a11 : Nat) (a12 : Nat) (a13 : Nat) (a14 : Nat) (a15 : Nat) (a16 : Nat) (a17 : Nat) (a18 : Nat) (a19 : Nat) (a20 : Nat) (a21 : Nat) (a22 : Nat) (x0 : Int32) : k_Met l yX9_days cX9_days 4 (some .int) { frames := 2, cells := 0, slots := 0, locals := 41 } dC dI cy sq [.ref a0, .int x0] [(a0, .inr (9, [.ref a3, .int 0, .ref a1, .ref a4, .ref a5, .ref a6, .ref a7, .ref a8, .ref a9, .ref a10, .ref a11, .ref a12, .ref a13, .int 0, .ref a2, .long 1])), (a1, .inr (4, [.int 0, .int 0, .int 0, .int 0, .int 0, .int 0, .int 0, .ref a14, .ref a15, .ref a16, .int 0, .ref a17, .ref a18, .ref a19, .ref a20, .ref a21, .int 0, .ref a22])), (a2, .inl (cy 0, 6, .inl (fun _ => 0)))] (k_Qi dC dI (fun (r : Int32) (_ : Unit) => r = (-1)) (fun _ : Unit => [])) := by
  refine k_ofW (by decide +kernel) (Nat.le_of_ble_eq_true rfl) ?_
  intro p e s m below meth c A ls H locs C0 hr hlk hin hP hD hA hS hl
  have C0 : k_cx p s m _ c cX9_days 4 RX9 dC dI cy sq := C0
  have hx := C0.1
  have hb := C0.2.1
  have hl : lv_has ls 4 [(0, .ref a0), (1, .int x0)] := hl
  refine lv_aload_n hx hb dX9_days_0 rfl (lv_at hl 0 rfl) ?_
  refine lv_iload_n hx hb dX9_days_1 rfl (lv_at hl 1 rfl) ?_
  refine k_ji hP hD hS hA [0, 1] [2] (wr := [(a2, .inl (cy 0, 6, .inl (fun _ => 0)))]) rfl rfl (by decide) (by decide) (by decide) 0 0 (Nat.le_of_ble_eq_true rfl) (Nat.le_of_ble_eq_true rfl) (fun hPc hDc => k_runV (As := [.int x0]) (rest := []) C0 (c_X9_canLive l dC dI cy sq a0 a1 a3 a4 a5 a6 a7 a8 a9 a10 a11 a12 a13 a2 a14 a15 a16 a17 a18 a19 a20 a21 a22 x0) mV_X9_287 hPc hDc rfl rfl rfl hl rfl rfl (Nat.le_of_ble_eq_true rfl) ⟨(Nat.le_of_ble_eq_true rfl), (Nat.le_of_ble_eq_true rfl)⟩ ⟨(Nat.le_of_ble_eq_true rfl), (Nat.le_of_ble_eq_true rfl)⟩ dX9_days_2) (fun r1344 u1345 H locs hw hP hD hS => ?_)
  have hP : va_P (dC, dI) vwCl [(a2, .inl (cy 0, 6, .inl (fun _ => 0))), (a0, .inr (9, [.ref a3, .int 0, .ref a1, .ref a4, .ref a5, .ref a6, .ref a7, .ref a8, .ref a9, .ref a10, .ref a11, .ref a12, .ref a13, .int 0, .ref a2, .long 1])), (a1, .inr (4, [.int 0, .int 0, .int 0, .int 0, .int 0, .int 0, .int 0, .ref a14, .ref a15, .ref a16, .int 0, .ref a17, .ref a18, .ref a19, .ref a20, .ref a21, .int 0, .ref a22]))] H := hP
  have hD : va_D A [(a2, .inl (cy 0, 6, .inl (fun _ => 0))), (a0, .inr (9, [.ref a3, .int 0, .ref a1, .ref a4, .ref a5, .ref a6, .ref a7, .ref a8, .ref a9, .ref a10, .ref a11, .ref a12, .ref a13, .int 0, .ref a2, .long 1])), (a1, .inr (4, [.int 0, .int 0, .int 0, .int 0, .int 0, .int 0, .int 0, .ref a14, .ref a15, .ref a16, .int 0, .ref a17, .ref a18, .ref a19, .ref a20, .ref a21, .int 0, .ref a22]))] := hD
  subst hw
  refine lv_if_ne (tgt := 14) hx hb dX9_days_5 (by decide) (fun h9 => absurd (by decide) h9) (fun _ => ?_)
  refine lv_aload_n hx hb dX9_days_8 rfl (lv_at hl 0 rfl) ?_
  refine lv_iconst (v := 3) hx hb dX9_days_9 (by decide) ?_
  refine k_ji hP hD hS hA [1, 0] [2] (wr := [(a1, .inr (4, [.int 0, .int 0, .int 0, .int 0, .int 0, .int 0, .int 0, .ref a14, .ref a15, .ref a16, .int 0, .ref a17, .ref a18, .ref a19, .ref a20, .ref a21, .int 0, .ref a22]))]) rfl rfl (by decide) (by decide) (by decide) 0 0 (Nat.le_of_ble_eq_true rfl) (Nat.le_of_ble_eq_true rfl) (fun hPc hDc => k_runV (As := [.int 3]) (rest := []) C0 (c_X9_refuse_1 l dC dI cy sq a0 a2 a3 a1 a4 a5 a6 a7 a8 a9 a10 a11 a12 a13) mV_X9_102 hPc hDc rfl rfl rfl hl rfl rfl (Nat.le_of_ble_eq_true rfl) ⟨(Nat.le_of_ble_eq_true rfl), (Nat.le_of_ble_eq_true rfl)⟩ ⟨(Nat.le_of_ble_eq_true rfl), (Nat.le_of_ble_eq_true rfl)⟩ dX9_days_10) (fun r1346 u1347 H locs hw hP hD hS => ?_)
  have hP : va_P (dC, dI) vwCl [(a1, .inr (4, [.int 0, .int 0, .int 0, .int 0, .int 0, .int 0, .int 0, .ref a14, .ref a15, .ref a16, .int 0, .ref a17, .ref a18, .ref a19, .ref a20, .ref a21, .int 0, .ref a22])), (a0, .inr (9, [.ref a3, .int 0, .ref a1, .ref a4, .ref a5, .ref a6, .ref a7, .ref a8, .ref a9, .ref a10, .ref a11, .ref a12, .ref a13, .int 0, .ref a2, .long 1])), (a2, .inl (cy 0, 6, .inl (upd (fun _ => 0) 3 1)))] H := hP
  have hD : va_D A [(a1, .inr (4, [.int 0, .int 0, .int 0, .int 0, .int 0, .int 0, .int 0, .ref a14, .ref a15, .ref a16, .int 0, .ref a17, .ref a18, .ref a19, .ref a20, .ref a21, .int 0, .ref a22])), (a0, .inr (9, [.ref a3, .int 0, .ref a1, .ref a4, .ref a5, .ref a6, .ref a7, .ref a8, .ref a9, .ref a10, .ref a11, .ref a12, .ref a13, .int 0, .ref a2, .long 1])), (a2, .inl (cy 0, 6, .inl (upd (fun _ => 0) 3 1)))] := hD
  subst hw
  exact k_iret hx hb hr hlk rfl () hS rfl (hP.sub [] rfl) (hD.sub [] (by decide) rfl) (Nat.le_of_ble_eq_true rfl) (Nat.le_of_ble_eq_true rfl) dX9_days_13
set_option maxHeartbeats 4000000 in
set_option maxRecDepth 100000 in
theorem c_X9_chance (l : Launch) (dC : Nat → ClassId) (dI : Nat → Nat → Nat) (cy : Nat → ClassId) (sq : Nat → Nat) (a0 : Nat) (a1 : Nat) (a2 : Nat) (a3 : Nat) (a4 : Nat) (a5 : Nat) (a6 : Nat) (a7 : Nat) (a8 : Nat) (a9 : Nat) (a10 : Nat) (a11 : Nat) (a12 : Nat) (a13 : Nat) (a14 : Nat) (a15 : Nat) (a16 : Nat) (a17 : Nat) (a18 : Nat) (a19 : Nat) (a20 : Nat) (a21 : Nat) (a22 : Nat) (x0 : Int32) : k_Met l yX9_chance cX9_chance 5 (some .int) { frames := 2, cells := 0, slots := 0, locals := 41 } dC dI cy sq [.ref a0, .int x0] [(a0, .inr (9, [.ref a3, .int 0, .ref a1, .ref a4, .ref a5, .ref a6, .ref a7, .ref a8, .ref a9, .ref a10, .ref a11, .ref a12, .ref a13, .int 0, .ref a2, .long 1])), (a1, .inr (4, [.int 0, .int 0, .int 0, .int 0, .int 0, .int 0, .int 0, .ref a14, .ref a15, .ref a16, .int 0, .ref a17, .ref a18, .ref a19, .ref a20, .ref a21, .int 0, .ref a22])), (a2, .inl (cy 0, 6, .inl (fun _ => 0)))] (k_Qi dC dI (fun (r : Int32) (_ : Unit) => r = (-1)) (fun _ : Unit => [])) := by
  refine k_ofW (by decide +kernel) (Nat.le_of_ble_eq_true rfl) ?_
  intro p e s m below meth c A ls H locs C0 hr hlk hin hP hD hA hS hl
  have C0 : k_cx p s m _ c cX9_chance 5 RX9 dC dI cy sq := C0
  have hx := C0.1
  have hb := C0.2.1
  have hl : lv_has ls 5 [(0, .ref a0), (1, .int x0)] := hl
  refine lv_aload_n hx hb dX9_chance_0 rfl (lv_at hl 0 rfl) ?_
  refine lv_iload_n hx hb dX9_chance_1 rfl (lv_at hl 1 rfl) ?_
  refine k_ji hP hD hS hA [0, 1] [2] (wr := [(a2, .inl (cy 0, 6, .inl (fun _ => 0)))]) rfl rfl (by decide) (by decide) (by decide) 0 0 (Nat.le_of_ble_eq_true rfl) (Nat.le_of_ble_eq_true rfl) (fun hPc hDc => k_runV (As := [.int x0]) (rest := []) C0 (c_X9_canLive l dC dI cy sq a0 a1 a3 a4 a5 a6 a7 a8 a9 a10 a11 a12 a13 a2 a14 a15 a16 a17 a18 a19 a20 a21 a22 x0) mV_X9_287 hPc hDc rfl rfl rfl hl rfl rfl (Nat.le_of_ble_eq_true rfl) ⟨(Nat.le_of_ble_eq_true rfl), (Nat.le_of_ble_eq_true rfl)⟩ ⟨(Nat.le_of_ble_eq_true rfl), (Nat.le_of_ble_eq_true rfl)⟩ dX9_chance_2) (fun r1356 u1357 H locs hw hP hD hS => ?_)
  have hP : va_P (dC, dI) vwCl [(a2, .inl (cy 0, 6, .inl (fun _ => 0))), (a0, .inr (9, [.ref a3, .int 0, .ref a1, .ref a4, .ref a5, .ref a6, .ref a7, .ref a8, .ref a9, .ref a10, .ref a11, .ref a12, .ref a13, .int 0, .ref a2, .long 1])), (a1, .inr (4, [.int 0, .int 0, .int 0, .int 0, .int 0, .int 0, .int 0, .ref a14, .ref a15, .ref a16, .int 0, .ref a17, .ref a18, .ref a19, .ref a20, .ref a21, .int 0, .ref a22]))] H := hP
  have hD : va_D A [(a2, .inl (cy 0, 6, .inl (fun _ => 0))), (a0, .inr (9, [.ref a3, .int 0, .ref a1, .ref a4, .ref a5, .ref a6, .ref a7, .ref a8, .ref a9, .ref a10, .ref a11, .ref a12, .ref a13, .int 0, .ref a2, .long 1])), (a1, .inr (4, [.int 0, .int 0, .int 0, .int 0, .int 0, .int 0, .int 0, .ref a14, .ref a15, .ref a16, .int 0, .ref a17, .ref a18, .ref a19, .ref a20, .ref a21, .int 0, .ref a22]))] := hD
  subst hw
  refine lv_if_ne (tgt := 14) hx hb dX9_chance_5 (by decide) (fun h9 => absurd (by decide) h9) (fun _ => ?_)
  refine lv_aload_n hx hb dX9_chance_8 rfl (lv_at hl 0 rfl) ?_
  refine lv_iconst (v := 3) hx hb dX9_chance_9 (by decide) ?_
  refine k_ji hP hD hS hA [1, 0] [2] (wr := [(a1, .inr (4, [.int 0, .int 0, .int 0, .int 0, .int 0, .int 0, .int 0, .ref a14, .ref a15, .ref a16, .int 0, .ref a17, .ref a18, .ref a19, .ref a20, .ref a21, .int 0, .ref a22]))]) rfl rfl (by decide) (by decide) (by decide) 0 0 (Nat.le_of_ble_eq_true rfl) (Nat.le_of_ble_eq_true rfl) (fun hPc hDc => k_runV (As := [.int 3]) (rest := []) C0 (c_X9_refuse_1 l dC dI cy sq a0 a2 a3 a1 a4 a5 a6 a7 a8 a9 a10 a11 a12 a13) mV_X9_102 hPc hDc rfl rfl rfl hl rfl rfl (Nat.le_of_ble_eq_true rfl) ⟨(Nat.le_of_ble_eq_true rfl), (Nat.le_of_ble_eq_true rfl)⟩ ⟨(Nat.le_of_ble_eq_true rfl), (Nat.le_of_ble_eq_true rfl)⟩ dX9_chance_10) (fun r1358 u1359 H locs hw hP hD hS => ?_)
  have hP : va_P (dC, dI) vwCl [(a1, .inr (4, [.int 0, .int 0, .int 0, .int 0, .int 0, .int 0, .int 0, .ref a14, .ref a15, .ref a16, .int 0, .ref a17, .ref a18, .ref a19, .ref a20, .ref a21, .int 0, .ref a22])), (a0, .inr (9, [.ref a3, .int 0, .ref a1, .ref a4, .ref a5, .ref a6, .ref a7, .ref a8, .ref a9, .ref a10, .ref a11, .ref a12, .ref a13, .int 0, .ref a2, .long 1])), (a2, .inl (cy 0, 6, .inl (upd (fun _ => 0) 3 1)))] H := hP
  have hD : va_D A [(a1, .inr (4, [.int 0, .int 0, .int 0, .int 0, .int 0, .int 0, .int 0, .ref a14, .ref a15, .ref a16, .int 0, .ref a17, .ref a18, .ref a19, .ref a20, .ref a21, .int 0, .ref a22])), (a0, .inr (9, [.ref a3, .int 0, .ref a1, .ref a4, .ref a5, .ref a6, .ref a7, .ref a8, .ref a9, .ref a10, .ref a11, .ref a12, .ref a13, .int 0, .ref a2, .long 1])), (a2, .inl (cy 0, 6, .inl (upd (fun _ => 0) 3 1)))] := hD
  subst hw
  exact k_iret hx hb hr hlk rfl () hS rfl (hP.sub [] rfl) (hD.sub [] (by decide) rfl) (Nat.le_of_ble_eq_true rfl) (Nat.le_of_ble_eq_true rfl) dX9_chance_13
set_option maxHeartbeats 4000000 in
set_option maxRecDepth 100000 in
theorem c_X2_giveBack (l : Launch) (dC : Nat → ClassId) (dI : Nat → Nat → Nat) (cy : Nat → ClassId) (sq : Nat → Nat) (a0 : Nat) (a1 : Nat) (a2 : Nat) : k_Met l yX2_giveBack cX2_giveBack 2 (some .boolean) { frames := 0, cells := 0, slots := 0, locals := 0 } dC dI cy sq [.ref a0, .ref a2] [(a0, .inr (2, [.ref a1, .int 0, .int 0]))] (k_Qi dC dI (fun (r : Int32) (_ : Unit) => r = 0) (fun _ : Unit => [(a0, .inr (2, [.ref a1, .int 0, .int 0]))])) := by
  refine k_ofW (by decide +kernel) (Nat.le_of_ble_eq_true rfl) ?_
  intro p e s m below meth c A ls H locs C0 hr hlk hin hP hD hA hS hl
  have C0 : k_cx p s m _ c cX2_giveBack 2 RX2 dC dI cy sq := C0
  have hx := C0.1
  have hb := C0.2.1
  have hl : lv_has ls 2 [(0, .ref a0), (1, .ref a2)] := hl
  refine lv_aload_n hx hb dX2_giveBack_0 rfl (lv_at hl 0 rfl) ?_
  refine k_get C0 fg_X2_21 hP 0 rfl rfl dX2_giveBack_1 ?_
  refine lv_if_ne (tgt := 9) hx hb dX2_giveBack_4 (by decide) (fun h9 => absurd (by decide) h9) (fun _ => ?_)
  refine lv_iconst (v := 0) hx hb dX2_giveBack_7 (by decide) ?_
  exact k_iret hx hb hr hlk (k_nb 0 (by decide)) () hS rfl hP hD (Nat.le_of_ble_eq_true rfl) (Nat.le_of_ble_eq_true rfl) dX2_giveBack_8
set_option maxHeartbeats 4000000 in
set_option maxRecDepth 100000 in
theorem c_X9_deny_2 (l : Launch) (dC : Nat → ClassId) (dI : Nat → Nat → Nat) (cy : Nat → ClassId) (sq : Nat → Nat) (a0 : Nat) (a1 : Nat) (a2 : Nat) (a3 : Nat) (a4 : Nat) (a5 : Nat) (a6 : Nat) (a7 : Nat) (a8 : Nat) (a9 : Nat) (a10 : Nat) (a11 : Nat) (a12 : Nat) (a13 : Nat) : k_Met l yX9_deny cX9_deny 2 (some .boolean) { frames := 0, cells := 0, slots := 0, locals := 0 } dC dI cy sq [.ref a0, .int 4] [(a0, .inr (9, [.ref a2, .int 0, .ref a3, .ref a4, .ref a5, .ref a6, .ref a7, .ref a8, .ref a9, .ref a10, .ref a11, .ref a12, .ref a13, .int 0, .ref a1, .long 1])), (a1, .inl (cy 0, 6, .inl (fun _ => 0)))] (k_Qi dC dI (fun (r : Int32) (_ : Unit) => r = 0) (fun _ : Unit => [(a0, .inr (9, [.ref a2, .int 0, .ref a3, .ref a4, .ref a5, .ref a6, .ref a7, .ref a8, .ref a9, .ref a10, .ref a11, .ref a12, .ref a13, .int 0, .ref a1, .long 1])), (a1, .inl (cy 0, 6, .inl (upd (fun _ => 0) 4 1)))])) := by
  refine k_ofW (by decide +kernel) (Nat.le_of_ble_eq_true rfl) ?_
  intro p e s m below meth c A ls H locs C0 hr hlk hin hP hD hA hS hl
  have C0 : k_cx p s m _ c cX9_deny 2 RX9 dC dI cy sq := C0
  have hx := C0.1
  have hb := C0.2.1
  have hl : lv_has ls 2 [(0, .ref a0), (1, .int 4)] := hl
  refine lv_aload_n hx hb dX9_deny_0 rfl (lv_at hl 0 rfl) ?_
  refine k_get C0 fg_X9_95 hP 0 rfl rfl dX9_deny_1 ?_
  refine lv_iload_n hx hb dX9_deny_4 rfl (lv_at hl 1 rfl) ?_
  refine lv_dup2_11 hx hb dX9_deny_5 rfl rfl ?_
  refine va_iald hx hb C0.2.2.2.2.2.1 hP 1 0 rfl rfl (k_in 4 6 (by decide)) dX9_deny_6 ?_
  refine k_topi (y := 0) rfl ?_
  refine lv_iconst (v := 1) hx hb dX9_deny_7 (by decide) ?_
  refine lv_iadd hx hb dX9_deny_8 ?_
  refine k_topi (y := 1) (by decide) ?_
  refine va_iast hx hb C0.2.2.2.2.2.1 hP hD hS 1 0 rfl rfl (k_in 4 6 (by decide)) dX9_deny_9 (fun H locs hP hD hS => ?_)
  have hP : va_P (dC, dI) vwCl [(a0, .inr (9, [.ref a2, .int 0, .ref a3, .ref a4, .ref a5, .ref a6, .ref a7, .ref a8, .ref a9, .ref a10, .ref a11, .ref a12, .ref a13, .int 0, .ref a1, .long 1])), (a1, .inl (cy 0, 6, .inl (upd (fun _ => 0) 4 1)))] H := hP
  have hD : va_D A [(a0, .inr (9, [.ref a2, .int 0, .ref a3, .ref a4, .ref a5, .ref a6, .ref a7, .ref a8, .ref a9, .ref a10, .ref a11, .ref a12, .ref a13, .int 0, .ref a1, .long 1])), (a1, .inl (cy 0, 6, .inl (upd (fun _ => 0) 4 1)))] := hD
  refine lv_iconst (v := 0) hx hb dX9_deny_10 (by decide) ?_
  exact k_iret hx hb hr hlk (k_nb 0 (by decide)) () hS rfl hP hD (Nat.le_of_ble_eq_true rfl) (Nat.le_of_ble_eq_true rfl) dX9_deny_11
set_option maxHeartbeats 4000000 in
set_option maxRecDepth 100000 in
theorem c_X9_undo (l : Launch) (dC : Nat → ClassId) (dI : Nat → Nat → Nat) (cy : Nat → ClassId) (sq : Nat → Nat) (a0 : Nat) (a1 : Nat) (a2 : Nat) (a3 : Nat) (a4 : Nat) (a5 : Nat) (a6 : Nat) (a7 : Nat) (a8 : Nat) (a9 : Nat) (a10 : Nat) (a11 : Nat) (a12 : Nat) (a13 : Nat) (a14 : Nat) : k_Met l yX9_undo cX9_undo 1 (some .boolean) { frames := 1, cells := 0, slots := 0, locals := 21 } dC dI cy sq [.ref a0] [(a0, .inr (9, [.ref a3, .int 0, .ref a4, .ref a5, .ref a6, .ref a1, .ref a7, .ref a8, .ref a9, .ref a10, .ref a11, .ref a12, .ref a13, .int 0, .ref a2, .long 1])), (a1, .inr (2, [.ref a14, .int 0, .int 0])), (a2, .inl (cy 0, 6, .inl (fun _ => 0)))] (k_Qi dC dI (fun (r : Int32) (_ : Unit) => r = 0) (fun _ : Unit => [])) := by
  refine k_ofW (by decide +kernel) (Nat.le_of_ble_eq_true rfl) ?_
  intro p e s m below meth c A ls H locs C0 hr hlk hin hP hD hA hS hl
  have C0 : k_cx p s m _ c cX9_undo 1 RX9 dC dI cy sq := C0
  have hx := C0.1
  have hb := C0.2.1
  have hl : lv_has ls 1 [(0, .ref a0)] := hl
  refine lv_aload_n hx hb dX9_undo_0 rfl (lv_at hl 0 rfl) ?_
  refine k_get C0 fg_X9_37 hP 0 rfl rfl dX9_undo_1 ?_
  refine lv_aload_n hx hb dX9_undo_4 rfl (lv_at hl 0 rfl) ?_
  refine k_get C0 fg_X9_30 hP 0 rfl rfl dX9_undo_5 ?_
  refine k_ji hP hD hS hA [1] [0, 2] (wr := [(a0, .inr (9, [.ref a3, .int 0, .ref a4, .ref a5, .ref a6, .ref a1, .ref a7, .ref a8, .ref a9, .ref a10, .ref a11, .ref a12, .ref a13, .int 0, .ref a2, .long 1])), (a2, .inl (cy 0, 6, .inl (fun _ => 0)))]) rfl rfl (by decide) (by decide) (by decide) 0 0 (Nat.le_of_ble_eq_true rfl) (Nat.le_of_ble_eq_true rfl) (fun hPc hDc => k_runV (As := [.ref a6]) (rest := []) C0 (c_X2_giveBack l dC dI cy sq a1 a14 a6) mV_X9_305 hPc hDc rfl rfl rfl hl rfl rfl (Nat.le_of_ble_eq_true rfl) ⟨(Nat.le_of_ble_eq_true rfl), (Nat.le_of_ble_eq_true rfl)⟩ ⟨(Nat.le_of_ble_eq_true rfl), (Nat.le_of_ble_eq_true rfl)⟩ dX9_undo_8) (fun r1364 u1365 H locs hw hP hD hS => ?_)
  have hP : va_P (dC, dI) vwCl [(a0, .inr (9, [.ref a3, .int 0, .ref a4, .ref a5, .ref a6, .ref a1, .ref a7, .ref a8, .ref a9, .ref a10, .ref a11, .ref a12, .ref a13, .int 0, .ref a2, .long 1])), (a2, .inl (cy 0, 6, .inl (fun _ => 0))), (a1, .inr (2, [.ref a14, .int 0, .int 0]))] H := hP
  have hD : va_D A [(a0, .inr (9, [.ref a3, .int 0, .ref a4, .ref a5, .ref a6, .ref a1, .ref a7, .ref a8, .ref a9, .ref a10, .ref a11, .ref a12, .ref a13, .int 0, .ref a2, .long 1])), (a2, .inl (cy 0, 6, .inl (fun _ => 0))), (a1, .inr (2, [.ref a14, .int 0, .int 0]))] := hD
  subst hw
  refine lv_if_ne (tgt := 20) hx hb dX9_undo_11 (by decide) (fun h9 => absurd (by decide) h9) (fun _ => ?_)
  refine lv_aload_n hx hb dX9_undo_14 rfl (lv_at hl 0 rfl) ?_
  refine lv_iconst (v := 4) hx hb dX9_undo_15 (by decide) ?_
  refine k_ji hP hD hS hA [0, 1] [2] (wr := [(a1, .inr (2, [.ref a14, .int 0, .int 0]))]) rfl rfl (by decide) (by decide) (by decide) 0 0 (Nat.le_of_ble_eq_true rfl) (Nat.le_of_ble_eq_true rfl) (fun hPc hDc => k_runV (As := [.int 4]) (rest := []) C0 (c_X9_deny_2 l dC dI cy sq a0 a2 a3 a4 a5 a6 a1 a7 a8 a9 a10 a11 a12 a13) mV_X9_110 hPc hDc rfl rfl rfl hl rfl rfl (Nat.le_of_ble_eq_true rfl) ⟨(Nat.le_of_ble_eq_true rfl), (Nat.le_of_ble_eq_true rfl)⟩ ⟨(Nat.le_of_ble_eq_true rfl), (Nat.le_of_ble_eq_true rfl)⟩ dX9_undo_16) (fun r1366 u1367 H locs hw hP hD hS => ?_)
  have hP : va_P (dC, dI) vwCl [(a1, .inr (2, [.ref a14, .int 0, .int 0])), (a0, .inr (9, [.ref a3, .int 0, .ref a4, .ref a5, .ref a6, .ref a1, .ref a7, .ref a8, .ref a9, .ref a10, .ref a11, .ref a12, .ref a13, .int 0, .ref a2, .long 1])), (a2, .inl (cy 0, 6, .inl (upd (fun _ => 0) 4 1)))] H := hP
  have hD : va_D A [(a1, .inr (2, [.ref a14, .int 0, .int 0])), (a0, .inr (9, [.ref a3, .int 0, .ref a4, .ref a5, .ref a6, .ref a1, .ref a7, .ref a8, .ref a9, .ref a10, .ref a11, .ref a12, .ref a13, .int 0, .ref a2, .long 1])), (a2, .inl (cy 0, 6, .inl (upd (fun _ => 0) 4 1)))] := hD
  subst hw
  exact k_iret hx hb hr hlk (k_nb 0 (by decide)) () hS rfl (hP.sub [] rfl) (hD.sub [] (by decide) rfl) (Nat.le_of_ble_eq_true rfl) (Nat.le_of_ble_eq_true rfl) dX9_undo_19
set_option maxHeartbeats 4000000 in
set_option maxRecDepth 100000 in
theorem c_X9_deny_3 (l : Launch) (dC : Nat → ClassId) (dI : Nat → Nat → Nat) (cy : Nat → ClassId) (sq : Nat → Nat) (a0 : Nat) (a1 : Nat) (a2 : Nat) (a3 : Nat) (a4 : Nat) (a5 : Nat) (a6 : Nat) (a7 : Nat) (a8 : Nat) (a9 : Nat) (a10 : Nat) (a11 : Nat) (a12 : Nat) (a13 : Nat) : k_Met l yX9_deny cX9_deny 2 (some .boolean) { frames := 0, cells := 0, slots := 0, locals := 0 } dC dI cy sq [.ref a0, .int 5] [(a0, .inr (9, [.ref a2, .int 0, .ref a3, .ref a4, .ref a5, .ref a6, .ref a7, .ref a8, .ref a9, .ref a10, .ref a11, .ref a12, .ref a13, .int 0, .ref a1, .long 1])), (a1, .inl (cy 0, 6, .inl (fun _ => 0)))] (k_Qi dC dI (fun (r : Int32) (_ : Unit) => r = 0) (fun _ : Unit => [(a0, .inr (9, [.ref a2, .int 0, .ref a3, .ref a4, .ref a5, .ref a6, .ref a7, .ref a8, .ref a9, .ref a10, .ref a11, .ref a12, .ref a13, .int 0, .ref a1, .long 1])), (a1, .inl (cy 0, 6, .inl (upd (fun _ => 0) 5 1)))])) := by
  refine k_ofW (by decide +kernel) (Nat.le_of_ble_eq_true rfl) ?_
  intro p e s m below meth c A ls H locs C0 hr hlk hin hP hD hA hS hl
  have C0 : k_cx p s m _ c cX9_deny 2 RX9 dC dI cy sq := C0
  have hx := C0.1
  have hb := C0.2.1
  have hl : lv_has ls 2 [(0, .ref a0), (1, .int 5)] := hl
  refine lv_aload_n hx hb dX9_deny_0 rfl (lv_at hl 0 rfl) ?_
  refine k_get C0 fg_X9_95 hP 0 rfl rfl dX9_deny_1 ?_
  refine lv_iload_n hx hb dX9_deny_4 rfl (lv_at hl 1 rfl) ?_
  refine lv_dup2_11 hx hb dX9_deny_5 rfl rfl ?_
  refine va_iald hx hb C0.2.2.2.2.2.1 hP 1 0 rfl rfl (k_in 5 6 (by decide)) dX9_deny_6 ?_
  refine k_topi (y := 0) rfl ?_
  refine lv_iconst (v := 1) hx hb dX9_deny_7 (by decide) ?_
  refine lv_iadd hx hb dX9_deny_8 ?_
  refine k_topi (y := 1) (by decide) ?_
  refine va_iast hx hb C0.2.2.2.2.2.1 hP hD hS 1 0 rfl rfl (k_in 5 6 (by decide)) dX9_deny_9 (fun H locs hP hD hS => ?_)
  have hP : va_P (dC, dI) vwCl [(a0, .inr (9, [.ref a2, .int 0, .ref a3, .ref a4, .ref a5, .ref a6, .ref a7, .ref a8, .ref a9, .ref a10, .ref a11, .ref a12, .ref a13, .int 0, .ref a1, .long 1])), (a1, .inl (cy 0, 6, .inl (upd (fun _ => 0) 5 1)))] H := hP
  have hD : va_D A [(a0, .inr (9, [.ref a2, .int 0, .ref a3, .ref a4, .ref a5, .ref a6, .ref a7, .ref a8, .ref a9, .ref a10, .ref a11, .ref a12, .ref a13, .int 0, .ref a1, .long 1])), (a1, .inl (cy 0, 6, .inl (upd (fun _ => 0) 5 1)))] := hD
  refine lv_iconst (v := 0) hx hb dX9_deny_10 (by decide) ?_
  exact k_iret hx hb hr hlk (k_nb 0 (by decide)) () hS rfl hP hD (Nat.le_of_ble_eq_true rfl) (Nat.le_of_ble_eq_true rfl) dX9_deny_11
set_option maxHeartbeats 4000000 in
set_option maxRecDepth 100000 in
theorem c_X9_seed (l : Launch) (dC : Nat → ClassId) (dI : Nat → Nat → Nat) (cy : Nat → ClassId) (sq : Nat → Nat) (a0 : Nat) (a1 : Nat) (a2 : Nat) (a3 : Nat) (a4 : Nat) (a5 : Nat) (a6 : Nat) (a7 : Nat) (a8 : Nat) (a9 : Nat) (a10 : Nat) (a11 : Nat) (a12 : Nat) (a13 : Nat) (x0 : Int32) : k_Met l yX9_seed cX9_seed 2 (some .boolean) { frames := 1, cells := 0, slots := 0, locals := 21 } dC dI cy sq [.ref a0, .int x0] [(a0, .inr (9, [.ref a2, .int 0, .ref a3, .ref a4, .ref a5, .ref a6, .ref a7, .ref a8, .ref a9, .ref a10, .ref a11, .ref a12, .ref a13, .int 0, .ref a1, .long 1])), (a1, .inl (cy 0, 6, .inl (fun _ => 0)))] (k_Qi dC dI (fun (r : Int32) (_ : Unit) => r = s_seed x0) (fun _ : Unit => [])) := by
  refine k_ofW (by decide +kernel) (Nat.le_of_ble_eq_true rfl) ?_
  intro p e s m below meth c A ls H locs C0 hr hlk hin hP hD hA hS hl
  have C0 : k_cx p s m _ c cX9_seed 2 RX9 dC dI cy sq := C0
  have hx := C0.1
  have hb := C0.2.1
  have hl : lv_has ls 2 [(0, .ref a0), (1, .int x0)] := hl
  refine lv_iload_n hx hb dX9_seed_0 rfl (lv_at hl 1 rfl) ?_
  refine lv_if_ge (tgt := 10) hx hb dX9_seed_1 (by decide) (fun c1371 => ?_) (fun c1371 => ?_)
  · refine lv_aload_n hx hb dX9_seed_10 rfl (lv_at hl 0 rfl) ?_
    refine lv_iload_n hx hb dX9_seed_11 rfl (lv_at hl 1 rfl) ?_
    refine lv_i2l (v := x0.toInt64) hx hb dX9_seed_12 rfl ?_
    refine k_put C0 fp_X9_98 hP hD hS 0 rfl rfl rfl (Nat.le_of_ble_eq_true rfl) dX9_seed_13 (fun H locs hP hD hS => ?_)
    have hP : va_P (dC, dI) vwCl [(a0, .inr (9, [.ref a2, .int 0, .ref a3, .ref a4, .ref a5, .ref a6, .ref a7, .ref a8, .ref a9, .ref a10, .ref a11, .ref a12, .ref a13, .int 0, .ref a1, .long x0.toInt64])), (a1, .inl (cy 0, 6, .inl (fun _ => 0)))] H := hP
    have hD : va_D A [(a0, .inr (9, [.ref a2, .int 0, .ref a3, .ref a4, .ref a5, .ref a6, .ref a7, .ref a8, .ref a9, .ref a10, .ref a11, .ref a12, .ref a13, .int 0, .ref a1, .long x0.toInt64])), (a1, .inl (cy 0, 6, .inl (fun _ => 0)))] := hD
    refine lv_iconst (v := 1) hx hb dX9_seed_16 (by decide) ?_
    exact k_iret hx hb hr hlk (k_nb 1 (by decide)) () hS (if_neg (by simp only [Int32.lt_iff_toInt_lt, Int32.le_iff_toInt_le, ← Int32.toInt_inj, kl0, kl1, kl2, kl3, kl4, kl5, kl6, kl7, kl60, klm1, kl5L] at c1371 ⊢ <;> omega)).symm (hP.sub [] rfl) (hD.sub [] (by decide) rfl) (Nat.le_of_ble_eq_true rfl) (Nat.le_of_ble_eq_true rfl) dX9_seed_17
  · refine lv_aload_n hx hb dX9_seed_4 rfl (lv_at hl 0 rfl) ?_
    refine lv_iconst (v := 5) hx hb dX9_seed_5 (by decide) ?_
    refine k_ji hP hD hS hA [0, 1] [] (wr := []) rfl rfl (by decide) (by decide) (by decide) 0 0 (Nat.le_of_ble_eq_true rfl) (Nat.le_of_ble_eq_true rfl) (fun hPc hDc => k_runV (As := [.int 5]) (rest := []) C0 (c_X9_deny_3 l dC dI cy sq a0 a1 a2 a3 a4 a5 a6 a7 a8 a9 a10 a11 a12 a13) mV_X9_110 hPc hDc rfl rfl rfl hl rfl rfl (Nat.le_of_ble_eq_true rfl) ⟨(Nat.le_of_ble_eq_true rfl), (Nat.le_of_ble_eq_true rfl)⟩ ⟨(Nat.le_of_ble_eq_true rfl), (Nat.le_of_ble_eq_true rfl)⟩ dX9_seed_6) (fun r1372 u1373 H locs hw hP hD hS => ?_)
    have hP : va_P (dC, dI) vwCl [(a0, .inr (9, [.ref a2, .int 0, .ref a3, .ref a4, .ref a5, .ref a6, .ref a7, .ref a8, .ref a9, .ref a10, .ref a11, .ref a12, .ref a13, .int 0, .ref a1, .long 1])), (a1, .inl (cy 0, 6, .inl (upd (fun _ => 0) 5 1)))] H := hP
    have hD : va_D A [(a0, .inr (9, [.ref a2, .int 0, .ref a3, .ref a4, .ref a5, .ref a6, .ref a7, .ref a8, .ref a9, .ref a10, .ref a11, .ref a12, .ref a13, .int 0, .ref a1, .long 1])), (a1, .inl (cy 0, 6, .inl (upd (fun _ => 0) 5 1)))] := hD
    subst hw
    exact k_iret hx hb hr hlk (k_nb 0 (by decide)) () hS (if_pos (by simp only [Int32.lt_iff_toInt_lt, Int32.le_iff_toInt_le, ← Int32.toInt_inj, kl0, kl1, kl2, kl3, kl4, kl5, kl6, kl7, kl60, klm1, kl5L] at c1371 ⊢ <;> omega)).symm (hP.sub [] rfl) (hD.sub [] (by decide) rfl) (Nat.le_of_ble_eq_true rfl) (Nat.le_of_ble_eq_true rfl) dX9_seed_9
set_option maxHeartbeats 4000000 in
set_option maxRecDepth 100000 in
theorem c_X9_ask (l : Launch) (dC : Nat → ClassId) (dI : Nat → Nat → Nat) (cy : Nat → ClassId) (sq : Nat → Nat) (a0 : Nat) (a1 : Nat) (a2 : Nat) (a3 : Nat) (a4 : Nat) (a5 : Nat) (a6 : Nat) (a7 : Nat) (a8 : Nat) (a9 : Nat) (a10 : Nat) (a11 : Nat) (a12 : Nat) (a13 : Nat) (a14 : Nat) (a15 : Nat) (a16 : Nat) (a17 : Nat) (a18 : Nat) (a19 : Nat) (a20 : Nat) (a21 : Nat) (a22 : Nat) : k_Met l yX9_ask cX9_ask 3 (some .long) { frames := 1, cells := 0, slots := 0, locals := 21 } dC dI cy sq [.ref a0] [(a0, .inr (9, [.ref a2, .int 0, .ref a1, .ref a3, .ref a4, .ref a5, .ref a6, .ref a7, .ref a8, .ref a9, .ref a10, .ref a11, .ref a12, .int 0, .ref a13, .long 1])), (a1, .inr (4, [.int 0, .int 0, .int 0, .int 0, .int 0, .int 0, .int 0, .ref a14, .ref a15, .ref a16, .int 0, .ref a17, .ref a18, .ref a19, .ref a20, .ref a21, .int 0, .ref a22]))] (k_Ql dC dI (fun (r : Int64) (_ : Unit) => r = (-1000000000000000)) (fun _ : Unit => [])) := by
  refine k_ofW (by decide +kernel) (Nat.le_of_ble_eq_true rfl) ?_
  intro p e s m below meth c A ls H locs C0 hr hlk hin hP hD hA hS hl
  have C0 : k_cx p s m _ c cX9_ask 3 RX9 dC dI cy sq := C0
  have hx := C0.1
  have hb := C0.2.1
  have hl : lv_has ls 3 [(0, .ref a0)] := hl
  refine lv_aload_n hx hb dX9_ask_0 rfl (lv_at hl 0 rfl) ?_
  refine k_ji hP hD hS hA [0] [1] (wr := [(a1, .inr (4, [.int 0, .int 0, .int 0, .int 0, .int 0, .int 0, .int 0, .ref a14, .ref a15, .ref a16, .int 0, .ref a17, .ref a18, .ref a19, .ref a20, .ref a21, .int 0, .ref a22]))]) rfl rfl (by decide) (by decide) (by decide) 0 0 (Nat.le_of_ble_eq_true rfl) (Nat.le_of_ble_eq_true rfl) (fun hPc hDc => k_runV (As := []) (rest := []) C0 (c_X9_takeTape l dC dI cy sq a0 a2 a1 a3 a4 a5 a6 a7 a8 a9 a10 a11 a12 a13) mV_X9_114 hPc hDc rfl rfl rfl hl rfl rfl (Nat.le_of_ble_eq_true rfl) ⟨(Nat.le_of_ble_eq_true rfl), (Nat.le_of_ble_eq_true rfl)⟩ ⟨(Nat.le_of_ble_eq_true rfl), (Nat.le_of_ble_eq_true rfl)⟩ dX9_ask_1) (fun r1378 u1379 H locs hw hP hD hS => ?_)
  have hP : va_P (dC, dI) vwCl [(a1, .inr (4, [.int 0, .int 0, .int 0, .int 0, .int 0, .int 0, .int 0, .ref a14, .ref a15, .ref a16, .int 0, .ref a17, .ref a18, .ref a19, .ref a20, .ref a21, .int 0, .ref a22])), (a0, .inr (9, [.ref a2, .int 0, .ref a1, .ref a3, .ref a4, .ref a5, .ref a6, .ref a7, .ref a8, .ref a9, .ref a10, .ref a11, .ref a12, .int 0, .ref a13, .long 1]))] H := hP
  have hD : va_D A [(a1, .inr (4, [.int 0, .int 0, .int 0, .int 0, .int 0, .int 0, .int 0, .ref a14, .ref a15, .ref a16, .int 0, .ref a17, .ref a18, .ref a19, .ref a20, .ref a21, .int 0, .ref a22])), (a0, .inr (9, [.ref a2, .int 0, .ref a1, .ref a3, .ref a4, .ref a5, .ref a6, .ref a7, .ref a8, .ref a9, .ref a10, .ref a11, .ref a12, .int 0, .ref a13, .long 1]))] := hD
  subst hw
  refine lv_istore_n (lv' := [(1, .int 0), (0, .ref a0)]) hx hb dX9_ask_4 rfl hl (by decide) rfl (fun ls hl => ?_)
  refine lv_aload_n hx hb dX9_ask_5 rfl (lv_at hl 1 rfl) ?_
  refine k_ji hP hD hS hA [1, 0] [] (wr := []) rfl rfl (by decide) (by decide) (by decide) 0 0 (Nat.le_of_ble_eq_true rfl) (Nat.le_of_ble_eq_true rfl) (fun hPc hDc => k_runV (As := []) (rest := []) C0 (c_X9_stands l dC dI cy sq a0 a1 a2 a3 a4 a5 a6 a7 a8 a9 a10 a11 a12 a13 a14 a15 a16 a17 a18 a19 a20 a21 a22) mV_X9_218 hPc hDc rfl rfl rfl hl rfl rfl (Nat.le_of_ble_eq_true rfl) ⟨(Nat.le_of_ble_eq_true rfl), (Nat.le_of_ble_eq_true rfl)⟩ ⟨(Nat.le_of_ble_eq_true rfl), (Nat.le_of_ble_eq_true rfl)⟩ dX9_ask_6) (fun r1380 u1381 H locs hw hP hD hS => ?_)
  have hP : va_P (dC, dI) vwCl [(a0, .inr (9, [.ref a2, .int 0, .ref a1, .ref a3, .ref a4, .ref a5, .ref a6, .ref a7, .ref a8, .ref a9, .ref a10, .ref a11, .ref a12, .int 0, .ref a13, .long 1])), (a1, .inr (4, [.int 0, .int 0, .int 0, .int 0, .int 0, .int 0, .int 0, .ref a14, .ref a15, .ref a16, .int 0, .ref a17, .ref a18, .ref a19, .ref a20, .ref a21, .int 0, .ref a22]))] H := hP
  have hD : va_D A [(a0, .inr (9, [.ref a2, .int 0, .ref a1, .ref a3, .ref a4, .ref a5, .ref a6, .ref a7, .ref a8, .ref a9, .ref a10, .ref a11, .ref a12, .int 0, .ref a13, .long 1])), (a1, .inr (4, [.int 0, .int 0, .int 0, .int 0, .int 0, .int 0, .int 0, .ref a14, .ref a15, .ref a16, .int 0, .ref a17, .ref a18, .ref a19, .ref a20, .ref a21, .int 0, .ref a22]))] := hD
  subst hw
  refine lv_if_ne (tgt := 16) hx hb dX9_ask_9 (by decide) (fun h9 => absurd (by decide) h9) (fun _ => ?_)
  refine lv_ldc2 hx hb C0.2.2.2.1 (C0.2.2.2.2.1 _ wd1383) dX9_ask_12 ?_
  exact k_lret hx hb hr hlk () hS rfl (hP.sub [] rfl) (hD.sub [] (by decide) rfl) (Nat.le_of_ble_eq_true rfl) (Nat.le_of_ble_eq_true rfl) dX9_ask_15
set_option maxHeartbeats 4000000 in
set_option maxRecDepth 100000 in
theorem c_X9_check (l : Launch) (dC : Nat → ClassId) (dI : Nat → Nat → Nat) (cy : Nat → ClassId) (sq : Nat → Nat) (a0 : Nat) : k_Met l yX9_check cX9_check 4 (some .int) { frames := 0, cells := 0, slots := 0, locals := 0 } dC dI cy sq [.ref a0, .int 4] [(a0, .inl (cy 0, 11, .inl (upd (upd (upd (upd (fun _ => 0) 0 0) 1 0) 2 0) 3 0)))] (k_Qi dC dI (fun (r : Int32) (_ : Unit) => r = 149) (fun _ : Unit => [(a0, .inl (cy 0, 11, .inl (upd (upd (upd (upd (fun _ => 0) 0 0) 1 0) 2 0) 3 0)))])) := by
  refine k_ofW (by decide +kernel) (Nat.le_of_ble_eq_true rfl) ?_
  intro p e s m below meth c A ls H locs C0 hr hlk hin hP hD hA hS hl
  have C0 : k_cx p s m _ c cX9_check 4 RX9 dC dI cy sq := C0
  have hx := C0.1
  have hb := C0.2.1
  have hl : lv_has ls 4 [(0, .ref a0), (1, .int 4)] := hl
  refine lv_bipush (v := 101) hx hb dX9_check_0 (by decide) ?_
  refine lv_istore_n (lv' := [(2, .int 101), (0, .ref a0), (1, .int 4)]) hx hb dX9_check_2 rfl hl (by decide) rfl (fun ls hl => ?_)
  refine lv_iconst (v := 0) hx hb dX9_check_3 (by decide) ?_
  refine lv_istore_n (lv' := [(3, .int 0), (2, .int 101), (0, .ref a0), (1, .int 4)]) hx hb dX9_check_4 rfl hl (by decide) rfl (fun ls hl => ?_)
  refine lv_iload_n hx hb dX9_check_5 rfl (lv_at hl 0 rfl) ?_
  refine lv_iload_n hx hb dX9_check_6 rfl (lv_at hl 3 rfl) ?_
  refine lv_icmp_ge (tgt := 28) hx hb dX9_check_7 (by decide) (fun h9 => absurd h9 (by decide)) (fun _ => ?_)
  refine lv_iconst (v := 3) hx hb dX9_check_10 (by decide) ?_
  refine lv_iload_n hx hb dX9_check_11 rfl (lv_at hl 1 rfl) ?_
  refine lv_imul hx hb dX9_check_12 ?_
  refine k_topi (y := 303) (by decide) ?_
  refine lv_aload_n hx hb dX9_check_13 rfl (lv_at hl 2 rfl) ?_
  refine lv_iload_n hx hb dX9_check_14 rfl (lv_at hl 0 rfl) ?_
  refine va_iald hx hb C0.2.2.2.2.2.1 hP 0 0 rfl rfl (k_in 0 11 (by decide)) dX9_check_15 ?_
  refine k_topi (y := 0) rfl ?_
  refine lv_iadd hx hb dX9_check_16 ?_
  refine k_topi (y := 303) (by decide) ?_
  refine lv_sipush (v := 251) hx hb dX9_check_17 (by decide) ?_
  refine lv_irem hx hb dX9_check_20 (by decide) ?_
  refine k_topi (y := 52) (by decide) ?_
  refine lv_istore_n (lv' := [(2, .int 52), (3, .int 0), (0, .ref a0), (1, .int 4)]) hx hb dX9_check_21 rfl hl (by decide) rfl (fun ls hl => ?_)
  refine lv_iinc (v := 1) (lv' := [(3, .int 1), (2, .int 52), (0, .ref a0), (1, .int 4)]) hx hb dX9_check_22 hl (k := 1) rfl (by decide) (by decide) rfl (fun ls hl => ?_)
  refine lv_goto (tgt := 5) hx hb dX9_check_25 (by decide) ?_
  refine lv_iload_n hx hb dX9_check_5 rfl (lv_at hl 0 rfl) ?_
  refine lv_iload_n hx hb dX9_check_6 rfl (lv_at hl 3 rfl) ?_
  refine lv_icmp_ge (tgt := 28) hx hb dX9_check_7 (by decide) (fun h9 => absurd h9 (by decide)) (fun _ => ?_)
  refine lv_iconst (v := 3) hx hb dX9_check_10 (by decide) ?_
  refine lv_iload_n hx hb dX9_check_11 rfl (lv_at hl 1 rfl) ?_
  refine lv_imul hx hb dX9_check_12 ?_
  refine k_topi (y := 156) (by decide) ?_
  refine lv_aload_n hx hb dX9_check_13 rfl (lv_at hl 2 rfl) ?_
  refine lv_iload_n hx hb dX9_check_14 rfl (lv_at hl 0 rfl) ?_
  refine va_iald hx hb C0.2.2.2.2.2.1 hP 0 0 rfl rfl (k_in 1 11 (by decide)) dX9_check_15 ?_
  refine k_topi (y := 0) rfl ?_
  refine lv_iadd hx hb dX9_check_16 ?_
  refine k_topi (y := 156) (by decide) ?_
  refine lv_sipush (v := 251) hx hb dX9_check_17 (by decide) ?_
  refine lv_irem hx hb dX9_check_20 (by decide) ?_
  refine k_topi (y := 156) (by decide) ?_
  refine lv_istore_n (lv' := [(2, .int 156), (3, .int 1), (0, .ref a0), (1, .int 4)]) hx hb dX9_check_21 rfl hl (by decide) rfl (fun ls hl => ?_)
  refine lv_iinc (v := 2) (lv' := [(3, .int 2), (2, .int 156), (0, .ref a0), (1, .int 4)]) hx hb dX9_check_22 hl (k := 1) rfl (by decide) (by decide) rfl (fun ls hl => ?_)
  refine lv_goto (tgt := 5) hx hb dX9_check_25 (by decide) ?_
  refine lv_iload_n hx hb dX9_check_5 rfl (lv_at hl 0 rfl) ?_
  refine lv_iload_n hx hb dX9_check_6 rfl (lv_at hl 3 rfl) ?_
  refine lv_icmp_ge (tgt := 28) hx hb dX9_check_7 (by decide) (fun h9 => absurd h9 (by decide)) (fun _ => ?_)
  refine lv_iconst (v := 3) hx hb dX9_check_10 (by decide) ?_
  refine lv_iload_n hx hb dX9_check_11 rfl (lv_at hl 1 rfl) ?_
  refine lv_imul hx hb dX9_check_12 ?_
  refine k_topi (y := 468) (by decide) ?_
  refine lv_aload_n hx hb dX9_check_13 rfl (lv_at hl 2 rfl) ?_
  refine lv_iload_n hx hb dX9_check_14 rfl (lv_at hl 0 rfl) ?_
  refine va_iald hx hb C0.2.2.2.2.2.1 hP 0 0 rfl rfl (k_in 2 11 (by decide)) dX9_check_15 ?_
  refine k_topi (y := 0) rfl ?_
  refine lv_iadd hx hb dX9_check_16 ?_
  refine k_topi (y := 468) (by decide) ?_
  refine lv_sipush (v := 251) hx hb dX9_check_17 (by decide) ?_
  refine lv_irem hx hb dX9_check_20 (by decide) ?_
  refine k_topi (y := 217) (by decide) ?_
  refine lv_istore_n (lv' := [(2, .int 217), (3, .int 2), (0, .ref a0), (1, .int 4)]) hx hb dX9_check_21 rfl hl (by decide) rfl (fun ls hl => ?_)
  refine lv_iinc (v := 3) (lv' := [(3, .int 3), (2, .int 217), (0, .ref a0), (1, .int 4)]) hx hb dX9_check_22 hl (k := 1) rfl (by decide) (by decide) rfl (fun ls hl => ?_)
  refine lv_goto (tgt := 5) hx hb dX9_check_25 (by decide) ?_
  refine lv_iload_n hx hb dX9_check_5 rfl (lv_at hl 0 rfl) ?_
  refine lv_iload_n hx hb dX9_check_6 rfl (lv_at hl 3 rfl) ?_
  refine lv_icmp_ge (tgt := 28) hx hb dX9_check_7 (by decide) (fun h9 => absurd h9 (by decide)) (fun _ => ?_)
  refine lv_iconst (v := 3) hx hb dX9_check_10 (by decide) ?_
  refine lv_iload_n hx hb dX9_check_11 rfl (lv_at hl 1 rfl) ?_
  refine lv_imul hx hb dX9_check_12 ?_
  refine k_topi (y := 651) (by decide) ?_
  refine lv_aload_n hx hb dX9_check_13 rfl (lv_at hl 2 rfl) ?_
  refine lv_iload_n hx hb dX9_check_14 rfl (lv_at hl 0 rfl) ?_
  refine va_iald hx hb C0.2.2.2.2.2.1 hP 0 0 rfl rfl (k_in 3 11 (by decide)) dX9_check_15 ?_
  refine k_topi (y := 0) rfl ?_
  refine lv_iadd hx hb dX9_check_16 ?_
  refine k_topi (y := 651) (by decide) ?_
  refine lv_sipush (v := 251) hx hb dX9_check_17 (by decide) ?_
  refine lv_irem hx hb dX9_check_20 (by decide) ?_
  refine k_topi (y := 149) (by decide) ?_
  refine lv_istore_n (lv' := [(2, .int 149), (3, .int 3), (0, .ref a0), (1, .int 4)]) hx hb dX9_check_21 rfl hl (by decide) rfl (fun ls hl => ?_)
  refine lv_iinc (v := 4) (lv' := [(3, .int 4), (2, .int 149), (0, .ref a0), (1, .int 4)]) hx hb dX9_check_22 hl (k := 1) rfl (by decide) (by decide) rfl (fun ls hl => ?_)
  refine lv_goto (tgt := 5) hx hb dX9_check_25 (by decide) ?_
  refine lv_iload_n hx hb dX9_check_5 rfl (lv_at hl 0 rfl) ?_
  refine lv_iload_n hx hb dX9_check_6 rfl (lv_at hl 3 rfl) ?_
  refine lv_icmp_ge (tgt := 28) hx hb dX9_check_7 (by decide) (fun _ => ?_) (fun h9 => absurd (by decide) h9)
  refine lv_iload_n hx hb dX9_check_28 rfl (lv_at hl 1 rfl) ?_
  exact k_iret hx hb hr hlk rfl () hS rfl hP hD (Nat.le_of_ble_eq_true rfl) (Nat.le_of_ble_eq_true rfl) dX9_check_29
set_option maxHeartbeats 4000000 in
set_option maxRecDepth 100000 in
theorem c_X9_image (l : Launch) (dC : Nat → ClassId) (dI : Nat → Nat → Nat) (cy : Nat → ClassId) (sq : Nat → Nat) (a0 : Nat) (a1 : Nat) (a2 : Nat) (a3 : Nat) (a4 : Nat) (a5 : Nat) (a6 : Nat) (a7 : Nat) (a8 : Nat) (a9 : Nat) (a10 : Nat) (a11 : Nat) (a12 : Nat) (a13 : Nat) (a14 : Nat) (a15 : Nat) (a16 : Nat) (a17 : Nat) (a18 : Nat) (a19 : Nat) (a20 : Nat) (a21 : Nat) (a22 : Nat) (a23 : Nat) : k_Met l yX9_image cX9_image 2 (some .int) { frames := 1, cells := 0, slots := 0, locals := 23 } dC dI cy sq [.ref a0] [(a0, .inr (9, [.ref a4, .int 0, .ref a3, .ref a5, .ref a1, .ref a6, .ref a7, .ref a8, .ref a9, .ref a10, .ref a11, .ref a12, .ref a2, .int 0, .ref a13, .long 1])), (a1, .inr (6, [.int 0, .int 0, .int 0, .ref a14])), (a2, .inl (cy 0, 11, .inl (fun _ => 0))), (a3, .inr (4, [.int 0, .int 0, .int 0, .int 0, .int 0, .int 0, .int 0, .ref a15, .ref a16, .ref a17, .int 0, .ref a18, .ref a19, .ref a20, .ref a21, .ref a22, .int 0, .ref a23]))] (k_Qi dC dI (fun (r : Int32) (_ : Unit) => r = 5) (fun _ : Unit => [])) := by
  refine k_ofW (by decide +kernel) (Nat.le_of_ble_eq_true rfl) ?_
  intro p e s m below meth c A ls H locs C0 hr hlk hin hP hD hA hS hl
  have C0 : k_cx p s m _ c cX9_image 2 RX9 dC dI cy sq := C0
  have hx := C0.1
  have hb := C0.2.1
  have hl : lv_has ls 2 [(0, .ref a0)] := hl
  refine lv_aload_n hx hb dX9_image_0 rfl (lv_at hl 0 rfl) ?_
  refine k_get C0 fg_X9_89 hP 0 rfl rfl dX9_image_1 ?_
  refine lv_iconst (v := 0) hx hb dX9_image_4 (by decide) ?_
  refine lv_aload_n hx hb dX9_image_5 rfl (lv_at hl 0 rfl) ?_
  refine k_get C0 fg_X9_30 hP 0 rfl rfl dX9_image_6 ?_
  refine k_get C0 fg_X9_154 hP 1 rfl rfl dX9_image_9 ?_
  refine lv_bipush (v := 8) hx hb dX9_image_12 (by decide) ?_
  refine lv_ishr hx hb dX9_image_14 ?_
  refine k_topi (y := 0) (by decide) ?_
  refine va_iast hx hb C0.2.2.2.2.2.1 hP hD hS 2 0 rfl rfl (k_in 0 11 (by decide)) dX9_image_15 (fun H locs hP hD hS => ?_)
  have hP : va_P (dC, dI) vwCl [(a0, .inr (9, [.ref a4, .int 0, .ref a3, .ref a5, .ref a1, .ref a6, .ref a7, .ref a8, .ref a9, .ref a10, .ref a11, .ref a12, .ref a2, .int 0, .ref a13, .long 1])), (a1, .inr (6, [.int 0, .int 0, .int 0, .ref a14])), (a2, .inl (cy 0, 11, .inl (upd (fun _ => 0) 0 0))), (a3, .inr (4, [.int 0, .int 0, .int 0, .int 0, .int 0, .int 0, .int 0, .ref a15, .ref a16, .ref a17, .int 0, .ref a18, .ref a19, .ref a20, .ref a21, .ref a22, .int 0, .ref a23]))] H := hP
  have hD : va_D A [(a0, .inr (9, [.ref a4, .int 0, .ref a3, .ref a5, .ref a1, .ref a6, .ref a7, .ref a8, .ref a9, .ref a10, .ref a11, .ref a12, .ref a2, .int 0, .ref a13, .long 1])), (a1, .inr (6, [.int 0, .int 0, .int 0, .ref a14])), (a2, .inl (cy 0, 11, .inl (upd (fun _ => 0) 0 0))), (a3, .inr (4, [.int 0, .int 0, .int 0, .int 0, .int 0, .int 0, .int 0, .ref a15, .ref a16, .ref a17, .int 0, .ref a18, .ref a19, .ref a20, .ref a21, .ref a22, .int 0, .ref a23]))] := hD
  refine lv_aload_n hx hb dX9_image_16 rfl (lv_at hl 0 rfl) ?_
  refine k_get C0 fg_X9_89 hP 0 rfl rfl dX9_image_17 ?_
  refine lv_iconst (v := 1) hx hb dX9_image_20 (by decide) ?_
  refine lv_aload_n hx hb dX9_image_21 rfl (lv_at hl 0 rfl) ?_
  refine k_get C0 fg_X9_30 hP 0 rfl rfl dX9_image_22 ?_
  refine k_get C0 fg_X9_154 hP 1 rfl rfl dX9_image_25 ?_
  refine lv_sipush (v := 255) hx hb dX9_image_28 (by decide) ?_
  refine lv_iand hx hb dX9_image_31 ?_
  refine k_topi (y := 0) (by decide) ?_
  refine va_iast hx hb C0.2.2.2.2.2.1 hP hD hS 2 0 rfl rfl (k_in 1 11 (by decide)) dX9_image_32 (fun H locs hP hD hS => ?_)
  have hP : va_P (dC, dI) vwCl [(a0, .inr (9, [.ref a4, .int 0, .ref a3, .ref a5, .ref a1, .ref a6, .ref a7, .ref a8, .ref a9, .ref a10, .ref a11, .ref a12, .ref a2, .int 0, .ref a13, .long 1])), (a1, .inr (6, [.int 0, .int 0, .int 0, .ref a14])), (a2, .inl (cy 0, 11, .inl (upd (upd (fun _ => 0) 0 0) 1 0))), (a3, .inr (4, [.int 0, .int 0, .int 0, .int 0, .int 0, .int 0, .int 0, .ref a15, .ref a16, .ref a17, .int 0, .ref a18, .ref a19, .ref a20, .ref a21, .ref a22, .int 0, .ref a23]))] H := hP
  have hD : va_D A [(a0, .inr (9, [.ref a4, .int 0, .ref a3, .ref a5, .ref a1, .ref a6, .ref a7, .ref a8, .ref a9, .ref a10, .ref a11, .ref a12, .ref a2, .int 0, .ref a13, .long 1])), (a1, .inr (6, [.int 0, .int 0, .int 0, .ref a14])), (a2, .inl (cy 0, 11, .inl (upd (upd (fun _ => 0) 0 0) 1 0))), (a3, .inr (4, [.int 0, .int 0, .int 0, .int 0, .int 0, .int 0, .int 0, .ref a15, .ref a16, .ref a17, .int 0, .ref a18, .ref a19, .ref a20, .ref a21, .ref a22, .int 0, .ref a23]))] := hD
  refine lv_aload_n hx hb dX9_image_33 rfl (lv_at hl 0 rfl) ?_
  refine k_get C0 fg_X9_89 hP 0 rfl rfl dX9_image_34 ?_
  refine lv_iconst (v := 2) hx hb dX9_image_37 (by decide) ?_
  refine lv_aload_n hx hb dX9_image_38 rfl (lv_at hl 0 rfl) ?_
  refine k_get C0 fg_X9_30 hP 0 rfl rfl dX9_image_39 ?_
  refine k_get C0 fg_X9_157 hP 1 rfl rfl dX9_image_42 ?_
  refine va_iast hx hb C0.2.2.2.2.2.1 hP hD hS 2 0 rfl rfl (k_in 2 11 (by decide)) dX9_image_45 (fun H locs hP hD hS => ?_)
  have hP : va_P (dC, dI) vwCl [(a0, .inr (9, [.ref a4, .int 0, .ref a3, .ref a5, .ref a1, .ref a6, .ref a7, .ref a8, .ref a9, .ref a10, .ref a11, .ref a12, .ref a2, .int 0, .ref a13, .long 1])), (a1, .inr (6, [.int 0, .int 0, .int 0, .ref a14])), (a2, .inl (cy 0, 11, .inl (upd (upd (upd (fun _ => 0) 0 0) 1 0) 2 0))), (a3, .inr (4, [.int 0, .int 0, .int 0, .int 0, .int 0, .int 0, .int 0, .ref a15, .ref a16, .ref a17, .int 0, .ref a18, .ref a19, .ref a20, .ref a21, .ref a22, .int 0, .ref a23]))] H := hP
  have hD : va_D A [(a0, .inr (9, [.ref a4, .int 0, .ref a3, .ref a5, .ref a1, .ref a6, .ref a7, .ref a8, .ref a9, .ref a10, .ref a11, .ref a12, .ref a2, .int 0, .ref a13, .long 1])), (a1, .inr (6, [.int 0, .int 0, .int 0, .ref a14])), (a2, .inl (cy 0, 11, .inl (upd (upd (upd (fun _ => 0) 0 0) 1 0) 2 0))), (a3, .inr (4, [.int 0, .int 0, .int 0, .int 0, .int 0, .int 0, .int 0, .ref a15, .ref a16, .ref a17, .int 0, .ref a18, .ref a19, .ref a20, .ref a21, .ref a22, .int 0, .ref a23]))] := hD
  refine lv_aload_n hx hb dX9_image_46 rfl (lv_at hl 0 rfl) ?_
  refine k_get C0 fg_X9_89 hP 0 rfl rfl dX9_image_47 ?_
  refine lv_iconst (v := 3) hx hb dX9_image_50 (by decide) ?_
  refine lv_aload_n hx hb dX9_image_51 rfl (lv_at hl 0 rfl) ?_
  refine k_get C0 fg_X9_30 hP 0 rfl rfl dX9_image_52 ?_
  refine k_get C0 fg_X9_160 hP 1 rfl rfl dX9_image_55 ?_
  refine va_iast hx hb C0.2.2.2.2.2.1 hP hD hS 2 0 rfl rfl (k_in 3 11 (by decide)) dX9_image_58 (fun H locs hP hD hS => ?_)
  have hP : va_P (dC, dI) vwCl [(a0, .inr (9, [.ref a4, .int 0, .ref a3, .ref a5, .ref a1, .ref a6, .ref a7, .ref a8, .ref a9, .ref a10, .ref a11, .ref a12, .ref a2, .int 0, .ref a13, .long 1])), (a1, .inr (6, [.int 0, .int 0, .int 0, .ref a14])), (a2, .inl (cy 0, 11, .inl (upd (upd (upd (upd (fun _ => 0) 0 0) 1 0) 2 0) 3 0))), (a3, .inr (4, [.int 0, .int 0, .int 0, .int 0, .int 0, .int 0, .int 0, .ref a15, .ref a16, .ref a17, .int 0, .ref a18, .ref a19, .ref a20, .ref a21, .ref a22, .int 0, .ref a23]))] H := hP
  have hD : va_D A [(a0, .inr (9, [.ref a4, .int 0, .ref a3, .ref a5, .ref a1, .ref a6, .ref a7, .ref a8, .ref a9, .ref a10, .ref a11, .ref a12, .ref a2, .int 0, .ref a13, .long 1])), (a1, .inr (6, [.int 0, .int 0, .int 0, .ref a14])), (a2, .inl (cy 0, 11, .inl (upd (upd (upd (upd (fun _ => 0) 0 0) 1 0) 2 0) 3 0))), (a3, .inr (4, [.int 0, .int 0, .int 0, .int 0, .int 0, .int 0, .int 0, .ref a15, .ref a16, .ref a17, .int 0, .ref a18, .ref a19, .ref a20, .ref a21, .ref a22, .int 0, .ref a23]))] := hD
  refine lv_iconst (v := 0) hx hb dX9_image_59 (by decide) ?_
  refine lv_istore_n (lv' := [(1, .int 0), (0, .ref a0)]) hx hb dX9_image_60 rfl hl (by decide) rfl (fun ls hl => ?_)
  refine lv_iload_n hx hb dX9_image_61 rfl (lv_at hl 0 rfl) ?_
  refine lv_aload_n hx hb dX9_image_62 rfl (lv_at hl 1 rfl) ?_
  refine k_get C0 fg_X9_20 hP 0 rfl rfl dX9_image_63 ?_
  refine k_get C0 fg_X9_148 hP 3 rfl rfl dX9_image_66 ?_
  refine lv_icmp_ge (tgt := 95) hx hb dX9_image_69 (by decide) (fun _ => ?_) (fun h9 => absurd (by decide) h9)
  refine lv_iconst (v := 4) hx hb dX9_image_95 (by decide) ?_
  refine lv_aload_n hx hb dX9_image_96 rfl (lv_at hl 1 rfl) ?_
  refine k_get C0 fg_X9_20 hP 0 rfl rfl dX9_image_97 ?_
  refine k_get C0 fg_X9_148 hP 3 rfl rfl dX9_image_100 ?_
  refine lv_iadd hx hb dX9_image_103 ?_
  refine k_topi (y := 4) (by decide) ?_
  refine lv_istore_n (lv' := [(1, .int 4), (0, .ref a0)]) hx hb dX9_image_104 rfl hl (by decide) rfl (fun ls hl => ?_)
  refine lv_aload_n hx hb dX9_image_105 rfl (lv_at hl 1 rfl) ?_
  refine k_get C0 fg_X9_89 hP 0 rfl rfl dX9_image_106 ?_
  refine lv_iload_n hx hb dX9_image_109 rfl (lv_at hl 0 rfl) ?_
  refine lv_aload_n hx hb dX9_image_110 rfl (lv_at hl 1 rfl) ?_
  refine k_get C0 fg_X9_89 hP 0 rfl rfl dX9_image_111 ?_
  refine lv_iload_n hx hb dX9_image_114 rfl (lv_at hl 0 rfl) ?_
  refine k_ji hP hD hS hA [2] [0, 1, 3] (wr := [(a0, .inr (9, [.ref a4, .int 0, .ref a3, .ref a5, .ref a1, .ref a6, .ref a7, .ref a8, .ref a9, .ref a10, .ref a11, .ref a12, .ref a2, .int 0, .ref a13, .long 1])), (a1, .inr (6, [.int 0, .int 0, .int 0, .ref a14])), (a3, .inr (4, [.int 0, .int 0, .int 0, .int 0, .int 0, .int 0, .int 0, .ref a15, .ref a16, .ref a17, .int 0, .ref a18, .ref a19, .ref a20, .ref a21, .ref a22, .int 0, .ref a23]))]) rfl rfl (by decide) (by decide) (by decide) 0 0 (Nat.le_of_ble_eq_true rfl) (Nat.le_of_ble_eq_true rfl) (fun hPc hDc => k_runS (As := [.ref a2, .int 4]) (rest := [.int 4, .ref a2]) C0 (c_X9_check l dC dI cy sq a2) mS_X9_319 hPc hDc hl rfl rfl (Nat.le_of_ble_eq_true rfl) ⟨(Nat.le_of_ble_eq_true rfl), (Nat.le_of_ble_eq_true rfl)⟩ ⟨(Nat.le_of_ble_eq_true rfl), (Nat.le_of_ble_eq_true rfl)⟩ dX9_image_115) (fun r1384 u1385 H locs hw hP hD hS => ?_)
  have hP : va_P (dC, dI) vwCl [(a0, .inr (9, [.ref a4, .int 0, .ref a3, .ref a5, .ref a1, .ref a6, .ref a7, .ref a8, .ref a9, .ref a10, .ref a11, .ref a12, .ref a2, .int 0, .ref a13, .long 1])), (a1, .inr (6, [.int 0, .int 0, .int 0, .ref a14])), (a3, .inr (4, [.int 0, .int 0, .int 0, .int 0, .int 0, .int 0, .int 0, .ref a15, .ref a16, .ref a17, .int 0, .ref a18, .ref a19, .ref a20, .ref a21, .ref a22, .int 0, .ref a23])), (a2, .inl (cy 0, 11, .inl (upd (upd (upd (upd (fun _ => 0) 0 0) 1 0) 2 0) 3 0)))] H := hP
  have hD : va_D A [(a0, .inr (9, [.ref a4, .int 0, .ref a3, .ref a5, .ref a1, .ref a6, .ref a7, .ref a8, .ref a9, .ref a10, .ref a11, .ref a12, .ref a2, .int 0, .ref a13, .long 1])), (a1, .inr (6, [.int 0, .int 0, .int 0, .ref a14])), (a3, .inr (4, [.int 0, .int 0, .int 0, .int 0, .int 0, .int 0, .int 0, .ref a15, .ref a16, .ref a17, .int 0, .ref a18, .ref a19, .ref a20, .ref a21, .ref a22, .int 0, .ref a23])), (a2, .inl (cy 0, 11, .inl (upd (upd (upd (upd (fun _ => 0) 0 0) 1 0) 2 0) 3 0)))] := hD
  subst hw
  refine va_iast hx hb C0.2.2.2.2.2.1 hP hD hS 3 0 rfl rfl (k_in 4 11 (by decide)) dX9_image_118 (fun H locs hP hD hS => ?_)
  have hP : va_P (dC, dI) vwCl [(a0, .inr (9, [.ref a4, .int 0, .ref a3, .ref a5, .ref a1, .ref a6, .ref a7, .ref a8, .ref a9, .ref a10, .ref a11, .ref a12, .ref a2, .int 0, .ref a13, .long 1])), (a1, .inr (6, [.int 0, .int 0, .int 0, .ref a14])), (a3, .inr (4, [.int 0, .int 0, .int 0, .int 0, .int 0, .int 0, .int 0, .ref a15, .ref a16, .ref a17, .int 0, .ref a18, .ref a19, .ref a20, .ref a21, .ref a22, .int 0, .ref a23])), (a2, .inl (cy 0, 11, .inl (upd (upd (upd (upd (upd (fun _ => 0) 0 0) 1 0) 2 0) 3 0) 4 149)))] H := hP
  have hD : va_D A [(a0, .inr (9, [.ref a4, .int 0, .ref a3, .ref a5, .ref a1, .ref a6, .ref a7, .ref a8, .ref a9, .ref a10, .ref a11, .ref a12, .ref a2, .int 0, .ref a13, .long 1])), (a1, .inr (6, [.int 0, .int 0, .int 0, .ref a14])), (a3, .inr (4, [.int 0, .int 0, .int 0, .int 0, .int 0, .int 0, .int 0, .ref a15, .ref a16, .ref a17, .int 0, .ref a18, .ref a19, .ref a20, .ref a21, .ref a22, .int 0, .ref a23])), (a2, .inl (cy 0, 11, .inl (upd (upd (upd (upd (upd (fun _ => 0) 0 0) 1 0) 2 0) 3 0) 4 149)))] := hD
  refine lv_aload_n hx hb dX9_image_119 rfl (lv_at hl 1 rfl) ?_
  refine lv_iload_n hx hb dX9_image_120 rfl (lv_at hl 0 rfl) ?_
  refine lv_iconst (v := 1) hx hb dX9_image_121 (by decide) ?_
  refine lv_iadd hx hb dX9_image_122 ?_
  refine k_topi (y := 5) (by decide) ?_
  refine k_put C0 fp_X9_92 hP hD hS 0 rfl rfl rfl (Nat.le_of_ble_eq_true rfl) dX9_image_123 (fun H locs hP hD hS => ?_)
  have hP : va_P (dC, dI) vwCl [(a0, .inr (9, [.ref a4, .int 0, .ref a3, .ref a5, .ref a1, .ref a6, .ref a7, .ref a8, .ref a9, .ref a10, .ref a11, .ref a12, .ref a2, .int 5, .ref a13, .long 1])), (a1, .inr (6, [.int 0, .int 0, .int 0, .ref a14])), (a3, .inr (4, [.int 0, .int 0, .int 0, .int 0, .int 0, .int 0, .int 0, .ref a15, .ref a16, .ref a17, .int 0, .ref a18, .ref a19, .ref a20, .ref a21, .ref a22, .int 0, .ref a23])), (a2, .inl (cy 0, 11, .inl (upd (upd (upd (upd (upd (fun _ => 0) 0 0) 1 0) 2 0) 3 0) 4 149)))] H := hP
  have hD : va_D A [(a0, .inr (9, [.ref a4, .int 0, .ref a3, .ref a5, .ref a1, .ref a6, .ref a7, .ref a8, .ref a9, .ref a10, .ref a11, .ref a12, .ref a2, .int 5, .ref a13, .long 1])), (a1, .inr (6, [.int 0, .int 0, .int 0, .ref a14])), (a3, .inr (4, [.int 0, .int 0, .int 0, .int 0, .int 0, .int 0, .int 0, .ref a15, .ref a16, .ref a17, .int 0, .ref a18, .ref a19, .ref a20, .ref a21, .ref a22, .int 0, .ref a23])), (a2, .inl (cy 0, 11, .inl (upd (upd (upd (upd (upd (fun _ => 0) 0 0) 1 0) 2 0) 3 0) 4 149)))] := hD
  refine lv_aload_n hx hb dX9_image_126 rfl (lv_at hl 1 rfl) ?_
  refine k_get C0 fg_X9_92 hP 0 rfl rfl dX9_image_127 ?_
  exact k_iret hx hb hr hlk rfl () hS rfl (hP.sub [] rfl) (hD.sub [] (by decide) rfl) (Nat.le_of_ble_eq_true rfl) (Nat.le_of_ble_eq_true rfl) dX9_image_130
set_option maxHeartbeats 4000000 in
set_option maxRecDepth 100000 in
theorem c_X9_octet (l : Launch) (dC : Nat → ClassId) (dI : Nat → Nat → Nat) (cy : Nat → ClassId) (sq : Nat → Nat) (a0 : Nat) (a1 : Nat) (a2 : Nat) (a3 : Nat) (a4 : Nat) (a5 : Nat) (a6 : Nat) (a7 : Nat) (a8 : Nat) (a9 : Nat) (a10 : Nat) (a11 : Nat) (a12 : Nat) (a13 : Nat) (x0 : Int32) : k_Met l yX9_octet cX9_octet 2 (some .int) { frames := 0, cells := 0, slots := 0, locals := 0 } dC dI cy sq [.ref a0, .int x0] [(a0, .inr (9, [.ref a1, .int 0, .ref a2, .ref a3, .ref a4, .ref a5, .ref a6, .ref a7, .ref a8, .ref a9, .ref a10, .ref a11, .ref a12, .int 0, .ref a13, .long 1]))] (k_Qi dC dI (fun (r : Int32) (_ : Unit) => r = (-1)) (fun _ : Unit => [])) := by
  refine k_ofW (by decide +kernel) (Nat.le_of_ble_eq_true rfl) ?_
  intro p e s m below meth c A ls H locs C0 hr hlk hin hP hD hA hS hl
  have C0 : k_cx p s m _ c cX9_octet 2 RX9 dC dI cy sq := C0
  have hx := C0.1
  have hb := C0.2.1
  have hl : lv_has ls 2 [(0, .ref a0), (1, .int x0)] := hl
  refine lv_iload_n hx hb dX9_octet_0 rfl (lv_at hl 1 rfl) ?_
  refine lv_if_lt (tgt := 21) hx hb dX9_octet_1 (by decide) (fun c1388 => ?_) (fun c1388 => ?_)
  · refine lv_iconst (v := (-1)) hx hb dX9_octet_21 (by decide) ?_
    exact k_iret hx hb hr hlk rfl () hS rfl (hP.sub [] rfl) (hD.sub [] (by decide) rfl) (Nat.le_of_ble_eq_true rfl) (Nat.le_of_ble_eq_true rfl) dX9_octet_22
  · refine lv_iload_n hx hb dX9_octet_4 rfl (lv_at hl 1 rfl) ?_
    refine lv_aload_n hx hb dX9_octet_5 rfl (lv_at hl 0 rfl) ?_
    refine k_get C0 fg_X9_92 hP 0 rfl rfl dX9_octet_6 ?_
    refine lv_icmp_ge (tgt := 21) hx hb dX9_octet_9 (by decide) (fun c1389 => ?_) (fun c1389 => ?_)
    · refine lv_iconst (v := (-1)) hx hb dX9_octet_21 (by decide) ?_
      exact k_iret hx hb hr hlk rfl () hS rfl (hP.sub [] rfl) (hD.sub [] (by decide) rfl) (Nat.le_of_ble_eq_true rfl) (Nat.le_of_ble_eq_true rfl) dX9_octet_22
    · exact False.elim (by simp only [Int32.lt_iff_toInt_lt, Int32.le_iff_toInt_le, ← Int32.toInt_inj, kl0, kl1, kl2, kl3, kl4, kl5, kl6, kl7, kl60, klm1] at c1388 c1389 <;> omega)
set_option maxHeartbeats 4000000 in
set_option maxRecDepth 100000 in
theorem c_X9_isImage (l : Launch) (dC : Nat → ClassId) (dI : Nat → Nat → Nat) (cy : Nat → ClassId) (sq : Nat → Nat) (a0 : Nat) (a1 : Nat) (a2 : Nat) (a3 : Nat) (a4 : Nat) (a5 : Nat) (a6 : Nat) (a7 : Nat) (a8 : Nat) (a9 : Nat) (a10 : Nat) (a11 : Nat) (a12 : Nat) (a13 : Nat) (a14 : Nat) (a15 : Nat) (a16 : Nat) (a17 : Nat) (a18 : Nat) (a19 : Nat) (a20 : Nat) (a21 : Nat) (a22 : Nat) : k_Met l yX9_isImage cX9_isImage 3 (some .boolean) { frames := 1, cells := 0, slots := 0, locals := 20 } dC dI cy sq [.ref a0, .int 0] [(a0, .inr (9, [.ref a2, .int 0, .ref a1, .ref a3, .ref a4, .ref a5, .ref a6, .ref a7, .ref a8, .ref a9, .ref a10, .ref a11, .ref a12, .int 0, .ref a13, .long 1])), (a1, .inr (4, [.int 0, .int 0, .int 0, .int 0, .int 0, .int 0, .int 0, .ref a14, .ref a15, .ref a16, .int 0, .ref a17, .ref a18, .ref a19, .ref a20, .ref a21, .int 0, .ref a22]))] (k_Qi dC dI (fun (r : Int32) (_ : Unit) => r = 0) (fun _ : Unit => [(a0, .inr (9, [.ref a2, .int 0, .ref a1, .ref a3, .ref a4, .ref a5, .ref a6, .ref a7, .ref a8, .ref a9, .ref a10, .ref a11, .ref a12, .int 0, .ref a13, .long 1])), (a1, .inr (4, [.int 0, .int 0, .int 0, .int 0, .int 0, .int 0, .int 0, .ref a14, .ref a15, .ref a16, .int 0, .ref a17, .ref a18, .ref a19, .ref a20, .ref a21, .int 0, .ref a22]))])) := by
  refine k_ofW (by decide +kernel) (Nat.le_of_ble_eq_true rfl) ?_
  intro p e s m below meth c A ls H locs C0 hr hlk hin hP hD hA hS hl
  have C0 : k_cx p s m _ c cX9_isImage 3 RX9 dC dI cy sq := C0
  have hx := C0.1
  have hb := C0.2.1
  have hl : lv_has ls 3 [(0, .ref a0), (1, .int 0)] := hl
  refine lv_aload_n hx hb dX9_isImage_0 rfl (lv_at hl 0 rfl) ?_
  refine k_ji hP hD hS hA [0, 1] [] (wr := []) rfl rfl (by decide) (by decide) (by decide) 0 0 (Nat.le_of_ble_eq_true rfl) (Nat.le_of_ble_eq_true rfl) (fun hPc hDc => k_runV (As := []) (rest := []) C0 (c_X9_stands l dC dI cy sq a0 a1 a2 a3 a4 a5 a6 a7 a8 a9 a10 a11 a12 a13 a14 a15 a16 a17 a18 a19 a20 a21 a22) mV_X9_218 hPc hDc rfl rfl rfl hl rfl rfl (Nat.le_of_ble_eq_true rfl) ⟨(Nat.le_of_ble_eq_true rfl), (Nat.le_of_ble_eq_true rfl)⟩ ⟨(Nat.le_of_ble_eq_true rfl), (Nat.le_of_ble_eq_true rfl)⟩ dX9_isImage_1) (fun r1394 u1395 H locs hw hP hD hS => ?_)
  have hP : va_P (dC, dI) vwCl [(a0, .inr (9, [.ref a2, .int 0, .ref a1, .ref a3, .ref a4, .ref a5, .ref a6, .ref a7, .ref a8, .ref a9, .ref a10, .ref a11, .ref a12, .int 0, .ref a13, .long 1])), (a1, .inr (4, [.int 0, .int 0, .int 0, .int 0, .int 0, .int 0, .int 0, .ref a14, .ref a15, .ref a16, .int 0, .ref a17, .ref a18, .ref a19, .ref a20, .ref a21, .int 0, .ref a22]))] H := hP
  have hD : va_D A [(a0, .inr (9, [.ref a2, .int 0, .ref a1, .ref a3, .ref a4, .ref a5, .ref a6, .ref a7, .ref a8, .ref a9, .ref a10, .ref a11, .ref a12, .int 0, .ref a13, .long 1])), (a1, .inr (4, [.int 0, .int 0, .int 0, .int 0, .int 0, .int 0, .int 0, .ref a14, .ref a15, .ref a16, .int 0, .ref a17, .ref a18, .ref a19, .ref a20, .ref a21, .int 0, .ref a22]))] := hD
  subst hw
  refine lv_if_eq (tgt := 20) hx hb dX9_isImage_4 (by decide) (fun _ => ?_) (fun h9 => absurd (by decide) h9)
  refine lv_iconst (v := 0) hx hb dX9_isImage_20 (by decide) ?_
  exact k_iret hx hb hr hlk (k_nb 0 (by decide)) () hS rfl hP hD (Nat.le_of_ble_eq_true rfl) (Nat.le_of_ble_eq_true rfl) dX9_isImage_21
set_option maxHeartbeats 4000000 in
set_option maxRecDepth 100000 in
theorem c_X9_on (l : Launch) (dC : Nat → ClassId) (dI : Nat → Nat → Nat) (cy : Nat → ClassId) (sq : Nat → Nat) (a0 : Nat) (a1 : Nat) (a2 : Nat) (a3 : Nat) (a4 : Nat) (a5 : Nat) (a6 : Nat) (a7 : Nat) (a8 : Nat) (a9 : Nat) (a10 : Nat) (a11 : Nat) (a12 : Nat) (a13 : Nat) (a14 : Nat) (a15 : Nat) (a16 : Nat) (a17 : Nat) (a18 : Nat) (a19 : Nat) (a20 : Nat) (a21 : Nat) (a22 : Nat) : k_Met l yX9_on cX9_on 2 (some .boolean) { frames := 2, cells := 0, slots := 0, locals := 42 } dC dI cy sq [.ref a0] [(a0, .inr (9, [.ref a3, .int 0, .ref a1, .ref a4, .ref a5, .ref a6, .ref a7, .ref a8, .ref a9, .ref a10, .ref a11, .ref a12, .ref a13, .int 0, .ref a2, .long 1])), (a1, .inr (4, [.int 0, .int 0, .int 0, .int 0, .int 0, .int 0, .int 0, .ref a14, .ref a15, .ref a16, .int 0, .ref a17, .ref a18, .ref a19, .ref a20, .ref a21, .int 0, .ref a22])), (a2, .inl (cy 0, 6, .inl (fun _ => 0)))] (k_Qi dC dI (fun (r : Int32) (_ : Unit) => r = 0) (fun _ : Unit => [])) := by
  refine k_ofW (by decide +kernel) (Nat.le_of_ble_eq_true rfl) ?_
  intro p e s m below meth c A ls H locs C0 hr hlk hin hP hD hA hS hl
  have C0 : k_cx p s m _ c cX9_on 2 RX9 dC dI cy sq := C0
  have hx := C0.1
  have hb := C0.2.1
  have hl : lv_has ls 2 [(0, .ref a0)] := hl
  refine lv_aload_n hx hb dX9_on_0 rfl (lv_at hl 0 rfl) ?_
  refine k_ji hP hD hS hA [0] [1, 2] (wr := [(a1, .inr (4, [.int 0, .int 0, .int 0, .int 0, .int 0, .int 0, .int 0, .ref a14, .ref a15, .ref a16, .int 0, .ref a17, .ref a18, .ref a19, .ref a20, .ref a21, .int 0, .ref a22])), (a2, .inl (cy 0, 6, .inl (fun _ => 0)))]) rfl rfl (by decide) (by decide) (by decide) 0 0 (Nat.le_of_ble_eq_true rfl) (Nat.le_of_ble_eq_true rfl) (fun hPc hDc => k_runV (As := []) (rest := []) C0 (c_X9_takeTape l dC dI cy sq a0 a3 a1 a4 a5 a6 a7 a8 a9 a10 a11 a12 a13 a2) mV_X9_114 hPc hDc rfl rfl rfl hl rfl rfl (Nat.le_of_ble_eq_true rfl) ⟨(Nat.le_of_ble_eq_true rfl), (Nat.le_of_ble_eq_true rfl)⟩ ⟨(Nat.le_of_ble_eq_true rfl), (Nat.le_of_ble_eq_true rfl)⟩ dX9_on_1) (fun r1400 u1401 H locs hw hP hD hS => ?_)
  have hP : va_P (dC, dI) vwCl [(a1, .inr (4, [.int 0, .int 0, .int 0, .int 0, .int 0, .int 0, .int 0, .ref a14, .ref a15, .ref a16, .int 0, .ref a17, .ref a18, .ref a19, .ref a20, .ref a21, .int 0, .ref a22])), (a2, .inl (cy 0, 6, .inl (fun _ => 0))), (a0, .inr (9, [.ref a3, .int 0, .ref a1, .ref a4, .ref a5, .ref a6, .ref a7, .ref a8, .ref a9, .ref a10, .ref a11, .ref a12, .ref a13, .int 0, .ref a2, .long 1]))] H := hP
  have hD : va_D A [(a1, .inr (4, [.int 0, .int 0, .int 0, .int 0, .int 0, .int 0, .int 0, .ref a14, .ref a15, .ref a16, .int 0, .ref a17, .ref a18, .ref a19, .ref a20, .ref a21, .int 0, .ref a22])), (a2, .inl (cy 0, 6, .inl (fun _ => 0))), (a0, .inr (9, [.ref a3, .int 0, .ref a1, .ref a4, .ref a5, .ref a6, .ref a7, .ref a8, .ref a9, .ref a10, .ref a11, .ref a12, .ref a13, .int 0, .ref a2, .long 1]))] := hD
  subst hw
  refine lv_istore_n (lv' := [(1, .int 0), (0, .ref a0)]) hx hb dX9_on_4 rfl hl (by decide) rfl (fun ls hl => ?_)
  refine lv_aload_n hx hb dX9_on_5 rfl (lv_at hl 1 rfl) ?_
  refine lv_iload_n hx hb dX9_on_6 rfl (lv_at hl 0 rfl) ?_
  refine k_ji hP hD hS hA [2, 0] [1] (wr := [(a2, .inl (cy 0, 6, .inl (fun _ => 0)))]) rfl rfl (by decide) (by decide) (by decide) 0 0 (Nat.le_of_ble_eq_true rfl) (Nat.le_of_ble_eq_true rfl) (fun hPc hDc => k_runV (As := [.int 0]) (rest := []) C0 (c_X9_isImage l dC dI cy sq a0 a1 a3 a4 a5 a6 a7 a8 a9 a10 a11 a12 a13 a2 a14 a15 a16 a17 a18 a19 a20 a21 a22) mV_X9_322 hPc hDc rfl rfl rfl hl rfl rfl (Nat.le_of_ble_eq_true rfl) ⟨(Nat.le_of_ble_eq_true rfl), (Nat.le_of_ble_eq_true rfl)⟩ ⟨(Nat.le_of_ble_eq_true rfl), (Nat.le_of_ble_eq_true rfl)⟩ dX9_on_7) (fun r1404 u1405 H locs hw hP hD hS => ?_)
  have hP : va_P (dC, dI) vwCl [(a2, .inl (cy 0, 6, .inl (fun _ => 0))), (a0, .inr (9, [.ref a3, .int 0, .ref a1, .ref a4, .ref a5, .ref a6, .ref a7, .ref a8, .ref a9, .ref a10, .ref a11, .ref a12, .ref a13, .int 0, .ref a2, .long 1])), (a1, .inr (4, [.int 0, .int 0, .int 0, .int 0, .int 0, .int 0, .int 0, .ref a14, .ref a15, .ref a16, .int 0, .ref a17, .ref a18, .ref a19, .ref a20, .ref a21, .int 0, .ref a22]))] H := hP
  have hD : va_D A [(a2, .inl (cy 0, 6, .inl (fun _ => 0))), (a0, .inr (9, [.ref a3, .int 0, .ref a1, .ref a4, .ref a5, .ref a6, .ref a7, .ref a8, .ref a9, .ref a10, .ref a11, .ref a12, .ref a13, .int 0, .ref a2, .long 1])), (a1, .inr (4, [.int 0, .int 0, .int 0, .int 0, .int 0, .int 0, .int 0, .ref a14, .ref a15, .ref a16, .int 0, .ref a17, .ref a18, .ref a19, .ref a20, .ref a21, .int 0, .ref a22]))] := hD
  subst hw
  refine lv_if_ne (tgt := 19) hx hb dX9_on_10 (by decide) (fun h9 => absurd (by decide) h9) (fun _ => ?_)
  refine lv_aload_n hx hb dX9_on_13 rfl (lv_at hl 1 rfl) ?_
  refine lv_iconst (v := 5) hx hb dX9_on_14 (by decide) ?_
  refine k_ji hP hD hS hA [1, 0] [2] (wr := [(a1, .inr (4, [.int 0, .int 0, .int 0, .int 0, .int 0, .int 0, .int 0, .ref a14, .ref a15, .ref a16, .int 0, .ref a17, .ref a18, .ref a19, .ref a20, .ref a21, .int 0, .ref a22]))]) rfl rfl (by decide) (by decide) (by decide) 0 0 (Nat.le_of_ble_eq_true rfl) (Nat.le_of_ble_eq_true rfl) (fun hPc hDc => k_runV (As := [.int 5]) (rest := []) C0 (c_X9_deny_3 l dC dI cy sq a0 a2 a3 a1 a4 a5 a6 a7 a8 a9 a10 a11 a12 a13) mV_X9_110 hPc hDc rfl rfl rfl hl rfl rfl (Nat.le_of_ble_eq_true rfl) ⟨(Nat.le_of_ble_eq_true rfl), (Nat.le_of_ble_eq_true rfl)⟩ ⟨(Nat.le_of_ble_eq_true rfl), (Nat.le_of_ble_eq_true rfl)⟩ dX9_on_15) (fun r1406 u1407 H locs hw hP hD hS => ?_)
  have hP : va_P (dC, dI) vwCl [(a1, .inr (4, [.int 0, .int 0, .int 0, .int 0, .int 0, .int 0, .int 0, .ref a14, .ref a15, .ref a16, .int 0, .ref a17, .ref a18, .ref a19, .ref a20, .ref a21, .int 0, .ref a22])), (a0, .inr (9, [.ref a3, .int 0, .ref a1, .ref a4, .ref a5, .ref a6, .ref a7, .ref a8, .ref a9, .ref a10, .ref a11, .ref a12, .ref a13, .int 0, .ref a2, .long 1])), (a2, .inl (cy 0, 6, .inl (upd (fun _ => 0) 5 1)))] H := hP
  have hD : va_D A [(a1, .inr (4, [.int 0, .int 0, .int 0, .int 0, .int 0, .int 0, .int 0, .ref a14, .ref a15, .ref a16, .int 0, .ref a17, .ref a18, .ref a19, .ref a20, .ref a21, .int 0, .ref a22])), (a0, .inr (9, [.ref a3, .int 0, .ref a1, .ref a4, .ref a5, .ref a6, .ref a7, .ref a8, .ref a9, .ref a10, .ref a11, .ref a12, .ref a13, .int 0, .ref a2, .long 1])), (a2, .inl (cy 0, 6, .inl (upd (fun _ => 0) 5 1)))] := hD
  subst hw
  exact k_iret hx hb hr hlk (k_nb 0 (by decide)) () hS rfl (hP.sub [] rfl) (hD.sub [] (by decide) rfl) (Nat.le_of_ble_eq_true rfl) (Nat.le_of_ble_eq_true rfl) dX9_on_18
set_option maxHeartbeats 4000000 in
set_option maxRecDepth 100000 in
theorem c_X9_status (l : Launch) (dC : Nat → ClassId) (dI : Nat → Nat → Nat) (cy : Nat → ClassId) (sq : Nat → Nat) (a0 : Nat) (a1 : Nat) (a2 : Nat) (a3 : Nat) (a4 : Nat) (a5 : Nat) (a6 : Nat) (a7 : Nat) (a8 : Nat) (a9 : Nat) (a10 : Nat) (a11 : Nat) (a12 : Nat) (a13 : Nat) (x0 : Int32) : k_Met l yX9_status cX9_status 2 (some .int) { frames := 0, cells := 0, slots := 0, locals := 0 } dC dI cy sq [.ref a0, .int x0] [(a0, .inr (9, [.ref a2, .int 0, .ref a3, .ref a4, .ref a5, .ref a6, .ref a7, .ref a8, .ref a9, .ref a10, .ref a11, .ref a12, .ref a13, .int 0, .ref a1, .long 1])), (a1, .inl (cy 0, 6, .inl (fun _ => 0)))] (k_Qi dC dI (fun (r : Int32) (_ : Unit) => r = s_status x0) (fun _ : Unit => [])) := by
  refine k_ofW (by decide +kernel) (Nat.le_of_ble_eq_true rfl) ?_
  intro p e s m below meth c A ls H locs C0 hr hlk hin hP hD hA hS hl
  have C0 : k_cx p s m _ c cX9_status 2 RX9 dC dI cy sq := C0
  have hx := C0.1
  have hb := C0.2.1
  have hl : lv_has ls 2 [(0, .ref a0), (1, .int x0)] := hl
  refine lv_iload_n hx hb dX9_status_0 rfl (lv_at hl 1 rfl) ?_
  refine lv_if_lt (tgt := 19) hx hb dX9_status_1 (by decide) (fun c1410 => ?_) (fun c1410 => ?_)
  · refine lv_iconst (v := (-1)) hx hb dX9_status_19 (by decide) ?_
    exact k_iret hx hb hr hlk rfl () hS (if_neg (by simp only [Int32.lt_iff_toInt_lt, Int32.le_iff_toInt_le, ← Int32.toInt_inj, kl0, kl1, kl2, kl3, kl4, kl5, kl6, kl7, kl60, klm1, kl5L] at c1410 ⊢ <;> omega)).symm (hP.sub [] rfl) (hD.sub [] (by decide) rfl) (Nat.le_of_ble_eq_true rfl) (Nat.le_of_ble_eq_true rfl) dX9_status_20
  · refine lv_iload_n hx hb dX9_status_4 rfl (lv_at hl 1 rfl) ?_
    refine lv_bipush (v := 6) hx hb dX9_status_5 (by decide) ?_
    refine lv_icmp_ge (tgt := 19) hx hb dX9_status_7 (by decide) (fun c1411 => ?_) (fun c1411 => ?_)
    · refine lv_iconst (v := (-1)) hx hb dX9_status_19 (by decide) ?_
      exact k_iret hx hb hr hlk rfl () hS (if_neg (by simp only [Int32.lt_iff_toInt_lt, Int32.le_iff_toInt_le, ← Int32.toInt_inj, kl0, kl1, kl2, kl3, kl4, kl5, kl6, kl7, kl60, klm1, kl5L] at c1410 c1411 ⊢ <;> omega)).symm (hP.sub [] rfl) (hD.sub [] (by decide) rfl) (Nat.le_of_ble_eq_true rfl) (Nat.le_of_ble_eq_true rfl) dX9_status_20
    · refine lv_aload_n hx hb dX9_status_10 rfl (lv_at hl 0 rfl) ?_
      refine k_get C0 fg_X9_95 hP 0 rfl rfl dX9_status_11 ?_
      refine lv_iload_n hx hb dX9_status_14 rfl (lv_at hl 1 rfl) ?_
      refine va_iald hx hb C0.2.2.2.2.2.1 hP 1 0 rfl rfl (vp_in_iff.mpr (by simp only [Int32.lt_iff_toInt_lt, Int32.le_iff_toInt_le, kl0, kl1, kl2, kl3, kl4, kl5, kl6, kl7, kl60, klm1] at c1410 c1411; omega)) dX9_status_15 ?_
      refine k_topi (y := 0) rfl ?_
      refine lv_goto (tgt := 20) hx hb dX9_status_16 (by decide) ?_
      exact k_iret hx hb hr hlk rfl () hS (if_pos (by simp only [Int32.lt_iff_toInt_lt, Int32.le_iff_toInt_le, ← Int32.toInt_inj, kl0, kl1, kl2, kl3, kl4, kl5, kl6, kl7, kl60, klm1, kl5L] at c1410 c1411 ⊢ <;> omega)).symm (hP.sub [] rfl) (hD.sub [] (by decide) rfl) (Nat.le_of_ble_eq_true rfl) (Nat.le_of_ble_eq_true rfl) dX9_status_20
