/-! Math.floorDiv, exactly -/
set_option maxHeartbeats 4000000 in
set_option maxRecDepth 100000 in
theorem c_floorDivx (l : Launch) (dC : Nat → ClassId) (dI : Nat → Nat → Nat) (cy : Nat → ClassId) (sq : Nat → Nat) (x y : Int32) (hy : ¬ y = 0) : k_Met l yJ9_floorDiv_7cf53 cJ9_floorDiv_7cf53 3 (some .int) { frames := 0, cells := 0, slots := 0, locals := 0 } dC dI cy sq [.int x, .int y] [] (k_Qi dC dI (fun (r : Int32) (_ : Unit) => r = lf_fdv x y) (fun _ => [])) := by
  refine k_ofWF (by decide +kernel) (Nat.le_of_ble_eq_true rfl) ?_
  intro p e s m below meth c A ls H locs C0 hZ hr hlk hin hP hD hA hS hl
  have C0 : k_cx p s m _ c cJ9_floorDiv_7cf53 3 RJ9 dC dI cy sq := C0
  have hx := C0.1
  have hb := C0.2.1
  have hl : lv_has ls 3 [(0, .int x), (1, .int y)] := hl
  refine lv_iload_n hx hb dJ9_floorDiv_7cf53_0 rfl (lv_at hl 0 rfl) ?_
  refine lv_iload_n hx hb dJ9_floorDiv_7cf53_1 rfl (lv_at hl 1 rfl) ?_
  refine lv_idiv hx hb dJ9_floorDiv_7cf53_2 hy ?_
  refine lv_topi (fun z ez => ?_)
  refine lv_istore_n (lv' := [(2, .int z), (0, .int x), (1, .int y)]) hx hb dJ9_floorDiv_7cf53_3 rfl hl (by decide) rfl (fun ls hl => ?_)
  have fin : z = lf_fdv x y → ∀ (ls : Array Slot), lv_has ls 3 [(2, .int z), (0, .int x), (1, .int y)] → W p l e { frames := 0, cells := 0, slots := 0, locals := 0 } s m ([.int x, .int y] : List Value).toArray below meth c H locs 0 0 (MQ below (k_Qi dC dI (fun (r : Int32) (_ : Unit) => r = lf_fdv x y) (fun _ => []) A) ([.int x, .int y] : List Value).toArray s 0 0 A) (F0 m 21 ls []) := by
    intro hres ls hl
    refine lv_iload_n hx hb dJ9_floorDiv_7cf53_21 rfl (lv_at hl 0 rfl) ?_
    exact k_iret hx hb hr hlk rfl () hS hres hP hD (Nat.le_refl _) (Nat.le_refl _) dJ9_floorDiv_7cf53_22
  refine lv_iload_n hx hb dJ9_floorDiv_7cf53_4 rfl (lv_at hl 1 rfl) ?_
  refine lv_iload_n hx hb dJ9_floorDiv_7cf53_5 rfl (lv_at hl 2 rfl) ?_
  refine lv_ixor hx hb dJ9_floorDiv_7cf53_6 ?_
  refine lv_if_ge (tgt := 21) hx hb dJ9_floorDiv_7cf53_7 (by decide) (fun h => fin (by rw [ez]; exact (if_pos h).symm) ls hl) (fun hge => ?_)
  refine lv_iload_n hx hb dJ9_floorDiv_7cf53_10 rfl (lv_at hl 0 rfl) ?_
  refine lv_iload_n hx hb dJ9_floorDiv_7cf53_11 rfl (lv_at hl 2 rfl) ?_
  refine lv_imul hx hb dJ9_floorDiv_7cf53_12 ?_
  refine lv_iload_n hx hb dJ9_floorDiv_7cf53_13 rfl (lv_at hl 1 rfl) ?_
  refine lv_icmp_eq (tgt := 21) hx hb dJ9_floorDiv_7cf53_14 (by decide) (fun h => fin (by rw [ez] at h; rw [ez]; exact ((if_neg hge).trans (if_pos h)).symm) ls hl) (fun hne => ?_)
  refine lv_iload_n hx hb dJ9_floorDiv_7cf53_17 rfl (lv_at hl 0 rfl) ?_
  refine lv_iconst (v := 1) hx hb dJ9_floorDiv_7cf53_18 (by decide) ?_
  refine lv_isub hx hb dJ9_floorDiv_7cf53_19 ?_
  exact k_iret hx hb hr hlk rfl () hS (by rw [ez] at hne; rw [ez]; exact ((if_neg hge).trans (if_neg hne)).symm) hP hD (Nat.le_of_ble_eq_true rfl) (Nat.le_of_ble_eq_true rfl) dJ9_floorDiv_7cf53_20
