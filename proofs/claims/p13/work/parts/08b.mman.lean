section
/-! mman -/
/-- the model's fields: its rows lie at r j -/
def mfs (r : Nat → Nat) (x_taped : Int32) (x_at : Int32) (x_end : Int32) (x_ended : Int32) (x_bad : Int32) (x_badPlace : Int32) (x_fault : Int32) (x_faultPlace : Int32) (x_namePlace : Int32) (x_awayTold : Int32) (x_away : Int32) (x_coded : Int32) (x_statements : Int32) (x_isCrossing : Int32) (x_textKind : Int32) (x_askSecond : Int32) (x_redMany : Int32) (x_isOpen : Int32) (x_lastGreen : Int32) (x_greenTo : Int32) (x_isCycleGreen : Int32) (x_stillGreen : Int32) (x_rowMany : Int32) (x_fitMany : Int32) (x_fitRules : Int32) (x_fitGreen : Int32) (x_undoable : Int32) (x_newest : Int32) (x_seeded : Int64) (x_qCoded : Int32) (x_qWaits : Int32) (x_qOpened : Int32) (x_qBase : Int32) (x_qPiled : Int32) (x_qAnswer : Int64) (x_qIsNew : Int32) (x_octets : Int32) : List Value := .ref (r 0) :: .int x_taped :: .int x_at :: .int x_end :: .int x_ended :: .int x_bad :: .int x_badPlace :: .int x_fault :: .int x_faultPlace :: .ref (r 9) :: .ref (r 10) :: .ref (r 11) :: .ref (r 12) :: .ref (r 13) :: .ref (r 14) :: .ref (r 15) :: .ref (r 16) :: .ref (r 17) :: .ref (r 18) :: .ref (r 19) :: .ref (r 20) :: .ref (r 21) :: .ref (r 22) :: .ref (r 23) :: .ref (r 24) :: .ref (r 25) :: .ref (r 26) :: .ref (r 27) :: .ref (r 28) :: .ref (r 29) :: .ref (r 30) :: .ref (r 31) :: .ref (r 32) :: .ref (r 33) :: .ref (r 34) :: .ref (r 35) :: .ref (r 36) :: .ref (r 37) :: .ref (r 38) :: .ref (r 39) :: .int x_namePlace :: .ref (r 41) :: .ref (r 42) :: .ref (r 43) :: .ref (r 44) :: .ref (r 45) :: .ref (r 46) :: .int x_awayTold :: .int x_away :: .ref (r 49) :: .ref (r 50) :: .ref (r 51) :: .int x_coded :: .int x_statements :: .int x_isCrossing :: .int x_textKind :: .ref (r 56) :: .ref (r 57) :: .int x_askSecond :: .int x_redMany :: .ref (r 60) :: .ref (r 61) :: .ref (r 62) :: .ref (r 63) :: .ref (r 64) :: .ref (r 65) :: .ref (r 66) :: .ref (r 67) :: .ref (r 68) :: .ref (r 69) :: .int x_isOpen :: .int x_lastGreen :: .int x_greenTo :: .int x_isCycleGreen :: .int x_stillGreen :: .int x_rowMany :: .ref (r 76) :: .ref (r 77) :: .int x_fitMany :: .int x_fitRules :: .int x_fitGreen :: .ref (r 81) :: .int x_undoable :: .int x_newest :: .long x_seeded :: .ref (r 85) :: .ref (r 86) :: .ref (r 87) :: .ref (r 88) :: .ref (r 89) :: .ref (r 90) :: .ref (r 91) :: .ref (r 92) :: .ref (r 93) :: .ref (r 94) :: .ref (r 95) :: .ref (r 96) :: .ref (r 97) :: .ref (r 98) :: .ref (r 99) :: .ref (r 100) :: .ref (r 101) :: .ref (r 102) :: .ref (r 103) :: .ref (r 104) :: .ref (r 105) :: .ref (r 106) :: .ref (r 107) :: .ref (r 108) :: .ref (r 109) :: .ref (r 110) :: .int x_qCoded :: .ref (r 112) :: .int x_qWaits :: .int x_qOpened :: .int x_qBase :: .ref (r 116) :: .int x_qPiled :: .long x_qAnswer :: .int x_qIsNew :: .ref (r 120) :: .int x_octets :: []
/-- isIn -/
def k_isf (v a b : Int64) : Int32 := if a ≤ v ∧ v ≤ b then 1 else 0
theorem k_isf_a {v a b : Int64} (h : lg_cmp v a < 0) : 0 = k_isf v a b := by
  have h1 := (lg_cmp_lt v a).mp h
  refine (if_neg (fun h2 => ?_)).symm
  rw [Int64.lt_iff_toInt_lt] at h1
  have h3 := h2.1
  rw [Int64.le_iff_toInt_le] at h3
  omega
theorem k_isf_b {v a b : Int64} (h : 0 < lg_cmp v b) : 0 = k_isf v a b := by
  have h1 := (lg_cmp_gt v b).mp h
  refine (if_neg (fun h2 => ?_)).symm
  rw [Int64.lt_iff_toInt_lt] at h1
  have h3 := h2.2
  rw [Int64.le_iff_toInt_le] at h3
  omega
theorem k_isf_c {v a b : Int64} (h : ¬ lg_cmp v a < 0) (h2 : ¬ 0 < lg_cmp v b) : 1 = k_isf v a b := by
  rw [lg_cmp_lt, Int64.lt_iff_toInt_lt] at h
  rw [lg_cmp_gt, Int64.lt_iff_toInt_lt] at h2
  refine (if_pos ⟨?_, ?_⟩).symm
  · rw [Int64.le_iff_toInt_le]; omega
  · rw [Int64.le_iff_toInt_le]; omega
set_option maxHeartbeats 4000000 in
set_option maxRecDepth 100000 in
theorem c_isIn (l : Launch) (dC : Nat → ClassId) (dI : Nat → Nat → Nat) (cy : Nat → ClassId) (sq : Nat → Nat) (v a b : Int64) : k_Met l yX10_isIn cX10_isIn 6 (some .boolean) { frames := 0, cells := 0, slots := 0, locals := 0 } dC dI cy sq [.long v, .long a, .long b] [] (k_Qi dC dI (fun (r : Int32) (_ : Unit) => r = k_isf v a b) (fun _ => [])) := by
  refine k_ofW (by decide +kernel) (Nat.le_of_ble_eq_true rfl) ?_
  intro p e s m below meth c A ls H locs C0 hZ hr hlk hin hP hD hA hS hl
  have C0 : k_cx p s m _ c cX10_isIn 6 RX10 dC dI cy sq := C0
  have hx := C0.1
  have hb := C0.2.1
  have hl : lv_has ls 6 [(0, .long v), (2, .long a), (4, .long b)] := hl
  refine lv_lload_n hx hb dk_dX10_isIn_0.1 rfl (lv_at hl 0 rfl) ?_
  refine lv_lload_n hx hb dk_dX10_isIn_0.2.1 rfl (lv_at hl 1 rfl) ?_
  refine W.lcmp hx hb dk_dX10_isIn_0.2.2.1 ?_
  refine lv_if_lt (tgt := 17) hx hb dk_dX10_isIn_0.2.2.2.1 (by decide) (fun h1 => ?_) (fun h1 => ?_)
  · refine lv_iconst (v := 0) hx hb dk_dX10_isIn_0_8.2.2.1 (by decide) ?_
    exact k_iret hx hb hr hlk (k_nb 0 (by decide)) () hS (k_isf_a h1) hP hD (Nat.le_of_ble_eq_true rfl) (Nat.le_of_ble_eq_true rfl) dk_dX10_isIn_0_8.2.2.2.1
  · refine lv_lload_n hx hb dk_dX10_isIn_0.2.2.2.2.1 rfl (lv_at hl 0 rfl) ?_
    refine lv_lload hx hb dk_dX10_isIn_0.2.2.2.2.2.1 (lv_at hl 2 rfl) ?_
    refine W.lcmp hx hb dk_dX10_isIn_0.2.2.2.2.2.2.1 ?_
    refine lv_if_gt (tgt := 17) hx hb dk_dX10_isIn_0.2.2.2.2.2.2.2.1 (by decide) (fun h2 => ?_) (fun h2 => ?_)
    · refine lv_iconst (v := 0) hx hb dk_dX10_isIn_0_8.2.2.1 (by decide) ?_
      exact k_iret hx hb hr hlk (k_nb 0 (by decide)) () hS (k_isf_b h2) hP hD (Nat.le_of_ble_eq_true rfl) (Nat.le_of_ble_eq_true rfl) dk_dX10_isIn_0_8.2.2.2.1
    · refine lv_iconst (v := 1) hx hb dk_dX10_isIn_0_8.1 (by decide) ?_
      refine lv_goto (tgt := 18) hx hb dk_dX10_isIn_0_8.2.1 (by decide) ?_
      exact k_iret hx hb hr hlk (k_nb 1 (by decide)) () hS (k_isf_c h1 h2) hP hD (Nat.le_of_ble_eq_true rfl) (Nat.le_of_ble_eq_true rfl) dk_dX10_isIn_0_8.2.2.2.1
theorem ib_nc {x : Int32} {a b : Int} (c : Int32) (h : ib x a b) (h1 : (decide (c.toInt < a) || decide (b < c.toInt)) = true) : ¬ x = c := by
  intro e
  subst e
  simp only [Bool.or_eq_true, decide_eq_true_eq] at h1
  have h2 := h.1
  have h3 := h.2
  omega
theorem ib_dec {x y : Int32} {a b : Int} (h : ib x a b) (h1 : decide (1 ≤ a) = true) (e : y.toInt = x.toInt - (1 : Int32).toInt) : 0 ≤ (x &&& y).toInt ∧ (x &&& y).toInt ≤ x.toInt - 1 := by
  simp only [decide_eq_true_eq] at h1
  have e1 : (1 : Int32).toInt = 1 := by decide
  have hx := h.1
  have ex : x.toInt = if 2 * x.toBitVec.toNat < 2 ^ 32 then (x.toBitVec.toNat : Int) else (x.toBitVec.toNat : Int) - (2 ^ 32 : Nat) := BitVec.toInt_eq_toNat_cond x.toBitVec
  have ey : y.toInt = if 2 * y.toBitVec.toNat < 2 ^ 32 then (y.toBitVec.toNat : Int) else (y.toBitVec.toNat : Int) - (2 ^ 32 : Nat) := BitVec.toInt_eq_toNat_cond y.toBitVec
  have ez : (x &&& y).toInt = if 2 * (x.toBitVec &&& y.toBitVec).toNat < 2 ^ 32 then ((x.toBitVec &&& y.toBitVec).toNat : Int) else ((x.toBitVec &&& y.toBitVec).toNat : Int) - (2 ^ 32 : Nat) := BitVec.toInt_eq_toNat_cond (x.toBitVec &&& y.toBitVec)
  have hn : (x.toBitVec &&& y.toBitVec).toNat ≤ y.toBitVec.toNat := by rw [BitVec.toNat_and]; exact Nat.and_le_right
  have lx := x.toBitVec.isLt
  have ly := y.toBitVec.isLt
  split at ex <;> split at ey <;> split at ez <;> omega
/-- entries by their places: those that are rs by md -/
def ip (f : Nat → Int32) (n md rs : Nat) (lo hi : Int) : Prop := ∀ k, k < n → k % md = rs → ib (f k) lo hi
theorem ip_at {f : Nat → Int32} {n md rs : Nat} {lo hi : Int} (h : ip f n md rs lo hi) {i : Int32} (hv : vp_in i n) (q : Int32.toNatClampNeg i % md = rs) : ib (f i.toNatClampNeg) lo hi := h _ (Nat.not_le.mp fun q => hv (Or.inr q)) q
theorem ip_upd {f : Nat → Int32} {n md rs : Nat} {lo hi : Int} (h : ip f n md rs lo hi) (i : Nat) {x : Int32} (hx : i % md = rs → ib x lo hi) : ip (upd f i x) n md rs lo hi := by
  intro k hk hr
  by_cases e : k = i
  · subst e; rw [pk_us]; exact hx hr
  · rw [pk_un e]; exact h k hk hr
theorem k_isf_01 (v a b : Int64) : ib (k_isf v a b) 0 1 := by
  unfold k_isf
  split
  · exact ib_c 1 0 1 (by decide)
  · exact ib_c 0 0 1 (by decide)
theorem k_isf_g {r : Int32} {v a b : Int64} (h : r = k_isf v a b) (h0 : ¬ r = 0) : a.toInt ≤ v.toInt ∧ v.toInt ≤ b.toInt := by
  rw [h] at h0
  unfold k_isf at h0
  split at h0
  · rename_i h2
    exact ⟨Int64.le_iff_toInt_le.mp h2.1, Int64.le_iff_toInt_le.mp h2.2⟩
  · exact absurd rfl h0
theorem k_isf_v {r v : Int32} {a b : Int64} {lo hi : Int} (h : r = k_isf v.toInt64 a b) (ha : lo ≤ a.toInt) (hb : b.toInt ≤ hi) (h0 : ¬ r = 0) : ib v lo hi := by
  have h1 := k_isf_g h h0
  rw [Int32.toInt_toInt64] at h1
  exact ⟨by omega, by omega⟩
theorem k_isf_u {r c : Int32} {v a : Int64} {lo x hi : Int} (h : r = k_isf v a c.toInt64) (ha : lo ≤ a.toInt) (hc : ib c x hi) (h0 : ¬ r = 0) : ib c lo hi := by
  have h1 := k_isf_g h h0
  rw [Int32.toInt_toInt64] at h1
  have h2 := hc.2
  exact ⟨by omega, by omega⟩
theorem ib_dv2 {x : Int32} {a b : Int} (c : Int32) (v : Int) (hv : c.toInt = v) (hx : ib x a b) (h : decide (0 ≤ a) = true) (hc : decide (0 < c.toInt) = true) : v * (x / c).toInt ≤ x.toInt ∧ x.toInt < v * (x / c).toInt + v := by
  subst hv
  simp only [decide_eq_true_eq] at h hc
  obtain ⟨n, hn, ex, -⟩ := ib_nat hx h
  obtain ⟨m, hm, ey, -⟩ := ib_nat (x := c) (a := c.toInt) (b := c.toInt) ⟨Int.le_refl _, Int.le_refl _⟩ (by omega)
  subst ex
  subst ey
  rw [nI_toInt hm] at hc
  have hq : n / m < 2 ^ 31 := Nat.lt_of_le_of_lt (Nat.div_le_self n m) hn
  rw [pk_div hn (by omega) hm, nI_toInt hq, nI_toInt hn, nI_toInt hm]
  have h1 := Nat.mul_div_le n m
  have h2 := Nat.lt_mul_div_succ n (show 0 < m by omega)
  refine ⟨by exact_mod_cast h1, ?_⟩
  have h3 : n < m * (n / m) + m := by rw [Nat.mul_add, Nat.mul_one] at h2; exact h2
  exact_mod_cast h3
end
section
/-! mfacts -/
theorem fp_X10_7 : k_fl RX10 7 10 0 true (.array .int) := ⟨RX10, TX10, 122, tyX10, cl_X10, by decide, wd158, rfl, tyX10_ok 0 (by decide), fun h => rfl⟩
theorem fp_X10_13 : k_fl RX10 13 10 8 false .int := ⟨RX10, TX10, 122, tyX10, cl_X10, by decide, wd159, rfl, tyX10_ok 8 (by decide), fun h => by cases h⟩
theorem fp_X10_17 : k_fl RX10 17 10 9 true (.array .int) := ⟨RX10, TX10, 122, tyX10, cl_X10, by decide, wd160, rfl, tyX10_ok 9 (by decide), fun h => rfl⟩
theorem fp_X10_20 : k_fl RX10 20 10 10 true (.array .char) := ⟨RX10, TX10, 122, tyX10, cl_X10, by decide, wd162, rfl, tyX10_ok 10 (by decide), fun h => rfl⟩
theorem fp_X10_24 : k_fl RX10 24 10 11 true (.array .char) := ⟨RX10, TX10, 122, tyX10, cl_X10, by decide, wd163, rfl, tyX10_ok 11 (by decide), fun h => rfl⟩
theorem fp_X10_27 : k_fl RX10 27 10 12 true (.array .char) := ⟨RX10, TX10, 122, tyX10, cl_X10, by decide, wd164, rfl, tyX10_ok 12 (by decide), fun h => rfl⟩
theorem fp_X10_30 : k_fl RX10 30 10 13 true (.array .char) := ⟨RX10, TX10, 122, tyX10, cl_X10, by decide, wd165, rfl, tyX10_ok 13 (by decide), fun h => rfl⟩
theorem fp_X10_33 : k_fl RX10 33 10 14 true (.array .char) := ⟨RX10, TX10, 122, tyX10, cl_X10, by decide, wd166, rfl, tyX10_ok 14 (by decide), fun h => rfl⟩
theorem fp_X10_36 : k_fl RX10 36 10 15 true (.array .char) := ⟨RX10, TX10, 122, tyX10, cl_X10, by decide, wd167, rfl, tyX10_ok 15 (by decide), fun h => rfl⟩
theorem fp_X10_39 : k_fl RX10 39 10 16 true (.array .char) := ⟨RX10, TX10, 122, tyX10, cl_X10, by decide, wd168, rfl, tyX10_ok 16 (by decide), fun h => rfl⟩
theorem fp_X10_42 : k_fl RX10 42 10 17 true (.array .char) := ⟨RX10, TX10, 122, tyX10, cl_X10, by decide, wd169, rfl, tyX10_ok 17 (by decide), fun h => rfl⟩
theorem fp_X10_45 : k_fl RX10 45 10 18 true (.array .char) := ⟨RX10, TX10, 122, tyX10, cl_X10, by decide, wd170, rfl, tyX10_ok 18 (by decide), fun h => rfl⟩
theorem fp_X10_48 : k_fl RX10 48 10 19 true (.array .char) := ⟨RX10, TX10, 122, tyX10, cl_X10, by decide, wd171, rfl, tyX10_ok 19 (by decide), fun h => rfl⟩
theorem fp_X10_51 : k_fl RX10 51 10 20 true (.array .char) := ⟨RX10, TX10, 122, tyX10, cl_X10, by decide, wd172, rfl, tyX10_ok 20 (by decide), fun h => rfl⟩
theorem fp_X10_54 : k_fl RX10 54 10 21 true (.array .char) := ⟨RX10, TX10, 122, tyX10, cl_X10, by decide, wd173, rfl, tyX10_ok 21 (by decide), fun h => rfl⟩
theorem fp_X10_57 : k_fl RX10 57 10 22 true (.array .char) := ⟨RX10, TX10, 122, tyX10, cl_X10, by decide, wd174, rfl, tyX10_ok 22 (by decide), fun h => rfl⟩
theorem fp_X10_60 : k_fl RX10 60 10 23 true (.array .char) := ⟨RX10, TX10, 122, tyX10, cl_X10, by decide, wd175, rfl, tyX10_ok 23 (by decide), fun h => rfl⟩
theorem fp_X10_63 : k_fl RX10 63 10 24 true (.array .char) := ⟨RX10, TX10, 122, tyX10, cl_X10, by decide, wd176, rfl, tyX10_ok 24 (by decide), fun h => rfl⟩
theorem fp_X10_66 : k_fl RX10 66 10 25 true (.array .char) := ⟨RX10, TX10, 122, tyX10, cl_X10, by decide, wd177, rfl, tyX10_ok 25 (by decide), fun h => rfl⟩
theorem fp_X10_69 : k_fl RX10 69 10 26 true (.array .char) := ⟨RX10, TX10, 122, tyX10, cl_X10, by decide, wd178, rfl, tyX10_ok 26 (by decide), fun h => rfl⟩
theorem fp_X10_72 : k_fl RX10 72 10 27 true (.array .char) := ⟨RX10, TX10, 122, tyX10, cl_X10, by decide, wd179, rfl, tyX10_ok 27 (by decide), fun h => rfl⟩
theorem fp_X10_75 : k_fl RX10 75 10 28 true (.array .char) := ⟨RX10, TX10, 122, tyX10, cl_X10, by decide, wd180, rfl, tyX10_ok 28 (by decide), fun h => rfl⟩
theorem fp_X10_78 : k_fl RX10 78 10 29 true (.array .char) := ⟨RX10, TX10, 122, tyX10, cl_X10, by decide, wd181, rfl, tyX10_ok 29 (by decide), fun h => rfl⟩
theorem fp_X10_81 : k_fl RX10 81 10 30 true (.array .char) := ⟨RX10, TX10, 122, tyX10, cl_X10, by decide, wd182, rfl, tyX10_ok 30 (by decide), fun h => rfl⟩
theorem fp_X10_84 : k_fl RX10 84 10 31 true (.array .char) := ⟨RX10, TX10, 122, tyX10, cl_X10, by decide, wd183, rfl, tyX10_ok 31 (by decide), fun h => rfl⟩
theorem fp_X10_87 : k_fl RX10 87 10 32 true (.array .char) := ⟨RX10, TX10, 122, tyX10, cl_X10, by decide, wd184, rfl, tyX10_ok 32 (by decide), fun h => rfl⟩
theorem fp_X10_90 : k_fl RX10 90 10 33 true (.array .char) := ⟨RX10, TX10, 122, tyX10, cl_X10, by decide, wd185, rfl, tyX10_ok 33 (by decide), fun h => rfl⟩
theorem fp_X10_93 : k_fl RX10 93 10 34 true (.array .char) := ⟨RX10, TX10, 122, tyX10, cl_X10, by decide, wd186, rfl, tyX10_ok 34 (by decide), fun h => rfl⟩
theorem fp_X10_96 : k_fl RX10 96 10 35 true (.array .char) := ⟨RX10, TX10, 122, tyX10, cl_X10, by decide, wd187, rfl, tyX10_ok 35 (by decide), fun h => rfl⟩
theorem fp_X10_99 : k_fl RX10 99 10 36 true (.array .char) := ⟨RX10, TX10, 122, tyX10, cl_X10, by decide, wd188, rfl, tyX10_ok 36 (by decide), fun h => rfl⟩
theorem fp_X10_102 : k_fl RX10 102 10 37 true (.array .char) := ⟨RX10, TX10, 122, tyX10, cl_X10, by decide, wd189, rfl, tyX10_ok 37 (by decide), fun h => rfl⟩
theorem fp_X10_105 : k_fl RX10 105 10 38 true (.array .char) := ⟨RX10, TX10, 122, tyX10, cl_X10, by decide, wd190, rfl, tyX10_ok 38 (by decide), fun h => rfl⟩
theorem fp_X10_108 : k_fl RX10 108 10 39 true (.array .char) := ⟨RX10, TX10, 122, tyX10, cl_X10, by decide, wd191, rfl, tyX10_ok 39 (by decide), fun h => rfl⟩
theorem fp_X10_111 : k_fl RX10 111 10 41 true (.array .int) := ⟨RX10, TX10, 122, tyX10, cl_X10, by decide, wd192, rfl, tyX10_ok 41 (by decide), fun h => rfl⟩
theorem fp_X10_114 : k_fl RX10 114 10 42 true (.array .long) := ⟨RX10, TX10, 122, tyX10, cl_X10, by decide, wd194, rfl, tyX10_ok 42 (by decide), fun h => rfl⟩
theorem fp_X10_118 : k_fl RX10 118 10 43 true (.array .int) := ⟨RX10, TX10, 122, tyX10, cl_X10, by decide, wd195, rfl, tyX10_ok 43 (by decide), fun h => rfl⟩
theorem fp_X10_121 : k_fl RX10 121 10 44 true (.array .int) := ⟨RX10, TX10, 122, tyX10, cl_X10, by decide, wd196, rfl, tyX10_ok 44 (by decide), fun h => rfl⟩
theorem fp_X10_124 : k_fl RX10 124 10 45 true (.array .int) := ⟨RX10, TX10, 122, tyX10, cl_X10, by decide, wd197, rfl, tyX10_ok 45 (by decide), fun h => rfl⟩
theorem fp_X10_127 : k_fl RX10 127 10 46 true (.array .int) := ⟨RX10, TX10, 122, tyX10, cl_X10, by decide, wd198, rfl, tyX10_ok 46 (by decide), fun h => rfl⟩
theorem fp_X10_130 : k_fl RX10 130 10 49 true (.array .int) := ⟨RX10, TX10, 122, tyX10, cl_X10, by decide, wd199, rfl, tyX10_ok 49 (by decide), fun h => rfl⟩
theorem fp_X10_133 : k_fl RX10 133 10 50 true (.array .int) := ⟨RX10, TX10, 122, tyX10, cl_X10, by decide, wd200, rfl, tyX10_ok 50 (by decide), fun h => rfl⟩
theorem fp_X10_136 : k_fl RX10 136 10 51 true (.array .int) := ⟨RX10, TX10, 122, tyX10, cl_X10, by decide, wd201, rfl, tyX10_ok 51 (by decide), fun h => rfl⟩
theorem fp_X10_139 : k_fl RX10 139 10 56 true (.array .int) := ⟨RX10, TX10, 122, tyX10, cl_X10, by decide, wd202, rfl, tyX10_ok 56 (by decide), fun h => rfl⟩
theorem fp_X10_142 : k_fl RX10 142 10 57 true (.array .int) := ⟨RX10, TX10, 122, tyX10, cl_X10, by decide, wd203, rfl, tyX10_ok 57 (by decide), fun h => rfl⟩
theorem fp_X10_145 : k_fl RX10 145 10 60 true (.array .boolean) := ⟨RX10, TX10, 122, tyX10, cl_X10, by decide, wd205, rfl, tyX10_ok 60 (by decide), fun h => rfl⟩
theorem fp_X10_149 : k_fl RX10 149 10 61 true (.array .int) := ⟨RX10, TX10, 122, tyX10, cl_X10, by decide, wd206, rfl, tyX10_ok 61 (by decide), fun h => rfl⟩
theorem fp_X10_152 : k_fl RX10 152 10 62 true (.array .boolean) := ⟨RX10, TX10, 122, tyX10, cl_X10, by decide, wd207, rfl, tyX10_ok 62 (by decide), fun h => rfl⟩
theorem fp_X10_155 : k_fl RX10 155 10 63 true (.array .boolean) := ⟨RX10, TX10, 122, tyX10, cl_X10, by decide, wd208, rfl, tyX10_ok 63 (by decide), fun h => rfl⟩
theorem fp_X10_158 : k_fl RX10 158 10 64 true (.array .int) := ⟨RX10, TX10, 122, tyX10, cl_X10, by decide, wd209, rfl, tyX10_ok 64 (by decide), fun h => rfl⟩
theorem fp_X10_161 : k_fl RX10 161 10 65 true (.array .int) := ⟨RX10, TX10, 122, tyX10, cl_X10, by decide, wd210, rfl, tyX10_ok 65 (by decide), fun h => rfl⟩
theorem fp_X10_164 : k_fl RX10 164 10 66 true (.array .boolean) := ⟨RX10, TX10, 122, tyX10, cl_X10, by decide, wd211, rfl, tyX10_ok 66 (by decide), fun h => rfl⟩
theorem fp_X10_167 : k_fl RX10 167 10 67 true (.array .boolean) := ⟨RX10, TX10, 122, tyX10, cl_X10, by decide, wd212, rfl, tyX10_ok 67 (by decide), fun h => rfl⟩
theorem fp_X10_170 : k_fl RX10 170 10 68 true (.array .boolean) := ⟨RX10, TX10, 122, tyX10, cl_X10, by decide, wd213, rfl, tyX10_ok 68 (by decide), fun h => rfl⟩
theorem fp_X10_173 : k_fl RX10 173 10 69 true (.array .boolean) := ⟨RX10, TX10, 122, tyX10, cl_X10, by decide, wd214, rfl, tyX10_ok 69 (by decide), fun h => rfl⟩
theorem fp_X10_176 : k_fl RX10 176 10 76 true (.array .int) := ⟨RX10, TX10, 122, tyX10, cl_X10, by decide, wd215, rfl, tyX10_ok 76 (by decide), fun h => rfl⟩
theorem fp_X10_179 : k_fl RX10 179 10 77 true (.array .int) := ⟨RX10, TX10, 122, tyX10, cl_X10, by decide, wd216, rfl, tyX10_ok 77 (by decide), fun h => rfl⟩
theorem fp_X10_182 : k_fl RX10 182 10 81 true (.array .int) := ⟨RX10, TX10, 122, tyX10, cl_X10, by decide, wd217, rfl, tyX10_ok 81 (by decide), fun h => rfl⟩
theorem fp_X10_185 : k_fl RX10 185 10 84 false .long := ⟨RX10, TX10, 122, tyX10, cl_X10, by decide, wd218, rfl, tyX10_ok 84 (by decide), fun h => by cases h⟩
theorem fp_X10_189 : k_fl RX10 189 10 85 true (.array .char) := ⟨RX10, TX10, 122, tyX10, cl_X10, by decide, wd219, rfl, tyX10_ok 85 (by decide), fun h => rfl⟩
theorem fp_X10_192 : k_fl RX10 192 10 86 true (.array .char) := ⟨RX10, TX10, 122, tyX10, cl_X10, by decide, wd220, rfl, tyX10_ok 86 (by decide), fun h => rfl⟩
theorem fp_X10_195 : k_fl RX10 195 10 87 true (.array .char) := ⟨RX10, TX10, 122, tyX10, cl_X10, by decide, wd221, rfl, tyX10_ok 87 (by decide), fun h => rfl⟩
theorem fp_X10_198 : k_fl RX10 198 10 88 true (.array .char) := ⟨RX10, TX10, 122, tyX10, cl_X10, by decide, wd222, rfl, tyX10_ok 88 (by decide), fun h => rfl⟩
theorem fp_X10_201 : k_fl RX10 201 10 89 true (.array .char) := ⟨RX10, TX10, 122, tyX10, cl_X10, by decide, wd223, rfl, tyX10_ok 89 (by decide), fun h => rfl⟩
theorem fp_X10_204 : k_fl RX10 204 10 90 true (.array .char) := ⟨RX10, TX10, 122, tyX10, cl_X10, by decide, wd224, rfl, tyX10_ok 90 (by decide), fun h => rfl⟩
theorem fp_X10_207 : k_fl RX10 207 10 91 true (.array .char) := ⟨RX10, TX10, 122, tyX10, cl_X10, by decide, wd225, rfl, tyX10_ok 91 (by decide), fun h => rfl⟩
theorem fp_X10_210 : k_fl RX10 210 10 92 true (.array .char) := ⟨RX10, TX10, 122, tyX10, cl_X10, by decide, wd226, rfl, tyX10_ok 92 (by decide), fun h => rfl⟩
theorem fp_X10_213 : k_fl RX10 213 10 93 true (.array .char) := ⟨RX10, TX10, 122, tyX10, cl_X10, by decide, wd227, rfl, tyX10_ok 93 (by decide), fun h => rfl⟩
theorem fp_X10_216 : k_fl RX10 216 10 94 true (.array .char) := ⟨RX10, TX10, 122, tyX10, cl_X10, by decide, wd228, rfl, tyX10_ok 94 (by decide), fun h => rfl⟩
theorem fp_X10_219 : k_fl RX10 219 10 95 true (.array .char) := ⟨RX10, TX10, 122, tyX10, cl_X10, by decide, wd229, rfl, tyX10_ok 95 (by decide), fun h => rfl⟩
theorem fp_X10_222 : k_fl RX10 222 10 96 true (.array .char) := ⟨RX10, TX10, 122, tyX10, cl_X10, by decide, wd230, rfl, tyX10_ok 96 (by decide), fun h => rfl⟩
theorem fp_X10_225 : k_fl RX10 225 10 97 true (.array .char) := ⟨RX10, TX10, 122, tyX10, cl_X10, by decide, wd231, rfl, tyX10_ok 97 (by decide), fun h => rfl⟩
theorem fp_X10_228 : k_fl RX10 228 10 98 true (.array .char) := ⟨RX10, TX10, 122, tyX10, cl_X10, by decide, wd232, rfl, tyX10_ok 98 (by decide), fun h => rfl⟩
theorem fp_X10_231 : k_fl RX10 231 10 99 true (.array .char) := ⟨RX10, TX10, 122, tyX10, cl_X10, by decide, wd233, rfl, tyX10_ok 99 (by decide), fun h => rfl⟩
theorem fp_X10_234 : k_fl RX10 234 10 100 true (.array .char) := ⟨RX10, TX10, 122, tyX10, cl_X10, by decide, wd234, rfl, tyX10_ok 100 (by decide), fun h => rfl⟩
theorem fp_X10_237 : k_fl RX10 237 10 101 true (.array .char) := ⟨RX10, TX10, 122, tyX10, cl_X10, by decide, wd235, rfl, tyX10_ok 101 (by decide), fun h => rfl⟩
theorem fp_X10_240 : k_fl RX10 240 10 102 true (.array .char) := ⟨RX10, TX10, 122, tyX10, cl_X10, by decide, wd236, rfl, tyX10_ok 102 (by decide), fun h => rfl⟩
theorem fp_X10_243 : k_fl RX10 243 10 103 true (.array .char) := ⟨RX10, TX10, 122, tyX10, cl_X10, by decide, wd237, rfl, tyX10_ok 103 (by decide), fun h => rfl⟩
theorem fp_X10_246 : k_fl RX10 246 10 104 true (.array .char) := ⟨RX10, TX10, 122, tyX10, cl_X10, by decide, wd238, rfl, tyX10_ok 104 (by decide), fun h => rfl⟩
theorem fp_X10_249 : k_fl RX10 249 10 105 true (.array .char) := ⟨RX10, TX10, 122, tyX10, cl_X10, by decide, wd239, rfl, tyX10_ok 105 (by decide), fun h => rfl⟩
theorem fp_X10_252 : k_fl RX10 252 10 106 true (.array .char) := ⟨RX10, TX10, 122, tyX10, cl_X10, by decide, wd240, rfl, tyX10_ok 106 (by decide), fun h => rfl⟩
theorem fp_X10_255 : k_fl RX10 255 10 107 true (.array .char) := ⟨RX10, TX10, 122, tyX10, cl_X10, by decide, wd241, rfl, tyX10_ok 107 (by decide), fun h => rfl⟩
theorem fp_X10_258 : k_fl RX10 258 10 108 true (.array .char) := ⟨RX10, TX10, 122, tyX10, cl_X10, by decide, wd242, rfl, tyX10_ok 108 (by decide), fun h => rfl⟩
theorem fp_X10_261 : k_fl RX10 261 10 109 true (.array .char) := ⟨RX10, TX10, 122, tyX10, cl_X10, by decide, wd243, rfl, tyX10_ok 109 (by decide), fun h => rfl⟩
theorem fp_X10_264 : k_fl RX10 264 10 110 true (.array .int) := ⟨RX10, TX10, 122, tyX10, cl_X10, by decide, wd244, rfl, tyX10_ok 110 (by decide), fun h => rfl⟩
theorem fp_X10_267 : k_fl RX10 267 10 112 true (.array .int) := ⟨RX10, TX10, 122, tyX10, cl_X10, by decide, wd245, rfl, tyX10_ok 112 (by decide), fun h => rfl⟩
theorem fp_X10_270 : k_fl RX10 270 10 116 true (.array .long) := ⟨RX10, TX10, 122, tyX10, cl_X10, by decide, wd246, rfl, tyX10_ok 116 (by decide), fun h => rfl⟩
theorem fp_X10_273 : k_fl RX10 273 10 120 true (.array .int) := ⟨RX10, TX10, 122, tyX10, cl_X10, by decide, wd247, rfl, tyX10_ok 120 (by decide), fun h => rfl⟩
theorem fg_X10_276 : k_fg RX10 276 10 1 := ⟨RX10, TX10, 122, tyX10, cl_X10, by decide, wd264⟩
theorem fg_X10_17 : k_fg RX10 17 10 9 := ⟨RX10, TX10, 122, tyX10, cl_X10, by decide, wd160⟩
theorem fg_X10_7 : k_fg RX10 7 10 0 := ⟨RX10, TX10, 122, tyX10, cl_X10, by decide, wd158⟩
theorem fp_X10_276 : k_fl RX10 276 10 1 false .int := ⟨RX10, TX10, 122, tyX10, cl_X10, by decide, wd264, rfl, tyX10_ok 1 (by decide), fun h => by cases h⟩
theorem fg_X10_279 : k_fg RX10 279 10 5 := ⟨RX10, TX10, 122, tyX10, cl_X10, by decide, wd554⟩
theorem fp_X10_279 : k_fl RX10 279 10 5 false .int := ⟨RX10, TX10, 122, tyX10, cl_X10, by decide, wd554, rfl, tyX10_ok 5 (by decide), fun h => by cases h⟩
theorem fp_X10_282 : k_fl RX10 282 10 6 false .int := ⟨RX10, TX10, 122, tyX10, cl_X10, by decide, wd555, rfl, tyX10_ok 6 (by decide), fun h => by cases h⟩
theorem fg_X10_285 : k_fg RX10 285 10 2 := ⟨RX10, TX10, 122, tyX10, cl_X10, by decide, wd552⟩
theorem fg_X10_288 : k_fg RX10 288 10 3 := ⟨RX10, TX10, 122, tyX10, cl_X10, by decide, wd551⟩
theorem fp_X10_285 : k_fl RX10 285 10 2 false .int := ⟨RX10, TX10, 122, tyX10, cl_X10, by decide, wd552, rfl, tyX10_ok 2 (by decide), fun h => by cases h⟩
theorem mV_X10_291 : k_mv RX10 291 RX10 yX10_look cX10_look 1 (some .int) 0 := ⟨wd576, wd577, wd578, wd5, wd579, by decide +kernel⟩
theorem mS_X10_295 : k_ms RX10 295 yX10_isLetter cX10_isLetter 1 (some .boolean) 1 := ⟨wd580, wd581, wd5, wd582, by decide +kernel⟩
theorem fg_X10_299 : k_fg RX10 299 10 4 := ⟨RX10, TX10, 122, tyX10, cl_X10, by decide, wd553⟩
theorem mV_X10_302 : k_mv RX10 302 RX10 yX10_isHere cX10_isHere 4 (some .boolean) 1 := ⟨wd572, wd573, wd574, wd5, wd575, by decide +kernel⟩
theorem fp_X10_299 : k_fl RX10 299 10 4 false .int := ⟨RX10, TX10, 122, tyX10, cl_X10, by decide, wd553, rfl, tyX10_ok 4 (by decide), fun h => by cases h⟩
theorem mV_X10_305 : k_mv RX10 305 RX10 yX10_takes cX10_takes 2 (some .boolean) 1 := ⟨wd568, wd569, wd570, wd5, wd571, by decide +kernel⟩
theorem mV_X10_308 : k_mv RX10 308 RX10 yX10_fail cX10_fail 3 none 2 := ⟨wd583, wd584, wd585, wd5, wd586, by decide +kernel⟩
theorem mV_X10_312 : k_mv RX10 312 RX10 yX10_takesSign cX10_takesSign 2 (some .boolean) 1 := ⟨wd601, wd602, wd603, wd5, wd604, by decide +kernel⟩
theorem mS_X10_315 : k_ms RX10 315 yX10_isDigit cX10_isDigit 1 (some .boolean) 1 := ⟨wd591, wd592, wd5, wd593, by decide +kernel⟩
theorem mS_X10_318 : k_ms RX10 318 yX10_isIn cX10_isIn 6 (some .boolean) 3 := ⟨wd594, wd595, wd5, wd596, by decide +kernel⟩
theorem fg_X10_20 : k_fg RX10 20 10 10 := ⟨RX10, TX10, 122, tyX10, cl_X10, by decide, wd162⟩
theorem fg_X10_24 : k_fg RX10 24 10 11 := ⟨RX10, TX10, 122, tyX10, cl_X10, by decide, wd163⟩
theorem fg_X10_27 : k_fg RX10 27 10 12 := ⟨RX10, TX10, 122, tyX10, cl_X10, by decide, wd164⟩
theorem fg_X10_30 : k_fg RX10 30 10 13 := ⟨RX10, TX10, 122, tyX10, cl_X10, by decide, wd165⟩
theorem fg_X10_33 : k_fg RX10 33 10 14 := ⟨RX10, TX10, 122, tyX10, cl_X10, by decide, wd166⟩
theorem fg_X10_36 : k_fg RX10 36 10 15 := ⟨RX10, TX10, 122, tyX10, cl_X10, by decide, wd167⟩
theorem fg_X10_39 : k_fg RX10 39 10 16 := ⟨RX10, TX10, 122, tyX10, cl_X10, by decide, wd168⟩
theorem fg_X10_42 : k_fg RX10 42 10 17 := ⟨RX10, TX10, 122, tyX10, cl_X10, by decide, wd169⟩
theorem fg_X10_45 : k_fg RX10 45 10 18 := ⟨RX10, TX10, 122, tyX10, cl_X10, by decide, wd170⟩
theorem fg_X10_48 : k_fg RX10 48 10 19 := ⟨RX10, TX10, 122, tyX10, cl_X10, by decide, wd171⟩
theorem fg_X10_51 : k_fg RX10 51 10 20 := ⟨RX10, TX10, 122, tyX10, cl_X10, by decide, wd172⟩
theorem fg_X10_54 : k_fg RX10 54 10 21 := ⟨RX10, TX10, 122, tyX10, cl_X10, by decide, wd173⟩
theorem fg_X10_57 : k_fg RX10 57 10 22 := ⟨RX10, TX10, 122, tyX10, cl_X10, by decide, wd174⟩
theorem fg_X10_60 : k_fg RX10 60 10 23 := ⟨RX10, TX10, 122, tyX10, cl_X10, by decide, wd175⟩
theorem fg_X10_63 : k_fg RX10 63 10 24 := ⟨RX10, TX10, 122, tyX10, cl_X10, by decide, wd176⟩
theorem fg_X10_66 : k_fg RX10 66 10 25 := ⟨RX10, TX10, 122, tyX10, cl_X10, by decide, wd177⟩
theorem fg_X10_69 : k_fg RX10 69 10 26 := ⟨RX10, TX10, 122, tyX10, cl_X10, by decide, wd178⟩
theorem fg_X10_72 : k_fg RX10 72 10 27 := ⟨RX10, TX10, 122, tyX10, cl_X10, by decide, wd179⟩
theorem fg_X10_75 : k_fg RX10 75 10 28 := ⟨RX10, TX10, 122, tyX10, cl_X10, by decide, wd180⟩
theorem fg_X10_78 : k_fg RX10 78 10 29 := ⟨RX10, TX10, 122, tyX10, cl_X10, by decide, wd181⟩
theorem fg_X10_81 : k_fg RX10 81 10 30 := ⟨RX10, TX10, 122, tyX10, cl_X10, by decide, wd182⟩
theorem fg_X10_84 : k_fg RX10 84 10 31 := ⟨RX10, TX10, 122, tyX10, cl_X10, by decide, wd183⟩
theorem fg_X10_87 : k_fg RX10 87 10 32 := ⟨RX10, TX10, 122, tyX10, cl_X10, by decide, wd184⟩
theorem fg_X10_90 : k_fg RX10 90 10 33 := ⟨RX10, TX10, 122, tyX10, cl_X10, by decide, wd185⟩
theorem fg_X10_93 : k_fg RX10 93 10 34 := ⟨RX10, TX10, 122, tyX10, cl_X10, by decide, wd186⟩
theorem fg_X10_96 : k_fg RX10 96 10 35 := ⟨RX10, TX10, 122, tyX10, cl_X10, by decide, wd187⟩
theorem fg_X10_99 : k_fg RX10 99 10 36 := ⟨RX10, TX10, 122, tyX10, cl_X10, by decide, wd188⟩
theorem fg_X10_102 : k_fg RX10 102 10 37 := ⟨RX10, TX10, 122, tyX10, cl_X10, by decide, wd189⟩
theorem fg_X10_105 : k_fg RX10 105 10 38 := ⟨RX10, TX10, 122, tyX10, cl_X10, by decide, wd190⟩
theorem fg_X10_108 : k_fg RX10 108 10 39 := ⟨RX10, TX10, 122, tyX10, cl_X10, by decide, wd191⟩
theorem mV_X10_322 : k_mv RX10 322 RX10 yX10_isOwnHere cX10_isOwnHere 2 (some .boolean) 0 := ⟨wd628, wd629, wd630, wd5, wd631, by decide +kernel⟩
theorem fp_X10_326 : k_fl RX10 326 10 40 false .int := ⟨RX10, TX10, 122, tyX10, cl_X10, by decide, wd621, rfl, tyX10_ok 40 (by decide), fun h => by cases h⟩
theorem fg_X10_326 : k_fg RX10 326 10 40 := ⟨RX10, TX10, 122, tyX10, cl_X10, by decide, wd621⟩
theorem fg_X10_333 : k_fg RX10 333 10 55 := ⟨RX10, TX10, 122, tyX10, cl_X10, by decide, wd644⟩
theorem fg_X10_111 : k_fg RX10 111 10 41 := ⟨RX10, TX10, 122, tyX10, cl_X10, by decide, wd192⟩
theorem fg_X10_114 : k_fg RX10 114 10 42 := ⟨RX10, TX10, 122, tyX10, cl_X10, by decide, wd194⟩
theorem mV_X10_342 : k_mv RX10 342 RX10 yX10_name cX10_name 3 (some .long) 0 := ⟨wd622, wd623, wd624, wd5, wd625, by decide +kernel⟩
theorem mV_X10_346 : k_mv RX10 346 RX10 yX10_nameOf cX10_nameOf 5 (some .int) 2 := ⟨wd632, wd633, wd634, wd5, wd635, by decide +kernel⟩
theorem mV_X10_350 : k_mv RX10 350 RX10 yX10_asks cX10_asks 2 none 1 := ⟨wd564, wd565, wd566, wd5, wd567, by decide +kernel⟩
theorem fg_X10_118 : k_fg RX10 118 10 43 := ⟨RX10, TX10, 122, tyX10, cl_X10, by decide, wd195⟩
theorem mV_X10_354 : k_mv RX10 354 RX10 yX10_number cX10_number 5 (some .int) 2 := ⟨wd587, wd588, wd589, wd5, wd590, by decide +kernel⟩
theorem mV_X10_358 : k_mv RX10 358 RX10 yX10_asksSign cX10_asksSign 2 none 1 := ⟨wd597, wd598, wd599, wd5, wd600, by decide +kernel⟩
theorem mV_X10_362 : k_mv RX10 362 RX10 yX10_isFull cX10_isFull 4 (some .boolean) 3 := ⟨wd613, wd614, wd615, wd5, wd616, by decide +kernel⟩
theorem mV_X10_366 : k_mv RX10 366 RX10 yX10_newName cX10_newName 4 (some .long) 0 := ⟨wd617, wd618, wd619, wd5, wd620, by decide +kernel⟩
theorem fg_X10_121 : k_fg RX10 121 10 44 := ⟨RX10, TX10, 122, tyX10, cl_X10, by decide, wd196⟩
theorem fg_X10_124 : k_fg RX10 124 10 45 := ⟨RX10, TX10, 122, tyX10, cl_X10, by decide, wd197⟩
theorem fg_X10_127 : k_fg RX10 127 10 46 := ⟨RX10, TX10, 122, tyX10, cl_X10, by decide, wd198⟩
theorem fg_X10_130 : k_fg RX10 130 10 49 := ⟨RX10, TX10, 122, tyX10, cl_X10, by decide, wd199⟩
theorem fp_X10_333 : k_fl RX10 333 10 55 false .int := ⟨RX10, TX10, 122, tyX10, cl_X10, by decide, wd644, rfl, tyX10_ok 55 (by decide), fun h => by cases h⟩
theorem fp_X10_369 : k_fl RX10 369 10 111 false .int := ⟨RX10, TX10, 122, tyX10, cl_X10, by decide, wd645, rfl, tyX10_ok 111 (by decide), fun h => by cases h⟩
theorem fp_X10_372 : k_fl RX10 372 10 113 false .int := ⟨RX10, TX10, 122, tyX10, cl_X10, by decide, wd646, rfl, tyX10_ok 113 (by decide), fun h => by cases h⟩
theorem fp_X10_375 : k_fl RX10 375 10 114 false .int := ⟨RX10, TX10, 122, tyX10, cl_X10, by decide, wd647, rfl, tyX10_ok 114 (by decide), fun h => by cases h⟩
theorem fp_X10_378 : k_fl RX10 378 10 115 false .int := ⟨RX10, TX10, 122, tyX10, cl_X10, by decide, wd648, rfl, tyX10_ok 115 (by decide), fun h => by cases h⟩
theorem mV_X10_381 : k_mv RX10 381 RX10 yX10_qSums cX10_qSums 3 none 0 := ⟨wd649, wd650, wd651, wd5, wd652, by decide +kernel⟩
theorem mV_X10_384 : k_mv RX10 384 RX10 yX10_qTest cX10_qTest 3 none 0 := ⟨wd711, wd712, wd713, wd5, wd714, by decide +kernel⟩
theorem fg_X10_387 : k_fg RX10 387 10 52 := ⟨RX10, TX10, 122, tyX10, cl_X10, by decide, wd556⟩
theorem fg_X10_369 : k_fg RX10 369 10 111 := ⟨RX10, TX10, 122, tyX10, cl_X10, by decide, wd645⟩
theorem fg_X10_136 : k_fg RX10 136 10 51 := ⟨RX10, TX10, 122, tyX10, cl_X10, by decide, wd201⟩
theorem fg_X10_264 : k_fg RX10 264 10 110 := ⟨RX10, TX10, 122, tyX10, cl_X10, by decide, wd244⟩
theorem fp_X10_387 : k_fl RX10 387 10 52 false .int := ⟨RX10, TX10, 122, tyX10, cl_X10, by decide, wd556, rfl, tyX10_ok 52 (by decide), fun h => by cases h⟩
theorem fg_X10_133 : k_fg RX10 133 10 50 := ⟨RX10, TX10, 122, tyX10, cl_X10, by decide, wd200⟩
theorem fg_X10_390 : k_fg RX10 390 10 53 := ⟨RX10, TX10, 122, tyX10, cl_X10, by decide, wd558⟩
theorem mV_X10_393 : k_mv RX10 393 RX10 yX10_kindTold cX10_kindTold 8 none 1 := ⟨wd609, wd610, wd611, wd5, wd612, by decide +kernel⟩
theorem mV_X10_396 : k_mv RX10 396 RX10 yX10_walkerTold cX10_walkerTold 8 none 1 := ⟨wd636, wd637, wd638, wd5, wd639, by decide +kernel⟩
theorem mV_X10_399 : k_mv RX10 399 RX10 yX10_codesTold cX10_codesTold 4 none 2 := ⟨wd640, wd641, wd642, wd5, wd643, by decide +kernel⟩
theorem fp_X10_402 : k_fl RX10 402 10 47 false .int := ⟨RX10, TX10, 122, tyX10, cl_X10, by decide, wd557, rfl, tyX10_ok 47 (by decide), fun h => by cases h⟩
theorem fp_X10_390 : k_fl RX10 390 10 53 false .int := ⟨RX10, TX10, 122, tyX10, cl_X10, by decide, wd558, rfl, tyX10_ok 53 (by decide), fun h => by cases h⟩
theorem fp_X10_288 : k_fl RX10 288 10 3 false .int := ⟨RX10, TX10, 122, tyX10, cl_X10, by decide, wd551, rfl, tyX10_ok 3 (by decide), fun h => by cases h⟩
theorem mV_X10_405 : k_mv RX10 405 RX10 yX10_barTold cX10_barTold 1 none 0 := ⟨wd560, wd561, wd562, wd5, wd563, by decide +kernel⟩
theorem mV_X10_408 : k_mv RX10 408 RX10 yX10_statementTold cX10_statementTold 2 none 0 := ⟨wd605, wd606, wd607, wd5, wd608, by decide +kernel⟩
theorem fp_X10_411 : k_fl RX10 411 10 7 false .int := ⟨RX10, TX10, 122, tyX10, cl_X10, by decide, wd559, rfl, tyX10_ok 7 (by decide), fun h => by cases h⟩
theorem fg_X10_282 : k_fg RX10 282 10 6 := ⟨RX10, TX10, 122, tyX10, cl_X10, by decide, wd555⟩
theorem mV_X10_414 : k_mv RX10 414 RX10 yX10_stands cX10_stands 2 none 0 := ⟨wd731, wd732, wd733, wd5, wd734, by decide +kernel⟩
theorem fp_X10_417 : k_fl RX10 417 10 54 false .boolean := ⟨RX10, TX10, 122, tyX10, cl_X10, by decide, wd735, rfl, tyX10_ok 54 (by decide), fun h => by cases h⟩
theorem fg_X10_402 : k_fg RX10 402 10 47 := ⟨RX10, TX10, 122, tyX10, cl_X10, by decide, wd557⟩
theorem fp_X10_421 : k_fl RX10 421 10 48 false .int := ⟨RX10, TX10, 122, tyX10, cl_X10, by decide, wd736, rfl, tyX10_ok 48 (by decide), fun h => by cases h⟩
theorem fg_X10_139 : k_fg RX10 139 10 56 := ⟨RX10, TX10, 122, tyX10, cl_X10, by decide, wd202⟩
theorem fp_X10_424 : k_fl RX10 424 10 82 false .int := ⟨RX10, TX10, 122, tyX10, cl_X10, by decide, wd737, rfl, tyX10_ok 82 (by decide), fun h => by cases h⟩
theorem fp_X10_427 : k_fl RX10 427 10 75 false .int := ⟨RX10, TX10, 122, tyX10, cl_X10, by decide, wd738, rfl, tyX10_ok 75 (by decide), fun h => by cases h⟩
theorem fg_X10_411 : k_fg RX10 411 10 7 := ⟨RX10, TX10, 122, tyX10, cl_X10, by decide, wd559⟩
theorem fg_X10_13 : k_fg RX10 13 10 8 := ⟨RX10, TX10, 122, tyX10, cl_X10, by decide, wd159⟩
theorem mV_X10_430 : k_mv RX10 430 RX10 yX10_kindMany cX10_kindMany 1 (some .int) 0 := ⟨wd764, wd765, wd766, wd5, wd767, by decide +kernel⟩
theorem mV_X10_433 : k_mv RX10 433 RX10 yX10_walkerMany cX10_walkerMany 1 (some .int) 0 := ⟨wd768, wd769, wd770, wd5, wd771, by decide +kernel⟩
theorem mV_X10_436 : k_mv RX10 436 RX10 yX10_kindOf cX10_kindOf 2 (some .int) 1 := ⟨wd809, wd810, wd811, wd5, wd812, by decide +kernel⟩
theorem fp_X10_440 : k_fl RX10 440 10 117 false .int := ⟨RX10, TX10, 122, tyX10, cl_X10, by decide, wd935, rfl, tyX10_ok 117 (by decide), fun h => by cases h⟩
theorem mV_X10_443 : k_mv RX10 443 RX10 yX10_qPuts cX10_qPuts 3 none 1 := ⟨wd936, wd937, wd938, wd5, wd939, by decide +kernel⟩
theorem mV_X10_447 : k_mv RX10 447 RX10 yX10_qPartOf cX10_qPartOf 3 (some .long) 2 := ⟨wd940, wd941, wd942, wd5, wd943, by decide +kernel⟩
theorem fg_X10_270 : k_fg RX10 270 10 116 := ⟨RX10, TX10, 122, tyX10, cl_X10, by decide, wd246⟩
theorem fg_X10_440 : k_fg RX10 440 10 117 := ⟨RX10, TX10, 122, tyX10, cl_X10, by decide, wd935⟩
theorem mV_X10_451 : k_mv RX10 451 RX10 yX10_qJoins cX10_qJoins 6 none 1 := ⟨wd949, wd950, wd951, wd5, wd952, by decide +kernel⟩
theorem fp_X10_454 : k_fl RX10 454 10 58 false .int := ⟨RX10, TX10, 122, tyX10, cl_X10, by decide, wd930, rfl, tyX10_ok 58 (by decide), fun h => by cases h⟩
theorem fg_X10_145 : k_fg RX10 145 10 60 := ⟨RX10, TX10, 122, tyX10, cl_X10, by decide, wd205⟩
theorem mV_X10_457 : k_mv RX10 457 RX10 yX10_codesTell cX10_codesTell 5 (some .long) 2 := ⟨wd931, wd932, wd933, wd5, wd934, by decide +kernel⟩
theorem fg_X10_149 : k_fg RX10 149 10 61 := ⟨RX10, TX10, 122, tyX10, cl_X10, by decide, wd206⟩
theorem mV_X10_460 : k_mv RX10 460 RX10 yX10_secondOf cX10_secondOf 2 (some .int) 1 := ⟨wd973, wd974, wd975, wd5, wd976, by decide +kernel⟩
theorem fg_X10_155 : k_fg RX10 155 10 63 := ⟨RX10, TX10, 122, tyX10, cl_X10, by decide, wd208⟩
theorem mV_X10_463 : k_mv RX10 463 RX10 yX10_trustsOf cX10_trustsOf 2 (some .int) 1 := ⟨wd813, wd814, wd815, wd5, wd816, by decide +kernel⟩
theorem fg_X10_152 : k_fg RX10 152 10 62 := ⟨RX10, TX10, 122, tyX10, cl_X10, by decide, wd207⟩
theorem fp_X10_466 : k_fl RX10 466 10 70 false .boolean := ⟨RX10, TX10, 122, tyX10, cl_X10, by decide, wd965, rfl, tyX10_ok 70 (by decide), fun h => by cases h⟩
theorem fg_X10_170 : k_fg RX10 170 10 68 := ⟨RX10, TX10, 122, tyX10, cl_X10, by decide, wd213⟩
theorem fp_X10_469 : k_fl RX10 469 10 74 false .int := ⟨RX10, TX10, 122, tyX10, cl_X10, by decide, wd981, rfl, tyX10_ok 74 (by decide), fun h => by cases h⟩
theorem fg_X10_466 : k_fg RX10 466 10 70 := ⟨RX10, TX10, 122, tyX10, cl_X10, by decide, wd965⟩
theorem fp_X10_472 : k_fl RX10 472 10 73 false .boolean := ⟨RX10, TX10, 122, tyX10, cl_X10, by decide, wd968, rfl, tyX10_ok 73 (by decide), fun h => by cases h⟩
theorem fg_X10_472 : k_fg RX10 472 10 73 := ⟨RX10, TX10, 122, tyX10, cl_X10, by decide, wd968⟩
theorem fg_X10_475 : k_fg RX10 475 10 72 := ⟨RX10, TX10, 122, tyX10, cl_X10, by decide, wd967⟩
theorem fg_X10_478 : k_fg RX10 478 10 71 := ⟨RX10, TX10, 122, tyX10, cl_X10, by decide, wd966⟩
theorem fp_X10_475 : k_fl RX10 475 10 72 false .int := ⟨RX10, TX10, 122, tyX10, cl_X10, by decide, wd967, rfl, tyX10_ok 72 (by decide), fun h => by cases h⟩
theorem fp_X10_478 : k_fl RX10 478 10 71 false .int := ⟨RX10, TX10, 122, tyX10, cl_X10, by decide, wd966, rfl, tyX10_ok 71 (by decide), fun h => by cases h⟩
theorem mV_X10_481 : k_mv RX10 481 RX10 yX10_paceOf cX10_paceOf 2 (some .int) 1 := ⟨wd945, wd946, wd947, wd5, wd948, by decide +kernel⟩
theorem fg_X10_469 : k_fg RX10 469 10 74 := ⟨RX10, TX10, 122, tyX10, cl_X10, by decide, wd981⟩
theorem fg_X10_158 : k_fg RX10 158 10 64 := ⟨RX10, TX10, 122, tyX10, cl_X10, by decide, wd209⟩
theorem fg_X10_173 : k_fg RX10 173 10 69 := ⟨RX10, TX10, 122, tyX10, cl_X10, by decide, wd214⟩
theorem fg_X10_161 : k_fg RX10 161 10 65 := ⟨RX10, TX10, 122, tyX10, cl_X10, by decide, wd210⟩
theorem fg_X10_164 : k_fg RX10 164 10 66 := ⟨RX10, TX10, 122, tyX10, cl_X10, by decide, wd211⟩
theorem fg_X10_167 : k_fg RX10 167 10 67 := ⟨RX10, TX10, 122, tyX10, cl_X10, by decide, wd212⟩
theorem mV_X10_484 : k_mv RX10 484 RX10 yX10_isHarmed cX10_isHarmed 3 (some .boolean) 2 := ⟨wd986, wd987, wd988, wd5, wd989, by decide +kernel⟩
theorem fg_X10_488 : k_fg RX10 488 10 59 := ⟨RX10, TX10, 122, tyX10, cl_X10, by decide, wd944⟩
theorem fp_X10_488 : k_fl RX10 488 10 59 false .int := ⟨RX10, TX10, 122, tyX10, cl_X10, by decide, wd944, rfl, tyX10_ok 59 (by decide), fun h => by cases h⟩
theorem mV_X10_491 : k_mv RX10 491 RX10 yX10_arrive cX10_arrive 4 none 2 := ⟨wd969, wd970, wd971, wd5, wd972, by decide +kernel⟩
theorem mV_X10_494 : k_mv RX10 494 RX10 yX10_isLit cX10_isLit 5 (some .boolean) 3 := ⟨wd977, wd978, wd979, wd5, wd980, by decide +kernel⟩
theorem mV_X10_497 : k_mv RX10 497 RX10 yX10_acts cX10_acts 4 none 3 := ⟨wd982, wd983, wd984, wd5, wd985, by decide +kernel⟩
theorem mV_X10_501 : k_mv RX10 501 RX10 yX10_laysCars cX10_laysCars 2 none 0 := ⟨wd926, wd927, wd928, wd5, wd929, by decide +kernel⟩
theorem mV_X10_504 : k_mv RX10 504 RX10 yX10_dayBy cX10_dayBy 7 none 4 := ⟨wd961, wd962, wd963, wd5, wd964, by decide +kernel⟩
theorem mV_X10_508 : k_mv RX10 508 RX10 yX10_waitedAll cX10_waitedAll 3 (some .int) 0 := ⟨wd1050, wd1051, wd1052, wd5, wd1053, by decide +kernel⟩
theorem mS_X10_511 : k_ms RX10 511 yX10_counted cX10_counted 4 (some .int) 2 := ⟨wd1054, wd1055, wd5, wd1056, by decide +kernel⟩
theorem mV_X10_515 : k_mv RX10 515 RX10 yX10_notCrossed cX10_notCrossed 3 (some .int) 0 := ⟨wd1057, wd1058, wd1059, wd5, wd1060, by decide +kernel⟩
theorem mV_X10_518 : k_mv RX10 518 RX10 yX10_forNobody cX10_forNobody 4 (some .int) 0 := ⟨wd1061, wd1062, wd1063, wd5, wd1064, by decide +kernel⟩
theorem mV_X10_523 : k_mv RX10 523 RX10 yX10_learn cX10_learn 6 none 1 := ⟨wd1170, wd1171, wd1172, wd5, wd1173, by decide +kernel⟩
theorem fg_X10_142 : k_fg RX10 142 10 57 := ⟨RX10, TX10, 122, tyX10, cl_X10, by decide, wd203⟩
theorem fg_X10_417 : k_fg RX10 417 10 54 := ⟨RX10, TX10, 122, tyX10, cl_X10, by decide, wd735⟩
theorem fg_X10_427 : k_fg RX10 427 10 75 := ⟨RX10, TX10, 122, tyX10, cl_X10, by decide, wd738⟩
theorem fg_X10_424 : k_fg RX10 424 10 82 := ⟨RX10, TX10, 122, tyX10, cl_X10, by decide, wd737⟩
theorem mV_X10_528 : k_mv RX10 528 RX10 yX10_isKind cX10_isKind 2 (some .boolean) 1 := ⟨wd805, wd806, wd807, wd5, wd808, by decide +kernel⟩
theorem mV_X10_531 : k_mv RX10 531 RX10 yX10_isWalker cX10_isWalker 2 (some .boolean) 1 := ⟨wd918, wd919, wd920, wd5, wd921, by decide +kernel⟩
theorem mV_X10_534 : k_mv RX10 534 RX10 yX10_dayNow cX10_dayNow 1 none 0 := ⟨wd922, wd923, wd924, wd5, wd925, by decide +kernel⟩
theorem mV_X10_541 : k_mv RX10 541 RX10 yX10_toldOfDay cX10_toldOfDay 2 (some .int) 1 := ⟨wd1046, wd1047, wd1048, wd5, wd1049, by decide +kernel⟩
theorem mV_X10_548 : k_mv RX10 548 RX10 yX10_isGreenLong cX10_isGreenLong 3 (some .boolean) 2 := ⟨wd1090, wd1091, wd1092, wd5, wd1093, by decide +kernel⟩
theorem mS_X10_551 : k_ms RX10 551 yX10_bits cX10_bits 3 (some .int) 1 := ⟨wd1128, wd1129, wd5, wd1130, by decide +kernel⟩
theorem mV_X10_554 : k_mv RX10 554 RX10 yX10_isAhead cX10_isAhead 4 (some .boolean) 3 := ⟨wd1158, wd1159, wd1160, wd5, wd1161, by decide +kernel⟩
theorem mV_X10_557 : k_mv RX10 557 RX10 yX10_putsAside cX10_putsAside 2 none 0 := ⟨wd1162, wd1163, wd1164, wd5, wd1165, by decide +kernel⟩
theorem mV_X10_560 : k_mv RX10 560 RX10 yX10_dayGoes cX10_dayGoes 3 (some .int) 1 := ⟨wd1166, wd1167, wd1168, wd5, wd1169, by decide +kernel⟩
theorem mV_X10_563 : k_mv RX10 563 RX10 yX10_takesBack cX10_takesBack 2 none 0 := ⟨wd1175, wd1176, wd1177, wd5, wd1178, by decide +kernel⟩
theorem mV_X10_567 : k_mv RX10 567 RX10 yX10_refuses cX10_refuses 2 (some .int) 1 := ⟨wd1207, wd1208, wd1209, wd5, wd1210, by decide +kernel⟩
theorem fg_X10_176 : k_fg RX10 176 10 76 := ⟨RX10, TX10, 122, tyX10, cl_X10, by decide, wd215⟩
theorem fp_X10_570 : k_fl RX10 570 10 78 false .int := ⟨RX10, TX10, 122, tyX10, cl_X10, by decide, wd1247, rfl, tyX10_ok 78 (by decide), fun h => by cases h⟩
theorem fp_X10_573 : k_fl RX10 573 10 79 false .int := ⟨RX10, TX10, 122, tyX10, cl_X10, by decide, wd1248, rfl, tyX10_ok 79 (by decide), fun h => by cases h⟩
theorem fp_X10_576 : k_fl RX10 576 10 80 false .int := ⟨RX10, TX10, 122, tyX10, cl_X10, by decide, wd1249, rfl, tyX10_ok 80 (by decide), fun h => by cases h⟩
theorem mV_X10_579 : k_mv RX10 579 RX10 yX10_isAsSeen cX10_isAsSeen 2 (some .boolean) 0 := ⟨wd1254, wd1255, wd1256, wd5, wd1257, by decide +kernel⟩
theorem fg_X10_179 : k_fg RX10 179 10 77 := ⟨RX10, TX10, 122, tyX10, cl_X10, by decide, wd216⟩
theorem fg_X10_570 : k_fg RX10 570 10 78 := ⟨RX10, TX10, 122, tyX10, cl_X10, by decide, wd1247⟩
theorem fg_X10_573 : k_fg RX10 573 10 79 := ⟨RX10, TX10, 122, tyX10, cl_X10, by decide, wd1248⟩
theorem fg_X10_576 : k_fg RX10 576 10 80 := ⟨RX10, TX10, 122, tyX10, cl_X10, by decide, wd1249⟩
theorem mV_X10_582 : k_mv RX10 582 RX10 yX10_laysFits cX10_laysFits 4 none 0 := ⟨wd1250, wd1251, wd1252, wd5, wd1253, by decide +kernel⟩
theorem mV_X10_585 : k_mv RX10 585 RX10 yX10_mostAlike cX10_mostAlike 6 (some .int) 1 := ⟨wd1268, wd1269, wd1270, wd5, wd1271, by decide +kernel⟩
theorem fg_X10_588 : k_fg RX10 588 10 83 := ⟨RX10, TX10, 122, tyX10, cl_X10, by decide, wd1298⟩
theorem fp_X10_588 : k_fl RX10 588 10 83 false .int := ⟨RX10, TX10, 122, tyX10, cl_X10, by decide, wd1298, rfl, tyX10_ok 83 (by decide), fun h => by cases h⟩
theorem fg_X10_182 : k_fg RX10 182 10 81 := ⟨RX10, TX10, 122, tyX10, cl_X10, by decide, wd217⟩
theorem mV_X10_591 : k_mv RX10 591 RX10 yX10_isRefused cX10_isRefused 1 (some .boolean) 0 := ⟨wd1290, wd1291, wd1292, wd5, wd1293, by decide +kernel⟩
theorem mV_X10_594 : k_mv RX10 594 RX10 yX10_keeps cX10_keeps 2 none 0 := ⟨wd1294, wd1295, wd1296, wd5, wd1297, by decide +kernel⟩
theorem fg_X10_185 : k_fg RX10 185 10 84 := ⟨RX10, TX10, 122, tyX10, cl_X10, by decide, wd218⟩
theorem mV_X10_605 : k_mv RX10 605 RX10 yX10_drawOf cX10_drawOf 2 (some .int) 1 := ⟨wd1351, wd1352, wd1353, wd5, wd1354, by decide +kernel⟩
theorem fg_X10_421 : k_fg RX10 421 10 48 := ⟨RX10, TX10, 122, tyX10, cl_X10, by decide, wd736⟩
theorem fg_X10_375 : k_fg RX10 375 10 114 := ⟨RX10, TX10, 122, tyX10, cl_X10, by decide, wd647⟩
theorem fg_X10_267 : k_fg RX10 267 10 112 := ⟨RX10, TX10, 122, tyX10, cl_X10, by decide, wd245⟩
theorem fg_X10_372 : k_fg RX10 372 10 113 := ⟨RX10, TX10, 122, tyX10, cl_X10, by decide, wd646⟩
theorem mV_X10_608 : k_mv RX10 608 RX10 yX10_qCode cX10_qCode 2 none 1 := ⟨wd680, wd681, wd682, wd5, wd683, by decide +kernel⟩
theorem fg_X10_378 : k_fg RX10 378 10 115 := ⟨RX10, TX10, 122, tyX10, cl_X10, by decide, wd648⟩
theorem mS_X10_611 : k_ms RX10 611 yX10_qIsBracket cX10_qIsBracket 1 (some .boolean) 1 := ⟨wd700, wd701, wd5, wd702, by decide +kernel⟩
theorem mV_X10_614 : k_mv RX10 614 RX10 yX10_qDrops cX10_qDrops 1 none 0 := ⟨wd688, wd689, wd690, wd5, wd691, by decide +kernel⟩
theorem fg_X10_225 : k_fg RX10 225 10 97 := ⟨RX10, TX10, 122, tyX10, cl_X10, by decide, wd231⟩
theorem fg_X10_228 : k_fg RX10 228 10 98 := ⟨RX10, TX10, 122, tyX10, cl_X10, by decide, wd232⟩
theorem fg_X10_231 : k_fg RX10 231 10 99 := ⟨RX10, TX10, 122, tyX10, cl_X10, by decide, wd233⟩
theorem fg_X10_234 : k_fg RX10 234 10 100 := ⟨RX10, TX10, 122, tyX10, cl_X10, by decide, wd234⟩
theorem fg_X10_237 : k_fg RX10 237 10 101 := ⟨RX10, TX10, 122, tyX10, cl_X10, by decide, wd235⟩
theorem fg_X10_240 : k_fg RX10 240 10 102 := ⟨RX10, TX10, 122, tyX10, cl_X10, by decide, wd236⟩
theorem fg_X10_243 : k_fg RX10 243 10 103 := ⟨RX10, TX10, 122, tyX10, cl_X10, by decide, wd237⟩
theorem fg_X10_246 : k_fg RX10 246 10 104 := ⟨RX10, TX10, 122, tyX10, cl_X10, by decide, wd238⟩
theorem fg_X10_249 : k_fg RX10 249 10 105 := ⟨RX10, TX10, 122, tyX10, cl_X10, by decide, wd239⟩
theorem fg_X10_252 : k_fg RX10 252 10 106 := ⟨RX10, TX10, 122, tyX10, cl_X10, by decide, wd240⟩
theorem fg_X10_255 : k_fg RX10 255 10 107 := ⟨RX10, TX10, 122, tyX10, cl_X10, by decide, wd241⟩
theorem fg_X10_258 : k_fg RX10 258 10 108 := ⟨RX10, TX10, 122, tyX10, cl_X10, by decide, wd242⟩
theorem fg_X10_261 : k_fg RX10 261 10 109 := ⟨RX10, TX10, 122, tyX10, cl_X10, by decide, wd243⟩
theorem mV_X10_617 : k_mv RX10 617 RX10 yX10_qWordHere cX10_qWordHere 1 (some .int) 0 := ⟨wd661, wd662, wd663, wd5, wd664, by decide +kernel⟩
theorem mV_X10_620 : k_mv RX10 620 RX10 yX10_isAllowed cX10_isAllowed 2 (some .boolean) 1 := ⟨wd665, wd666, wd667, wd5, wd668, by decide +kernel⟩
theorem mV_X10_623 : k_mv RX10 623 RX10 yX10_qWordOf cX10_qWordOf 4 (some .int) 2 := ⟨wd657, wd658, wd659, wd5, wd660, by decide +kernel⟩
theorem mV_X10_626 : k_mv RX10 626 RX10 yX10_qOpens cX10_qOpens 3 none 2 := ⟨wd672, wd673, wd674, wd5, wd675, by decide +kernel⟩
theorem fg_X10_219 : k_fg RX10 219 10 95 := ⟨RX10, TX10, 122, tyX10, cl_X10, by decide, wd229⟩
theorem fg_X10_222 : k_fg RX10 222 10 96 := ⟨RX10, TX10, 122, tyX10, cl_X10, by decide, wd230⟩
theorem mV_X10_629 : k_mv RX10 629 RX10 yX10_qAsksWord cX10_qAsksWord 2 none 1 := ⟨wd676, wd677, wd678, wd5, wd679, by decide +kernel⟩
theorem mV_X10_632 : k_mv RX10 632 RX10 yX10_qEndsPart cX10_qEndsPart 1 none 0 := ⟨wd684, wd685, wd686, wd5, wd687, by decide +kernel⟩
theorem mV_X10_635 : k_mv RX10 635 RX10 yX10_qBracket cX10_qBracket 2 (some .int) 0 := ⟨wd696, wd697, wd698, wd5, wd699, by decide +kernel⟩
theorem mV_X10_638 : k_mv RX10 638 RX10 yX10_qDropsToBracket cX10_qDropsToBracket 1 none 0 := ⟨wd703, wd704, wd705, wd5, wd706, by decide +kernel⟩
theorem mV_X10_641 : k_mv RX10 641 RX10 yX10_qIsOn cX10_qIsOn 2 (some .boolean) 1 := ⟨wd707, wd708, wd709, wd5, wd710, by decide +kernel⟩
theorem mV_X10_644 : k_mv RX10 644 RX10 yX10_qPartTold cX10_qPartTold 6 none 0 := ⟨wd653, wd654, wd655, wd5, wd656, by decide +kernel⟩
theorem mV_X10_647 : k_mv RX10 647 RX10 yX10_qGoesOn cX10_qGoesOn 2 (some .boolean) 0 := ⟨wd692, wd693, wd694, wd5, wd695, by decide +kernel⟩
theorem fg_X10_216 : k_fg RX10 216 10 94 := ⟨RX10, TX10, 122, tyX10, cl_X10, by decide, wd228⟩
theorem fg_X10_207 : k_fg RX10 207 10 91 := ⟨RX10, TX10, 122, tyX10, cl_X10, by decide, wd225⟩
theorem mV_X10_650 : k_mv RX10 650 RX10 yX10_qFact cX10_qFact 2 none 0 := ⟨wd715, wd716, wd717, wd5, wd718, by decide +kernel⟩
theorem mV_X10_653 : k_mv RX10 653 RX10 yX10_qDropsNots cX10_qDropsNots 1 none 0 := ⟨wd719, wd720, wd721, wd5, wd722, by decide +kernel⟩
theorem mV_X10_656 : k_mv RX10 656 RX10 yX10_qGoesOnTest cX10_qGoesOnTest 1 (some .boolean) 0 := ⟨wd723, wd724, wd725, wd5, wd726, by decide +kernel⟩
theorem mV_X10_659 : k_mv RX10 659 RX10 yX10_qHasSquare cX10_qHasSquare 2 (some .boolean) 0 := ⟨wd727, wd728, wd729, wd5, wd730, by decide +kernel⟩
theorem fg_X10_210 : k_fg RX10 210 10 92 := ⟨RX10, TX10, 122, tyX10, cl_X10, by decide, wd226⟩
theorem fg_X10_213 : k_fg RX10 213 10 93 := ⟨RX10, TX10, 122, tyX10, cl_X10, by decide, wd227⟩
theorem mS_X10_666 : k_ms RX10 666 yX10_qClip cX10_qClip 2 (some .long) 1 := ⟨wd953, wd954, wd5, wd955, by decide +kernel⟩
theorem mS_X10_670 : k_ms RX10 670 yX10_qFloor cX10_qFloor 6 (some .long) 2 := ⟨wd958, wd959, wd5, wd960, by decide +kernel⟩
theorem fg_X10_454 : k_fg RX10 454 10 58 := ⟨RX10, TX10, 122, tyX10, cl_X10, by decide, wd930⟩
theorem mV_X10_674 : k_mv RX10 674 RX10 yX10_qOf cX10_qOf 5 (some .long) 3 := ⟨wd1416, wd1417, wd1418, wd5, wd1419, by decide +kernel⟩
theorem fg_X10_189 : k_fg RX10 189 10 85 := ⟨RX10, TX10, 122, tyX10, cl_X10, by decide, wd219⟩
theorem fg_X10_192 : k_fg RX10 192 10 86 := ⟨RX10, TX10, 122, tyX10, cl_X10, by decide, wd220⟩
theorem fg_X10_195 : k_fg RX10 195 10 87 := ⟨RX10, TX10, 122, tyX10, cl_X10, by decide, wd221⟩
theorem fg_X10_198 : k_fg RX10 198 10 88 := ⟨RX10, TX10, 122, tyX10, cl_X10, by decide, wd222⟩
theorem fg_X10_201 : k_fg RX10 201 10 89 := ⟨RX10, TX10, 122, tyX10, cl_X10, by decide, wd223⟩
theorem fg_X10_204 : k_fg RX10 204 10 90 := ⟨RX10, TX10, 122, tyX10, cl_X10, by decide, wd224⟩
theorem fg_X10_678 : k_fg RX10 678 10 118 := ⟨RX10, TX10, 122, tyX10, cl_X10, by decide, wd1406⟩
theorem fp_X10_678 : k_fl RX10 678 10 118 false .long := ⟨RX10, TX10, 122, tyX10, cl_X10, by decide, wd1406, rfl, tyX10_ok 118 (by decide), fun h => by cases h⟩
theorem fg_X10_683 : k_fg RX10 683 10 119 := ⟨RX10, TX10, 122, tyX10, cl_X10, by decide, wd1407⟩
theorem fp_X10_683 : k_fl RX10 683 10 119 false .boolean := ⟨RX10, TX10, 122, tyX10, cl_X10, by decide, wd1407, rfl, tyX10_ok 119 (by decide), fun h => by cases h⟩
theorem mV_X10_688 : k_mv RX10 688 RX10 yX10_qKind cX10_qKind 2 (some .int) 0 := ⟨wd1408, wd1409, wd1410, wd5, wd1411, by decide +kernel⟩
theorem mV_X10_691 : k_mv RX10 691 RX10 yX10_qTold cX10_qTold 4 (some .long) 1 := ⟨wd1412, wd1413, wd1414, wd5, wd1415, by decide +kernel⟩
theorem mV_X10_695 : k_mv RX10 695 RX10 yX10_qTakes cX10_qTakes 6 none 3 := ⟨wd1420, wd1421, wd1422, wd5, wd1423, by decide +kernel⟩
theorem fg_X10_273 : k_fg RX10 273 10 120 := ⟨RX10, TX10, 122, tyX10, cl_X10, by decide, wd247⟩
theorem fg_X10_699 : k_fg RX10 699 10 121 := ⟨RX10, TX10, 122, tyX10, cl_X10, by decide, wd1435⟩
theorem fp_X10_699 : k_fl RX10 699 10 121 false .int := ⟨RX10, TX10, 122, tyX10, cl_X10, by decide, wd1435, rfl, tyX10_ok 121 (by decide), fun h => by cases h⟩
theorem mV_X10_702 : k_mv RX10 702 RX10 yX10_writes cX10_writes 2 none 1 := ⟨wd1436, wd1437, wd1438, wd5, wd1439, by decide +kernel⟩
theorem mS_X10_705 : k_ms RX10 705 yX10_checked cX10_checked 4 (some .int) 2 := ⟨wd1440, wd1441, wd5, wd1442, by decide +kernel⟩
theorem mV_X10_709 : k_mv RX10 709 RX10 yX10_isImage cX10_isImage 3 (some .boolean) 1 := ⟨wd1464, wd1465, wd1466, wd5, wd1467, by decide +kernel⟩
end
section
/-! mghost -/
/-! codes and the pile: what a code takes and leaves -/
def stp (c : Int32) (d e : Nat) : Prop := if 1000 ≤ c.toInt then e = d + 1 else if 60 ≤ c.toInt then 1 ≤ d ∧ e = d else if 40 ≤ c.toInt then e = d + 1 else if c = 13 then e = d + 1 else if c = 12 then 1 ≤ d ∧ e = d else 2 ≤ d ∧ e + 1 = d
def wfs (f : Nat → Int32) (a : Nat) : Nat → Nat → Prop
  | 0, d => d = 0
  | n + 1, d => ∃ e, wfs f a n e ∧ stp (f (a + n)) e d
theorem stp_det {c : Int32} {d e e' : Nat} (h : stp c d e) (h' : stp c d e') : e = e' := by
  unfold stp at h h'
  split at h
  · rw [if_pos (by assumption)] at h'; omega
  · rw [if_neg (by assumption)] at h'
    split at h
    · rw [if_pos (by assumption)] at h'; omega
    · rw [if_neg (by assumption)] at h'
      split at h
      · rw [if_pos (by assumption)] at h'; omega
      · rw [if_neg (by assumption)] at h'
        split at h
        · rw [if_pos (by assumption)] at h'; omega
        · rw [if_neg (by assumption)] at h'
          split at h
          · rw [if_pos (by assumption)] at h'; omega
          · rw [if_neg (by assumption)] at h'; omega
theorem stp_push {c : Int32} {d e : Nat} (h : stp c d e) (hc : 40 ≤ c.toInt ∨ c = 13) : e ≤ d + 1 := by
  unfold stp at h
  have e13 : (13 : Int32).toInt = 13 := by decide
  split at h
  · omega
  · split at h
    · omega
    · split at h
      · omega
      · split at h
        · omega
        · rcases hc with hc | hc
          · omega
          · exact absurd hc (by assumption)
theorem stp_of {c : Int32} {d e : Nat} (h : stp c d e) (h1 : c.toInt < 1000) (h2 : 60 ≤ c.toInt) : 1 ≤ d ∧ e = d := by
  unfold stp at h
  rw [if_neg (by omega), if_pos h2] at h
  exact h
theorem stp_not {c : Int32} {d e : Nat} (h : stp c d e) (hc : c = 12) : 1 ≤ d ∧ e = d := by
  subst hc
  exact h
theorem stp_join {c : Int32} {d e : Nat} (h : stp c d e) (h1 : c.toInt < 40) (h2 : ¬ c = 13) (h3 : ¬ c = 12) : 2 ≤ d ∧ e + 1 = d := by
  unfold stp at h
  rw [if_neg (by omega), if_neg (by omega), if_neg (by omega), if_neg h2, if_neg h3] at h
  exact h
theorem wfs_det {f : Nat → Int32} {a : Nat} : ∀ {n d e : Nat}, wfs f a n d → wfs f a n e → d = e
  | 0, d, e, h, h' => by have h : d = 0 := h; have h' : e = 0 := h'; omega
  | n + 1, d, e, h, h' => by
    obtain ⟨x, h1, h2⟩ := h
    obtain ⟨y, h3, h4⟩ := h'
    have := wfs_det h1 h3
    subst this
    exact stp_det h2 h4
theorem wfs_pre {f : Nat → Int32} {a n : Nat} : ∀ {m D : Nat}, wfs f a (n + m) D → ∃ d, wfs f a n d
  | 0, D, h => ⟨D, h⟩
  | m + 1, D, h => by
    obtain ⟨x, h1, -⟩ := h
    exact wfs_pre h1
theorem wfs_congr {f g : Nat → Int32} {a b : Nat} : ∀ {n d : Nat}, (∀ i, i < n → g (b + i) = f (a + i)) → wfs f a n d → wfs g b n d
  | 0, d, _, h => h
  | n + 1, d, hc, h => by
    obtain ⟨x, h1, h2⟩ := h
    exact ⟨x, wfs_congr (fun i hi => hc i (Nat.lt_succ_of_lt hi)) h1, by rw [hc n (Nat.lt_succ_self n)]; exact h2⟩
/-- a stretch of codes that can be worked out, without part 7 unless it may be -/
def okc (f : Nat → Int32) (o : Nat) (red : Bool) (a b : Int32) : Prop := (∃ D, wfs f (o + a.toInt.toNat) (b.toInt.toNat - a.toInt.toNat) D) ∧ (red = false → ∀ i : Nat, a.toInt.toNat ≤ i → i < b.toInt.toNat → ¬ f (o + i) = 47)
def cdl (f : Nat → Int32) (o : Nat) (a k q : Int32) : Prop := a.toInt ≤ k.toInt ∧ ∃ d, wfs f (o + a.toInt.toNat) (k.toInt.toNat - a.toInt.toNat) d ∧ (d : Int) ≤ q.toInt
def cdm (f : Nat → Int32) (o : Nat) (a k q : Int32) : Prop := a.toInt ≤ k.toInt ∧ ∃ d, wfs f (o + a.toInt.toNat) (k.toInt.toNat + 1 - a.toInt.toNat) d ∧ (d : Int) ≤ q.toInt
theorem cdl_0 (f : Nat → Int32) (o : Nat) (a : Int32) : cdl f o a a 0 := by
  refine ⟨Int.le_refl _, 0, ?_, by decide⟩
  rw [Nat.sub_self]
  rfl
theorem cdl_code {f : Nat → Int32} {o : Nat} {red : Bool} {a b k q z : Int32} (hok : okc f o red a b) (hg : cdl f o a k q) (ha : 0 ≤ a.toInt) (hk : k.toInt < b.toInt) (hc : f (o + k.toInt.toNat) = z) : ∃ d e : Nat, (d : Int) ≤ q.toInt ∧ stp z d e ∧ wfs f (o + a.toInt.toNat) (k.toInt.toNat + 1 - a.toInt.toNat) e := by
  obtain ⟨⟨D, hD⟩, -⟩ := hok
  obtain ⟨hak, d, hd, hq⟩ := hg
  have e1 : b.toInt.toNat - a.toInt.toNat = (k.toInt.toNat - a.toInt.toNat + 1) + (b.toInt.toNat - k.toInt.toNat - 1) := by omega
  rw [e1] at hD
  obtain ⟨e, he⟩ := wfs_pre hD
  obtain ⟨d', h1, h2⟩ := he
  have := wfs_det hd h1
  subst this
  have e2 : o + a.toInt.toNat + (k.toInt.toNat - a.toInt.toNat) = o + k.toInt.toNat := by omega
  rw [e2, hc] at h2
  refine ⟨d, e, hq, h2, ?_⟩
  have e3 : k.toInt.toNat + 1 - a.toInt.toNat = (k.toInt.toNat - a.toInt.toNat) + 1 := by omega
  rw [e3]
  exact ⟨d, hd, by rw [e2, hc]; exact h2⟩
theorem cdl_ge1 {f : Nat → Int32} {o : Nat} {red : Bool} {a b k q z : Int32} (hok : okc f o red a b) (hg : cdl f o a k q) (ha : 0 ≤ a.toInt) (hk : k.toInt < b.toInt) (hc : f (o + k.toInt.toNat) = z) (h : z = 12 ∨ (z.toInt < 1000 ∧ 60 ≤ z.toInt)) : 1 ≤ q.toInt := by
  obtain ⟨d, e, h1, h2, -⟩ := cdl_code hok hg ha hk hc
  rcases h with h | h
  · have := stp_not h2 h; omega
  · have := stp_of h2 h.1 h.2; omega
theorem cdl_ge2 {f : Nat → Int32} {o : Nat} {red : Bool} {a b k q z : Int32} (hok : okc f o red a b) (hg : cdl f o a k q) (ha : 0 ≤ a.toInt) (hk : k.toInt < b.toInt) (hc : f (o + k.toInt.toNat) = z) (h : z.toInt < 40) (h2 : ¬ z = 13) (h3 : ¬ z = 12) : 2 ≤ q.toInt := by
  obtain ⟨d, e, h1, h4, -⟩ := cdl_code hok hg ha hk hc
  have := stp_join h4 h h2 h3
  omega
theorem cdm_push {f : Nat → Int32} {o : Nat} {red : Bool} {a b k q z q' : Int32} (hok : okc f o red a b) (hg : cdl f o a k q) (ha : 0 ≤ a.toInt) (hk : k.toInt < b.toInt) (hc : f (o + k.toInt.toNat) = z) (h : 40 ≤ z.toInt ∨ z = 13) (hq : q'.toInt = q.toInt + 1) : cdm f o a k q' := by
  obtain ⟨d, e, h1, h2, h3⟩ := cdl_code hok hg ha hk hc
  have := stp_push h2 h
  exact ⟨hg.1, e, h3, by omega⟩
theorem cdm_same {f : Nat → Int32} {o : Nat} {red : Bool} {a b k q z : Int32} (hok : okc f o red a b) (hg : cdl f o a k q) (ha : 0 ≤ a.toInt) (hk : k.toInt < b.toInt) (hc : f (o + k.toInt.toNat) = z) (h : z = 12 ∨ (z.toInt < 1000 ∧ 60 ≤ z.toInt)) : cdm f o a k q := by
  obtain ⟨d, e, h1, h2, h3⟩ := cdl_code hok hg ha hk hc
  rcases h with h | h
  · have := stp_not h2 h
    exact ⟨hg.1, e, h3, by omega⟩
  · have := stp_of h2 h.1 h.2
    exact ⟨hg.1, e, h3, by omega⟩
theorem cdm_join {f : Nat → Int32} {o : Nat} {red : Bool} {a b k q z q' : Int32} (hok : okc f o red a b) (hg : cdl f o a k q) (ha : 0 ≤ a.toInt) (hk : k.toInt < b.toInt) (hc : f (o + k.toInt.toNat) = z) (h : z.toInt < 40) (h2 : ¬ z = 13) (h3 : ¬ z = 12) (hq : q'.toInt = q.toInt - 1) : cdm f o a k q' := by
  obtain ⟨d, e, h1, h4, h5⟩ := cdl_code hok hg ha hk hc
  have := stp_join h4 h h2 h3
  exact ⟨hg.1, e, h5, by omega⟩
theorem cdl_next {f : Nat → Int32} {o : Nat} {a k k' q : Int32} (h : cdm f o a k q) (ha : 0 ≤ a.toInt) (hk : k'.toInt = k.toInt + (1 : Int32).toInt) : cdl f o a k' q := by
  have e1 : (1 : Int32).toInt = 1 := by decide
  obtain ⟨h1, d, h2, h3⟩ := h
  refine ⟨by omega, d, ?_, h3⟩
  have e : k'.toInt.toNat - a.toInt.toNat = k.toInt.toNat + 1 - a.toInt.toNat := by omega
  rw [e]
  exact h2
theorem okc_47 {f : Nat → Int32} {o : Nat} {a b k z y : Int32} (hok : okc f o false a b) (ha : a.toInt ≤ k.toInt) (h0 : 0 ≤ a.toInt) (hk : k.toInt < b.toInt) (hc : f (o + k.toInt.toNat) = z) (hy : y.toInt = z.toInt - (40 : Int32).toInt) (h7 : y = 7) : False := by
  have e40 : (40 : Int32).toInt = 40 := by decide
  have e7 : (7 : Int32).toInt = 7 := by decide
  have e47 : (47 : Int32).toInt = 47 := by decide
  refine hok.2 rfl k.toInt.toNat (by omega) (by omega) ?_
  rw [hc]
  subst h7
  exact Int32.toInt_inj.mp (by omega)
theorem ldv_lt {x z : Int64} {n : Nat} (e : z = x / 27) (hx : ¬ lg_cmp x 0 ≤ 0) (h : x.toInt.toNat < n + 1) : z.toInt.toNat < n := by
  have h0 : (0 : Int64) < x := (lg_cmp_gt x 0).mp (by
    rw [Int32.lt_iff_toInt_lt]
    rw [Int32.le_iff_toInt_le] at hx
    omega)
  rw [Int64.lt_iff_toInt_lt] at h0
  have e0 : (0 : Int64).toInt = 0 := by decide
  have e27 : (27 : Int64).toInt = 27 := by decide
  have hz : z.toInt = x.toInt.tdiv 27 := by
    rw [e, Int64.toInt_div, e27]
    have l1 := Int64.toInt_lt x
    refine Int.bmod_eq_of_le ?_ ?_
    · have := Int.tdiv_nonneg (a := x.toInt) (b := 27) (by omega) (by decide); omega
    · have := Int.tdiv_le_self (a := x.toInt) 27 (by omega); omega
  have hb : x.toInt.tdiv 27 = x.toInt / 27 := Int.tdiv_eq_ediv_of_nonneg (by omega)
  omega
theorem sd_use2 {f : Nat → Int32} {y : Int32} (h : ∀ j : Nat, 3 * (j : Int) < y.toInt → ib (f (3 * j)) 0 11) (i k : Int32) (hi : i.toInt = 3 * k.toInt) (h0 : 0 ≤ k.toInt) (h1 : 3 * k.toInt < y.toInt) : ib (f (Int32.toNatClampNeg i)) 0 11 := by
  have e : Int32.toNatClampNeg i = 3 * k.toInt.toNat := by
    show i.toInt.toNat = 3 * k.toInt.toNat
    omega
  rw [e]
  exact h _ (by omega)
theorem ib_shl1 {y : Int32} (d : Nat) (h : ib y 0 d) (hd : decide (d ≤ 12) = true) : ib (1 <<< (y &&& 31)) 1 (2 ^ d : Nat) := by
  simp only [decide_eq_true_eq] at hd
  have h1 := h.1
  have h2 := h.2
  have key : ∀ j : Nat, j ≤ 12 → ∀ d : Nat, j ≤ d → d ≤ 12 → ib (1 <<< (nI j &&& 31)) 1 (2 ^ d : Nat) := by
    intro j hj d hjd hd
    have e : ∀ j : Nat, j < 13 → (1 <<< (nI j &&& 31)).toInt = ((2 ^ j : Nat) : Int) := by decide
    rw [ib, e j (by omega)]
    have p1 : 0 < 2 ^ j := Nat.pow_pos (by decide)
    have p2 : 2 ^ j ≤ 2 ^ d := Nat.pow_le_pow_right (by decide) hjd
    omega
  have e : y = nI y.toInt.toNat := Int32.toInt_inj.mp (by rw [nI_toInt (by omega)]; omega)
  rw [e]
  exact key _ (by omega) d (by omega) hd
end
section
/-! gs -/
/-! reading codes: what waits, and how many are done -/
abbrev isb (x : Int32) : Prop := (1 ≤ x.toInt ∧ x.toInt ≤ 4) ∨ (10 ≤ x.toInt ∧ x.toInt ≤ 11) ∨ (23 ≤ x.toInt ∧ x.toInt ≤ 24)
def inS (x : Int32) : Prop := (1 ≤ x.toInt ∧ x.toInt ≤ 4) ∨ (20 ≤ x.toInt ∧ x.toInt ≤ 24) ∨ x.toInt = 60
def inT (x : Int32) : Prop := (10 ≤ x.toInt ∧ x.toInt ≤ 12) ∨ x.toInt = 25
def brk (x : Int32) : Prop := 20 ≤ x.toInt ∧ x.toInt ≤ 24
def bc (w : Nat → Int32) : Nat → Nat
  | 0 => 0
  | m + 1 => bc w m + (if isb (w m) then 1 else 0)
def GS (f : Nat → Int32) (n : Int32) (w : Nat → Int32) (m b t : Int32) (c : Nat) : Prop :=
  0 ≤ n.toInt ∧ 0 ≤ b.toInt ∧ b.toInt ≤ m.toInt ∧ wfs f 0 n.toInt.toNat (bc w m.toInt.toNat + c) ∧ (¬ t = 1 → ∀ i : Nat, i < n.toInt.toNat → ¬ f i = 47) ∧ (∀ i : Nat, i < b.toInt.toNat → inT (w i)) ∧ (∀ i : Nat, b.toInt.toNat ≤ i → i < m.toInt.toNat → inS (w i))
theorem bc_congr {w v : Nat → Int32} : ∀ {m : Nat}, (∀ i, i < m → v i = w i) → bc v m = bc w m
  | 0, _ => rfl
  | m + 1, h => by
    show bc v m + _ = bc w m + _
    rw [bc_congr (fun i hi => h i (Nat.lt_succ_of_lt hi)), h m (Nat.lt_succ_self m)]
theorem upd_lt {w : Nat → Int32} {k : Nat} {x : Int32} : ∀ i, i < k → upd w k x i = w i := fun i hi => pk_un (by omega)
theorem cl_nat {x : Int32} : Int32.toNatClampNeg x = x.toInt.toNat := rfl
theorem wfs_snoc {f : Nat → Int32} {n d e : Nat} {v : Int32} (h : wfs f 0 n d) (hs : stp v d e) : wfs (upd f n v) 0 (n + 1) e := by
  refine ⟨d, wfs_congr (fun i hi => ?_) h, ?_⟩
  · exact upd_lt _ (by omega)
  · rw [Nat.zero_add, pk_us]; exact hs
theorem no47_snoc {f : Nat → Int32} {n : Nat} {v t : Int32} (h : ¬ t = 1 → ∀ i : Nat, i < n → ¬ f i = 47) (hv : ¬ t = 1 → ¬ v = 47) : ¬ t = 1 → ∀ i : Nat, i < n + 1 → ¬ upd f n v i = 47 := by
  intro ht i hi
  by_cases e : i = n
  · subst e; rw [pk_us]; exact hv ht
  · rw [pk_un e]; exact h ht i (by omega)
/-- a code that puts one -/
theorem GS_code {f : Nat → Int32} {n : Int32} {w : Nat → Int32} {m b t : Int32} {c : Nat} {n' v : Int32} (h : GS f n w m b t c) (hn : n'.toInt = n.toInt + 1) (hv : (40 ≤ v.toInt ∧ v.toInt < 60) ∨ 1000 ≤ v.toInt ∨ v.toInt = 13) (h47 : ¬ t = 1 → ¬ v = 47) : GS (upd f (Int32.toNatClampNeg n) v) n' w m b t (c + 1) := by
  obtain ⟨h0, h1, h2, h3, h4, h5, h6⟩ := h
  have e : n'.toInt.toNat = n.toInt.toNat + 1 := by omega
  have e13 : (13 : Int32).toInt = 13 := by decide
  refine ⟨by omega, h1, h2, ?_, ?_, h5, h6⟩
  · rw [e, cl_nat]
    refine wfs_snoc h3 ?_
    unfold stp
    rcases hv with hv | hv | hv
    · rw [if_neg (by omega), if_neg (by omega), if_pos (by omega)]; omega
    · rw [if_pos hv]; omega
    · rw [if_neg (by omega), if_neg (by omega), if_neg (by omega), if_pos (Int32.toInt_inj.mp (by omega))]; omega
  · rw [e, cl_nat]; exact no47_snoc h4 h47
theorem ne47 {v : Int32} (h : ¬ v.toInt = 47) : ¬ v = 47 := fun e => h (by rw [e]; decide)
theorem bc_pop {w : Nat → Int32} {k : Nat} (hk : 0 < k) : bc w k = bc w (k - 1) + (if isb (w (k - 1)) then 1 else 0) := by
  obtain ⟨j, rfl⟩ : ∃ j, k = j + 1 := ⟨k - 1, by omega⟩
  rfl
/-- the last that waits becomes a code -/
theorem drop_wfs {f : Nat → Int32} {n : Nat} {w : Nat → Int32} {k c : Nat} {x : Int32} (hk : 0 < k) (h : wfs f 0 n (bc w k + (c + 1))) (hx : w (k - 1) = x) (hc : (1 ≤ x.toInt ∧ x.toInt ≤ 4) ∨ (10 ≤ x.toInt ∧ x.toInt ≤ 12) ∨ x.toInt = 60) : wfs (upd f n x) 0 (n + 1) (bc w (k - 1) + (c + 1)) := by
  have e12 : (12 : Int32).toInt = 12 := by decide
  have e13 : (13 : Int32).toInt = 13 := by decide
  rw [bc_pop hk, hx] at h
  refine wfs_snoc h ?_
  unfold stp
  by_cases hb : isb x
  · rw [if_pos hb]
    unfold isb at hb
    rw [if_neg (by omega), if_neg (by omega), if_neg (by omega), if_neg (fun e => by rw [e] at hb; omega), if_neg (fun e => by rw [e] at hb; omega)]
    omega
  · rw [if_neg hb]
    unfold isb at hb
    by_cases h6 : x.toInt = 60
    · rw [if_neg (by omega), if_pos (by omega)]; omega
    · rw [if_neg (by omega), if_neg (by omega), if_neg (by omega), if_neg (fun e => by rw [e] at hb hc; omega), if_pos (Int32.toInt_inj.mp (by omega))]; omega
theorem GS_dropS {f : Nat → Int32} {n : Int32} {w : Nat → Int32} {m b t : Int32} {c : Nat} {n' m' x : Int32} (h : GS f n w m b t (c + 1)) (hn : n'.toInt = n.toInt + 1) (hm : m'.toInt = m.toInt - 1) (hb : b.toInt ≤ m'.toInt) (hx : w (Int32.toNatClampNeg m') = x) (hbr : ¬ brk x) : GS (upd f (Int32.toNatClampNeg n) x) n' w m' b t (c + 1) := by
  obtain ⟨h0, h1, h2, h3, h4, h5, h6⟩ := h
  have e : n'.toInt.toNat = n.toInt.toNat + 1 := by omega
  have em : m'.toInt.toNat = m.toInt.toNat - 1 := by omega
  rw [cl_nat, em] at hx
  have hs := h6 (m.toInt.toNat - 1) (by omega) (by omega)
  rw [hx] at hs
  unfold inS at hs
  unfold brk at hbr
  refine ⟨by omega, h1, hb, ?_, ?_, h5, fun i hi hj => h6 i hi (by omega)⟩
  · rw [e, em, cl_nat]; exact drop_wfs (by omega) h3 hx (by omega)
  · rw [e, cl_nat]; exact no47_snoc h4 (fun _ => ne47 (by omega))
theorem GS_dropT {f : Nat → Int32} {n : Int32} {w : Nat → Int32} {m t : Int32} {c : Nat} {n' m' x : Int32} (h : GS f n w m m t (c + 1)) (hn : n'.toInt = n.toInt + 1) (hm : m'.toInt = m.toInt - 1) (hb : 0 ≤ m'.toInt) (hx : w (Int32.toNatClampNeg m') = x) (hbr : ¬ x.toInt = 25) : GS (upd f (Int32.toNatClampNeg n) x) n' w m' m' t (c + 1) := by
  obtain ⟨h0, h1, h2, h3, h4, h5, h6⟩ := h
  have e : n'.toInt.toNat = n.toInt.toNat + 1 := by omega
  have em : m'.toInt.toNat = m.toInt.toNat - 1 := by omega
  rw [cl_nat, em] at hx
  have hs := h5 (m.toInt.toNat - 1) (by omega)
  rw [hx] at hs
  unfold inT at hs
  refine ⟨by omega, hb, Int.le_refl _, ?_, ?_, fun i hi => h5 i (by omega), fun i hi hj => absurd hi (by omega)⟩
  · rw [e, em, cl_nat]; exact drop_wfs (by omega) h3 hx (by omega)
  · rw [e, cl_nat]; exact no47_snoc h4 (fun _ => ne47 (by omega))
/-- one more waits -/
theorem GS_open {f : Nat → Int32} {n : Int32} {w : Nat → Int32} {m b t : Int32} {c : Nat} {m' x : Int32} (h : GS f n w m b t c) (hm : m'.toInt = m.toInt + 1) (hx : (20 ≤ x.toInt ∧ x.toInt ≤ 22) ∨ x.toInt = 60) : GS f n (upd w (Int32.toNatClampNeg m) x) m' b t c := by
  obtain ⟨h0, h1, h2, h3, h4, h5, h6⟩ := h
  have em : m'.toInt.toNat = m.toInt.toNat + 1 := by omega
  rw [cl_nat]
  refine ⟨h0, h1, by omega, ?_, h4, fun i hi => by rw [upd_lt i (by omega)]; exact h5 i hi, fun i hi hj => ?_⟩
  · rw [em]
    have e1 : bc (upd w m.toInt.toNat x) (m.toInt.toNat + 1) = bc w m.toInt.toNat := by
      show bc _ m.toInt.toNat + _ = _
      rw [bc_congr (upd_lt (w := w) (x := x)), pk_us, if_neg (by unfold isb; omega), Nat.add_zero]
    rw [e1]; exact h3
  · by_cases e : i = m.toInt.toNat
    · subst e; rw [pk_us]; unfold inS; omega
    · rw [pk_un e]; exact h6 i hi (by omega)
theorem GS_openT {f : Nat → Int32} {n : Int32} {w : Nat → Int32} {m t : Int32} {c : Nat} {m' x : Int32} (h : GS f n w m m t c) (hm : m'.toInt = m.toInt + 1) (hx : x.toInt = 12 ∨ x.toInt = 25) : GS f n (upd w (Int32.toNatClampNeg m) x) m' m' t c := by
  obtain ⟨h0, h1, h2, h3, h4, h5, h6⟩ := h
  have em : m'.toInt.toNat = m.toInt.toNat + 1 := by omega
  rw [cl_nat]
  refine ⟨h0, by omega, Int.le_refl _, ?_, h4, fun i hi => ?_, fun i hi hj => absurd hi (by omega)⟩
  · rw [em]
    have e1 : bc (upd w m.toInt.toNat x) (m.toInt.toNat + 1) = bc w m.toInt.toNat := by
      show bc _ m.toInt.toNat + _ = _
      rw [bc_congr (upd_lt (w := w) (x := x)), pk_us, if_neg (by unfold isb; omega), Nat.add_zero]
    rw [e1]; exact h3
  · by_cases e : i = m.toInt.toNat
    · subst e; rw [pk_us]; unfold inT; omega
    · rw [pk_un e]; exact h5 i (by omega)
/-- an operation waits behind its first -/
theorem GS_op {f : Nat → Int32} {n : Int32} {w : Nat → Int32} {m b t : Int32} {c : Nat} {m' x : Int32} (h : GS f n w m b t (c + 1)) (hm : m'.toInt = m.toInt + 1) (hx : 1 ≤ x.toInt ∧ x.toInt ≤ 4) : GS f n (upd w (Int32.toNatClampNeg m) x) m' b t c := by
  obtain ⟨h0, h1, h2, h3, h4, h5, h6⟩ := h
  have em : m'.toInt.toNat = m.toInt.toNat + 1 := by omega
  rw [cl_nat]
  refine ⟨h0, h1, by omega, ?_, h4, fun i hi => by rw [upd_lt i (by omega)]; exact h5 i hi, fun i hi hj => ?_⟩
  · rw [em]
    have e1 : bc (upd w m.toInt.toNat x) (m.toInt.toNat + 1) = bc w m.toInt.toNat + 1 := by
      show bc _ m.toInt.toNat + _ = _
      rw [bc_congr (upd_lt (w := w) (x := x)), pk_us, if_pos (by unfold isb; omega)]
    rw [e1, Nat.add_assoc, Nat.add_comm 1 c]; exact h3
  · by_cases e : i = m.toInt.toNat
    · subst e; rw [pk_us]; unfold inS; omega
    · rw [pk_un e]; exact h6 i hi (by omega)
theorem GS_opT {f : Nat → Int32} {n : Int32} {w : Nat → Int32} {m t : Int32} {c : Nat} {m' x : Int32} (h : GS f n w m m t (c + 1)) (hm : m'.toInt = m.toInt + 1) (hx : 10 ≤ x.toInt ∧ x.toInt ≤ 11) : GS f n (upd w (Int32.toNatClampNeg m) x) m' m' t c := by
  obtain ⟨h0, h1, h2, h3, h4, h5, h6⟩ := h
  have em : m'.toInt.toNat = m.toInt.toNat + 1 := by omega
  rw [cl_nat]
  refine ⟨h0, by omega, Int.le_refl _, ?_, h4, fun i hi => ?_, fun i hi hj => absurd hi (by omega)⟩
  · rw [em]
    have e1 : bc (upd w m.toInt.toNat x) (m.toInt.toNat + 1) = bc w m.toInt.toNat + 1 := by
      show bc _ m.toInt.toNat + _ = _
      rw [bc_congr (upd_lt (w := w) (x := x)), pk_us, if_pos (by unfold isb; omega)]
    rw [e1, Nat.add_assoc, Nat.add_comm 1 c]; exact h3
  · by_cases e : i = m.toInt.toNat
    · subst e; rw [pk_us]; unfold inT; omega
    · rw [pk_un e]; exact h5 i (by omega)
/-- a bracket goes -/
theorem GS_pop {f : Nat → Int32} {n : Int32} {w : Nat → Int32} {m b t : Int32} {c : Nat} {m' : Int32} (h : GS f n w m b t (c + 1)) (hm : m'.toInt = m.toInt - 1) (hb : b.toInt ≤ m'.toInt) (hx : (w (Int32.toNatClampNeg m')).toInt = 20) : GS f n w m' b t (c + 1) := by
  obtain ⟨h0, h1, h2, h3, h4, h5, h6⟩ := h
  have em : m'.toInt.toNat = m.toInt.toNat - 1 := by omega
  rw [cl_nat, em] at hx
  refine ⟨h0, h1, hb, ?_, h4, h5, fun i hi hj => h6 i hi (by omega)⟩
  rw [bc_pop (by omega), if_neg (by unfold isb; omega), Nat.add_zero] at h3
  rw [em]; exact h3
theorem GS_popT {f : Nat → Int32} {n : Int32} {w : Nat → Int32} {m t : Int32} {c : Nat} {m' : Int32} (h : GS f n w m m t (c + 1)) (hm : m'.toInt = m.toInt - 1) (hb : 0 ≤ m'.toInt) (hx : (w (Int32.toNatClampNeg m')).toInt = 25) : GS f n w m' m' t (c + 1) := by
  obtain ⟨h0, h1, h2, h3, h4, h5, h6⟩ := h
  have em : m'.toInt.toNat = m.toInt.toNat - 1 := by omega
  rw [cl_nat, em] at hx
  refine ⟨h0, hb, Int.le_refl _, ?_, h4, fun i hi => h5 i (by omega), fun i hi hj => absurd hi (by omega)⟩
  rw [bc_pop (by omega), if_neg (by unfold isb; omega), Nat.add_zero] at h3
  rw [em]; exact h3
/-- least of, most of: behind the second -/
theorem GS_mm {f : Nat → Int32} {n : Int32} {w : Nat → Int32} {m b t : Int32} {c : Nat} {n' m' v : Int32} (h : GS f n w m b t (c + 1)) (hm : m'.toInt = m.toInt - 1) (hb : b.toInt ≤ m'.toInt) (hx : 23 ≤ (w (Int32.toNatClampNeg m')).toInt ∧ (w (Int32.toNatClampNeg m')).toInt ≤ 24) (hn : n'.toInt = n.toInt + 1) (hv : 5 ≤ v.toInt ∧ v.toInt ≤ 6) : GS (upd f (Int32.toNatClampNeg n) v) n' w m' b t (c + 1) := by
  obtain ⟨h0, h1, h2, h3, h4, h5, h6⟩ := h
  have e : n'.toInt.toNat = n.toInt.toNat + 1 := by omega
  have em : m'.toInt.toNat = m.toInt.toNat - 1 := by omega
  have e12 : (12 : Int32).toInt = 12 := by decide
  have e13 : (13 : Int32).toInt = 13 := by decide
  rw [cl_nat, em] at hx
  refine ⟨by omega, h1, hb, ?_, ?_, h5, fun i hi hj => h6 i hi (by omega)⟩
  · rw [bc_pop (by omega), if_pos (by unfold isb; omega)] at h3
    rw [e, em, cl_nat]
    refine wfs_snoc h3 ?_
    unfold stp
    rw [if_neg (by omega), if_neg (by omega), if_neg (by omega), if_neg (fun q => by rw [q] at hv; omega), if_neg (fun q => by rw [q] at hv; omega)]
    omega
  · rw [e, cl_nat]; exact no47_snoc h4 (fun _ => ne47 (by omega))
theorem GS_comma {f : Nat → Int32} {n : Int32} {w : Nat → Int32} {m b t : Int32} {c : Nat} {k x : Int32} (h : GS f n w m b t (c + 1)) (hk : k.toInt = m.toInt - 1) (hb : b.toInt ≤ k.toInt) (hx : 21 ≤ (w (Int32.toNatClampNeg k)).toInt ∧ (w (Int32.toNatClampNeg k)).toInt ≤ 22) (hv : 23 ≤ x.toInt ∧ x.toInt ≤ 24) : GS f n (upd w (Int32.toNatClampNeg k) x) m b t c := by
  obtain ⟨h0, h1, h2, h3, h4, h5, h6⟩ := h
  have em : k.toInt.toNat = m.toInt.toNat - 1 := by omega
  rw [cl_nat, em] at hx
  rw [cl_nat, em]
  refine ⟨h0, h1, h2, ?_, h4, fun i hi => by rw [pk_un (by omega)]; exact h5 i hi, fun i hi hj => ?_⟩
  · rw [bc_pop (by omega), if_neg (by unfold isb; omega), Nat.add_zero] at h3
    rw [bc_pop (by omega), pk_us, if_pos (by unfold isb; omega), bc_congr (upd_lt (w := w) (x := x)), Nat.add_assoc, Nat.add_comm 1 c]
    exact h3
  · by_cases e : i = m.toInt.toNat - 1
    · subst e; rw [pk_us]; unfold inS; omega
    · rw [pk_un e]; exact h6 i hi hj
/-- below, above, same -/
theorem GS_cmp {f : Nat → Int32} {n : Int32} {w : Nat → Int32} {m b t : Int32} {c : Nat} {n' v : Int32} (h : GS f n w m b t (c + 2)) (hn : n'.toInt = n.toInt + 1) (hv : 7 ≤ v.toInt ∧ v.toInt ≤ 9) : GS (upd f (Int32.toNatClampNeg n) v) n' w m b t (c + 1) := by
  obtain ⟨h0, h1, h2, h3, h4, h5, h6⟩ := h
  have e : n'.toInt.toNat = n.toInt.toNat + 1 := by omega
  have e12 : (12 : Int32).toInt = 12 := by decide
  have e13 : (13 : Int32).toInt = 13 := by decide
  refine ⟨by omega, h1, h2, ?_, ?_, h5, h6⟩
  · rw [e, cl_nat]
    refine wfs_snoc h3 ?_
    unfold stp
    rw [if_neg (by omega), if_neg (by omega), if_neg (by omega), if_neg (fun q => by rw [q] at hv; omega), if_neg (fun q => by rw [q] at hv; omega)]
    omega
  · rw [e, cl_nat]; exact no47_snoc h4 (fun _ => ne47 (by omega))
theorem GS_0 (f w : Nat → Int32) (t : Int32) : GS f 0 w 0 0 t 0 := by
  have e0 : (0 : Int32).toInt = 0 := by decide
  refine ⟨by decide, by decide, Int.le_refl _, ?_, fun _ i hi => absurd hi (by rw [e0]; simp), fun i hi => absurd hi (by rw [e0]; simp), fun i hi hj => absurd hj (by rw [e0]; simp)⟩
  rw [e0]
  rfl
/-- the sum at hand is done: nothing waits above its base -/
theorem GS_top {f : Nat → Int32} {n : Int32} {w : Nat → Int32} {m b t m' : Int32} {c : Nat} (h : GS f n w m b t c) (hm : m.toInt ≤ b.toInt) (e : m' = b) : GS f n w m' m' t c := by
  obtain ⟨h0, h1, h2, h3, h4, h5, h6⟩ := h
  have : m = b := Int32.toInt_inj.mp (by omega)
  subst this
  subst e
  exact ⟨h0, h1, Int.le_refl _, h3, h4, h5, fun i hi hj => absurd hj (by omega)⟩
theorem GS_okc {f : Nat → Int32} {n : Int32} {w : Nat → Int32} {m b t : Int32} {c : Nat} (h : GS f n w m b t c) : (∃ D, wfs f 0 n.toInt.toNat D) ∧ (¬ t = 1 → ∀ i : Nat, i < n.toInt.toNat → ¬ f i = 47) := ⟨⟨_, h.2.2.2.1⟩, h.2.2.2.2.1⟩
/-- what qBracket tells -/
def BR (w : Nat → Int32) (m b r : Int32) : Prop := (r = -1 ∧ ∀ i : Nat, b.toInt.toNat ≤ i → i < m.toInt.toNat → ¬ brk (w i)) ∨ (∃ i : Nat, b.toInt.toNat ≤ i ∧ i < m.toInt.toNat ∧ w i = r ∧ brk r ∧ ∀ j : Nat, i < j → j < m.toInt.toNat → ¬ brk (w j))
/-- where qDropsToBracket stops -/
def DB (w : Nat → Int32) (m b m' : Int32) : Prop := ∀ i : Nat, b.toInt.toNat ≤ i → i < m.toInt.toNat → brk (w i) → (∀ j : Nat, i < j → j < m.toInt.toNat → ¬ brk (w j)) → m'.toInt.toNat = i + 1
theorem BR_DB {w : Nat → Int32} {m b r m' : Int32} (h : BR w m b r) (hd : DB w m b m') (hr : ¬ r = -1) : w (m'.toInt.toNat - 1) = r ∧ b.toInt.toNat < m'.toInt.toNat := by
  rcases h with h | ⟨i, h1, h2, h3, h4, h5⟩
  · exact absurd h.1 hr
  · have := hd i h1 h2 (by rw [h3]; exact h4) h5
    rw [this]
    exact ⟨h3, by omega⟩
theorem cn {a b : Int32} (h : a.toInt = b.toInt) : a = b := Int32.toInt_inj.mp h
theorem DB_end {w : Nat → Int32} {m0 b m : Int32} (hg : ∀ i : Nat, m.toInt ≤ (i : Int) → (i : Int) < m0.toInt → ¬ brk (w i)) (hb : 0 ≤ b.toInt) (h0 : 0 ≤ m.toInt) (hm : m.toInt ≤ m0.toInt) (h : m.toInt ≤ b.toInt ∨ (1 ≤ m.toInt ∧ brk (w (m.toInt.toNat - 1)))) : DB w m0 b m := by
  intro i h1 h2 h3 h4
  have q1 : ¬ m.toInt ≤ (i : Int) := fun q => hg i q (by omega) h3
  rcases h with h | ⟨h, h5⟩
  · omega
  · by_cases q2 : i + 1 = m.toInt.toNat
    · exact q2.symm
    · exact absurd h5 (h4 (m.toInt.toNat - 1) (by omega) (by omega))
/-- 1 where a loop ends at its next test -/
def stq (a b : Int32) : Int := if a = 0 ∨ ¬ b = 0 then 1 else 0
theorem stq_le (a b : Int32) : 0 ≤ stq a b ∧ stq a b ≤ 1 := by unfold stq; split <;> omega
theorem stq_0 {a b : Int32} (ha : ¬ a = 0) (hb : b = 0) : stq a b = 0 := by unfold stq; rw [if_neg (fun q => q.elim ha (fun q => q hb))]
theorem stq_1 {a b : Int32} (h : a = 0 ∨ ¬ b = 0) : stq a b = 1 := by unfold stq; rw [if_pos h]
theorem GS_base {f : Nat → Int32} {n : Int32} {w : Nat → Int32} {m b t : Int32} {c : Nat} (h : GS f n w m b t c) (hm : 1 ≤ m.toInt) (hx : ¬ inT (w (m.toInt - 1).toNat)) : b.toInt ≤ m.toInt - 1 := by
  obtain ⟨h0, h1, h2, h3, h4, h5, h6⟩ := h
  rcases Int.lt_or_le (m.toInt - 1) b.toInt with q | q
  · exact absurd (h5 (m.toInt - 1).toNat (by omega)) hx
  · exact q
theorem BR_none {w : Nat → Int32} {m b r : Int32} (h : BR w m b r) (hr : r = -1) : ∀ i : Nat, b.toInt.toNat ≤ i → i < m.toInt.toNat → ¬ brk (w i) := by
  rcases h with h | ⟨i, h1, h2, h3, h4, h5⟩
  · exact h.2
  · subst hr
    have e : (-1 : Int32).toInt = -1 := by decide
    unfold brk at h4
    omega
theorem add_1000 {r z : Int32} (e : z = 1000 + r) (h : ib r 0 9999) : 1000 ≤ z.toInt := by
  have q := (ib_add (ib_c 1000 1000 1000 (by decide)) h (by decide)).2
  have e1 : (1000 : Int32).toInt = 1000 := by decide
  have h1 := h.1
  rw [e, q]
  omega
/-- no blank stands here -/
def NB (f : Nat → Int32) (a e : Int32) : Prop := e.toInt ≤ a.toInt ∨ (¬ f (Int32.toNatClampNeg a) = 10 ∧ ¬ f (Int32.toNatClampNeg a) = 32)
theorem GS_top2 {f : Nat → Int32} {n : Int32} {w : Nat → Int32} {m b t : Int32} {c : Nat} (h : GS f n w m b t c) (hm : m.toInt ≤ b.toInt) : GS f n w m m t c := by
  have e : m = b := cn (by have := h.2.2.1; omega)
  exact GS_top h hm e
theorem hs_drop {w : Nat → Int32} {m m' : Int32} (h : ∃ i : Nat, i < m.toInt.toNat ∧ w i = 25) (hm : m'.toInt = m.toInt - 1) (hx : ¬ w (Int32.toNatClampNeg m') = 25) : ∃ i : Nat, i < m'.toInt.toNat ∧ w i = 25 := by
  obtain ⟨i, h1, h2⟩ := h
  refine ⟨i, ?_, h2⟩
  by_cases e : i = Int32.toNatClampNeg m'
  · exact absurd h2 (e ▸ hx)
  · have e2 : ¬ i = m'.toInt.toNat := e
    omega
theorem hs_pos {w : Nat → Int32} {m : Int32} (h : ∃ i : Nat, i < m.toInt.toNat ∧ w i = 25) : 1 ≤ m.toInt := by
  obtain ⟨i, h1, -⟩ := h
  omega
end
section
/-! ti -/
/-! what the text tells as codes: from the reading to the working out -/
theorem okc_GS {f : Nat → Int32} {n : Int32} {w : Nat → Int32} {m b t : Int32} {c : Nat} (h : GS f n w m b t c) (ht : ¬ t = 1) : okc f 0 false 0 n := by
  have e0 : (0 : Int32).toInt.toNat = 0 := by decide
  refine ⟨?_, fun _ i _ hi => ?_⟩
  · rw [e0]; exact ⟨_, h.2.2.2.1⟩
  · rw [Nat.zero_add]; exact h.2.2.2.2.1 ht i hi
def TI (f e c : Nat → Int32) (co : Int32) : Prop := ∀ w : Nat, w < 3 → ¬ f w = -1 → 0 ≤ (f w).toInt ∧ (e w).toInt ≤ co.toInt ∧ okc c 0 (decide (w = 1)) (f w) (e w)
def okw (q : Nat → Int32) (n t : Int32) : Prop := (∃ D, wfs q 0 n.toInt.toNat D) ∧ (¬ t = 1 → ∀ i : Nat, i < n.toInt.toNat → ¬ q i = 47)
theorem TI_0 {f e c : Nat → Int32} {co : Int32} (h0 : f 0 = -1) (h1 : f 1 = -1) (h2 : f 2 = -1) : TI f e c co := by
  intro w hw hn
  match w, hw with
  | 0, _ => exact absurd h0 hn
  | 1, _ => exact absurd h1 hn
  | 2, _ => exact absurd h2 hn
theorem okc_congr {c d : Nat → Int32} {o p : Nat} {red : Bool} {a b : Int32} (h : okc c o red a b) (hc : ∀ i : Nat, a.toInt.toNat ≤ i → i < b.toInt.toNat → d (p + i) = c (o + i)) : okc d p red a b := by
  obtain ⟨⟨D, hD⟩, h47⟩ := h
  refine ⟨⟨D, wfs_congr (fun i hi => ?_) hD⟩, fun hr i h1 h2 => by rw [hc i h1 h2]; exact h47 hr i h1 h2⟩
  have e1 : p + a.toInt.toNat + i = p + (a.toInt.toNat + i) := by omega
  have e2 : o + a.toInt.toNat + i = o + (a.toInt.toNat + i) := by omega
  rw [e1, e2]
  exact hc _ (by omega) (by omega)
theorem TI_new {f e c c' q : Nat → Int32} {co co' n t : Int32} (k : Nat) (hk : k < 3) (ht : t = 1 → k = 1) (h : TI f e c co) (h0 : 0 ≤ co.toInt) (hn : 0 ≤ n.toInt) (hco : co'.toInt = co.toInt + n.toInt) (hq : okw q n t) (hold : ∀ p : Nat, p < co.toInt.toNat → c' p = c p) (hnew : ∀ j : Nat, j < n.toInt.toNat → c' (co.toInt.toNat + j) = q j) : TI (upd f k co) (upd e k co') c' co' := by
  intro w hw hn1
  by_cases e1 : w = k
  · subst e1
    rw [pk_us] at hn1 ⊢
    rw [pk_us]
    refine ⟨h0, Int.le_refl _, ?_, ?_⟩
    · obtain ⟨D, hD⟩ := hq.1
      refine ⟨D, ?_⟩
      have e2 : co'.toInt.toNat - co.toInt.toNat = n.toInt.toNat := by omega
      rw [e2]
      exact wfs_congr (fun i hi => by rw [Nat.zero_add, Nat.zero_add]; exact hnew i hi) hD
    · intro hr i h1 h2
      rw [Nat.zero_add]
      have e3 : i = co.toInt.toNat + (i - co.toInt.toNat) := by omega
      rw [e3, hnew _ (by omega)]
      exact hq.2 (fun q1 => by have := ht q1; simp [this] at hr) _ (by omega)
  · rw [pk_un e1] at hn1 ⊢
    rw [pk_un e1]
    obtain ⟨a1, a2, a3⟩ := h w hw hn1
    refine ⟨a1, by omega, okc_congr a3 (fun i h1 h2 => ?_)⟩
    rw [Nat.zero_add]
    exact hold i (by omega)
theorem cp_step {c c' g q : Nat → Int32} {co i i' z : Int32} {xc : Nat} (h1 : ∀ j : Nat, (j : Int) < i.toInt → c (xc + j) = q j) (h2 : ∀ p : Nat, p < xc ∨ 1600 ≤ p → c p = g p) (hu : c' = upd c (Int32.toNatClampNeg co) z) (hz : z = q (Int32.toNatClampNeg i)) (hco : co.toInt = (xc : Int) + i.toInt) (hi0 : 0 ≤ i.toInt) (hlt : co.toInt < 1600) (hi : i'.toInt = i.toInt + (1 : Int32).toInt) : (∀ j : Nat, (j : Int) < i'.toInt → c' (xc + j) = q j) ∧ (∀ p : Nat, p < xc ∨ 1600 ≤ p → c' p = g p) := by
  have e1 : (1 : Int32).toInt = 1 := by decide
  have ec : Int32.toNatClampNeg co = xc + i.toInt.toNat := by show co.toInt.toNat = _; omega
  have ei : Int32.toNatClampNeg i = i.toInt.toNat := rfl
  subst hu
  rw [ec]
  constructor
  · intro j hj
    by_cases e : j = i.toInt.toNat
    · subst e; rw [pk_us, hz, ei]
    · rw [pk_un (by omega)]; exact h1 j (by omega)
  · intro p hp
    rw [pk_un (by omega)]; exact h2 p hp
theorem ST_ok {f e c f' e' c' : Nat → Int32} {co : Int32} (h : TI f e c co) (hf : ∀ w : Nat, w < 3 → f' (3 + w) = f w) (he : ∀ w : Nat, w < 3 → e' (3 + w) = e w) (hc : ∀ j : Nat, (j : Int) < co.toInt → c' (1600 + j) = c j) (w : Nat) (hw : w < 3) (hn : ¬ f' (3 + w) = -1) : okc c' 1600 (decide (w = 1)) (f' (3 + w)) (e' (3 + w)) := by
  rw [hf w hw] at hn ⊢
  rw [he w hw]
  obtain ⟨a1, a2, a3⟩ := h w hw hn
  exact okc_congr a3 (fun i h1 h2 => by rw [Nat.zero_add]; exact hc i (by omega))
theorem cf_3 {g f1 f2 f3 : Nat → Int32} (h1 : f1 = upd g 3 (g 0)) (h2 : f2 = upd f1 4 (f1 1)) (h3 : f3 = upd f2 5 (f2 2)) : ∀ w : Nat, w < 3 → f3 (3 + w) = g w := by
  intro w hw
  subst h3; subst h2; subst h1
  match w, hw with
  | 0, _ => rw [pk_un (by decide), pk_un (by decide), pk_us]
  | 1, _ => rw [pk_un (by decide), pk_us, pk_un (by decide)]
  | 2, _ => rw [pk_us, pk_un (by decide), pk_un (by decide)]
theorem okc_up {f e c f' e' c' : Nat → Int32} {red : Bool} {k : Nat} (h : ¬ f k = -1 → okc c 1600 red (f k) (e k)) (hf : f' k = f k) (he : e' k = e k) (hc : ∀ p : Nat, 1600 ≤ p → c' p = c p) : ¬ f' k = -1 → okc c' 1600 red (f' k) (e' k) := by
  intro q
  rw [hf] at q ⊢
  rw [he]
  exact okc_congr (h q) (fun i h1 h2 => hc _ (by omega))
end
section
/-! lfm -/
theorem lf_isine {v a b : Int64} {z : Int32} {V A B : Int} (h : z = k_isf v a b) (hv : lf_el v V) (ha : lf_el a A) (hb : lf_el b B) : lf_e z (lf_isin V A B) := by
  rw [← hv, ← ha, ← hb]
  show z.toInt = _
  rw [h]
  show (if a ≤ v ∧ v ≤ b then (1 : Int32) else 0).toInt = if a.toInt ≤ v.toInt ∧ v.toInt ≤ b.toInt then 1 else 0
  by_cases q : a ≤ v ∧ v ≤ b
  · rw [if_pos q, if_pos ⟨Int64.le_iff_toInt_le.mp q.1, Int64.le_iff_toInt_le.mp q.2⟩]
    decide
  · rw [if_neg q, if_neg (fun w => q ⟨Int64.le_iff_toInt_le.mpr w.1, Int64.le_iff_toInt_le.mpr w.2⟩)]
    decide
end
