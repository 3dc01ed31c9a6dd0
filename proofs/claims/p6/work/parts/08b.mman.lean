/-- the model's fields: its rows lie at r j -/
def mfs (r : Nat → Nat) (x_taped : Int32) (x_at : Int32) (x_end : Int32) (x_ended : Int32) (x_bad : Int32) (x_badPlace : Int32) (x_fault : Int32) (x_faultPlace : Int32) (x_namePlace : Int32) (x_awayTold : Int32) (x_away : Int32) (x_coded : Int32) (x_statements : Int32) (x_isCrossing : Int32) (x_textKind : Int32) (x_askSecond : Int32) (x_redMany : Int32) (x_isOpen : Int32) (x_lastGreen : Int32) (x_greenTo : Int32) (x_isCycleGreen : Int32) (x_stillGreen : Int32) (x_rowMany : Int32) (x_fitMany : Int32) (x_fitRules : Int32) (x_fitGreen : Int32) (x_undoable : Int32) (x_newest : Int32) (x_seeded : Int64) (x_qCoded : Int32) (x_qWaits : Int32) (x_qOpened : Int32) (x_qBase : Int32) (x_qPiled : Int32) (x_qAnswer : Int64) (x_qIsNew : Int32) (x_octets : Int32) : List Value := .ref (r 0) :: .int x_taped :: .int x_at :: .int x_end :: .int x_ended :: .int x_bad :: .int x_badPlace :: .int x_fault :: .int x_faultPlace :: .ref (r 9) :: .ref (r 10) :: .ref (r 11) :: .ref (r 12) :: .ref (r 13) :: .ref (r 14) :: .ref (r 15) :: .ref (r 16) :: .ref (r 17) :: .ref (r 18) :: .ref (r 19) :: .ref (r 20) :: .ref (r 21) :: .ref (r 22) :: .ref (r 23) :: .ref (r 24) :: .ref (r 25) :: .ref (r 26) :: .ref (r 27) :: .ref (r 28) :: .ref (r 29) :: .ref (r 30) :: .ref (r 31) :: .ref (r 32) :: .ref (r 33) :: .ref (r 34) :: .ref (r 35) :: .ref (r 36) :: .ref (r 37) :: .ref (r 38) :: .ref (r 39) :: .int x_namePlace :: .ref (r 41) :: .ref (r 42) :: .ref (r 43) :: .ref (r 44) :: .ref (r 45) :: .ref (r 46) :: .int x_awayTold :: .int x_away :: .ref (r 49) :: .ref (r 50) :: .ref (r 51) :: .int x_coded :: .int x_statements :: .int x_isCrossing :: .int x_textKind :: .ref (r 56) :: .ref (r 57) :: .int x_askSecond :: .int x_redMany :: .ref (r 60) :: .ref (r 61) :: .ref (r 62) :: .ref (r 63) :: .ref (r 64) :: .ref (r 65) :: .ref (r 66) :: .ref (r 67) :: .ref (r 68) :: .ref (r 69) :: .int x_isOpen :: .int x_lastGreen :: .int x_greenTo :: .int x_isCycleGreen :: .int x_stillGreen :: .int x_rowMany :: .ref (r 76) :: .ref (r 77) :: .int x_fitMany :: .int x_fitRules :: .int x_fitGreen :: .ref (r 81) :: .int x_undoable :: .int x_newest :: .long x_seeded :: .ref (r 85) :: .ref (r 86) :: .ref (r 87) :: .ref (r 88) :: .ref (r 89) :: .ref (r 90) :: .ref (r 91) :: .ref (r 92) :: .ref (r 93) :: .ref (r 94) :: .ref (r 95) :: .ref (r 96) :: .ref (r 97) :: .ref (r 98) :: .ref (r 99) :: .ref (r 100) :: .ref (r 101) :: .ref (r 102) :: .ref (r 103) :: .ref (r 104) :: .ref (r 105) :: .ref (r 106) :: .ref (r 107) :: .ref (r 108) :: .ref (r 109) :: .ref (r 110) :: .int x_qCoded :: .ref (r 112) :: .int x_qWaits :: .int x_qOpened :: .int x_qBase :: .ref (r 116) :: .int x_qPiled :: .long x_qAnswer :: .int x_qIsNew :: .ref (r 120) :: .int x_octets :: []
/-- isIn -/
def k_isf (v a b : Int64) : Int32 := if a ≤ v ∧ v ≤ b then 1 else 0
theorem k_isf_a {v a b : Int64} (h : lg_cmp v a < 0) : 0 = k_isf v a b := by
  have h1 := (lg_cmp_lt v a).mp h
  refine (if_neg (fun h2 => ?_)).symm
  rw [Int64.lt_iff_toInt_lt] at h1
  have h3 := h2.1
  rw [Int64.le_iff_toInt_le] at h3
  omega
theorem k_isf_b {v a b : Int64} (h : 0 < lg_cmp v b) : 0 = k_isf v a b := by
  have h1 := (lg_cmp_gt v b).mp h
  refine (if_neg (fun h2 => ?_)).symm
  rw [Int64.lt_iff_toInt_lt] at h1
  have h3 := h2.2
  rw [Int64.le_iff_toInt_le] at h3
  omega
theorem k_isf_c {v a b : Int64} (h : ¬ lg_cmp v a < 0) (h2 : ¬ 0 < lg_cmp v b) : 1 = k_isf v a b := by
  rw [lg_cmp_lt, Int64.lt_iff_toInt_lt] at h
  rw [lg_cmp_gt, Int64.lt_iff_toInt_lt] at h2
  refine (if_pos ⟨?_, ?_⟩).symm
  · rw [Int64.le_iff_toInt_le]; omega
  · rw [Int64.le_iff_toInt_le]; omega
set_option maxHeartbeats 4000000 in
set_option maxRecDepth 100000 in
theorem c_isIn (l : Launch) (dC : Nat → ClassId) (dI : Nat → Nat → Nat) (cy : Nat → ClassId) (sq : Nat → Nat) (v a b : Int64) : k_Met l yX10_isIn cX10_isIn 6 (some .boolean) { frames := 0, cells := 0, slots := 0, locals := 0 } dC dI cy sq [.long v, .long a, .long b] [] (k_Qi dC dI (fun (r : Int32) (_ : Unit) => r = k_isf v a b) (fun _ => [])) := by
  refine k_ofW (by decide +kernel) (Nat.le_of_ble_eq_true rfl) ?_
  intro p e s m below meth c A ls H locs C0 hZ hr hlk hin hP hD hA hS hl
  have C0 : k_cx p s m _ c cX10_isIn 6 RX10 dC dI cy sq := C0
  have hx := C0.1
  have hb := C0.2.1
  have hl : lv_has ls 6 [(0, .long v), (2, .long a), (4, .long b)] := hl
  refine lv_lload_n hx hb dX10_isIn_0 rfl (lv_at hl 0 rfl) ?_
  refine lv_lload_n hx hb dX10_isIn_1 rfl (lv_at hl 1 rfl) ?_
  refine W.lcmp hx hb dX10_isIn_2 ?_
  refine lv_if_lt (tgt := 17) hx hb dX10_isIn_3 (by decide) (fun h1 => ?_) (fun h1 => ?_)
  · refine lv_iconst (v := 0) hx hb dX10_isIn_17 (by decide) ?_
    exact k_iret hx hb hr hlk (k_nb 0 (by decide)) () hS (k_isf_a h1) hP hD (Nat.le_of_ble_eq_true rfl) (Nat.le_of_ble_eq_true rfl) dX10_isIn_18
  · refine lv_lload_n hx hb dX10_isIn_6 rfl (lv_at hl 0 rfl) ?_
    refine lv_lload hx hb dX10_isIn_7 (lv_at hl 2 rfl) ?_
    refine W.lcmp hx hb dX10_isIn_9 ?_
    refine lv_if_gt (tgt := 17) hx hb dX10_isIn_10 (by decide) (fun h2 => ?_) (fun h2 => ?_)
    · refine lv_iconst (v := 0) hx hb dX10_isIn_17 (by decide) ?_
      exact k_iret hx hb hr hlk (k_nb 0 (by decide)) () hS (k_isf_b h2) hP hD (Nat.le_of_ble_eq_true rfl) (Nat.le_of_ble_eq_true rfl) dX10_isIn_18
    · refine lv_iconst (v := 1) hx hb dX10_isIn_13 (by decide) ?_
      refine lv_goto (tgt := 18) hx hb dX10_isIn_14 (by decide) ?_
      exact k_iret hx hb hr hlk (k_nb 1 (by decide)) () hS (k_isf_c h1 h2) hP hD (Nat.le_of_ble_eq_true rfl) (Nat.le_of_ble_eq_true rfl) dX10_isIn_18
theorem ib_nc {x : Int32} {a b : Int} (c : Int32) (h : ib x a b) (h1 : (decide (c.toInt < a) || decide (b < c.toInt)) = true) : ¬ x = c := by
  intro e
  subst e
  simp only [Bool.or_eq_true, decide_eq_true_eq] at h1
  have h2 := h.1
  have h3 := h.2
  omega
theorem ib_dec {x y : Int32} {a b : Int} (h : ib x a b) (h1 : decide (1 ≤ a) = true) (e : y.toInt = x.toInt - (1 : Int32).toInt) : 0 ≤ (x &&& y).toInt ∧ (x &&& y).toInt ≤ x.toInt - 1 := by
  simp only [decide_eq_true_eq] at h1
  have e1 : (1 : Int32).toInt = 1 := by decide
  have hx := h.1
  have ex : x.toInt = if 2 * x.toBitVec.toNat < 2 ^ 32 then (x.toBitVec.toNat : Int) else (x.toBitVec.toNat : Int) - (2 ^ 32 : Nat) := BitVec.toInt_eq_toNat_cond x.toBitVec
  have ey : y.toInt = if 2 * y.toBitVec.toNat < 2 ^ 32 then (y.toBitVec.toNat : Int) else (y.toBitVec.toNat : Int) - (2 ^ 32 : Nat) := BitVec.toInt_eq_toNat_cond y.toBitVec
  have ez : (x &&& y).toInt = if 2 * (x.toBitVec &&& y.toBitVec).toNat < 2 ^ 32 then ((x.toBitVec &&& y.toBitVec).toNat : Int) else ((x.toBitVec &&& y.toBitVec).toNat : Int) - (2 ^ 32 : Nat) := BitVec.toInt_eq_toNat_cond (x.toBitVec &&& y.toBitVec)
  have hn : (x.toBitVec &&& y.toBitVec).toNat ≤ y.toBitVec.toNat := by rw [BitVec.toNat_and]; exact Nat.and_le_right
  have lx := x.toBitVec.isLt
  have ly := y.toBitVec.isLt
  split at ex <;> split at ey <;> split at ez <;> omega
/-- entries by their places: those that are rs by md -/
def ip (f : Nat → Int32) (n md rs : Nat) (lo hi : Int) : Prop := ∀ k, k < n → k % md = rs → ib (f k) lo hi
theorem ip_at {f : Nat → Int32} {n md rs : Nat} {lo hi : Int} (h : ip f n md rs lo hi) {i : Int32} (hv : vp_in i n) (q : Int32.toNatClampNeg i % md = rs) : ib (f i.toNatClampNeg) lo hi := h _ (Nat.not_le.mp fun q => hv (Or.inr q)) q
theorem ip_upd {f : Nat → Int32} {n md rs : Nat} {lo hi : Int} (h : ip f n md rs lo hi) (i : Nat) {x : Int32} (hx : i % md = rs → ib x lo hi) : ip (upd f i x) n md rs lo hi := by
  intro k hk hr
  by_cases e : k = i
  · subst e; rw [pk_us]; exact hx hr
  · rw [pk_un e]; exact h k hk hr
theorem k_isf_01 (v a b : Int64) : ib (k_isf v a b) 0 1 := by
  unfold k_isf
  split
  · exact ib_c 1 0 1 (by decide)
  · exact ib_c 0 0 1 (by decide)
theorem k_isf_g {r : Int32} {v a b : Int64} (h : r = k_isf v a b) (h0 : ¬ r = 0) : a.toInt ≤ v.toInt ∧ v.toInt ≤ b.toInt := by
  rw [h] at h0
  unfold k_isf at h0
  split at h0
  · rename_i h2
    exact ⟨Int64.le_iff_toInt_le.mp h2.1, Int64.le_iff_toInt_le.mp h2.2⟩
  · exact absurd rfl h0
theorem k_isf_v {r v : Int32} {a b : Int64} {lo hi : Int} (h : r = k_isf v.toInt64 a b) (ha : lo ≤ a.toInt) (hb : b.toInt ≤ hi) (h0 : ¬ r = 0) : ib v lo hi := by
  have h1 := k_isf_g h h0
  rw [Int32.toInt_toInt64] at h1
  exact ⟨by omega, by omega⟩
theorem k_isf_u {r c : Int32} {v a : Int64} {lo x hi : Int} (h : r = k_isf v a c.toInt64) (ha : lo ≤ a.toInt) (hc : ib c x hi) (h0 : ¬ r = 0) : ib c lo hi := by
  have h1 := k_isf_g h h0
  rw [Int32.toInt_toInt64] at h1
  have h2 := hc.2
  exact ⟨by omega, by omega⟩
theorem ib_dv2 {x : Int32} {a b : Int} (c : Int32) (v : Int) (hv : c.toInt = v) (hx : ib x a b) (h : decide (0 ≤ a) = true) (hc : decide (0 < c.toInt) = true) : v * (x / c).toInt ≤ x.toInt ∧ x.toInt < v * (x / c).toInt + v := by
  subst hv
  simp only [decide_eq_true_eq] at h hc
  obtain ⟨n, hn, ex, -⟩ := ib_nat hx h
  obtain ⟨m, hm, ey, -⟩ := ib_nat (x := c) (a := c.toInt) (b := c.toInt) ⟨Int.le_refl _, Int.le_refl _⟩ (by omega)
  subst ex
  subst ey
  rw [nI_toInt hm] at hc
  have hq : n / m < 2 ^ 31 := Nat.lt_of_le_of_lt (Nat.div_le_self n m) hn
  rw [pk_div hn (by omega) hm, nI_toInt hq, nI_toInt hn, nI_toInt hm]
  have h1 := Nat.mul_div_le n m
  have h2 := Nat.lt_mul_div_succ n (show 0 < m by omega)
  refine ⟨by exact_mod_cast h1, ?_⟩
  have h3 : n < m * (n / m) + m := by rw [Nat.mul_add, Nat.mul_one] at h2; exact h2
  exact_mod_cast h3
