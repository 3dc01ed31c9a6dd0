/-! numbers, the answers of a fresh object, two methods by hand -/
theorem kl0 : (0 : Int32).toInt = 0 := by decide
theorem kl1 : (1 : Int32).toInt = 1 := by decide
theorem kl5 : (5 : Int32).toInt = 5 := by decide
theorem kl6 : (6 : Int32).toInt = 6 := by decide
theorem kl7 : (7 : Int32).toInt = 7 := by decide
theorem kl2 : (2 : Int32).toInt = 2 := by decide
theorem kl3 : (3 : Int32).toInt = 3 := by decide
theorem kl4 : (4 : Int32).toInt = 4 := by decide
theorem kl5L : (5 : Int64).toInt = 5 := by decide
theorem kl60 : (60 : Int32).toInt = 60 := by decide
theorem klm1 : (-1 : Int32).toInt = -1 := by decide
def s_end (n : Int32) : Int32 := if n = 0 then 1 else 0
def s_fault (n : Int32) : Int32 := if n = 0 then 0 else -1
def s_has (n : Int32) : Int32 := if 0 ≤ n ∧ n ≤ 7 then 0 else -1
def s_seed (n : Int32) : Int32 := if n < 0 then 0 else 1
def s_status (n : Int32) : Int32 := if 0 ≤ n ∧ n ≤ 5 then 0 else -1
theorem k_look (x : Int32) (h0 : ¬ x = 0) (h1 : ¬ x = 1) : Op.lookupswitch.offset (#[(0, 27), (1, 35)] : Array (Int × Int)).toList 43 x.toInt = 43 := by
  have e0 : ¬ x.toInt = 0 := fun h => h0 (Int32.toInt_inj.mp (h.trans kl0.symm))
  have e1 : ¬ x.toInt = 1 := fun h => h1 (Int32.toInt_inj.mp (h.trans kl1.symm))
  simp [Op.lookupswitch.offset, e0, e1, Ne.symm e0, Ne.symm e1, eq_comm]
/-- isIn -/
def k_isf (v a b : Int64) : Int32 := if a ≤ v ∧ v ≤ b then 1 else 0
theorem k_isf_a {v a b : Int64} (h : lg_cmp v a < 0) : 0 = k_isf v a b := by
  have h1 := (lg_cmp_lt v a).mp h
  refine (if_neg (fun h2 => ?_)).symm
  rw [Int64.lt_iff_toInt_lt] at h1
  have h3 := h2.1
  rw [Int64.le_iff_toInt_le] at h3
  omega
theorem k_isf_b {v a b : Int64} (h : 0 < lg_cmp v b) : 0 = k_isf v a b := by
  have h1 := (lg_cmp_gt v b).mp h
  refine (if_neg (fun h2 => ?_)).symm
  rw [Int64.lt_iff_toInt_lt] at h1
  have h3 := h2.2
  rw [Int64.le_iff_toInt_le] at h3
  omega
theorem k_isf_c {v a b : Int64} (h : ¬ lg_cmp v a < 0) (h2 : ¬ 0 < lg_cmp v b) : 1 = k_isf v a b := by
  rw [lg_cmp_lt, Int64.lt_iff_toInt_lt] at h
  rw [lg_cmp_gt, Int64.lt_iff_toInt_lt] at h2
  refine (if_pos ⟨?_, ?_⟩).symm
  · rw [Int64.le_iff_toInt_le]; omega
  · rw [Int64.le_iff_toInt_le]; omega
theorem k_isf_m1 {r : Int32} {v : Int64} (h : r = k_isf v 0 (-1)) : r = 0 := by
  rw [h]
  refine if_neg (fun h2 => ?_)
  have h3 := h2.1
  have h4 := h2.2
  rw [Int64.le_iff_toInt_le] at h3 h4
  have e1 : (0 : Int64).toInt = 0 := by decide
  have e2 : (-1 : Int64).toInt = -1 := by decide
  omega
theorem k_isf_in {r v : Int32} {b : Int64} (h : r = k_isf v.toInt64 0 b) (h0 : ¬ r = 0) : 0 ≤ v.toInt ∧ v.toInt ≤ b.toInt := by
  rw [h] at h0
  unfold k_isf at h0
  split at h0
  · rename_i h2
    have h3 := h2.1
    have h4 := h2.2
    rw [Int64.le_iff_toInt_le] at h3 h4
    have e1 : (0 : Int64).toInt = 0 := by decide
    have e2 : v.toInt64.toInt = v.toInt := Int32.toInt_toInt64 v
    omega
  · exact absurd rfl h0
theorem k_isf_no {r v : Int32} {b : Int64} (h : r = k_isf v.toInt64 0 b) (h0 : r = 0) : ¬ (0 ≤ v.toInt ∧ v.toInt ≤ b.toInt) := by
  intro h9
  rw [h] at h0
  unfold k_isf at h0
  have e1 : (0 : Int64).toInt = 0 := by decide
  have e2 : v.toInt64.toInt = v.toInt := Int32.toInt_toInt64 v
  rw [if_pos ⟨by rw [Int64.le_iff_toInt_le]; omega, by rw [Int64.le_iff_toInt_le]; omega⟩] at h0
  exact absurd h0 (by decide)
theorem k_isf_1 {r v : Int32} (h : r = k_isf v.toInt64 0 1) (h0 : ¬ r = 0) : v = 0 ∨ v = 1 := by
  have h1 := k_isf_in h h0
  have e1 : (1 : Int64).toInt = 1 := by decide
  simp only [← Int32.toInt_inj, kl0, kl1]
  omega
theorem k_isf_5 {r v : Int32} (h : r = k_isf v.toInt64 0 5) (h0 : ¬ r = 0) : v = 0 ∨ v = 1 ∨ v = 2 ∨ v = 3 ∨ v = 4 ∨ v = 5 := by
  have h1 := k_isf_in h h0
  have e1 : (5 : Int64).toInt = 5 := by decide
  simp only [← Int32.toInt_inj, kl0, kl1, kl2, kl3, kl4, kl5]
  omega
theorem k_in6 {v : Int32} (h : ¬ v < 0) (h2 : ¬ 6 ≤ v) : vp_in v 6 := by
  rw [vp_in_iff]
  rw [Int32.lt_iff_toInt_lt, kl0] at h
  rw [Int32.le_iff_toInt_le, kl6] at h2
  omega
set_option maxHeartbeats 4000000 in
set_option maxRecDepth 100000 in
theorem c_isIn (l : Launch) (dC : Nat → ClassId) (dI : Nat → Nat → Nat) (cy : Nat → ClassId) (sq : Nat → Nat) (v a b : Int64) : k_Met l yX10_isIn cX10_isIn 6 (some .boolean) { frames := 0, cells := 0, slots := 0, locals := 0 } dC dI cy sq [.long v, .long a, .long b] [] (k_Qi dC dI (fun (r : Int32) (_ : Unit) => r = k_isf v a b) (fun _ => [])) := by
  refine k_ofW (by decide +kernel) (Nat.le_of_ble_eq_true rfl) ?_
  intro p e s m below meth c A ls H locs C0 hr hlk hin hP hD hA hS hl
  have C0 : k_cx p s m _ c cX10_isIn 6 RX10 dC dI cy sq := C0
  have hx := C0.1
  have hb := C0.2.1
  have hl : lv_has ls 6 [(0, .long v), (2, .long a), (4, .long b)] := hl
  refine lv_lload_n hx hb dX10_isIn_0 rfl (lv_at hl 0 rfl) ?_
  refine lv_lload_n hx hb dX10_isIn_1 rfl (lv_at hl 1 rfl) ?_
  refine W.lcmp hx hb dX10_isIn_2 ?_
  refine lv_if_lt (tgt := 17) hx hb dX10_isIn_3 (by decide) (fun h1 => ?_) (fun h1 => ?_)
  · refine lv_iconst (v := 0) hx hb dX10_isIn_17 (by decide) ?_
    exact k_iret hx hb hr hlk (k_nb 0 (by decide)) () hS (k_isf_a h1) hP hD (Nat.le_of_ble_eq_true rfl) (Nat.le_of_ble_eq_true rfl) dX10_isIn_18
  · refine lv_lload_n hx hb dX10_isIn_6 rfl (lv_at hl 0 rfl) ?_
    refine lv_lload hx hb dX10_isIn_7 (lv_at hl 2 rfl) ?_
    refine W.lcmp hx hb dX10_isIn_9 ?_
    refine lv_if_gt (tgt := 17) hx hb dX10_isIn_10 (by decide) (fun h2 => ?_) (fun h2 => ?_)
    · refine lv_iconst (v := 0) hx hb dX10_isIn_17 (by decide) ?_
      exact k_iret hx hb hr hlk (k_nb 0 (by decide)) () hS (k_isf_b h2) hP hD (Nat.le_of_ble_eq_true rfl) (Nat.le_of_ble_eq_true rfl) dX10_isIn_18
    · refine lv_iconst (v := 1) hx hb dX10_isIn_13 (by decide) ?_
      refine lv_goto (tgt := 18) hx hb dX10_isIn_14 (by decide) ?_
      exact k_iret hx hb hr hlk (k_nb 1 (by decide)) () hS (k_isf_c h1 h2) hP hD (Nat.le_of_ble_eq_true rfl) (Nat.le_of_ble_eq_true rfl) dX10_isIn_18
/-- Arrays.fill: the row holds something else, no more is said -/
theorem k_fill_loop {p : Program} {l : Launch} {e : Env} {R : Room} {s : State} {m : MethodId} {args : Array Value} {below : List Frame} {meth : Method} {c : Code} {Q : State → Prop} {cells slots : Nat} {A : Nat → Prop} {H0 : Heap} {dC : Nat → ClassId} {dI : Nat → Nat → Nat} {cy : Nat → ClassId} {sq : Nat → Nat} {a N : Nat} {x : Int32} (hN : N < 2 ^ 31)
    (C0 : k_cx p s m args c cJ7_fill_53178 4 RJ7 dC dI cy sq)
    (kk : ∀ (f : Nat → Int32) (H : Heap) (locs : List Loc) (ls : Array Slot), va_P (dC, dI) vwCl [(a, .inl (cy 0, N, .inl f))] H → va_D A [(a, .inl (cy 0, N, .inl f))] → va_S A H0 H locs → W p l e R s m args below meth c H locs cells slots Q (F0 m 20 ls [])) :
    ∀ (n i : Nat) (f : Nat → Int32) (H : Heap) (locs : List Loc) (ls : Array Slot), i ≤ N → N + 1 ≤ i + n → va_P (dC, dI) vwCl [(a, .inl (cy 0, N, .inl f))] H → va_D A [(a, .inl (cy 0, N, .inl f))] → va_S A H0 H locs → lv_has ls 4 [(0, .ref a), (1, .int x), (2, .int (nI i)), (3, .int (nI N))] → W p l e R s m args below meth c H locs cells slots Q (F0 m 5 ls []) := by
  have hx := C0.1
  have hb := C0.2.1
  intro n
  induction n with
  | zero => intro i f H locs ls h1 h2; exact absurd h2 (by omega)
  | succ n ih =>
    intro i f H locs ls hi hin hP hD hS hl
    refine lv_iload_n hx hb dJ7_fill_53178_5 rfl (lv_at hl 2 rfl) ?_
    refine lv_iload_n hx hb dJ7_fill_53178_6 rfl (lv_at hl 3 rfl) ?_
    refine lv_icmp_ge (tgt := 20) hx hb dJ7_fill_53178_7 (by decide) (fun _ => kk f H locs ls hP hD hS) (fun h9 => ?_)
    have hlt : i < N := by
      rcases Nat.lt_or_ge i N with q | q
      · exact q
      · exact absurd (nI_le q (by omega)) h9
    refine lv_aload_n hx hb dJ7_fill_53178_10 rfl (lv_at hl 0 rfl) ?_
    refine lv_iload_n hx hb dJ7_fill_53178_11 rfl (lv_at hl 2 rfl) ?_
    refine lv_iload_n hx hb dJ7_fill_53178_12 rfl (lv_at hl 1 rfl) ?_
    refine va_iast hx hb C0.2.2.2.2.2.1 hP hD hS 0 0 rfl rfl (vp_in_nI hlt hN) dJ7_fill_53178_13 (fun H locs hP hD hS => ?_)
    refine lv_iinc (v := nI (i + 1)) (lv' := [(2, .int (nI (i + 1))), (0, .ref a), (1, .int x), (3, .int (nI N))]) hx hb dJ7_fill_53178_14 hl (k := 2) rfl (nI_1 i) (by decide) rfl (fun ls hl => ?_)
    refine lv_goto (tgt := 5) hx hb dJ7_fill_53178_17 (by decide) ?_
    exact ih (i + 1) _ H locs ls hlt (by omega) hP hD hS (lv_sub hl [1, 2, 0, 3] rfl)
set_option maxHeartbeats 4000000 in
set_option maxRecDepth 100000 in
theorem c_fill (l : Launch) (dC : Nat → ClassId) (dI : Nat → Nat → Nat) (cy : Nat → ClassId) (sq : Nat → Nat) (a N : Nat) (f : Nat → Int32) (x : Int32) (hN : N + 1 ≤ 2147483648) : k_Met l yJ7_fill_53178 cJ7_fill_53178 4 none { frames := 0, cells := 0, slots := 0, locals := 0 } dC dI cy sq [.ref a, .int x] [(a, .inl (cy 0, N, .inl f))] (k_Qv dC dI (fun _ : Nat → Int32 => True) (fun g : Nat → Int32 => [(a, .inl (cy 0, N, .inl g))])) := by
  refine k_ofW (by decide +kernel) (Nat.le_of_ble_eq_true rfl) ?_
  intro p e s m below meth c A ls H locs C0 hr hlk hin hP hD hA hS hl
  have C0 : k_cx p s m _ c cJ7_fill_53178 4 RJ7 dC dI cy sq := C0
  have hx := C0.1
  have hb := C0.2.1
  have hl : lv_has ls 4 [(0, .ref a), (1, .int x)] := hl
  refine lv_iconst (v := 0) hx hb dJ7_fill_53178_0 (by decide) ?_
  refine lv_istore_n (lv' := [(2, .int 0), (0, .ref a), (1, .int x)]) hx hb dJ7_fill_53178_1 rfl hl (by decide) rfl (fun ls hl => ?_)
  refine lv_aload_n hx hb dJ7_fill_53178_2 rfl (lv_at hl 1 rfl) ?_
  refine va_alen hx hb C0.2.2.2.2.2.1 hP 0 0 rfl rfl (v := nI N) rfl dJ7_fill_53178_3 ?_
  refine lv_istore_n (lv' := [(3, .int (nI N)), (2, .int 0), (0, .ref a), (1, .int x)]) hx hb dJ7_fill_53178_4 rfl hl (by decide) rfl (fun ls hl => ?_)
  refine k_fill_loop (by omega) C0 (fun g H locs ls hP hD hS => ?_) (N + 1) 0 f H locs ls (Nat.zero_le N) (by omega) hP hD hS (lv_sub hl [2, 3, 1, 0] rfl)
  exact k_vret hx hb hr hlk g hS True.intro hP hD (Nat.le_of_ble_eq_true rfl) (Nat.le_of_ble_eq_true rfl) dJ7_fill_53178_20
