theorem lt_n0 : Cond.methodLinkNest RX9 19 yX4_init RX9 ∈ lw_tbl := (List.mem_append_right _ (List.mem_of_getElem? (i := 30) (by decide +kernel)))
theorem lt_n1 : Cond.methodLinkNest RX9 29 yX6_init RX9 ∈ lw_tbl := (List.mem_append_right _ (List.mem_of_getElem? (i := 132) (by decide +kernel)))
theorem lt_n2 : Cond.methodLinkNest RX9 43 yX3_init RX9 ∈ lw_tbl := (List.mem_append_right _ (List.mem_of_getElem? (i := 181) (by decide +kernel)))
theorem lt_n3 : Cond.methodLinkNest RX0 11 yX6_init RX9 ∈ lw_tbl := (List.mem_append_right _ (List.mem_of_getElem? (i := 317) (by decide +kernel)))
theorem lt_n4 : Cond.methodLinkNest RX2 24 yX6_init RX9 ∈ lw_tbl := (List.mem_append_right _ (List.mem_of_getElem? (i := 167) (by decide +kernel)))
theorem lt_ao : Cond.arrayOver (.object RX6) ∈ lw_tbl := (List.mem_append_right _ (List.mem_of_getElem? (i := 166) (by decide +kernel)))
theorem lt_z0 : Cond.laysStatic "java/lang/String" "COMPACT_STRINGS" "Z" ∈ lw_tbl := (List.mem_append_right _ (List.mem_of_getElem? (i := 511) (by decide +kernel)))
theorem lt_z1 : Cond.initialized "java/lang/String" ∈ lw_tbl := (List.mem_append_right _ (List.mem_of_getElem? (i := 14) (by decide +kernel)))
theorem lt_z2 : Cond.laysStatic "jdk/internal/util/Preconditions" "SIOOBE_FORMATTER" "Ljava/util/function/BiFunction;" ∈ lw_tbl := (List.mem_append_right _ (List.mem_of_getElem? (i := 527) (by decide +kernel)))
theorem lt_z3 : Cond.initialized "jdk/internal/util/Preconditions" ∈ lw_tbl := (List.mem_append_right _ (List.mem_of_getElem? (i := 16) (by decide +kernel)))
def lt_sp : List Nat := [569, 668, 1036, 489, 558, 559, 560, 595, 596, 597, 602, 607, 582, 667, 666, 660, 661, 632, 641, 642, 647]
theorem lt_sc : (List.range 21).all (fun j => decide (tables_1[lt_sp.getD j 0]? = some (Cond.stringRef RX5 (k_ix j) (k_tx j)))) = true := by decide +kernel
theorem lz_tx (j : Nat) (hj : j < 21) : Cond.stringRef RX5 (k_ix j) (k_tx j) ∈ lw_tbl := List.mem_append_right _ (List.mem_of_getElem? (of_decide_eq_true (List.all_eq_true.mp lt_sc j (List.mem_range.mpr hj))))
/-! the texts, as the start gives them -/
def lk_F : List Cond := flatC (Jvm.Cond.and given_1 narrow_1)
def lk_tm (i : Nat) : Term := .string RX5 (k_ix i)
def lk_p (i : Nat) : Nat := [50, 559, 586, 9, 18, 28, 38, 246, 260, 275, 293, 308, 88, 535, 511, 466, 488, 324, 342, 361, 382].getD i 0
def lk_o (i : Nat) : Nat := [4, 19, 20, 0, 1, 2, 3, 6, 7, 8, 9, 10, 5, 18, 17, 15, 16, 11, 12, 13, 14].getD i 0
def lk_n (i : Nat) : Nat := [84, 567, 623, 18, 27, 36, 47, 254, 268, 285, 299, 314, 241, 541, 518, 473, 495, 331, 349, 369, 452].getD i 0
def lk_v (i : Nat) : Term := .field (lk_tm i) "java/lang/String" "value" "[B"
set_option maxRecDepth 100000 in
theorem lk_c0 : (List.range 21).all (fun i => decide (lk_F[lk_p i + 0]? = some (Cond.exactly (lk_tm i) "java/lang/String"))) = true := by decide +kernel
set_option maxRecDepth 100000 in
theorem lk_c1 : (List.range 21).all (fun i => decide (lk_F[lk_p i + 1]? = some (Cond.eq (.field (lk_tm i) "java/lang/String" "coder" "B") (.int 0)))) = true := by decide +kernel
set_option maxRecDepth 100000 in
theorem lk_c2 : (List.range 21).all (fun i => decide (lk_F[lk_p i + 2]? = some (Cond.arrayOf (lk_v i) .byte))) = true := by decide +kernel
set_option maxRecDepth 100000 in
theorem lk_c3 : (List.range 21).all (fun i => decide (lk_F[lk_p i + 3]? = some (Cond.eq (.length (lk_v i)) (.int (Int32.ofNat (k_len.getD i 0)))))) = true := by decide +kernel
set_option maxRecDepth 100000 in
theorem lk_c4 : (List.range 21).all (fun i => (List.range (k_len.getD i 0)).all (fun j => decide (lk_F[lk_p i + 4 + j]? = some (Cond.eq (.elem (lk_v i) (.int (Int32.ofNat j))) (.int ((k_byt.getD i []).getD j 0)))))) = true := by decide +kernel
def lk_q (i j : Nat) : Cond := if lk_o i < lk_o j then .not (.eq (lk_tm i) (lk_tm j)) else .not (.eq (lk_tm j) (lk_tm i))
set_option maxRecDepth 100000 in
theorem lk_c5 : (List.range 21).all (fun i => (List.range 21).all (fun j => decide (i = j) || decide (lk_F[if lk_o i < lk_o j then lk_n j + lk_o i else lk_n i + lk_o j]? = some (lk_q i j)))) = true := by decide +kernel
theorem lk_get {k b : Nat} {w : Cond} {s : State} (hgv : (Jvm.Cond.and given_1 narrow_1).before #[Value.ref b] s = true) (h : lk_F[k]? = some w) : w.before #[Value.ref b] s = true := flat_of_before _ hgv w (List.mem_of_getElem? h)
theorem lk_at {P : Nat → Bool} {n i : Nat} (h : (List.range n).all P = true) (hi : i < n) : P i = true := List.all_eq_true.mp h i (List.mem_range.mpr hi)
theorem lk_S {s : State} {b : Nat} (hgv : (Jvm.Cond.and given_1 narrow_1).before #[Value.ref b] s = true) {A : Nat → Prop} (hA : ∀ a : Nat, a < s.heap.size → ¬ A a) : ∃ adK adV : Nat → Nat, vk_S 21 k_len k_byt adK adV A s s.heap ∧ ∀ i : Nat, i < 21 → (lk_tm i).eval #[Value.ref b] s none [] s = some (.ref (adK i)) := by
  refine vk_Sof (tm := lk_tm) (by decide +kernel) (fun i hi => lk_get hgv (of_decide_eq_true (lk_at lk_c0 hi))) (fun i hi => lk_get hgv (of_decide_eq_true (lk_at lk_c1 hi))) (fun i hi => lk_get hgv (of_decide_eq_true (lk_at lk_c2 hi))) (fun i hi => lk_get hgv (of_decide_eq_true (lk_at lk_c3 hi))) (fun i hi j hj => lk_get hgv (of_decide_eq_true (lk_at (lk_at lk_c4 hi) hj))) (fun i j hi hj hij => ?_) hA
  have h := lk_at (lk_at lk_c5 hi) hj
  rw [Bool.or_eq_true] at h
  rcases h with h | h
  · exact absurd (of_decide_eq_true h) hij
  · have h2 := lk_get hgv (of_decide_eq_true h)
    unfold lk_q at h2
    by_cases q : lk_o i < lk_o j
    · rw [if_pos q] at h2
      exact Or.inl h2
    · rw [if_neg q] at h2
      exact Or.inr h2
theorem law_arr {args : Array Value} {s : State} {ty : FieldType} (h : (Cond.arrayClass ty).before args s = true) (hp : ∀ C, ty ≠ .object C) : ∃ c : ClassId, ArrOfT s c ty ∧ va_RA s c ty := by
  obtain ⟨c, kA, comp, e1, e2, e3⟩ := Cond.arrayClass_spec (args := args) (first := s) (o := none) (s := s) (idx := []) h
  refine ⟨c, fun n z => ⟨fun k h => (by cases h), kA, e2, comp, e3⟩, ?_⟩
  cases ty with
  | object C => exact absurd rfl (hp C)
  | _ => exact e1
theorem law_aro {s : State} {C : String} (h : va_AO C s) : ∃ c : ClassId, ArrOfT s c (.object C) ∧ va_RA s c (.object C) := by
  obtain ⟨comp, c, k, h1, h2, h3, h4, h5⟩ := Cond.arrayOver_spec h
  exact ⟨c, fun n z => ⟨fun k h => (by cases h), k, h3, comp, h4⟩, k, comp, h3, h4, h1, h5⟩
set_option maxHeartbeats 4000000 in
set_option maxRecDepth 100000 in
theorem law_K {s : State} {b : Nat} (hts : ∀ w ∈ lw_tbl, w.before #[Value.ref b] s = true) (hgv : (Jvm.Cond.and given_1 narrow_1).before #[Value.ref b] s = true) : ∃ (dC : Nat → ClassId) (dI : Nat → Nat → Nat) (cy : Nat → ClassId) (sq : Nat → Nat), k_K dC dI cy sq s ∧ k_Z sq (fun q : Nat => s.heap.size ≤ q) s s.heap := by
  have hs := flat_of_before _ hgv
  have hA : ∀ a : Nat, a < s.heap.size → ¬ (fun q : Nat => s.heap.size ≤ q) a := fun a ha h => absurd h (Nat.not_le.mpr ha)
  obtain ⟨adK, adV, hV, hE⟩ := lk_S hgv hA
  obtain ⟨sq, e1, e2⟩ : ∃ sq : Nat → Nat, (∀ i : Nat, i < 21 → sq i = adK i) ∧ ∀ i : Nat, sq (100 + i) = adV i := by
    refine ⟨fun k => if k < 100 then adK k else adV (k - 100), fun i hi => if_pos (by omega), fun i => ?_⟩
    show (if 100 + i < 100 then adK (100 + i) else adV (100 + i - 100)) = adV i
    rw [if_neg (by omega), Nat.add_sub_cancel_left]
  obtain ⟨c0, i0, h0⟩ := u_known (C := RX0) (T := TX0) (N := 5) (n := 5) hts (fun w h => wsL_law_in w (inlX0 w h)) (hts (.instantiable RX0 5) (wsL_law_in _ wd45))
  obtain ⟨c1, i1, h1⟩ := u_known (C := RX1) (T := TX1) (N := 3) (n := 3) hts (fun w h => wsL_law_in w (inlX1 w h)) (hts (.instantiable RX1 3) (wsL_law_in _ wd41))
  obtain ⟨c2, i2, h2⟩ := u_known (C := RX2) (T := TX2) (N := 3) (n := 3) hts (fun w h => wsL_law_in w (inlX2 w h)) (hts (.instantiable RX2 3) (wsL_law_in _ wd25))
  obtain ⟨c3, i3, h3⟩ := u_known (C := RX3) (T := TX3) (N := 2) (n := 2) hts (fun w h => wsL_law_in w (inlX3 w h)) (hts (.instantiable RX3 2) (wsL_law_in _ wd29))
  obtain ⟨c4, i4, h4⟩ := u_known (C := RX4) (T := TX4) (N := 18) (n := 18) hts (fun w h => wsL_law_in w (inlX4 w h)) (hts (.instantiable RX4 18) (wsL_law_in _ wd16))
  obtain ⟨c5, i5, h5⟩ := u_known (C := RX5) (T := TX5) (N := 9) (n := 9) hts (fun w h => wsL_law_in w (inlX5 w h)) (hts (.instantiable RX5 9) (wsL_law_in _ wd33))
  obtain ⟨c6, i6, h6⟩ := u_known (C := RX6) (T := TX6) (N := 4) (n := 4) hts (fun w h => wsL_law_in w (inlX6 w h)) (hts (.instantiable RX6 4) (wsL_law_in _ wd21))
  obtain ⟨c7, i7, h7⟩ := u_known (C := RX7) (T := TX7) (N := 17) (n := 17) hts (fun w h => wsL_law_in w (inlX7 w h)) (hts (.instantiable RX7 17) (wsL_law_in _ wd37))
  obtain ⟨c8, i8, h8⟩ := u_known (C := RX8) (T := TX8) (N := 11) (n := 11) hts (fun w h => wsL_law_in w (inlX8 w h)) (hts (.instantiable RX8 11) (wsL_law_in _ wd49))
  obtain ⟨c9, i9, h9⟩ := u_known (C := RX9) (T := TX9) (N := 16) (n := 16) hts (fun w h => wsL_law_in w (inlX9 w h)) (hts (.instantiable RX9 16) (wsL_law_in _ wd1))
  obtain ⟨c10, i10, h10⟩ := u_known (C := RX10) (T := TX10) (N := 122) (n := 122) hts (fun w h => wsL_law_in w (inlX10 w h)) (hts (.instantiable RX10 122) (wsL_law_in _ wd4))
  obtain ⟨y0, ya0, yb0⟩ := law_arr (hts _ (wsL_law_in _ wd12)) (fun C h => by cases h)
  obtain ⟨y1, ya1, yb1⟩ := law_arr (hts _ (wsL_law_in _ wd193)) (fun C h => by cases h)
  obtain ⟨y2, ya2, yb2⟩ := law_arr (hts _ (wsL_law_in _ wd161)) (fun C h => by cases h)
  obtain ⟨y3, ya3, yb3⟩ := law_arr (hts _ (wsL_law_in _ wd204)) (fun C h => by cases h)
  obtain ⟨y4, ya4, yb4⟩ := law_aro (C := RX6) (va_AO.of (hts _ lt_ao))
  refine ⟨fun k => [c0, c1, c2, c3, c4, c5, c6, c7, c8, c9, c10].getD k c0, fun k => [i0, i1, i2, i3, i4, i5, i6, i7, i8, i9, i10].getD k i0, fun k => [y0, y1, y2, y3, y4].getD k y0, sq, ⟨⟨?_, ?_⟩, ?_⟩, ⟨?_, ?_, ?_⟩⟩
  · intro k q hq
    match k, hq with
    | 0, hq => cases hq; exact h0
    | 1, hq => cases hq; exact h1
    | 2, hq => cases hq; exact h2
    | 3, hq => cases hq; exact h3
    | 4, hq => cases hq; exact h4
    | 5, hq => cases hq; exact h5
    | 6, hq => cases hq; exact h6
    | 7, hq => cases hq; exact h7
    | 8, hq => cases hq; exact h8
    | 9, hq => cases hq; exact h9
    | 10, hq => cases hq; exact h10
    | k + 11, hq => simp [vwCl] at hq
  · intro k q hq
    match k, hq with
    | 0, hq => cases hq; exact ⟨ya0, yb0⟩
    | 1, hq => cases hq; exact ⟨ya1, yb1⟩
    | 2, hq => cases hq; exact ⟨ya2, yb2⟩
    | 3, hq => cases hq; exact ⟨ya3, yb3⟩
    | 4, hq => cases hq; exact ⟨ya4, yb4⟩
    | k + 5, hq => simp [k_tys] at hq
  · exact ⟨va_Nw.of rfl (hts _ lt_n0), va_Nw.of rfl (hts _ lt_n1), va_Nw.of rfl (hts _ lt_n2), va_Nw.of rfl (hts _ lt_n3), va_Nw.of rfl (hts _ lt_n4), va_AO.of (hts _ lt_ao), fun j hj => vk_R.of (A := #[Value.ref b]) (hts _ (lz_tx j hj)) (by rw [e1 j hj]; exact hE j hj)⟩
  · refine ⟨fun i hi => ?_, fun i j hi hj h => hV.2 i j hi hj (by rw [← e1 i hi, ← e1 j hj]; exact h)⟩
    have h := hV.1 i hi
    rw [← e1 i hi, ← e2 i] at h
    exact h
  · exact va_Zof (hts _ lt_z0) (hts _ lt_z1) (va_eqt (hs _ (by decide +kernel))) hA
  · exact va_Zqof (hts _ lt_z2) (hts _ lt_z3) (hs _ (by decide +kernel)) hA
