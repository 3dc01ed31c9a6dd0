def ws_0 : List (List Int) := [[107, 105, 110, 100], [99, 111, 109, 101, 115], [99, 97, 114], [114, 101, 100], [108, 101, 97, 114, 110, 115], [97, 119, 97, 121]]
theorem ws_0_ch : ∀ k : Nat, k < 30 → lf_ch 0 (k : Int) = (wj ws_0).getD k 0 := by
  have h : (List.range 30).all (fun k => decide (lf_ch 0 ((k : Nat) : Int) = (wj ws_0).getD k 0)) = true := by decide +kernel
  intro k hk
  exact of_decide_eq_true (List.all_eq_true.mp h k (List.mem_range.mpr hk))
theorem cl_wl_0 (g : Nat → Int) (xa xe : Int) : ∀ k : Nat, F_X5_wordIn_s0_23 g xa xe k = gw (lf_ch 0) ((30 : Nat) : Int) g xa xe k
  | 0 => rfl
  | k + 1 => by
    show F_X5_wordIn_s0_23b g xa xe (F_X5_wordIn_s0_23 g xa xe k) = gw_b (lf_ch 0) ((30 : Nat) : Int) g xa xe (gw (lf_ch 0) ((30 : Nat) : Int) g xa xe k)
    rw [cl_wl_0 g xa xe k]
    rfl
theorem cl_w_0 {g : Nat → Int} {a e : Nat} {k : Int} : F_X5_wordIn_s0 g (a : Int) (e : Int) k = if k = 1 then wfind g a e ws_0 0 else -1 := by
  unfold F_X5_wordIn_s0
  rw [cl_wl_0]
  by_cases q : k = 1
  · rw [if_pos q, if_pos q]
    exact (gw_loop (B := wj ws_0) (by decide +kernel) ws_0_ch (by decide) 33 0 0 a true (by omega) (by omega) (by omega)).trans (wi_join ws_0 0 (fun r => by cases r) (by decide +kernel))
  · rw [if_neg q, if_neg q]
def ws_1 : List (List Int) := [[97, 119, 97, 121]]
theorem ws_1_ch : ∀ k : Nat, k < 4 → lf_ch 1 (k : Int) = (wj ws_1).getD k 0 := by
  have h : (List.range 4).all (fun k => decide (lf_ch 1 ((k : Nat) : Int) = (wj ws_1).getD k 0)) = true := by decide +kernel
  intro k hk
  exact of_decide_eq_true (List.all_eq_true.mp h k (List.mem_range.mpr hk))
theorem cl_wl_1 (g : Nat → Int) (xa xe : Int) : ∀ k : Nat, F_X5_wordIn_s1_23 g xa xe k = gw (lf_ch 1) ((4 : Nat) : Int) g xa xe k
  | 0 => rfl
  | k + 1 => by
    show F_X5_wordIn_s1_23b g xa xe (F_X5_wordIn_s1_23 g xa xe k) = gw_b (lf_ch 1) ((4 : Nat) : Int) g xa xe (gw (lf_ch 1) ((4 : Nat) : Int) g xa xe k)
    rw [cl_wl_1 g xa xe k]
    rfl
theorem cl_w_1 {g : Nat → Int} {a e : Nat} {k : Int} : F_X5_wordIn_s1 g (a : Int) (e : Int) k = if k = 1 then wfind g a e ws_1 0 else -1 := by
  unfold F_X5_wordIn_s1
  rw [cl_wl_1]
  by_cases q : k = 1
  · rw [if_pos q, if_pos q]
    exact (gw_loop (B := wj ws_1) (by decide +kernel) ws_1_ch (by decide) 7 0 0 a true (by omega) (by omega) (by omega)).trans (wi_join ws_1 0 (fun r => by cases r) (by decide +kernel))
  · rw [if_neg q, if_neg q]
def ws_2 : List (List Int) := [[102, 105, 114, 115, 116], [108, 97, 115, 116], [111, 102, 116, 101, 110], [116, 111, 116, 97, 108], [109, 111, 115, 116], [108, 101, 97, 115, 116]]
theorem ws_2_ch : ∀ k : Nat, k < 33 → lf_ch 2 (k : Int) = (wj ws_2).getD k 0 := by
  have h : (List.range 33).all (fun k => decide (lf_ch 2 ((k : Nat) : Int) = (wj ws_2).getD k 0)) = true := by decide +kernel
  intro k hk
  exact of_decide_eq_true (List.all_eq_true.mp h k (List.mem_range.mpr hk))
theorem cl_wl_2 (g : Nat → Int) (xa xe : Int) : ∀ k : Nat, F_X5_wordIn_s2_23 g xa xe k = gw (lf_ch 2) ((33 : Nat) : Int) g xa xe k
  | 0 => rfl
  | k + 1 => by
    show F_X5_wordIn_s2_23b g xa xe (F_X5_wordIn_s2_23 g xa xe k) = gw_b (lf_ch 2) ((33 : Nat) : Int) g xa xe (gw (lf_ch 2) ((33 : Nat) : Int) g xa xe k)
    rw [cl_wl_2 g xa xe k]
    rfl
theorem cl_w_2 {g : Nat → Int} {a e : Nat} {k : Int} : F_X5_wordIn_s2 g (a : Int) (e : Int) k = if k = 1 then wfind g a e ws_2 0 else -1 := by
  unfold F_X5_wordIn_s2
  rw [cl_wl_2]
  by_cases q : k = 1
  · rw [if_pos q, if_pos q]
    exact (gw_loop (B := wj ws_2) (by decide +kernel) ws_2_ch (by decide) 36 0 0 a true (by omega) (by omega) (by omega)).trans (wi_join ws_2 0 (fun r => by cases r) (by decide +kernel))
  · rw [if_neg q, if_neg q]
def ws_3 : List (List Int) := [[99, 121, 99, 108, 101]]
theorem ws_3_ch : ∀ k : Nat, k < 5 → lf_ch 3 (k : Int) = (wj ws_3).getD k 0 := by
  have h : (List.range 5).all (fun k => decide (lf_ch 3 ((k : Nat) : Int) = (wj ws_3).getD k 0)) = true := by decide +kernel
  intro k hk
  exact of_decide_eq_true (List.all_eq_true.mp h k (List.mem_range.mpr hk))
theorem cl_wl_3 (g : Nat → Int) (xa xe : Int) : ∀ k : Nat, F_X5_wordIn_s3_23 g xa xe k = gw (lf_ch 3) ((5 : Nat) : Int) g xa xe k
  | 0 => rfl
  | k + 1 => by
    show F_X5_wordIn_s3_23b g xa xe (F_X5_wordIn_s3_23 g xa xe k) = gw_b (lf_ch 3) ((5 : Nat) : Int) g xa xe (gw (lf_ch 3) ((5 : Nat) : Int) g xa xe k)
    rw [cl_wl_3 g xa xe k]
    rfl
theorem cl_w_3 {g : Nat → Int} {a e : Nat} {k : Int} : F_X5_wordIn_s3 g (a : Int) (e : Int) k = if k = 1 then wfind g a e ws_3 0 else -1 := by
  unfold F_X5_wordIn_s3
  rw [cl_wl_3]
  by_cases q : k = 1
  · rw [if_pos q, if_pos q]
    exact (gw_loop (B := wj ws_3) (by decide +kernel) ws_3_ch (by decide) 8 0 0 a true (by omega) (by omega) (by omega)).trans (wi_join ws_3 0 (fun r => by cases r) (by decide +kernel))
  · rw [if_neg q, if_neg q]
def ws_4 : List (List Int) := [[103, 114, 101, 101, 110]]
theorem ws_4_ch : ∀ k : Nat, k < 5 → lf_ch 4 (k : Int) = (wj ws_4).getD k 0 := by
  have h : (List.range 5).all (fun k => decide (lf_ch 4 ((k : Nat) : Int) = (wj ws_4).getD k 0)) = true := by decide +kernel
  intro k hk
  exact of_decide_eq_true (List.all_eq_true.mp h k (List.mem_range.mpr hk))
theorem cl_wl_4 (g : Nat → Int) (xa xe : Int) : ∀ k : Nat, F_X5_wordIn_s4_23 g xa xe k = gw (lf_ch 4) ((5 : Nat) : Int) g xa xe k
  | 0 => rfl
  | k + 1 => by
    show F_X5_wordIn_s4_23b g xa xe (F_X5_wordIn_s4_23 g xa xe k) = gw_b (lf_ch 4) ((5 : Nat) : Int) g xa xe (gw (lf_ch 4) ((5 : Nat) : Int) g xa xe k)
    rw [cl_wl_4 g xa xe k]
    rfl
theorem cl_w_4 {g : Nat → Int} {a e : Nat} {k : Int} : F_X5_wordIn_s4 g (a : Int) (e : Int) k = if k = 1 then wfind g a e ws_4 0 else -1 := by
  unfold F_X5_wordIn_s4
  rw [cl_wl_4]
  by_cases q : k = 1
  · rw [if_pos q, if_pos q]
    exact (gw_loop (B := wj ws_4) (by decide +kernel) ws_4_ch (by decide) 8 0 0 a true (by omega) (by omega) (by omega)).trans (wi_join ws_4 0 (fun r => by cases r) (by decide +kernel))
  · rw [if_neg q, if_neg q]
def ws_5 : List (List Int) := [[114, 117, 108, 101]]
theorem ws_5_ch : ∀ k : Nat, k < 4 → lf_ch 5 (k : Int) = (wj ws_5).getD k 0 := by
  have h : (List.range 4).all (fun k => decide (lf_ch 5 ((k : Nat) : Int) = (wj ws_5).getD k 0)) = true := by decide +kernel
  intro k hk
  exact of_decide_eq_true (List.all_eq_true.mp h k (List.mem_range.mpr hk))
theorem cl_wl_5 (g : Nat → Int) (xa xe : Int) : ∀ k : Nat, F_X5_wordIn_s5_23 g xa xe k = gw (lf_ch 5) ((4 : Nat) : Int) g xa xe k
  | 0 => rfl
  | k + 1 => by
    show F_X5_wordIn_s5_23b g xa xe (F_X5_wordIn_s5_23 g xa xe k) = gw_b (lf_ch 5) ((4 : Nat) : Int) g xa xe (gw (lf_ch 5) ((4 : Nat) : Int) g xa xe k)
    rw [cl_wl_5 g xa xe k]
    rfl
theorem cl_w_5 {g : Nat → Int} {a e : Nat} {k : Int} : F_X5_wordIn_s5 g (a : Int) (e : Int) k = if k = 1 then wfind g a e ws_5 0 else -1 := by
  unfold F_X5_wordIn_s5
  rw [cl_wl_5]
  by_cases q : k = 1
  · rw [if_pos q, if_pos q]
    exact (gw_loop (B := wj ws_5) (by decide +kernel) ws_5_ch (by decide) 7 0 0 a true (by omega) (by omega) (by omega)).trans (wi_join ws_5 0 (fun r => by cases r) (by decide +kernel))
  · rw [if_neg q, if_neg q]
def ws_6 : List (List Int) := [[108, 101, 97, 115, 116]]
theorem ws_6_ch : ∀ k : Nat, k < 5 → lf_ch 6 (k : Int) = (wj ws_6).getD k 0 := by
  have h : (List.range 5).all (fun k => decide (lf_ch 6 ((k : Nat) : Int) = (wj ws_6).getD k 0)) = true := by decide +kernel
  intro k hk
  exact of_decide_eq_true (List.all_eq_true.mp h k (List.mem_range.mpr hk))
theorem cl_wl_6 (g : Nat → Int) (xa xe : Int) : ∀ k : Nat, F_X5_wordIn_s6_23 g xa xe k = gw (lf_ch 6) ((5 : Nat) : Int) g xa xe k
  | 0 => rfl
  | k + 1 => by
    show F_X5_wordIn_s6_23b g xa xe (F_X5_wordIn_s6_23 g xa xe k) = gw_b (lf_ch 6) ((5 : Nat) : Int) g xa xe (gw (lf_ch 6) ((5 : Nat) : Int) g xa xe k)
    rw [cl_wl_6 g xa xe k]
    rfl
theorem cl_w_6 {g : Nat → Int} {a e : Nat} {k : Int} : F_X5_wordIn_s6 g (a : Int) (e : Int) k = if k = 1 then wfind g a e ws_6 0 else -1 := by
  unfold F_X5_wordIn_s6
  rw [cl_wl_6]
  by_cases q : k = 1
  · rw [if_pos q, if_pos q]
    exact (gw_loop (B := wj ws_6) (by decide +kernel) ws_6_ch (by decide) 8 0 0 a true (by omega) (by omega) (by omega)).trans (wi_join ws_6 0 (fun r => by cases r) (by decide +kernel))
  · rw [if_neg q, if_neg q]
def ws_7 : List (List Int) := [[99, 97, 108, 109]]
theorem ws_7_ch : ∀ k : Nat, k < 4 → lf_ch 7 (k : Int) = (wj ws_7).getD k 0 := by
  have h : (List.range 4).all (fun k => decide (lf_ch 7 ((k : Nat) : Int) = (wj ws_7).getD k 0)) = true := by decide +kernel
  intro k hk
  exact of_decide_eq_true (List.all_eq_true.mp h k (List.mem_range.mpr hk))
theorem cl_wl_7 (g : Nat → Int) (xa xe : Int) : ∀ k : Nat, F_X5_wordIn_s7_23 g xa xe k = gw (lf_ch 7) ((4 : Nat) : Int) g xa xe k
  | 0 => rfl
  | k + 1 => by
    show F_X5_wordIn_s7_23b g xa xe (F_X5_wordIn_s7_23 g xa xe k) = gw_b (lf_ch 7) ((4 : Nat) : Int) g xa xe (gw (lf_ch 7) ((4 : Nat) : Int) g xa xe k)
    rw [cl_wl_7 g xa xe k]
    rfl
theorem cl_w_7 {g : Nat → Int} {a e : Nat} {k : Int} : F_X5_wordIn_s7 g (a : Int) (e : Int) k = if k = 1 then wfind g a e ws_7 0 else -1 := by
  unfold F_X5_wordIn_s7
  rw [cl_wl_7]
  by_cases q : k = 1
  · rw [if_pos q, if_pos q]
    exact (gw_loop (B := wj ws_7) (by decide +kernel) ws_7_ch (by decide) 7 0 0 a true (by omega) (by omega) (by omega)).trans (wi_join ws_7 0 (fun r => by cases r) (by decide +kernel))
  · rw [if_neg q, if_neg q]
def ws_8 : List (List Int) := [[112, 97, 99, 101]]
theorem ws_8_ch : ∀ k : Nat, k < 4 → lf_ch 8 (k : Int) = (wj ws_8).getD k 0 := by
  have h : (List.range 4).all (fun k => decide (lf_ch 8 ((k : Nat) : Int) = (wj ws_8).getD k 0)) = true := by decide +kernel
  intro k hk
  exact of_decide_eq_true (List.all_eq_true.mp h k (List.mem_range.mpr hk))
theorem cl_wl_8 (g : Nat → Int) (xa xe : Int) : ∀ k : Nat, F_X5_wordIn_s8_23 g xa xe k = gw (lf_ch 8) ((4 : Nat) : Int) g xa xe k
  | 0 => rfl
  | k + 1 => by
    show F_X5_wordIn_s8_23b g xa xe (F_X5_wordIn_s8_23 g xa xe k) = gw_b (lf_ch 8) ((4 : Nat) : Int) g xa xe (gw (lf_ch 8) ((4 : Nat) : Int) g xa xe k)
    rw [cl_wl_8 g xa xe k]
    rfl
theorem cl_w_8 {g : Nat → Int} {a e : Nat} {k : Int} : F_X5_wordIn_s8 g (a : Int) (e : Int) k = if k = 1 then wfind g a e ws_8 0 else -1 := by
  unfold F_X5_wordIn_s8
  rw [cl_wl_8]
  by_cases q : k = 1
  · rw [if_pos q, if_pos q]
    exact (gw_loop (B := wj ws_8) (by decide +kernel) ws_8_ch (by decide) 7 0 0 a true (by omega) (by omega) (by omega)).trans (wi_join ws_8 0 (fun r => by cases r) (by decide +kernel))
  · rw [if_neg q, if_neg q]
def ws_9 : List (List Int) := [[116, 114, 117, 115, 116, 115]]
theorem ws_9_ch : ∀ k : Nat, k < 6 → lf_ch 9 (k : Int) = (wj ws_9).getD k 0 := by
  have h : (List.range 6).all (fun k => decide (lf_ch 9 ((k : Nat) : Int) = (wj ws_9).getD k 0)) = true := by decide +kernel
  intro k hk
  exact of_decide_eq_true (List.all_eq_true.mp h k (List.mem_range.mpr hk))
theorem cl_wl_9 (g : Nat → Int) (xa xe : Int) : ∀ k : Nat, F_X5_wordIn_s9_23 g xa xe k = gw (lf_ch 9) ((6 : Nat) : Int) g xa xe k
  | 0 => rfl
  | k + 1 => by
    show F_X5_wordIn_s9_23b g xa xe (F_X5_wordIn_s9_23 g xa xe k) = gw_b (lf_ch 9) ((6 : Nat) : Int) g xa xe (gw (lf_ch 9) ((6 : Nat) : Int) g xa xe k)
    rw [cl_wl_9 g xa xe k]
    rfl
theorem cl_w_9 {g : Nat → Int} {a e : Nat} {k : Int} : F_X5_wordIn_s9 g (a : Int) (e : Int) k = if k = 1 then wfind g a e ws_9 0 else -1 := by
  unfold F_X5_wordIn_s9
  rw [cl_wl_9]
  by_cases q : k = 1
  · rw [if_pos q, if_pos q]
    exact (gw_loop (B := wj ws_9) (by decide +kernel) ws_9_ch (by decide) 9 0 0 a true (by omega) (by omega) (by omega)).trans (wi_join ws_9 0 (fun r => by cases r) (by decide +kernel))
  · rw [if_neg q, if_neg q]
def ws_10 : List (List Int) := [[105, 115]]
theorem ws_10_ch : ∀ k : Nat, k < 2 → lf_ch 10 (k : Int) = (wj ws_10).getD k 0 := by
  have h : (List.range 2).all (fun k => decide (lf_ch 10 ((k : Nat) : Int) = (wj ws_10).getD k 0)) = true := by decide +kernel
  intro k hk
  exact of_decide_eq_true (List.all_eq_true.mp h k (List.mem_range.mpr hk))
theorem cl_wl_10 (g : Nat → Int) (xa xe : Int) : ∀ k : Nat, F_X5_wordIn_s10_23 g xa xe k = gw (lf_ch 10) ((2 : Nat) : Int) g xa xe k
  | 0 => rfl
  | k + 1 => by
    show F_X5_wordIn_s10_23b g xa xe (F_X5_wordIn_s10_23 g xa xe k) = gw_b (lf_ch 10) ((2 : Nat) : Int) g xa xe (gw (lf_ch 10) ((2 : Nat) : Int) g xa xe k)
    rw [cl_wl_10 g xa xe k]
    rfl
theorem cl_w_10 {g : Nat → Int} {a e : Nat} {k : Int} : F_X5_wordIn_s10 g (a : Int) (e : Int) k = if k = 1 then wfind g a e ws_10 0 else -1 := by
  unfold F_X5_wordIn_s10
  rw [cl_wl_10]
  by_cases q : k = 1
  · rw [if_pos q, if_pos q]
    exact (gw_loop (B := wj ws_10) (by decide +kernel) ws_10_ch (by decide) 5 0 0 a true (by omega) (by omega) (by omega)).trans (wi_join ws_10 0 (fun r => by cases r) (by decide +kernel))
  · rw [if_neg q, if_neg q]
def ws_11 : List (List Int) := [[97, 116]]
theorem ws_11_ch : ∀ k : Nat, k < 2 → lf_ch 11 (k : Int) = (wj ws_11).getD k 0 := by
  have h : (List.range 2).all (fun k => decide (lf_ch 11 ((k : Nat) : Int) = (wj ws_11).getD k 0)) = true := by decide +kernel
  intro k hk
  exact of_decide_eq_true (List.all_eq_true.mp h k (List.mem_range.mpr hk))
theorem cl_wl_11 (g : Nat → Int) (xa xe : Int) : ∀ k : Nat, F_X5_wordIn_s11_23 g xa xe k = gw (lf_ch 11) ((2 : Nat) : Int) g xa xe k
  | 0 => rfl
  | k + 1 => by
    show F_X5_wordIn_s11_23b g xa xe (F_X5_wordIn_s11_23 g xa xe k) = gw_b (lf_ch 11) ((2 : Nat) : Int) g xa xe (gw (lf_ch 11) ((2 : Nat) : Int) g xa xe k)
    rw [cl_wl_11 g xa xe k]
    rfl
theorem cl_w_11 {g : Nat → Int} {a e : Nat} {k : Int} : F_X5_wordIn_s11 g (a : Int) (e : Int) k = if k = 1 then wfind g a e ws_11 0 else -1 := by
  unfold F_X5_wordIn_s11
  rw [cl_wl_11]
  by_cases q : k = 1
  · rw [if_pos q, if_pos q]
    exact (gw_loop (B := wj ws_11) (by decide +kernel) ws_11_ch (by decide) 5 0 0 a true (by omega) (by omega) (by omega)).trans (wi_join ws_11 0 (fun r => by cases r) (by decide +kernel))
  · rw [if_neg q, if_neg q]
def ws_12 : List (List Int) := [[99, 121, 99, 108, 101], [103, 114, 101, 101, 110], [114, 117, 108, 101], [108, 101, 97, 115, 116], [107, 105, 110, 100], [99, 97, 108, 109], [112, 97, 99, 101], [116, 114, 117, 115, 116, 115], [99, 111, 109, 101, 115], [105, 115], [97, 116], [99, 97, 114], [114, 101, 100], [108, 101, 97, 114, 110, 115], [97, 119, 97, 121], [115, 101, 99, 111, 110, 100], [100, 97, 121], [112, 104, 97, 115, 101], [119, 97, 105, 116, 101, 100], [103, 97, 112], [114, 101, 100, 115], [110, 117, 109, 98, 101, 114], [119, 101, 110, 116], [104, 97, 114, 109], [111, 114], [97, 110, 100], [110, 111, 116], [97, 108, 108], [109, 105, 110], [109, 97, 120]]
theorem ws_12_ch : ∀ k : Nat, k < 149 → lf_ch 12 (k : Int) = (wj ws_12).getD k 0 := by
  have h : (List.range 149).all (fun k => decide (lf_ch 12 ((k : Nat) : Int) = (wj ws_12).getD k 0)) = true := by decide +kernel
  intro k hk
  exact of_decide_eq_true (List.all_eq_true.mp h k (List.mem_range.mpr hk))
theorem cl_wl_12 (g : Nat → Int) (xa xe : Int) : ∀ k : Nat, F_X5_wordIn_s12_23 g xa xe k = gw (lf_ch 12) ((149 : Nat) : Int) g xa xe k
  | 0 => rfl
  | k + 1 => by
    show F_X5_wordIn_s12_23b g xa xe (F_X5_wordIn_s12_23 g xa xe k) = gw_b (lf_ch 12) ((149 : Nat) : Int) g xa xe (gw (lf_ch 12) ((149 : Nat) : Int) g xa xe k)
    rw [cl_wl_12 g xa xe k]
    rfl
theorem cl_w_12 {g : Nat → Int} {a e : Nat} {k : Int} : F_X5_wordIn_s12 g (a : Int) (e : Int) k = if k = 1 then wfind g a e ws_12 0 else -1 := by
  unfold F_X5_wordIn_s12
  rw [cl_wl_12]
  by_cases q : k = 1
  · rw [if_pos q, if_pos q]
    exact (gw_loop (B := wj ws_12) (by decide +kernel) ws_12_ch (by decide) 152 0 0 a true (by omega) (by omega) (by omega)).trans (wi_join ws_12 0 (fun r => by cases r) (by decide +kernel))
  · rw [if_neg q, if_neg q]
def ws_13 : List (List Int) := [[111, 114]]
theorem ws_13_ch : ∀ k : Nat, k < 2 → lf_ch 13 (k : Int) = (wj ws_13).getD k 0 := by
  have h : (List.range 2).all (fun k => decide (lf_ch 13 ((k : Nat) : Int) = (wj ws_13).getD k 0)) = true := by decide +kernel
  intro k hk
  exact of_decide_eq_true (List.all_eq_true.mp h k (List.mem_range.mpr hk))
theorem cl_wl_13 (g : Nat → Int) (xa xe : Int) : ∀ k : Nat, F_X5_wordIn_s13_23 g xa xe k = gw (lf_ch 13) ((2 : Nat) : Int) g xa xe k
  | 0 => rfl
  | k + 1 => by
    show F_X5_wordIn_s13_23b g xa xe (F_X5_wordIn_s13_23 g xa xe k) = gw_b (lf_ch 13) ((2 : Nat) : Int) g xa xe (gw (lf_ch 13) ((2 : Nat) : Int) g xa xe k)
    rw [cl_wl_13 g xa xe k]
    rfl
theorem cl_w_13 {g : Nat → Int} {a e : Nat} {k : Int} : F_X5_wordIn_s13 g (a : Int) (e : Int) k = if k = 1 then wfind g a e ws_13 0 else -1 := by
  unfold F_X5_wordIn_s13
  rw [cl_wl_13]
  by_cases q : k = 1
  · rw [if_pos q, if_pos q]
    exact (gw_loop (B := wj ws_13) (by decide +kernel) ws_13_ch (by decide) 5 0 0 a true (by omega) (by omega) (by omega)).trans (wi_join ws_13 0 (fun r => by cases r) (by decide +kernel))
  · rw [if_neg q, if_neg q]
def ws_14 : List (List Int) := [[97, 110, 100]]
theorem ws_14_ch : ∀ k : Nat, k < 3 → lf_ch 14 (k : Int) = (wj ws_14).getD k 0 := by
  have h : (List.range 3).all (fun k => decide (lf_ch 14 ((k : Nat) : Int) = (wj ws_14).getD k 0)) = true := by decide +kernel
  intro k hk
  exact of_decide_eq_true (List.all_eq_true.mp h k (List.mem_range.mpr hk))
theorem cl_wl_14 (g : Nat → Int) (xa xe : Int) : ∀ k : Nat, F_X5_wordIn_s14_23 g xa xe k = gw (lf_ch 14) ((3 : Nat) : Int) g xa xe k
  | 0 => rfl
  | k + 1 => by
    show F_X5_wordIn_s14_23b g xa xe (F_X5_wordIn_s14_23 g xa xe k) = gw_b (lf_ch 14) ((3 : Nat) : Int) g xa xe (gw (lf_ch 14) ((3 : Nat) : Int) g xa xe k)
    rw [cl_wl_14 g xa xe k]
    rfl
theorem cl_w_14 {g : Nat → Int} {a e : Nat} {k : Int} : F_X5_wordIn_s14 g (a : Int) (e : Int) k = if k = 1 then wfind g a e ws_14 0 else -1 := by
  unfold F_X5_wordIn_s14
  rw [cl_wl_14]
  by_cases q : k = 1
  · rw [if_pos q, if_pos q]
    exact (gw_loop (B := wj ws_14) (by decide +kernel) ws_14_ch (by decide) 6 0 0 a true (by omega) (by omega) (by omega)).trans (wi_join ws_14 0 (fun r => by cases r) (by decide +kernel))
  · rw [if_neg q, if_neg q]
def ws_15 : List (List Int) := [[110, 111, 116]]
theorem ws_15_ch : ∀ k : Nat, k < 3 → lf_ch 15 (k : Int) = (wj ws_15).getD k 0 := by
  have h : (List.range 3).all (fun k => decide (lf_ch 15 ((k : Nat) : Int) = (wj ws_15).getD k 0)) = true := by decide +kernel
  intro k hk
  exact of_decide_eq_true (List.all_eq_true.mp h k (List.mem_range.mpr hk))
theorem cl_wl_15 (g : Nat → Int) (xa xe : Int) : ∀ k : Nat, F_X5_wordIn_s15_23 g xa xe k = gw (lf_ch 15) ((3 : Nat) : Int) g xa xe k
  | 0 => rfl
  | k + 1 => by
    show F_X5_wordIn_s15_23b g xa xe (F_X5_wordIn_s15_23 g xa xe k) = gw_b (lf_ch 15) ((3 : Nat) : Int) g xa xe (gw (lf_ch 15) ((3 : Nat) : Int) g xa xe k)
    rw [cl_wl_15 g xa xe k]
    rfl
theorem cl_w_15 {g : Nat → Int} {a e : Nat} {k : Int} : F_X5_wordIn_s15 g (a : Int) (e : Int) k = if k = 1 then wfind g a e ws_15 0 else -1 := by
  unfold F_X5_wordIn_s15
  rw [cl_wl_15]
  by_cases q : k = 1
  · rw [if_pos q, if_pos q]
    exact (gw_loop (B := wj ws_15) (by decide +kernel) ws_15_ch (by decide) 6 0 0 a true (by omega) (by omega) (by omega)).trans (wi_join ws_15 0 (fun r => by cases r) (by decide +kernel))
  · rw [if_neg q, if_neg q]
def ws_16 : List (List Int) := [[97, 108, 108]]
theorem ws_16_ch : ∀ k : Nat, k < 3 → lf_ch 16 (k : Int) = (wj ws_16).getD k 0 := by
  have h : (List.range 3).all (fun k => decide (lf_ch 16 ((k : Nat) : Int) = (wj ws_16).getD k 0)) = true := by decide +kernel
  intro k hk
  exact of_decide_eq_true (List.all_eq_true.mp h k (List.mem_range.mpr hk))
theorem cl_wl_16 (g : Nat → Int) (xa xe : Int) : ∀ k : Nat, F_X5_wordIn_s16_23 g xa xe k = gw (lf_ch 16) ((3 : Nat) : Int) g xa xe k
  | 0 => rfl
  | k + 1 => by
    show F_X5_wordIn_s16_23b g xa xe (F_X5_wordIn_s16_23 g xa xe k) = gw_b (lf_ch 16) ((3 : Nat) : Int) g xa xe (gw (lf_ch 16) ((3 : Nat) : Int) g xa xe k)
    rw [cl_wl_16 g xa xe k]
    rfl
theorem cl_w_16 {g : Nat → Int} {a e : Nat} {k : Int} : F_X5_wordIn_s16 g (a : Int) (e : Int) k = if k = 1 then wfind g a e ws_16 0 else -1 := by
  unfold F_X5_wordIn_s16
  rw [cl_wl_16]
  by_cases q : k = 1
  · rw [if_pos q, if_pos q]
    exact (gw_loop (B := wj ws_16) (by decide +kernel) ws_16_ch (by decide) 6 0 0 a true (by omega) (by omega) (by omega)).trans (wi_join ws_16 0 (fun r => by cases r) (by decide +kernel))
  · rw [if_neg q, if_neg q]
def ws_17 : List (List Int) := [[109, 105, 110]]
theorem ws_17_ch : ∀ k : Nat, k < 3 → lf_ch 17 (k : Int) = (wj ws_17).getD k 0 := by
  have h : (List.range 3).all (fun k => decide (lf_ch 17 ((k : Nat) : Int) = (wj ws_17).getD k 0)) = true := by decide +kernel
  intro k hk
  exact of_decide_eq_true (List.all_eq_true.mp h k (List.mem_range.mpr hk))
theorem cl_wl_17 (g : Nat → Int) (xa xe : Int) : ∀ k : Nat, F_X5_wordIn_s17_23 g xa xe k = gw (lf_ch 17) ((3 : Nat) : Int) g xa xe k
  | 0 => rfl
  | k + 1 => by
    show F_X5_wordIn_s17_23b g xa xe (F_X5_wordIn_s17_23 g xa xe k) = gw_b (lf_ch 17) ((3 : Nat) : Int) g xa xe (gw (lf_ch 17) ((3 : Nat) : Int) g xa xe k)
    rw [cl_wl_17 g xa xe k]
    rfl
theorem cl_w_17 {g : Nat → Int} {a e : Nat} {k : Int} : F_X5_wordIn_s17 g (a : Int) (e : Int) k = if k = 1 then wfind g a e ws_17 0 else -1 := by
  unfold F_X5_wordIn_s17
  rw [cl_wl_17]
  by_cases q : k = 1
  · rw [if_pos q, if_pos q]
    exact (gw_loop (B := wj ws_17) (by decide +kernel) ws_17_ch (by decide) 6 0 0 a true (by omega) (by omega) (by omega)).trans (wi_join ws_17 0 (fun r => by cases r) (by decide +kernel))
  · rw [if_neg q, if_neg q]
def ws_18 : List (List Int) := [[109, 97, 120]]
theorem ws_18_ch : ∀ k : Nat, k < 3 → lf_ch 18 (k : Int) = (wj ws_18).getD k 0 := by
  have h : (List.range 3).all (fun k => decide (lf_ch 18 ((k : Nat) : Int) = (wj ws_18).getD k 0)) = true := by decide +kernel
  intro k hk
  exact of_decide_eq_true (List.all_eq_true.mp h k (List.mem_range.mpr hk))
theorem cl_wl_18 (g : Nat → Int) (xa xe : Int) : ∀ k : Nat, F_X5_wordIn_s18_23 g xa xe k = gw (lf_ch 18) ((3 : Nat) : Int) g xa xe k
  | 0 => rfl
  | k + 1 => by
    show F_X5_wordIn_s18_23b g xa xe (F_X5_wordIn_s18_23 g xa xe k) = gw_b (lf_ch 18) ((3 : Nat) : Int) g xa xe (gw (lf_ch 18) ((3 : Nat) : Int) g xa xe k)
    rw [cl_wl_18 g xa xe k]
    rfl
theorem cl_w_18 {g : Nat → Int} {a e : Nat} {k : Int} : F_X5_wordIn_s18 g (a : Int) (e : Int) k = if k = 1 then wfind g a e ws_18 0 else -1 := by
  unfold F_X5_wordIn_s18
  rw [cl_wl_18]
  by_cases q : k = 1
  · rw [if_pos q, if_pos q]
    exact (gw_loop (B := wj ws_18) (by decide +kernel) ws_18_ch (by decide) 6 0 0 a true (by omega) (by omega) (by omega)).trans (wi_join ws_18 0 (fun r => by cases r) (by decide +kernel))
  · rw [if_neg q, if_neg q]
def ws_19 : List (List Int) := [[107, 105, 110, 100]]
theorem ws_19_ch : ∀ k : Nat, k < 4 → lf_ch 19 (k : Int) = (wj ws_19).getD k 0 := by
  have h : (List.range 4).all (fun k => decide (lf_ch 19 ((k : Nat) : Int) = (wj ws_19).getD k 0)) = true := by decide +kernel
  intro k hk
  exact of_decide_eq_true (List.all_eq_true.mp h k (List.mem_range.mpr hk))
theorem cl_wl_19 (g : Nat → Int) (xa xe : Int) : ∀ k : Nat, F_X5_wordIn_s19_23 g xa xe k = gw (lf_ch 19) ((4 : Nat) : Int) g xa xe k
  | 0 => rfl
  | k + 1 => by
    show F_X5_wordIn_s19_23b g xa xe (F_X5_wordIn_s19_23 g xa xe k) = gw_b (lf_ch 19) ((4 : Nat) : Int) g xa xe (gw (lf_ch 19) ((4 : Nat) : Int) g xa xe k)
    rw [cl_wl_19 g xa xe k]
    rfl
theorem cl_w_19 {g : Nat → Int} {a e : Nat} {k : Int} : F_X5_wordIn_s19 g (a : Int) (e : Int) k = if k = 1 then wfind g a e ws_19 0 else -1 := by
  unfold F_X5_wordIn_s19
  rw [cl_wl_19]
  by_cases q : k = 1
  · rw [if_pos q, if_pos q]
    exact (gw_loop (B := wj ws_19) (by decide +kernel) ws_19_ch (by decide) 7 0 0 a true (by omega) (by omega) (by omega)).trans (wi_join ws_19 0 (fun r => by cases r) (by decide +kernel))
  · rw [if_neg q, if_neg q]
def ws_20 : List (List Int) := [[115, 101, 99, 111, 110, 100], [100, 97, 121], [112, 104, 97, 115, 101], [119, 97, 105, 116, 101, 100], [99, 97, 108, 109], [112, 97, 99, 101], [116, 114, 117, 115, 116, 115], [103, 97, 112], [114, 101, 100, 115], [110, 117, 109, 98, 101, 114], [119, 101, 110, 116], [104, 97, 114, 109]]
theorem ws_20_ch : ∀ k : Nat, k < 66 → lf_ch 20 (k : Int) = (wj ws_20).getD k 0 := by
  have h : (List.range 66).all (fun k => decide (lf_ch 20 ((k : Nat) : Int) = (wj ws_20).getD k 0)) = true := by decide +kernel
  intro k hk
  exact of_decide_eq_true (List.all_eq_true.mp h k (List.mem_range.mpr hk))
theorem cl_wl_20 (g : Nat → Int) (xa xe : Int) : ∀ k : Nat, F_X5_wordIn_s20_23 g xa xe k = gw (lf_ch 20) ((66 : Nat) : Int) g xa xe k
  | 0 => rfl
  | k + 1 => by
    show F_X5_wordIn_s20_23b g xa xe (F_X5_wordIn_s20_23 g xa xe k) = gw_b (lf_ch 20) ((66 : Nat) : Int) g xa xe (gw (lf_ch 20) ((66 : Nat) : Int) g xa xe k)
    rw [cl_wl_20 g xa xe k]
    rfl
theorem cl_w_20 {g : Nat → Int} {a e : Nat} {k : Int} : F_X5_wordIn_s20 g (a : Int) (e : Int) k = if k = 1 then wfind g a e ws_20 0 else -1 := by
  unfold F_X5_wordIn_s20
  rw [cl_wl_20]
  by_cases q : k = 1
  · rw [if_pos q, if_pos q]
    exact (gw_loop (B := wj ws_20) (by decide +kernel) ws_20_ch (by decide) 69 0 0 a true (by omega) (by omega) (by omega)).trans (wi_join ws_20 0 (fun r => by cases r) (by decide +kernel))
  · rw [if_neg q, if_neg q]
