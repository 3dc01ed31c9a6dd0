theorem F_X5_takeWord_s16_t {g : Nat → Int} {n : Nat} (hn : n ≤ 1600) : twm g n (F_X5_takeWord_s16 g (n : Int)) ws_16 := by
  constructor
  · intro p hp
    unfold F_X5_takeWord_s16 F_X5_takeWord_s16_14 F_X5_takeWord_s16_27
    rw [lf_b_e, cl_w_16, wl_c, cl_mve hn hp]
    by_cases q : wl g n ws_16 p = -1
    · rw [if_pos q, if_pos q]
      rfl
    · rw [if_neg q, if_neg q]
      rfl
  · unfold F_X5_takeWord_s16 F_X5_takeWord_s16_14 F_X5_takeWord_s16_27
    rw [lf_b_e, cl_w_16, if_neg (show ¬ (0 : Int) = 1 from by decide), if_pos rfl]
    rfl
theorem F_X5_takeWord_s17_t {g : Nat → Int} {n : Nat} (hn : n ≤ 1600) : twm g n (F_X5_takeWord_s17 g (n : Int)) ws_17 := by
  constructor
  · intro p hp
    unfold F_X5_takeWord_s17 F_X5_takeWord_s17_14 F_X5_takeWord_s17_27
    rw [lf_b_e, cl_w_17, wl_c, cl_mve hn hp]
    by_cases q : wl g n ws_17 p = -1
    · rw [if_pos q, if_pos q]
      rfl
    · rw [if_neg q, if_neg q]
      rfl
  · unfold F_X5_takeWord_s17 F_X5_takeWord_s17_14 F_X5_takeWord_s17_27
    rw [lf_b_e, cl_w_17, if_neg (show ¬ (0 : Int) = 1 from by decide), if_pos rfl]
    rfl
theorem F_X5_takeWord_s18_t {g : Nat → Int} {n : Nat} (hn : n ≤ 1600) : twm g n (F_X5_takeWord_s18 g (n : Int)) ws_18 := by
  constructor
  · intro p hp
    unfold F_X5_takeWord_s18 F_X5_takeWord_s18_14 F_X5_takeWord_s18_27
    rw [lf_b_e, cl_w_18, wl_c, cl_mve hn hp]
    by_cases q : wl g n ws_18 p = -1
    · rw [if_pos q, if_pos q]
      rfl
    · rw [if_neg q, if_neg q]
      rfl
  · unfold F_X5_takeWord_s18 F_X5_takeWord_s18_14 F_X5_takeWord_s18_27
    rw [lf_b_e, cl_w_18, if_neg (show ¬ (0 : Int) = 1 from by decide), if_pos rfl]
    rfl
theorem F_X5_takeWord_s14_t {g : Nat → Int} {n : Nat} (hn : n ≤ 1600) : twm g n (F_X5_takeWord_s14 g (n : Int)) ws_14 := by
  constructor
  · intro p hp
    unfold F_X5_takeWord_s14 F_X5_takeWord_s14_14 F_X5_takeWord_s14_27
    rw [lf_b_e, cl_w_14, wl_c, cl_mve hn hp]
    by_cases q : wl g n ws_14 p = -1
    · rw [if_pos q, if_pos q]
      rfl
    · rw [if_neg q, if_neg q]
      rfl
  · unfold F_X5_takeWord_s14 F_X5_takeWord_s14_14 F_X5_takeWord_s14_27
    rw [lf_b_e, cl_w_14, if_neg (show ¬ (0 : Int) = 1 from by decide), if_pos rfl]
    rfl
theorem F_X5_takeWord_s13_t {g : Nat → Int} {n : Nat} (hn : n ≤ 1600) : twm g n (F_X5_takeWord_s13 g (n : Int)) ws_13 := by
  constructor
  · intro p hp
    unfold F_X5_takeWord_s13 F_X5_takeWord_s13_14 F_X5_takeWord_s13_27
    rw [lf_b_e, cl_w_13, wl_c, cl_mve hn hp]
    by_cases q : wl g n ws_13 p = -1
    · rw [if_pos q, if_pos q]
      rfl
    · rw [if_neg q, if_neg q]
      rfl
  · unfold F_X5_takeWord_s13 F_X5_takeWord_s13_14 F_X5_takeWord_s13_27
    rw [lf_b_e, cl_w_13, if_neg (show ¬ (0 : Int) = 1 from by decide), if_pos rfl]
    rfl
