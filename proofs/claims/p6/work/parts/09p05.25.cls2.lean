/-- a word, then a number -/
def sp_nb (g : Nat → Int) (n : Nat) (ws : List (List Int)) (lo hi : Int) (p : Nat) : Int × ST := match sp_w g n ws p with
  | .inl q => (lo, .inl q)
  | .inr p2 => sp_num g n lo hi p2
theorem sp_nb_v {g : Nat → Int} {n p : Nat} (ws : List (List Int)) (lo hi : Int) (hp : p ≤ n) : sv n (sp_nb g n ws lo hi p).2 := by
  unfold sp_nb
  have h := sp_w_v (g := g) ws hp
  cases e : sp_w g n ws p with
  | inl q => rw [e] at h; exact h
  | inr p2 => rw [e] at h; exact sp_num_v lo hi h
theorem F_X5_needWord_s3_g (g : Nat → Int) (n a e k f q : Int) : F_X5_needWord_s3 g n a e k f q = gW (F_X5_wordIn_s3 g a e k) g n a e f q := rfl
theorem F_X5_needWord_s3_1 {g : Nat → Int} {n : Nat} {p : Nat} (hn : n ≤ 1600) (hp : p ≤ n) : F_X5_needWord_s3 g (n : Int) (tx_a g n p : Int) (tx_e g n p : Int) (tx_k g n p : Int) (0 : Int) (-1 : Int) = cst g n (sp_w g n ws_3 p) := by
  rw [F_X5_needWord_s3_g, cl_w_3, wl_c]
  exact gW_1 hn hp ws_3
theorem F_X5_needWord_s3_0 {g : Nat → Int} {n : Nat} {f q : Int} (h : ¬ f = 0) : F_X5_needWord_s3 g (n : Int) (n : Int) (n : Int) (0 : Int) f q = cst g n (.inl (f, q)) := by
  rw [F_X5_needWord_s3_g, cl_w_3, if_neg (by decide)]
  exact gW_0 h
theorem F_X5_needWord_s4_g (g : Nat → Int) (n a e k f q : Int) : F_X5_needWord_s4 g n a e k f q = gW (F_X5_wordIn_s4 g a e k) g n a e f q := rfl
theorem F_X5_needWord_s4_1 {g : Nat → Int} {n : Nat} {p : Nat} (hn : n ≤ 1600) (hp : p ≤ n) : F_X5_needWord_s4 g (n : Int) (tx_a g n p : Int) (tx_e g n p : Int) (tx_k g n p : Int) (0 : Int) (-1 : Int) = cst g n (sp_w g n ws_4 p) := by
  rw [F_X5_needWord_s4_g, cl_w_4, wl_c]
  exact gW_1 hn hp ws_4
theorem F_X5_needWord_s4_0 {g : Nat → Int} {n : Nat} {f q : Int} (h : ¬ f = 0) : F_X5_needWord_s4 g (n : Int) (n : Int) (n : Int) (0 : Int) f q = cst g n (.inl (f, q)) := by
  rw [F_X5_needWord_s4_g, cl_w_4, if_neg (by decide)]
  exact gW_0 h
theorem F_X5_needWord_s5_g (g : Nat → Int) (n a e k f q : Int) : F_X5_needWord_s5 g n a e k f q = gW (F_X5_wordIn_s5 g a e k) g n a e f q := rfl
theorem F_X5_needWord_s5_1 {g : Nat → Int} {n : Nat} {p : Nat} (hn : n ≤ 1600) (hp : p ≤ n) : F_X5_needWord_s5 g (n : Int) (tx_a g n p : Int) (tx_e g n p : Int) (tx_k g n p : Int) (0 : Int) (-1 : Int) = cst g n (sp_w g n ws_5 p) := by
  rw [F_X5_needWord_s5_g, cl_w_5, wl_c]
  exact gW_1 hn hp ws_5
theorem F_X5_needWord_s5_0 {g : Nat → Int} {n : Nat} {f q : Int} (h : ¬ f = 0) : F_X5_needWord_s5 g (n : Int) (n : Int) (n : Int) (0 : Int) f q = cst g n (.inl (f, q)) := by
  rw [F_X5_needWord_s5_g, cl_w_5, if_neg (by decide)]
  exact gW_0 h
theorem F_X5_needWord_s6_g (g : Nat → Int) (n a e k f q : Int) : F_X5_needWord_s6 g n a e k f q = gW (F_X5_wordIn_s6 g a e k) g n a e f q := rfl
theorem F_X5_needWord_s6_1 {g : Nat → Int} {n : Nat} {p : Nat} (hn : n ≤ 1600) (hp : p ≤ n) : F_X5_needWord_s6 g (n : Int) (tx_a g n p : Int) (tx_e g n p : Int) (tx_k g n p : Int) (0 : Int) (-1 : Int) = cst g n (sp_w g n ws_6 p) := by
  rw [F_X5_needWord_s6_g, cl_w_6, wl_c]
  exact gW_1 hn hp ws_6
theorem F_X5_needWord_s6_0 {g : Nat → Int} {n : Nat} {f q : Int} (h : ¬ f = 0) : F_X5_needWord_s6 g (n : Int) (n : Int) (n : Int) (0 : Int) f q = cst g n (.inl (f, q)) := by
  rw [F_X5_needWord_s6_g, cl_w_6, if_neg (by decide)]
  exact gW_0 h
theorem F_X5_needWord_s7_g (g : Nat → Int) (n a e k f q : Int) : F_X5_needWord_s7 g n a e k f q = gW (F_X5_wordIn_s7 g a e k) g n a e f q := rfl
theorem F_X5_needWord_s7_1 {g : Nat → Int} {n : Nat} {p : Nat} (hn : n ≤ 1600) (hp : p ≤ n) : F_X5_needWord_s7 g (n : Int) (tx_a g n p : Int) (tx_e g n p : Int) (tx_k g n p : Int) (0 : Int) (-1 : Int) = cst g n (sp_w g n ws_7 p) := by
  rw [F_X5_needWord_s7_g, cl_w_7, wl_c]
  exact gW_1 hn hp ws_7
theorem F_X5_needWord_s7_0 {g : Nat → Int} {n : Nat} {f q : Int} (h : ¬ f = 0) : F_X5_needWord_s7 g (n : Int) (n : Int) (n : Int) (0 : Int) f q = cst g n (.inl (f, q)) := by
  rw [F_X5_needWord_s7_g, cl_w_7, if_neg (by decide)]
  exact gW_0 h
theorem F_X5_needWord_s8_g (g : Nat → Int) (n a e k f q : Int) : F_X5_needWord_s8 g n a e k f q = gW (F_X5_wordIn_s8 g a e k) g n a e f q := rfl
theorem F_X5_needWord_s8_1 {g : Nat → Int} {n : Nat} {p : Nat} (hn : n ≤ 1600) (hp : p ≤ n) : F_X5_needWord_s8 g (n : Int) (tx_a g n p : Int) (tx_e g n p : Int) (tx_k g n p : Int) (0 : Int) (-1 : Int) = cst g n (sp_w g n ws_8 p) := by
  rw [F_X5_needWord_s8_g, cl_w_8, wl_c]
  exact gW_1 hn hp ws_8
theorem F_X5_needWord_s8_0 {g : Nat → Int} {n : Nat} {f q : Int} (h : ¬ f = 0) : F_X5_needWord_s8 g (n : Int) (n : Int) (n : Int) (0 : Int) f q = cst g n (.inl (f, q)) := by
  rw [F_X5_needWord_s8_g, cl_w_8, if_neg (by decide)]
  exact gW_0 h
theorem F_X5_needWord_s9_g (g : Nat → Int) (n a e k f q : Int) : F_X5_needWord_s9 g n a e k f q = gW (F_X5_wordIn_s9 g a e k) g n a e f q := rfl
theorem F_X5_needWord_s9_1 {g : Nat → Int} {n : Nat} {p : Nat} (hn : n ≤ 1600) (hp : p ≤ n) : F_X5_needWord_s9 g (n : Int) (tx_a g n p : Int) (tx_e g n p : Int) (tx_k g n p : Int) (0 : Int) (-1 : Int) = cst g n (sp_w g n ws_9 p) := by
  rw [F_X5_needWord_s9_g, cl_w_9, wl_c]
  exact gW_1 hn hp ws_9
theorem F_X5_needWord_s9_0 {g : Nat → Int} {n : Nat} {f q : Int} (h : ¬ f = 0) : F_X5_needWord_s9 g (n : Int) (n : Int) (n : Int) (0 : Int) f q = cst g n (.inl (f, q)) := by
  rw [F_X5_needWord_s9_g, cl_w_9, if_neg (by decide)]
  exact gW_0 h
theorem F_X5_needWord_s10_g (g : Nat → Int) (n a e k f q : Int) : F_X5_needWord_s10 g n a e k f q = gW (F_X5_wordIn_s10 g a e k) g n a e f q := rfl
theorem F_X5_needWord_s10_1 {g : Nat → Int} {n : Nat} {p : Nat} (hn : n ≤ 1600) (hp : p ≤ n) : F_X5_needWord_s10 g (n : Int) (tx_a g n p : Int) (tx_e g n p : Int) (tx_k g n p : Int) (0 : Int) (-1 : Int) = cst g n (sp_w g n ws_10 p) := by
  rw [F_X5_needWord_s10_g, cl_w_10, wl_c]
  exact gW_1 hn hp ws_10
theorem F_X5_needWord_s10_0 {g : Nat → Int} {n : Nat} {f q : Int} (h : ¬ f = 0) : F_X5_needWord_s10 g (n : Int) (n : Int) (n : Int) (0 : Int) f q = cst g n (.inl (f, q)) := by
  rw [F_X5_needWord_s10_g, cl_w_10, if_neg (by decide)]
  exact gW_0 h
theorem F_X5_needWord_s11_g (g : Nat → Int) (n a e k f q : Int) : F_X5_needWord_s11 g n a e k f q = gW (F_X5_wordIn_s11 g a e k) g n a e f q := rfl
theorem F_X5_needWord_s11_1 {g : Nat → Int} {n : Nat} {p : Nat} (hn : n ≤ 1600) (hp : p ≤ n) : F_X5_needWord_s11 g (n : Int) (tx_a g n p : Int) (tx_e g n p : Int) (tx_k g n p : Int) (0 : Int) (-1 : Int) = cst g n (sp_w g n ws_11 p) := by
  rw [F_X5_needWord_s11_g, cl_w_11, wl_c]
  exact gW_1 hn hp ws_11
theorem F_X5_needWord_s11_0 {g : Nat → Int} {n : Nat} {f q : Int} (h : ¬ f = 0) : F_X5_needWord_s11 g (n : Int) (n : Int) (n : Int) (0 : Int) f q = cst g n (.inl (f, q)) := by
  rw [F_X5_needWord_s11_g, cl_w_11, if_neg (by decide)]
  exact gW_0 h
theorem F_X5_needWord_s1_g (g : Nat → Int) (n a e k f q : Int) : F_X5_needWord_s1 g n a e k f q = gW (F_X5_wordIn_s1 g a e k) g n a e f q := rfl
theorem F_X5_needWord_s1_1 {g : Nat → Int} {n : Nat} {p : Nat} (hn : n ≤ 1600) (hp : p ≤ n) : F_X5_needWord_s1 g (n : Int) (tx_a g n p : Int) (tx_e g n p : Int) (tx_k g n p : Int) (0 : Int) (-1 : Int) = cst g n (sp_w g n ws_1 p) := by
  rw [F_X5_needWord_s1_g, cl_w_1, wl_c]
  exact gW_1 hn hp ws_1
theorem F_X5_needWord_s1_0 {g : Nat → Int} {n : Nat} {f q : Int} (h : ¬ f = 0) : F_X5_needWord_s1 g (n : Int) (n : Int) (n : Int) (0 : Int) f q = cst g n (.inl (f, q)) := by
  rw [F_X5_needWord_s1_g, cl_w_1, if_neg (by decide)]
  exact gW_0 h
theorem F_X5_number_a0_0_a1_100_l (g : Nat → Int) (n a e f q : Int) : ∀ k : Nat, F_X5_number_a0_0_a1_100_53 g n a e f q k = gn g n a e f q (0 : Int) (100 : Int) k
  | 0 => rfl
  | k + 1 => by
    show F_X5_number_a0_0_a1_100_53b g n a e f q (F_X5_number_a0_0_a1_100_53 g n a e f q k) = gn_b g n a e f q (0 : Int) (100 : Int) (gn g n a e f q (0 : Int) (100 : Int) k)
    rw [F_X5_number_a0_0_a1_100_l g n a e f q k]
    rfl
theorem F_X5_number_a0_0_a1_100_g (g : Nat → Int) (n a e k f q : Int) : F_X5_number_a0_0_a1_100 g n a e k f q = gN g n a e k f q (0 : Int) (100 : Int) := by
  unfold F_X5_number_a0_0_a1_100
  rw [F_X5_number_a0_0_a1_100_l]
  rfl
theorem F_X5_number_a0_0_a1_199_l (g : Nat → Int) (n a e f q : Int) : ∀ k : Nat, F_X5_number_a0_0_a1_199_53 g n a e f q k = gn g n a e f q (0 : Int) (199 : Int) k
  | 0 => rfl
  | k + 1 => by
    show F_X5_number_a0_0_a1_199_53b g n a e f q (F_X5_number_a0_0_a1_199_53 g n a e f q k) = gn_b g n a e f q (0 : Int) (199 : Int) (gn g n a e f q (0 : Int) (199 : Int) k)
    rw [F_X5_number_a0_0_a1_199_l g n a e f q k]
    rfl
theorem F_X5_number_a0_0_a1_199_g (g : Nat → Int) (n a e k f q : Int) : F_X5_number_a0_0_a1_199 g n a e k f q = gN g n a e k f q (0 : Int) (199 : Int) := by
  unfold F_X5_number_a0_0_a1_199
  rw [F_X5_number_a0_0_a1_199_l]
  rfl
theorem F_X5_number_a0_0_a1_2_l (g : Nat → Int) (n a e f q : Int) : ∀ k : Nat, F_X5_number_a0_0_a1_2_53 g n a e f q k = gn g n a e f q (0 : Int) (2 : Int) k
  | 0 => rfl
  | k + 1 => by
    show F_X5_number_a0_0_a1_2_53b g n a e f q (F_X5_number_a0_0_a1_2_53 g n a e f q k) = gn_b g n a e f q (0 : Int) (2 : Int) (gn g n a e f q (0 : Int) (2 : Int) k)
    rw [F_X5_number_a0_0_a1_2_l g n a e f q k]
    rfl
theorem F_X5_number_a0_0_a1_2_g (g : Nat → Int) (n a e k f q : Int) : F_X5_number_a0_0_a1_2 g n a e k f q = gN g n a e k f q (0 : Int) (2 : Int) := by
  unfold F_X5_number_a0_0_a1_2
  rw [F_X5_number_a0_0_a1_2_l]
  rfl
theorem F_X5_number_a0_0_a1_9_l (g : Nat → Int) (n a e f q : Int) : ∀ k : Nat, F_X5_number_a0_0_a1_9_53 g n a e f q k = gn g n a e f q (0 : Int) (9 : Int) k
  | 0 => rfl
  | k + 1 => by
    show F_X5_number_a0_0_a1_9_53b g n a e f q (F_X5_number_a0_0_a1_9_53 g n a e f q k) = gn_b g n a e f q (0 : Int) (9 : Int) (gn g n a e f q (0 : Int) (9 : Int) k)
    rw [F_X5_number_a0_0_a1_9_l g n a e f q k]
    rfl
theorem F_X5_number_a0_0_a1_9_g (g : Nat → Int) (n a e k f q : Int) : F_X5_number_a0_0_a1_9 g n a e k f q = gN g n a e k f q (0 : Int) (9 : Int) := by
  unfold F_X5_number_a0_0_a1_9
  rw [F_X5_number_a0_0_a1_9_l]
  rfl
theorem F_X5_number_a0_0_a1_99_l (g : Nat → Int) (n a e f q : Int) : ∀ k : Nat, F_X5_number_a0_0_a1_99_53 g n a e f q k = gn g n a e f q (0 : Int) (99 : Int) k
  | 0 => rfl
  | k + 1 => by
    show F_X5_number_a0_0_a1_99_53b g n a e f q (F_X5_number_a0_0_a1_99_53 g n a e f q k) = gn_b g n a e f q (0 : Int) (99 : Int) (gn g n a e f q (0 : Int) (99 : Int) k)
    rw [F_X5_number_a0_0_a1_99_l g n a e f q k]
    rfl
theorem F_X5_number_a0_0_a1_99_g (g : Nat → Int) (n a e k f q : Int) : F_X5_number_a0_0_a1_99 g n a e k f q = gN g n a e k f q (0 : Int) (99 : Int) := by
  unfold F_X5_number_a0_0_a1_99
  rw [F_X5_number_a0_0_a1_99_l]
  rfl
theorem F_X5_number_a0_0_a1_9999_l (g : Nat → Int) (n a e f q : Int) : ∀ k : Nat, F_X5_number_a0_0_a1_9999_53 g n a e f q k = gn g n a e f q (0 : Int) (9999 : Int) k
  | 0 => rfl
  | k + 1 => by
    show F_X5_number_a0_0_a1_9999_53b g n a e f q (F_X5_number_a0_0_a1_9999_53 g n a e f q k) = gn_b g n a e f q (0 : Int) (9999 : Int) (gn g n a e f q (0 : Int) (9999 : Int) k)
    rw [F_X5_number_a0_0_a1_9999_l g n a e f q k]
    rfl
theorem F_X5_number_a0_0_a1_9999_g (g : Nat → Int) (n a e k f q : Int) : F_X5_number_a0_0_a1_9999 g n a e k f q = gN g n a e k f q (0 : Int) (9999 : Int) := by
  unfold F_X5_number_a0_0_a1_9999
  rw [F_X5_number_a0_0_a1_9999_l]
  rfl
theorem F_X5_number_a0_1_l (g : Nat → Int) (n a e f q : Int) (h : Int) : ∀ k : Nat, F_X5_number_a0_1_53 g n a e f q h k = gn g n a e f q (1 : Int) h k
  | 0 => rfl
  | k + 1 => by
    show F_X5_number_a0_1_53b g n a e f q h (F_X5_number_a0_1_53 g n a e f q h k) = gn_b g n a e f q (1 : Int) h (gn g n a e f q (1 : Int) h k)
    rw [F_X5_number_a0_1_l g n a e f q h k]
    rfl
theorem F_X5_number_a0_1_g (g : Nat → Int) (n a e k f q : Int) (h : Int) : F_X5_number_a0_1 g n a e k f q h = gN g n a e k f q (1 : Int) h := by
  unfold F_X5_number_a0_1
  rw [F_X5_number_a0_1_l]
  rfl
theorem F_X5_number_a0_10_a1_120_l (g : Nat → Int) (n a e f q : Int) : ∀ k : Nat, F_X5_number_a0_10_a1_120_53 g n a e f q k = gn g n a e f q (10 : Int) (120 : Int) k
  | 0 => rfl
  | k + 1 => by
    show F_X5_number_a0_10_a1_120_53b g n a e f q (F_X5_number_a0_10_a1_120_53 g n a e f q k) = gn_b g n a e f q (10 : Int) (120 : Int) (gn g n a e f q (10 : Int) (120 : Int) k)
    rw [F_X5_number_a0_10_a1_120_l g n a e f q k]
    rfl
theorem F_X5_number_a0_10_a1_120_g (g : Nat → Int) (n a e k f q : Int) : F_X5_number_a0_10_a1_120 g n a e k f q = gN g n a e k f q (10 : Int) (120 : Int) := by
  unfold F_X5_number_a0_10_a1_120
  rw [F_X5_number_a0_10_a1_120_l]
  rfl
theorem F_X5_number_a0_1_a1_20_l (g : Nat → Int) (n a e f q : Int) : ∀ k : Nat, F_X5_number_a0_1_a1_20_53 g n a e f q k = gn g n a e f q (1 : Int) (20 : Int) k
  | 0 => rfl
  | k + 1 => by
    show F_X5_number_a0_1_a1_20_53b g n a e f q (F_X5_number_a0_1_a1_20_53 g n a e f q k) = gn_b g n a e f q (1 : Int) (20 : Int) (gn g n a e f q (1 : Int) (20 : Int) k)
    rw [F_X5_number_a0_1_a1_20_l g n a e f q k]
    rfl
theorem F_X5_number_a0_1_a1_20_g (g : Nat → Int) (n a e k f q : Int) : F_X5_number_a0_1_a1_20 g n a e k f q = gN g n a e k f q (1 : Int) (20 : Int) := by
  unfold F_X5_number_a0_1_a1_20
  rw [F_X5_number_a0_1_a1_20_l]
  rfl
theorem F_X5_numberBehind_a1_10_a2_120_s3_1 {g : Nat → Int} {n : Nat} {p : Nat} (hn : n ≤ 1600) (hp : p ≤ n) : F_X5_numberBehind_a1_10_a2_120_s3 g (n : Int) (tx_a g n p : Int) (tx_e g n p : Int) (tx_k g n p : Int) (0 : Int) (-1 : Int) = ((sp_nb g n ws_3 10 (120 : Int) p).1, cst g n (sp_nb g n ws_3 10 (120 : Int) p).2) := by
  unfold F_X5_numberBehind_a1_10_a2_120_s3
  rw [F_X5_needWord_s3_1 hn hp]
  unfold sp_nb
  have hv := sp_w_v (g := g) ws_3 hp
  cases e : sp_w g n ws_3 p with
  | inl q =>
    rw [e] at hv
    show lf_p (F_X5_number_a0_10_a1_120 g (n : Int) (n : Int) (n : Int) (0 : Int) q.1 q.2) _ = _
    rw [F_X5_number_a0_10_a1_120_g, gN_0 hv]
    rfl
  | inr p2 =>
    rw [e] at hv
    show lf_p (F_X5_number_a0_10_a1_120 g (n : Int) (tx_a g n p2 : Int) (tx_e g n p2 : Int) (tx_k g n p2 : Int) (0 : Int) (-1 : Int)) _ = _
    rw [F_X5_number_a0_10_a1_120_g, gN_1 hn hv]
    rfl
theorem F_X5_numberBehind_a1_10_a2_120_s3_0 {g : Nat → Int} {n : Nat} {f q : Int} (h0 : ¬ f = 0) : F_X5_numberBehind_a1_10_a2_120_s3 g (n : Int) (n : Int) (n : Int) (0 : Int) f q = ((10 : Int), cst g n (.inl (f, q))) := by
  unfold F_X5_numberBehind_a1_10_a2_120_s3
  rw [F_X5_needWord_s3_0 h0]
  show lf_p (F_X5_number_a0_10_a1_120 g (n : Int) (n : Int) (n : Int) (0 : Int) f q) _ = _
  rw [F_X5_number_a0_10_a1_120_g, gN_0 h0]
  rfl
theorem F_X5_numberBehind_a1_1_s4_1 {g : Nat → Int} {n : Nat} {p : Nat} (hn : n ≤ 1600) (hp : p ≤ n) (h : Int) : F_X5_numberBehind_a1_1_s4 g (n : Int) (tx_a g n p : Int) (tx_e g n p : Int) (tx_k g n p : Int) (0 : Int) (-1 : Int) h = ((sp_nb g n ws_4 1 h p).1, cst g n (sp_nb g n ws_4 1 h p).2) := by
  unfold F_X5_numberBehind_a1_1_s4
  rw [F_X5_needWord_s4_1 hn hp]
  unfold sp_nb
  have hv := sp_w_v (g := g) ws_4 hp
  cases e : sp_w g n ws_4 p with
  | inl q =>
    rw [e] at hv
    show lf_p (F_X5_number_a0_1 g (n : Int) (n : Int) (n : Int) (0 : Int) q.1 q.2 h) _ = _
    rw [F_X5_number_a0_1_g, gN_0 hv]
    rfl
  | inr p2 =>
    rw [e] at hv
    show lf_p (F_X5_number_a0_1 g (n : Int) (tx_a g n p2 : Int) (tx_e g n p2 : Int) (tx_k g n p2 : Int) (0 : Int) (-1 : Int) h) _ = _
    rw [F_X5_number_a0_1_g, gN_1 hn hv]
    rfl
theorem F_X5_numberBehind_a1_1_s4_0 {g : Nat → Int} {n : Nat} {f q : Int} (h0 : ¬ f = 0) (h : Int) : F_X5_numberBehind_a1_1_s4 g (n : Int) (n : Int) (n : Int) (0 : Int) f q h = ((1 : Int), cst g n (.inl (f, q))) := by
  unfold F_X5_numberBehind_a1_1_s4
  rw [F_X5_needWord_s4_0 h0]
  show lf_p (F_X5_number_a0_1 g (n : Int) (n : Int) (n : Int) (0 : Int) f q h) _ = _
  rw [F_X5_number_a0_1_g, gN_0 h0]
  rfl
theorem F_X5_numberBehind_a1_0_a2_2_s5_1 {g : Nat → Int} {n : Nat} {p : Nat} (hn : n ≤ 1600) (hp : p ≤ n) : F_X5_numberBehind_a1_0_a2_2_s5 g (n : Int) (tx_a g n p : Int) (tx_e g n p : Int) (tx_k g n p : Int) (0 : Int) (-1 : Int) = ((sp_nb g n ws_5 0 (2 : Int) p).1, cst g n (sp_nb g n ws_5 0 (2 : Int) p).2) := by
  unfold F_X5_numberBehind_a1_0_a2_2_s5
  rw [F_X5_needWord_s5_1 hn hp]
  unfold sp_nb
  have hv := sp_w_v (g := g) ws_5 hp
  cases e : sp_w g n ws_5 p with
  | inl q =>
    rw [e] at hv
    show lf_p (F_X5_number_a0_0_a1_2 g (n : Int) (n : Int) (n : Int) (0 : Int) q.1 q.2) _ = _
    rw [F_X5_number_a0_0_a1_2_g, gN_0 hv]
    rfl
  | inr p2 =>
    rw [e] at hv
    show lf_p (F_X5_number_a0_0_a1_2 g (n : Int) (tx_a g n p2 : Int) (tx_e g n p2 : Int) (tx_k g n p2 : Int) (0 : Int) (-1 : Int)) _ = _
    rw [F_X5_number_a0_0_a1_2_g, gN_1 hn hv]
    rfl
theorem F_X5_numberBehind_a1_0_a2_2_s5_0 {g : Nat → Int} {n : Nat} {f q : Int} (h0 : ¬ f = 0) : F_X5_numberBehind_a1_0_a2_2_s5 g (n : Int) (n : Int) (n : Int) (0 : Int) f q = ((0 : Int), cst g n (.inl (f, q))) := by
  unfold F_X5_numberBehind_a1_0_a2_2_s5
  rw [F_X5_needWord_s5_0 h0]
  show lf_p (F_X5_number_a0_0_a1_2 g (n : Int) (n : Int) (n : Int) (0 : Int) f q) _ = _
  rw [F_X5_number_a0_0_a1_2_g, gN_0 h0]
  rfl
theorem F_X5_numberBehind_a1_0_a2_99_s6_1 {g : Nat → Int} {n : Nat} {p : Nat} (hn : n ≤ 1600) (hp : p ≤ n) : F_X5_numberBehind_a1_0_a2_99_s6 g (n : Int) (tx_a g n p : Int) (tx_e g n p : Int) (tx_k g n p : Int) (0 : Int) (-1 : Int) = ((sp_nb g n ws_6 0 (99 : Int) p).1, cst g n (sp_nb g n ws_6 0 (99 : Int) p).2) := by
  unfold F_X5_numberBehind_a1_0_a2_99_s6
  rw [F_X5_needWord_s6_1 hn hp]
  unfold sp_nb
  have hv := sp_w_v (g := g) ws_6 hp
  cases e : sp_w g n ws_6 p with
  | inl q =>
    rw [e] at hv
    show lf_p (F_X5_number_a0_0_a1_99 g (n : Int) (n : Int) (n : Int) (0 : Int) q.1 q.2) _ = _
    rw [F_X5_number_a0_0_a1_99_g, gN_0 hv]
    rfl
  | inr p2 =>
    rw [e] at hv
    show lf_p (F_X5_number_a0_0_a1_99 g (n : Int) (tx_a g n p2 : Int) (tx_e g n p2 : Int) (tx_k g n p2 : Int) (0 : Int) (-1 : Int)) _ = _
    rw [F_X5_number_a0_0_a1_99_g, gN_1 hn hv]
    rfl
theorem F_X5_numberBehind_a1_0_a2_99_s6_0 {g : Nat → Int} {n : Nat} {f q : Int} (h0 : ¬ f = 0) : F_X5_numberBehind_a1_0_a2_99_s6 g (n : Int) (n : Int) (n : Int) (0 : Int) f q = ((0 : Int), cst g n (.inl (f, q))) := by
  unfold F_X5_numberBehind_a1_0_a2_99_s6
  rw [F_X5_needWord_s6_0 h0]
  show lf_p (F_X5_number_a0_0_a1_99 g (n : Int) (n : Int) (n : Int) (0 : Int) f q) _ = _
  rw [F_X5_number_a0_0_a1_99_g, gN_0 h0]
  rfl
theorem F_X5_numberBehind_a1_0_a2_99_s7_1 {g : Nat → Int} {n : Nat} {p : Nat} (hn : n ≤ 1600) (hp : p ≤ n) : F_X5_numberBehind_a1_0_a2_99_s7 g (n : Int) (tx_a g n p : Int) (tx_e g n p : Int) (tx_k g n p : Int) (0 : Int) (-1 : Int) = ((sp_nb g n ws_7 0 (99 : Int) p).1, cst g n (sp_nb g n ws_7 0 (99 : Int) p).2) := by
  unfold F_X5_numberBehind_a1_0_a2_99_s7
  rw [F_X5_needWord_s7_1 hn hp]
  unfold sp_nb
  have hv := sp_w_v (g := g) ws_7 hp
  cases e : sp_w g n ws_7 p with
  | inl q =>
    rw [e] at hv
    show lf_p (F_X5_number_a0_0_a1_99 g (n : Int) (n : Int) (n : Int) (0 : Int) q.1 q.2) _ = _
    rw [F_X5_number_a0_0_a1_99_g, gN_0 hv]
    rfl
  | inr p2 =>
    rw [e] at hv
    show lf_p (F_X5_number_a0_0_a1_99 g (n : Int) (tx_a g n p2 : Int) (tx_e g n p2 : Int) (tx_k g n p2 : Int) (0 : Int) (-1 : Int)) _ = _
    rw [F_X5_number_a0_0_a1_99_g, gN_1 hn hv]
    rfl
theorem F_X5_numberBehind_a1_0_a2_99_s7_0 {g : Nat → Int} {n : Nat} {f q : Int} (h0 : ¬ f = 0) : F_X5_numberBehind_a1_0_a2_99_s7 g (n : Int) (n : Int) (n : Int) (0 : Int) f q = ((0 : Int), cst g n (.inl (f, q))) := by
  unfold F_X5_numberBehind_a1_0_a2_99_s7
  rw [F_X5_needWord_s7_0 h0]
  show lf_p (F_X5_number_a0_0_a1_99 g (n : Int) (n : Int) (n : Int) (0 : Int) f q) _ = _
  rw [F_X5_number_a0_0_a1_99_g, gN_0 h0]
  rfl
theorem F_X5_numberBehind_a1_1_a2_20_s8_1 {g : Nat → Int} {n : Nat} {p : Nat} (hn : n ≤ 1600) (hp : p ≤ n) : F_X5_numberBehind_a1_1_a2_20_s8 g (n : Int) (tx_a g n p : Int) (tx_e g n p : Int) (tx_k g n p : Int) (0 : Int) (-1 : Int) = ((sp_nb g n ws_8 1 (20 : Int) p).1, cst g n (sp_nb g n ws_8 1 (20 : Int) p).2) := by
  unfold F_X5_numberBehind_a1_1_a2_20_s8
  rw [F_X5_needWord_s8_1 hn hp]
  unfold sp_nb
  have hv := sp_w_v (g := g) ws_8 hp
  cases e : sp_w g n ws_8 p with
  | inl q =>
    rw [e] at hv
    show lf_p (F_X5_number_a0_1_a1_20 g (n : Int) (n : Int) (n : Int) (0 : Int) q.1 q.2) _ = _
    rw [F_X5_number_a0_1_a1_20_g, gN_0 hv]
    rfl
  | inr p2 =>
    rw [e] at hv
    show lf_p (F_X5_number_a0_1_a1_20 g (n : Int) (tx_a g n p2 : Int) (tx_e g n p2 : Int) (tx_k g n p2 : Int) (0 : Int) (-1 : Int)) _ = _
    rw [F_X5_number_a0_1_a1_20_g, gN_1 hn hv]
    rfl
theorem F_X5_numberBehind_a1_1_a2_20_s8_0 {g : Nat → Int} {n : Nat} {f q : Int} (h0 : ¬ f = 0) : F_X5_numberBehind_a1_1_a2_20_s8 g (n : Int) (n : Int) (n : Int) (0 : Int) f q = ((1 : Int), cst g n (.inl (f, q))) := by
  unfold F_X5_numberBehind_a1_1_a2_20_s8
  rw [F_X5_needWord_s8_0 h0]
  show lf_p (F_X5_number_a0_1_a1_20 g (n : Int) (n : Int) (n : Int) (0 : Int) f q) _ = _
  rw [F_X5_number_a0_1_a1_20_g, gN_0 h0]
  rfl
theorem F_X5_numberBehind_a1_0_a2_9_s9_1 {g : Nat → Int} {n : Nat} {p : Nat} (hn : n ≤ 1600) (hp : p ≤ n) : F_X5_numberBehind_a1_0_a2_9_s9 g (n : Int) (tx_a g n p : Int) (tx_e g n p : Int) (tx_k g n p : Int) (0 : Int) (-1 : Int) = ((sp_nb g n ws_9 0 (9 : Int) p).1, cst g n (sp_nb g n ws_9 0 (9 : Int) p).2) := by
  unfold F_X5_numberBehind_a1_0_a2_9_s9
  rw [F_X5_needWord_s9_1 hn hp]
  unfold sp_nb
  have hv := sp_w_v (g := g) ws_9 hp
  cases e : sp_w g n ws_9 p with
  | inl q =>
    rw [e] at hv
    show lf_p (F_X5_number_a0_0_a1_9 g (n : Int) (n : Int) (n : Int) (0 : Int) q.1 q.2) _ = _
    rw [F_X5_number_a0_0_a1_9_g, gN_0 hv]
    rfl
  | inr p2 =>
    rw [e] at hv
    show lf_p (F_X5_number_a0_0_a1_9 g (n : Int) (tx_a g n p2 : Int) (tx_e g n p2 : Int) (tx_k g n p2 : Int) (0 : Int) (-1 : Int)) _ = _
    rw [F_X5_number_a0_0_a1_9_g, gN_1 hn hv]
    rfl
theorem F_X5_numberBehind_a1_0_a2_9_s9_0 {g : Nat → Int} {n : Nat} {f q : Int} (h0 : ¬ f = 0) : F_X5_numberBehind_a1_0_a2_9_s9 g (n : Int) (n : Int) (n : Int) (0 : Int) f q = ((0 : Int), cst g n (.inl (f, q))) := by
  unfold F_X5_numberBehind_a1_0_a2_9_s9
  rw [F_X5_needWord_s9_0 h0]
  show lf_p (F_X5_number_a0_0_a1_9 g (n : Int) (n : Int) (n : Int) (0 : Int) f q) _ = _
  rw [F_X5_number_a0_0_a1_9_g, gN_0 h0]
  rfl
theorem F_X5_numberBehind_a1_0_a2_199_s11_1 {g : Nat → Int} {n : Nat} {p : Nat} (hn : n ≤ 1600) (hp : p ≤ n) : F_X5_numberBehind_a1_0_a2_199_s11 g (n : Int) (tx_a g n p : Int) (tx_e g n p : Int) (tx_k g n p : Int) (0 : Int) (-1 : Int) = ((sp_nb g n ws_11 0 (199 : Int) p).1, cst g n (sp_nb g n ws_11 0 (199 : Int) p).2) := by
  unfold F_X5_numberBehind_a1_0_a2_199_s11
  rw [F_X5_needWord_s11_1 hn hp]
  unfold sp_nb
  have hv := sp_w_v (g := g) ws_11 hp
  cases e : sp_w g n ws_11 p with
  | inl q =>
    rw [e] at hv
    show lf_p (F_X5_number_a0_0_a1_199 g (n : Int) (n : Int) (n : Int) (0 : Int) q.1 q.2) _ = _
    rw [F_X5_number_a0_0_a1_199_g, gN_0 hv]
    rfl
  | inr p2 =>
    rw [e] at hv
    show lf_p (F_X5_number_a0_0_a1_199 g (n : Int) (tx_a g n p2 : Int) (tx_e g n p2 : Int) (tx_k g n p2 : Int) (0 : Int) (-1 : Int)) _ = _
    rw [F_X5_number_a0_0_a1_199_g, gN_1 hn hv]
    rfl
theorem F_X5_numberBehind_a1_0_a2_199_s11_0 {g : Nat → Int} {n : Nat} {f q : Int} (h0 : ¬ f = 0) : F_X5_numberBehind_a1_0_a2_199_s11 g (n : Int) (n : Int) (n : Int) (0 : Int) f q = ((0 : Int), cst g n (.inl (f, q))) := by
  unfold F_X5_numberBehind_a1_0_a2_199_s11
  rw [F_X5_needWord_s11_0 h0]
  show lf_p (F_X5_number_a0_0_a1_199 g (n : Int) (n : Int) (n : Int) (0 : Int) f q) _ = _
  rw [F_X5_number_a0_0_a1_199_g, gN_0 h0]
  rfl
theorem F_X5_numberBehind_a1_0_a2_100_s1_1 {g : Nat → Int} {n : Nat} {p : Nat} (hn : n ≤ 1600) (hp : p ≤ n) : F_X5_numberBehind_a1_0_a2_100_s1 g (n : Int) (tx_a g n p : Int) (tx_e g n p : Int) (tx_k g n p : Int) (0 : Int) (-1 : Int) = ((sp_nb g n ws_1 0 (100 : Int) p).1, cst g n (sp_nb g n ws_1 0 (100 : Int) p).2) := by
  unfold F_X5_numberBehind_a1_0_a2_100_s1
  rw [F_X5_needWord_s1_1 hn hp]
  unfold sp_nb
  have hv := sp_w_v (g := g) ws_1 hp
  cases e : sp_w g n ws_1 p with
  | inl q =>
    rw [e] at hv
    show lf_p (F_X5_number_a0_0_a1_100 g (n : Int) (n : Int) (n : Int) (0 : Int) q.1 q.2) _ = _
    rw [F_X5_number_a0_0_a1_100_g, gN_0 hv]
    rfl
  | inr p2 =>
    rw [e] at hv
    show lf_p (F_X5_number_a0_0_a1_100 g (n : Int) (tx_a g n p2 : Int) (tx_e g n p2 : Int) (tx_k g n p2 : Int) (0 : Int) (-1 : Int)) _ = _
    rw [F_X5_number_a0_0_a1_100_g, gN_1 hn hv]
    rfl
theorem F_X5_numberBehind_a1_0_a2_100_s1_0 {g : Nat → Int} {n : Nat} {f q : Int} (h0 : ¬ f = 0) : F_X5_numberBehind_a1_0_a2_100_s1 g (n : Int) (n : Int) (n : Int) (0 : Int) f q = ((0 : Int), cst g n (.inl (f, q))) := by
  unfold F_X5_numberBehind_a1_0_a2_100_s1
  rw [F_X5_needWord_s1_0 h0]
  show lf_p (F_X5_number_a0_0_a1_100 g (n : Int) (n : Int) (n : Int) (0 : Int) f q) _ = _
  rw [F_X5_number_a0_0_a1_100_g, gN_0 h0]
  rfl
