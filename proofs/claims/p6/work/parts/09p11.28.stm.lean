theorem lf_p_e {α β γ : Type} (x : α) (y : β) (G : α → β → γ) : lf_p (x, y) G = G x y := rfl
theorem lf_pc {γ : Type} (g : Nat → Int) (n : Nat) (s : ST) (G : Int → Int × Int × Int × Int → γ) : lf_p (cst g n s) G = G (cst g n s).1 (cst g n s).2 := rfl
theorem lf_p2 {α β γ δ : Type} (x : δ × α × β) (G : α → β → γ) : lf_p x.2 G = G x.2.1 x.2.2 := rfl
theorem lf_pa {α γ : Type} (c : Int × Int × Int × Int × Int) (x : α) (G : Int → Int × Int × Int × Int × α → γ) : lf_p (ap5 c x) G = G c.1 (c.2.1, c.2.2.1, c.2.2.2.1, c.2.2.2.2, x) := rfl
/-- a number behind a state -/
def sbv (s : ST) (f : Nat → Int × ST) (d : Int) : Int × ST := match s with
  | .inl q => (d, .inl q)
  | .inr p => f p
theorem sbv_v {n : Nat} {s : ST} {f : Nat → Int × ST} {d : Int} (h : sv n s) (hf : ∀ p, p ≤ n → sv n (f p).2) : sv n (sbv s f d).2 := by
  cases s with
  | inl q => exact h
  | inr p => exact hf p h
theorem F_X5_needWord_s3_s {g : Nat → Int} {n : Nat} {s : ST} (hn : n ≤ 1600) (hv : sv n s) : F_X5_needWord_s3 g (n : Int) (cst g n s).1 (cst g n s).2.1 (cst g n s).2.2.1 (cst g n s).2.2.2.1 (cst g n s).2.2.2.2 = cst g n (sb s (sp_w g n ws_3)) := by
  cases s with
  | inl q => exact F_X5_needWord_s3_0 hv
  | inr p => exact F_X5_needWord_s3_1 hn hv
theorem F_X5_needWord_s4_s {g : Nat → Int} {n : Nat} {s : ST} (hn : n ≤ 1600) (hv : sv n s) : F_X5_needWord_s4 g (n : Int) (cst g n s).1 (cst g n s).2.1 (cst g n s).2.2.1 (cst g n s).2.2.2.1 (cst g n s).2.2.2.2 = cst g n (sb s (sp_w g n ws_4)) := by
  cases s with
  | inl q => exact F_X5_needWord_s4_0 hv
  | inr p => exact F_X5_needWord_s4_1 hn hv
theorem F_X5_needWord_s5_s {g : Nat → Int} {n : Nat} {s : ST} (hn : n ≤ 1600) (hv : sv n s) : F_X5_needWord_s5 g (n : Int) (cst g n s).1 (cst g n s).2.1 (cst g n s).2.2.1 (cst g n s).2.2.2.1 (cst g n s).2.2.2.2 = cst g n (sb s (sp_w g n ws_5)) := by
  cases s with
  | inl q => exact F_X5_needWord_s5_0 hv
  | inr p => exact F_X5_needWord_s5_1 hn hv
theorem F_X5_needWord_s6_s {g : Nat → Int} {n : Nat} {s : ST} (hn : n ≤ 1600) (hv : sv n s) : F_X5_needWord_s6 g (n : Int) (cst g n s).1 (cst g n s).2.1 (cst g n s).2.2.1 (cst g n s).2.2.2.1 (cst g n s).2.2.2.2 = cst g n (sb s (sp_w g n ws_6)) := by
  cases s with
  | inl q => exact F_X5_needWord_s6_0 hv
  | inr p => exact F_X5_needWord_s6_1 hn hv
theorem F_X5_needWord_s7_s {g : Nat → Int} {n : Nat} {s : ST} (hn : n ≤ 1600) (hv : sv n s) : F_X5_needWord_s7 g (n : Int) (cst g n s).1 (cst g n s).2.1 (cst g n s).2.2.1 (cst g n s).2.2.2.1 (cst g n s).2.2.2.2 = cst g n (sb s (sp_w g n ws_7)) := by
  cases s with
  | inl q => exact F_X5_needWord_s7_0 hv
  | inr p => exact F_X5_needWord_s7_1 hn hv
theorem F_X5_needWord_s8_s {g : Nat → Int} {n : Nat} {s : ST} (hn : n ≤ 1600) (hv : sv n s) : F_X5_needWord_s8 g (n : Int) (cst g n s).1 (cst g n s).2.1 (cst g n s).2.2.1 (cst g n s).2.2.2.1 (cst g n s).2.2.2.2 = cst g n (sb s (sp_w g n ws_8)) := by
  cases s with
  | inl q => exact F_X5_needWord_s8_0 hv
  | inr p => exact F_X5_needWord_s8_1 hn hv
theorem F_X5_needWord_s9_s {g : Nat → Int} {n : Nat} {s : ST} (hn : n ≤ 1600) (hv : sv n s) : F_X5_needWord_s9 g (n : Int) (cst g n s).1 (cst g n s).2.1 (cst g n s).2.2.1 (cst g n s).2.2.2.1 (cst g n s).2.2.2.2 = cst g n (sb s (sp_w g n ws_9)) := by
  cases s with
  | inl q => exact F_X5_needWord_s9_0 hv
  | inr p => exact F_X5_needWord_s9_1 hn hv
theorem F_X5_needWord_s10_s {g : Nat → Int} {n : Nat} {s : ST} (hn : n ≤ 1600) (hv : sv n s) : F_X5_needWord_s10 g (n : Int) (cst g n s).1 (cst g n s).2.1 (cst g n s).2.2.1 (cst g n s).2.2.2.1 (cst g n s).2.2.2.2 = cst g n (sb s (sp_w g n ws_10)) := by
  cases s with
  | inl q => exact F_X5_needWord_s10_0 hv
  | inr p => exact F_X5_needWord_s10_1 hn hv
theorem F_X5_needWord_s11_s {g : Nat → Int} {n : Nat} {s : ST} (hn : n ≤ 1600) (hv : sv n s) : F_X5_needWord_s11 g (n : Int) (cst g n s).1 (cst g n s).2.1 (cst g n s).2.2.1 (cst g n s).2.2.2.1 (cst g n s).2.2.2.2 = cst g n (sb s (sp_w g n ws_11)) := by
  cases s with
  | inl q => exact F_X5_needWord_s11_0 hv
  | inr p => exact F_X5_needWord_s11_1 hn hv
theorem F_X5_needWord_s1_s {g : Nat → Int} {n : Nat} {s : ST} (hn : n ≤ 1600) (hv : sv n s) : F_X5_needWord_s1 g (n : Int) (cst g n s).1 (cst g n s).2.1 (cst g n s).2.2.1 (cst g n s).2.2.2.1 (cst g n s).2.2.2.2 = cst g n (sb s (sp_w g n ws_1)) := by
  cases s with
  | inl q => exact F_X5_needWord_s1_0 hv
  | inr p => exact F_X5_needWord_s1_1 hn hv
theorem F_X5_numberBehind_a1_10_a2_120_s3_s {g : Nat → Int} {n : Nat} {s : ST} (hn : n ≤ 1600) (hv : sv n s) : F_X5_numberBehind_a1_10_a2_120_s3 g (n : Int) (cst g n s).1 (cst g n s).2.1 (cst g n s).2.2.1 (cst g n s).2.2.2.1 (cst g n s).2.2.2.2 = ((sbv s (sp_nb g n ws_3 10 120) 10).1, cst g n (sbv s (sp_nb g n ws_3 10 120) 10).2) := by
  cases s with
  | inl q => exact F_X5_numberBehind_a1_10_a2_120_s3_0 hv
  | inr p => exact F_X5_numberBehind_a1_10_a2_120_s3_1 hn hv
theorem F_X5_numberBehind_a1_1_s4_s {g : Nat → Int} {n : Nat} {s : ST} (hn : n ≤ 1600) (hv : sv n s) (h : Int) : F_X5_numberBehind_a1_1_s4 g (n : Int) (cst g n s).1 (cst g n s).2.1 (cst g n s).2.2.1 (cst g n s).2.2.2.1 (cst g n s).2.2.2.2 h = ((sbv s (sp_nb g n ws_4 1 h) 1).1, cst g n (sbv s (sp_nb g n ws_4 1 h) 1).2) := by
  cases s with
  | inl q => exact F_X5_numberBehind_a1_1_s4_0 hv h
  | inr p => exact F_X5_numberBehind_a1_1_s4_1 hn hv h
theorem F_X5_numberBehind_a1_0_a2_2_s5_s {g : Nat → Int} {n : Nat} {s : ST} (hn : n ≤ 1600) (hv : sv n s) : F_X5_numberBehind_a1_0_a2_2_s5 g (n : Int) (cst g n s).1 (cst g n s).2.1 (cst g n s).2.2.1 (cst g n s).2.2.2.1 (cst g n s).2.2.2.2 = ((sbv s (sp_nb g n ws_5 0 2) 0).1, cst g n (sbv s (sp_nb g n ws_5 0 2) 0).2) := by
  cases s with
  | inl q => exact F_X5_numberBehind_a1_0_a2_2_s5_0 hv
  | inr p => exact F_X5_numberBehind_a1_0_a2_2_s5_1 hn hv
theorem F_X5_numberBehind_a1_0_a2_99_s6_s {g : Nat → Int} {n : Nat} {s : ST} (hn : n ≤ 1600) (hv : sv n s) : F_X5_numberBehind_a1_0_a2_99_s6 g (n : Int) (cst g n s).1 (cst g n s).2.1 (cst g n s).2.2.1 (cst g n s).2.2.2.1 (cst g n s).2.2.2.2 = ((sbv s (sp_nb g n ws_6 0 99) 0).1, cst g n (sbv s (sp_nb g n ws_6 0 99) 0).2) := by
  cases s with
  | inl q => exact F_X5_numberBehind_a1_0_a2_99_s6_0 hv
  | inr p => exact F_X5_numberBehind_a1_0_a2_99_s6_1 hn hv
theorem F_X5_numberBehind_a1_0_a2_99_s7_s {g : Nat → Int} {n : Nat} {s : ST} (hn : n ≤ 1600) (hv : sv n s) : F_X5_numberBehind_a1_0_a2_99_s7 g (n : Int) (cst g n s).1 (cst g n s).2.1 (cst g n s).2.2.1 (cst g n s).2.2.2.1 (cst g n s).2.2.2.2 = ((sbv s (sp_nb g n ws_7 0 99) 0).1, cst g n (sbv s (sp_nb g n ws_7 0 99) 0).2) := by
  cases s with
  | inl q => exact F_X5_numberBehind_a1_0_a2_99_s7_0 hv
  | inr p => exact F_X5_numberBehind_a1_0_a2_99_s7_1 hn hv
theorem F_X5_numberBehind_a1_1_a2_20_s8_s {g : Nat → Int} {n : Nat} {s : ST} (hn : n ≤ 1600) (hv : sv n s) : F_X5_numberBehind_a1_1_a2_20_s8 g (n : Int) (cst g n s).1 (cst g n s).2.1 (cst g n s).2.2.1 (cst g n s).2.2.2.1 (cst g n s).2.2.2.2 = ((sbv s (sp_nb g n ws_8 1 20) 1).1, cst g n (sbv s (sp_nb g n ws_8 1 20) 1).2) := by
  cases s with
  | inl q => exact F_X5_numberBehind_a1_1_a2_20_s8_0 hv
  | inr p => exact F_X5_numberBehind_a1_1_a2_20_s8_1 hn hv
theorem F_X5_numberBehind_a1_0_a2_9_s9_s {g : Nat → Int} {n : Nat} {s : ST} (hn : n ≤ 1600) (hv : sv n s) : F_X5_numberBehind_a1_0_a2_9_s9 g (n : Int) (cst g n s).1 (cst g n s).2.1 (cst g n s).2.2.1 (cst g n s).2.2.2.1 (cst g n s).2.2.2.2 = ((sbv s (sp_nb g n ws_9 0 9) 0).1, cst g n (sbv s (sp_nb g n ws_9 0 9) 0).2) := by
  cases s with
  | inl q => exact F_X5_numberBehind_a1_0_a2_9_s9_0 hv
  | inr p => exact F_X5_numberBehind_a1_0_a2_9_s9_1 hn hv
theorem F_X5_numberBehind_a1_0_a2_199_s11_s {g : Nat → Int} {n : Nat} {s : ST} (hn : n ≤ 1600) (hv : sv n s) : F_X5_numberBehind_a1_0_a2_199_s11 g (n : Int) (cst g n s).1 (cst g n s).2.1 (cst g n s).2.2.1 (cst g n s).2.2.2.1 (cst g n s).2.2.2.2 = ((sbv s (sp_nb g n ws_11 0 199) 0).1, cst g n (sbv s (sp_nb g n ws_11 0 199) 0).2) := by
  cases s with
  | inl q => exact F_X5_numberBehind_a1_0_a2_199_s11_0 hv
  | inr p => exact F_X5_numberBehind_a1_0_a2_199_s11_1 hn hv
theorem F_X5_numberBehind_a1_0_a2_100_s1_s {g : Nat → Int} {n : Nat} {s : ST} (hn : n ≤ 1600) (hv : sv n s) : F_X5_numberBehind_a1_0_a2_100_s1 g (n : Int) (cst g n s).1 (cst g n s).2.1 (cst g n s).2.2.1 (cst g n s).2.2.2.1 (cst g n s).2.2.2.2 = ((sbv s (sp_nb g n ws_1 0 100) 0).1, cst g n (sbv s (sp_nb g n ws_1 0 100) 0).2) := by
  cases s with
  | inl q => exact F_X5_numberBehind_a1_0_a2_100_s1_0 hv
  | inr p => exact F_X5_numberBehind_a1_0_a2_100_s1_1 hn hv
theorem cl_need_s {g : Nat → Int} {n : Nat} {s : ST} (hn : n ≤ 1600) (hv : sv n s) (c : Int) : F_X5_need g (n : Int) (cst g n s).1 (cst g n s).2.1 (cst g n s).2.2.1 (cst g n s).2.2.2.1 (cst g n s).2.2.2.2 c = cst g n (sb s (sp_need g n c)) := by
  cases s with
  | inl q => exact cl_need0 hv c
  | inr p => exact cl_need1 hn hv c
theorem cl_kn_s {g : Nat → Int} {n : Nat} {s : ST} (hn : n ≤ 1600) (hv : sv n s) {N : Nat → Int} {Ks Ws : List (List Int)} (h : nms N Ks Ws) : F_X5_knownKind g (n : Int) (cst g n s).1 (cst g n s).2.1 (cst g n s).2.2.1 (Ks.length : Int) N (cst g n s).2.2.2.1 (cst g n s).2.2.2.2 = ((sbv s (sp_kn g n Ks) 0).1, cst g n (sbv s (sp_kn g n Ks) 0).2) := by
  cases s with
  | inl q => exact cl_kn0 hv _
  | inr p => exact cl_kn1 hn hv h
/-- names behind a new one -/
def nN (N : Nat → Int) (i : Nat) (w : List Int) (s : ST) : Nat → Int := match s with
  | .inl _ => N
  | .inr _ => nputj N i w 6
theorem nputj_in {N : Nat → Int} {i k : Nat} {w : List Int} (h : k < 6) : nputj N i w 6 (6 * i + k) = nl w k := by
  unfold nputj
  rw [if_pos (by omega), show 6 * i + k - 6 * i = k from by omega]
theorem nputj_out {N : Nat → Int} {i j k : Nat} {w : List Int} (h : k < 6) (hj : ¬ j = i) : nputj N i w 6 (6 * j + k) = N (6 * j + k) := by
  unfold nputj
  rw [if_neg (by omega)]
theorem nms_w {N : Nat → Int} {Ks Ws : List (List Int)} {w : List Int} {s : ST} (h : nms N Ks Ws) (hl : Ws.length < 12) : nms (nN N (6 + Ws.length) w s) Ks Ws := by
  cases s with
  | inl q => exact h
  | inr p =>
    obtain ⟨h1, h2, h3, h4, h5, h6⟩ := h
    refine ⟨h1, h2, fun i hi k hk => ?_, fun i hi k hk => ?_, h5, h6⟩
    · exact (nputj_out hk (by omega)).trans (h3 i hi k hk)
    · exact (nputj_out hk (by omega)).trans (h4 i hi k hk)
theorem getD_app {L : List (List Int)} {w : List Int} {i : Nat} : (L ++ [w]).getD i [] = if i < L.length then L.getD i [] else if i = L.length then w else [] := by
  rw [List.getD_eq_getElem?_getD, List.getD_eq_getElem?_getD]
  by_cases q : i < L.length
  · rw [if_pos q, List.getElem?_append_left q]
  · rw [if_neg q, List.getElem?_append_right (by omega)]
    by_cases q2 : i = L.length
    · rw [if_pos q2, q2, Nat.sub_self]
      rfl
    · rw [if_neg q2]
      obtain ⟨k, hk⟩ : ∃ k, i - L.length = k + 1 := ⟨i - L.length - 1, by omega⟩
      rw [hk]
      rfl
theorem nms_w1 {N : Nat → Int} {Ks Ws : List (List Int)} {w : List Int} (hw : isW w) (h : nms N Ks Ws) (hl : Ws.length < 12) : nms (nputj N (6 + Ws.length) w 6) Ks (Ws ++ [w]) := by
  obtain ⟨h1, h2, h3, h4, h5, h6⟩ := nms_w (w := w) (s := .inr 0) h hl
  have e : (Ws ++ [w]).length = Ws.length + 1 := by rw [List.length_append]; rfl
  refine ⟨h1, fun j hj => ?_, h3, fun i hi k hk => ?_, h5, by omega⟩
  · rw [getD_app]
    by_cases q : j < Ws.length
    · rw [if_pos q]; exact h2 j q
    · rw [if_neg q, if_pos (by omega)]; exact hw
  · rw [getD_app]
    by_cases q : i < Ws.length
    · rw [if_pos q]; exact h4 i q k hk
    · rw [if_neg q, if_pos (by omega), show i = Ws.length from by omega]
      exact nputj_in hk
theorem nms_k1 {N : Nat → Int} {Ks Ws : List (List Int)} {w : List Int} (hw : isW w) (h : nms N Ks Ws) (hl : Ks.length < 6) : nms (nputj N Ks.length w 6) (Ks ++ [w]) Ws := by
  obtain ⟨h1, h2, h3, h4, h5, h6⟩ := h
  have e : (Ks ++ [w]).length = Ks.length + 1 := by rw [List.length_append]; rfl
  refine ⟨fun j hj => ?_, h2, fun i hi k hk => ?_, fun i hi k hk => ?_, by omega, h6⟩
  · rw [getD_app]
    by_cases q : j < Ks.length
    · rw [if_pos q]; exact h1 j q
    · rw [if_neg q, if_pos (by omega)]; exact hw
  · rw [getD_app]
    by_cases q : i < Ks.length
    · rw [if_pos q]; exact (nputj_out hk (by omega)).trans (h3 i q k hk)
    · rw [if_neg q, if_pos (by omega), show i = Ks.length from by omega, show 6 * (0 + Ks.length) + k = 6 * Ks.length + k from by omega]
      exact nputj_in hk
  · exact (nputj_out hk (by omega)).trans (h4 i hi k hk)
theorem cl_new_s {g : Nat → Int} {n p : Nat} {N : Nat → Int} {Ks Ws : List (List Int)} {i : Nat} (hn : n ≤ 1600) (hp : p ≤ n) (h : nms N Ks Ws) : F_X5_newName g (n : Int) (tx_a g n p : Int) (tx_e g n p : Int) (tx_k g n p : Int) (Ks.length : Int) (Ws.length : Int) N (0 : Int) (-1 : Int) (i : Int) = ap5 (cst g n (sp_new g n Ks Ws p)) (nN N i (wd g n p) (sp_new g n Ks Ws p)) := cl_new1 hn hp h
/-- what stands first -/
def sp_1a (g : Nat → Int) (n : Nat) (s : ST) : Int × ST := sbv s (sp_nb g n ws_3 10 120) 10
def sp_1b (g : Nat → Int) (n : Nat) (s : ST) : Int × ST := sbv (sp_1a g n s).2 (sp_nb g n ws_4 1 (min 60 ((sp_1a g n s).1 - 1))) 1
def sp_1c (g : Nat → Int) (n : Nat) (s : ST) : Int × ST := sbv (sp_1b g n s).2 (sp_nb g n ws_5 0 2) 0
def sp_1d (g : Nat → Int) (n : Nat) (s : ST) : Int × ST := sbv (sp_1c g n s).2 (sp_nb g n ws_6 0 99) 0
theorem sp_1a_v {g : Nat → Int} {n : Nat} {s : ST} (h : sv n s) : sv n (sp_1a g n s).2 := sbv_v h (fun _ hp => sp_nb_v _ _ _ hp)
theorem sp_1b_v {g : Nat → Int} {n : Nat} {s : ST} (h : sv n s) : sv n (sp_1b g n s).2 := sbv_v (sp_1a_v h) (fun _ hp => sp_nb_v _ _ _ hp)
theorem sp_1c_v {g : Nat → Int} {n : Nat} {s : ST} (h : sv n s) : sv n (sp_1c g n s).2 := sbv_v (sp_1b_v h) (fun _ hp => sp_nb_v _ _ _ hp)
theorem sp_1d_v {g : Nat → Int} {n : Nat} {s : ST} (h : sv n s) : sv n (sp_1d g n s).2 := sbv_v (sp_1c_v h) (fun _ hp => sp_nb_v _ _ _ hp)
theorem cl_first {g : Nat → Int} {n : Nat} {s : ST} (hn : n ≤ 1600) (hv : sv n s) : F_X5_firstStatement g (n : Int) (cst g n s).1 (cst g n s).2.1 (cst g n s).2.2.1 (cst g n s).2.2.2.1 (cst g n s).2.2.2.2 = ap5 (cst g n (sp_1d g n s).2) ((sp_1a g n s).1, (sp_1b g n s).1, (sp_1c g n s).1, (sp_1d g n s).1) := by
  unfold F_X5_firstStatement
  have e1 : F_X5_numberBehind_a1_10_a2_120_s3 g (n : Int) (cst g n s).1 (cst g n s).2.1 (cst g n s).2.2.1 (cst g n s).2.2.2.1 (cst g n s).2.2.2.2 = ((sp_1a g n s).1, cst g n (sp_1a g n s).2) := F_X5_numberBehind_a1_10_a2_120_s3_s hn hv
  rw [e1]
  rw [lf_p_e, lf_pc]
  repeat rw [lf_p2]
  have e2 : F_X5_numberBehind_a1_1_s4 g (n : Int) (cst g n (sp_1a g n s).2).1 (cst g n (sp_1a g n s).2).2.1 (cst g n (sp_1a g n s).2).2.2.1 (cst g n (sp_1a g n s).2).2.2.2.1 (cst g n (sp_1a g n s).2).2.2.2.2 (min (60 : Int) ((sp_1a g n s).1 - (1 : Int))) = ((sp_1b g n s).1, cst g n (sp_1b g n s).2) := F_X5_numberBehind_a1_1_s4_s hn (sp_1a_v hv) _
  rw [e2]
  rw [lf_p_e, lf_pc]
  repeat rw [lf_p2]
  have e3 : F_X5_numberBehind_a1_0_a2_2_s5 g (n : Int) (cst g n (sp_1b g n s).2).1 (cst g n (sp_1b g n s).2).2.1 (cst g n (sp_1b g n s).2).2.2.1 (cst g n (sp_1b g n s).2).2.2.2.1 (cst g n (sp_1b g n s).2).2.2.2.2 = ((sp_1c g n s).1, cst g n (sp_1c g n s).2) := F_X5_numberBehind_a1_0_a2_2_s5_s hn (sp_1b_v hv)
  rw [e3]
  rw [lf_p_e, lf_pc]
  repeat rw [lf_p2]
  have e4 : F_X5_numberBehind_a1_0_a2_99_s6 g (n : Int) (cst g n (sp_1c g n s).2).1 (cst g n (sp_1c g n s).2).2.1 (cst g n (sp_1c g n s).2).2.2.1 (cst g n (sp_1c g n s).2).2.2.2.1 (cst g n (sp_1c g n s).2).2.2.2.2 = ((sp_1d g n s).1, cst g n (sp_1d g n s).2) := F_X5_numberBehind_a1_0_a2_99_s6_s hn (sp_1c_v hv)
  rw [e4]
  rw [lf_p_e, lf_pc]
  repeat rw [lf_p2]
  rfl
/-- a kind -/
def sp_k0 (g : Nat → Int) (n : Nat) (Ks Ws : List (List Int)) (p : Nat) : ST := sp_new g n Ks Ws (tx_e g n p)
def sp_k1 (g : Nat → Int) (n : Nat) (Ks Ws : List (List Int)) (p : Nat) : Int × ST := sbv (sp_k0 g n Ks Ws p) (sp_nb g n ws_7 0 99) 0
def sp_k2 (g : Nat → Int) (n : Nat) (Ks Ws : List (List Int)) (p : Nat) : Int × ST := sbv (sp_k1 g n Ks Ws p).2 (sp_nb g n ws_8 1 20) 1
def sp_k3 (g : Nat → Int) (n : Nat) (Ks Ws : List (List Int)) (p : Nat) : Int × ST := sbv (sp_k2 g n Ks Ws p).2 (sp_nb g n ws_9 0 9) 0
theorem sp_k0_v {g : Nat → Int} {n p : Nat} (Ks Ws : List (List Int)) (hp : p ≤ n) : sv n (sp_k0 g n Ks Ws p) := sp_new_v _ _ (tx_e_le hp)
theorem sp_k1_v {g : Nat → Int} {n p : Nat} (Ks Ws : List (List Int)) (hp : p ≤ n) : sv n (sp_k1 g n Ks Ws p).2 := sbv_v (sp_k0_v _ _ hp) (fun _ hp => sp_nb_v _ _ _ hp)
theorem sp_k2_v {g : Nat → Int} {n p : Nat} (Ks Ws : List (List Int)) (hp : p ≤ n) : sv n (sp_k2 g n Ks Ws p).2 := sbv_v (sp_k1_v _ _ hp) (fun _ hp => sp_nb_v _ _ _ hp)
theorem sp_k3_v {g : Nat → Int} {n p : Nat} (Ks Ws : List (List Int)) (hp : p ≤ n) : sv n (sp_k3 g n Ks Ws p).2 := sbv_v (sp_k2_v _ _ hp) (fun _ hp => sp_nb_v _ _ _ hp)
theorem cl_kind {g : Nat → Int} {n p : Nat} {N calm pace trusts : Nat → Int} {Ks Ws : List (List Int)} (hn : n ≤ 1600) (hp : p ≤ n) (h : nms N Ks Ws) (hl : Ks.length < 6) : F_X5_kindStatement g (n : Int) (tx_a g n p : Int) (tx_e g n p : Int) (Ks.length : Int) calm pace trusts (Ws.length : Int) N (0 : Int) (-1 : Int) = ap5 (cst g n (sp_k3 g n Ks Ws p).2) ((Ks.length : Int) + 1, nN N Ks.length (wd g n (tx_e g n p)) (sp_k0 g n Ks Ws p), lf_up calm (Ks.length : Int) (sp_k1 g n Ks Ws p).1, lf_up pace (Ks.length : Int) (sp_k2 g n Ks Ws p).1, lf_up trusts (Ks.length : Int) (sp_k3 g n Ks Ws p).1) := by
  unfold F_X5_kindStatement
  rw [if_pos (by omega), cl_mve hn hp]
  rw [lf_p_e, lf_p_e]
  have e0 : F_X5_newName g (n : Int) (tx_a g n (tx_e g n p) : Int) (tx_e g n (tx_e g n p) : Int) (tx_k g n (tx_e g n p) : Int) (Ks.length : Int) (Ws.length : Int) N (0 : Int) (-1 : Int) ((Ks.length : Nat) : Int) = ap5 (cst g n (sp_k0 g n Ks Ws p)) (nN N (Ks.length) (wd g n (tx_e g n p)) (sp_k0 g n Ks Ws p)) := cl_new_s hn (tx_e_le hp) h
  rw [e0]
  rw [lf_pa, lf_p_e, lf_p_e, lf_p_e, lf_p_e]
  have e1 : F_X5_numberBehind_a1_0_a2_99_s7 g (n : Int) (cst g n (sp_k0 g n Ks Ws p)).1 (cst g n (sp_k0 g n Ks Ws p)).2.1 (cst g n (sp_k0 g n Ks Ws p)).2.2.1 (cst g n (sp_k0 g n Ks Ws p)).2.2.2.1 (cst g n (sp_k0 g n Ks Ws p)).2.2.2.2 = ((sp_k1 g n Ks Ws p).1, cst g n (sp_k1 g n Ks Ws p).2) := F_X5_numberBehind_a1_0_a2_99_s7_s hn (sp_k0_v Ks Ws hp)
  rw [e1]
  rw [lf_p_e, lf_pc]
  repeat rw [lf_p2]
  have e2 : F_X5_numberBehind_a1_1_a2_20_s8 g (n : Int) (cst g n (sp_k1 g n Ks Ws p).2).1 (cst g n (sp_k1 g n Ks Ws p).2).2.1 (cst g n (sp_k1 g n Ks Ws p).2).2.2.1 (cst g n (sp_k1 g n Ks Ws p).2).2.2.2.1 (cst g n (sp_k1 g n Ks Ws p).2).2.2.2.2 = ((sp_k2 g n Ks Ws p).1, cst g n (sp_k2 g n Ks Ws p).2) := F_X5_numberBehind_a1_1_a2_20_s8_s hn (sp_k1_v Ks Ws hp)
  rw [e2]
  rw [lf_p_e, lf_pc]
  repeat rw [lf_p2]
  have e3 : F_X5_numberBehind_a1_0_a2_9_s9 g (n : Int) (cst g n (sp_k2 g n Ks Ws p).2).1 (cst g n (sp_k2 g n Ks Ws p).2).2.1 (cst g n (sp_k2 g n Ks Ws p).2).2.2.1 (cst g n (sp_k2 g n Ks Ws p).2).2.2.2.1 (cst g n (sp_k2 g n Ks Ws p).2).2.2.2.2 = ((sp_k3 g n Ks Ws p).1, cst g n (sp_k3 g n Ks Ws p).2) := F_X5_numberBehind_a1_0_a2_9_s9_s hn (sp_k2_v Ks Ws hp)
  rw [e3]
  rw [lf_p_e, lf_pc]
  repeat rw [lf_p2]
  rfl
theorem cl_kind5 {g : Nat → Int} {n : Nat} {N calm pace trusts : Nat → Int} {a e y : Int} : F_X5_kindStatement g (n : Int) a e (6 : Int) calm pace trusts y N (0 : Int) (-1 : Int) = ap5 (cst g n (.inl (5, a))) ((6 : Int), N, calm, pace, trusts) := by
  unfold F_X5_kindStatement
  rw [if_neg (by decide), cl_fail0]
  rfl
/-- a walker -/
def sp_c1 (g : Nat → Int) (n : Nat) (Ks Ws : List (List Int)) (p : Nat) : ST := sb (sp_k0 g n Ks Ws p) (sp_w g n ws_10)
def sp_c2 (g : Nat → Int) (n : Nat) (Ks Ws : List (List Int)) (p : Nat) : Int × ST := sbv (sp_c1 g n Ks Ws p) (sp_kn g n Ks) 0
def sp_c3 (g : Nat → Int) (n : Nat) (Ks Ws : List (List Int)) (p : Nat) : Int × ST := sbv (sp_c2 g n Ks Ws p).2 (sp_nb g n ws_11 0 199) 0
theorem sp_c1_v {g : Nat → Int} {n p : Nat} (Ks Ws : List (List Int)) (hp : p ≤ n) : sv n (sp_c1 g n Ks Ws p) := sv_sb (sp_k0_v _ _ hp) (fun _ hp => sp_w_v _ hp)
theorem sp_c2_v {g : Nat → Int} {n p : Nat} (Ks Ws : List (List Int)) (hp : p ≤ n) : sv n (sp_c2 g n Ks Ws p).2 := sbv_v (sp_c1_v _ _ hp) (fun _ hp => sp_kn_v _ hp)
theorem sp_c3_v {g : Nat → Int} {n p : Nat} (Ks Ws : List (List Int)) (hp : p ≤ n) : sv n (sp_c3 g n Ks Ws p).2 := sbv_v (sp_c2_v _ _ hp) (fun _ hp => sp_nb_v _ _ _ hp)
theorem cl_comes {g : Nat → Int} {n p : Nat} {N kindOf comesAt comers : Nat → Int} {Ks Ws : List (List Int)} (hn : n ≤ 1600) (hp : p ≤ n) (h : nms N Ks Ws) (hl : Ws.length < 12) : F_X5_comesStatement g (n : Int) (tx_a g n p : Int) (tx_e g n p : Int) (Ks.length : Int) (Ws.length : Int) kindOf comesAt comers N (0 : Int) (-1 : Int) = ap5 (cst g n (sp_c3 g n Ks Ws p).2) ((Ws.length : Int) + 1, nN N (6 + Ws.length) (wd g n (tx_e g n p)) (sp_k0 g n Ks Ws p), lf_up kindOf (Ws.length : Int) (sp_c2 g n Ks Ws p).1, lf_up comesAt (Ws.length : Int) (sp_c3 g n Ks Ws p).1, lf_up comers (sp_c3 g n Ks Ws p).1 (lf_o lf_ior (comers (Int.toNat (sp_c3 g n Ks Ws p).1)) (lf_o lf_ishl (1 : Int) (Ws.length : Int)))) := by
  unfold F_X5_comesStatement
  rw [if_pos (by omega), cl_mve hn hp, show (6 : Int) + (Ws.length : Int) = ((6 + Ws.length : Nat) : Int) from by omega]
  rw [lf_p_e, lf_p_e]
  have e0 : F_X5_newName g (n : Int) (tx_a g n (tx_e g n p) : Int) (tx_e g n (tx_e g n p) : Int) (tx_k g n (tx_e g n p) : Int) (Ks.length : Int) (Ws.length : Int) N (0 : Int) (-1 : Int) ((6 + Ws.length : Nat) : Int) = ap5 (cst g n (sp_k0 g n Ks Ws p)) (nN N (6 + Ws.length) (wd g n (tx_e g n p)) (sp_k0 g n Ks Ws p)) := cl_new_s hn (tx_e_le hp) h
  rw [e0]
  rw [lf_pa, lf_p_e, lf_p_e, lf_p_e, lf_p_e]
  have e1 : F_X5_needWord_s10 g (n : Int) (cst g n (sp_k0 g n Ks Ws p)).1 (cst g n (sp_k0 g n Ks Ws p)).2.1 (cst g n (sp_k0 g n Ks Ws p)).2.2.1 (cst g n (sp_k0 g n Ks Ws p)).2.2.2.1 (cst g n (sp_k0 g n Ks Ws p)).2.2.2.2 = cst g n (sp_c1 g n Ks Ws p) := F_X5_needWord_s10_s hn (sp_k0_v Ks Ws hp)
  rw [e1]
  rw [lf_pc]
  repeat rw [lf_p2]
  have e2 : F_X5_knownKind g (n : Int) (cst g n (sp_c1 g n Ks Ws p)).1 (cst g n (sp_c1 g n Ks Ws p)).2.1 (cst g n (sp_c1 g n Ks Ws p)).2.2.1 (Ks.length : Int) (nN N (6 + Ws.length) (wd g n (tx_e g n p)) (sp_k0 g n Ks Ws p)) (cst g n (sp_c1 g n Ks Ws p)).2.2.2.1 (cst g n (sp_c1 g n Ks Ws p)).2.2.2.2 = ((sp_c2 g n Ks Ws p).1, cst g n (sp_c2 g n Ks Ws p).2) := cl_kn_s hn (sp_c1_v Ks Ws hp) (nms_w h hl)
  rw [e2]
  rw [lf_p_e, lf_pc]
  repeat rw [lf_p2]
  have e3 : F_X5_numberBehind_a1_0_a2_199_s11 g (n : Int) (cst g n (sp_c2 g n Ks Ws p).2).1 (cst g n (sp_c2 g n Ks Ws p).2).2.1 (cst g n (sp_c2 g n Ks Ws p).2).2.2.1 (cst g n (sp_c2 g n Ks Ws p).2).2.2.2.1 (cst g n (sp_c2 g n Ks Ws p).2).2.2.2.2 = ((sp_c3 g n Ks Ws p).1, cst g n (sp_c3 g n Ks Ws p).2) := F_X5_numberBehind_a1_0_a2_199_s11_s hn (sp_c2_v Ks Ws hp)
  rw [e3]
  rw [lf_p_e, lf_pc]
  repeat rw [lf_p2]
  rfl
theorem cl_comes5 {g : Nat → Int} {n : Nat} {N kindOf comesAt comers : Nat → Int} {a e y : Int} : F_X5_comesStatement g (n : Int) a e y (12 : Int) kindOf comesAt comers N (0 : Int) (-1 : Int) = ap5 (cst g n (.inl (5, a))) ((12 : Int), N, kindOf, comesAt, comers) := by
  unfold F_X5_comesStatement
  rw [if_neg (by decide), cl_fail0]
  rfl
