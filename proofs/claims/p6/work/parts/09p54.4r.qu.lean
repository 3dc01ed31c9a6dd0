/-- the reading of a question -/
def rqS (g : Nat → Int) (n : Nat) (c : CD) : ST := if wl g n ws_2 0 = -1 then .inl (1, (tx_a g n 0 : Int)) else sb (if 2 < wl g n ws_2 0 then (sSum g n 3707 6 (tx_e g n 0) c).1 else (sTest g n 3707 6 (tx_e g n 0) c).1) (fun p2 => if tx_k g n p2 = 0 then .inr p2 else .inl (1, (tx_a g n p2 : Int)))
theorem rq_63 {g : Nat → Int} {n : Nat} {r sz : Int} {A B C : Nat → Int} (s : ST) (hv : sv n s) : (F_X5_readQuestion_63 r (n : Int) (cst g n s).1 (cst g n s).2.1 (cst g n s).2.2.1 (cst g n s).2.2.2.1 (cst g n s).2.2.2.2 sz A B C).2.2.2.2.2.1 = (cst g n (sb s (fun p2 => if tx_k g n p2 = 0 then .inr p2 else .inl (1, (tx_a g n p2 : Int))))).2.2.2.1 ∧ (F_X5_readQuestion_63 r (n : Int) (cst g n s).1 (cst g n s).2.1 (cst g n s).2.2.1 (cst g n s).2.2.2.1 (cst g n s).2.2.2.2 sz A B C).2.2.2.2.2.2.1 = (cst g n (sb s (fun p2 => if tx_k g n p2 = 0 then .inr p2 else .inl (1, (tx_a g n p2 : Int))))).2.2.2.2 := by
  unfold F_X5_readQuestion_63 F_X5_readQuestion_79
  cases s with
  | inl q =>
    rw [if_pos (show (cst g n (.inl q)).2.2.1 = 0 from rfl)]
    exact ⟨rfl, rfl⟩
  | inr p =>
    show (if (tx_k g n p : Int) = 0 then _ else _ : Int × Int × Int × Int × Int × Int × Int × Int × (Nat → Int) × (Nat → Int) × (Nat → Int)).2.2.2.2.2.1 = (cst g n (if tx_k g n p = 0 then .inr p else .inl (1, (tx_a g n p : Int)))).2.2.2.1 ∧ (if (tx_k g n p : Int) = 0 then _ else _ : Int × Int × Int × Int × Int × Int × Int × Int × (Nat → Int) × (Nat → Int) × (Nat → Int)).2.2.2.2.2.2.1 = (cst g n (if tx_k g n p = 0 then .inr p else .inl (1, (tx_a g n p : Int)))).2.2.2.2
    by_cases q : tx_k g n p = 0
    · rw [if_pos (show (tx_k g n p : Int) = 0 from by omega), if_pos q]
      exact ⟨rfl, rfl⟩
    · rw [if_neg (show ¬ (tx_k g n p : Int) = 0 from by omega), if_neg q]
      exact ⟨rfl, rfl⟩
theorem cl_rq {g comers code spans : Nat → Int} {n : Nat} (hn : n ≤ 1600) : (F_X5_readQuestion g comers code spans (n : Int)).2.2.2.2.2.1 = (cst g n (rqS g n (0, code))).2.2.2.1 ∧ (F_X5_readQuestion g comers code spans (n : Int)).2.2.2.2.2.2.1 = (cst g n (rqS g n (0, code))).2.2.2.2 := by
  have hle := tx_e_le (f := g) (Nat.zero_le n)
  unfold F_X5_readQuestion rqS
  rw [cl_begin hn, lf_p_e, lf_p_e, lf_p_e, lf_p_e, lf_p_e, lf_b_e, cl_w_2, wl_c]
  by_cases q : wl g n ws_2 0 = -1
  · rw [if_pos q, if_pos q, cl_fail0, lf_p_e]
    unfold F_X5_readQuestion_63 F_X5_readQuestion_79
    rw [if_pos rfl]
    exact ⟨rfl, rfl⟩
  · rw [if_neg q, if_neg q, cl_mve hn (Nat.zero_le n), lf_p_e, lf_p_e]
    by_cases q2 : 2 < wl g n ws_2 0
    · rw [if_pos q2, if_pos q2]
      obtain ⟨d, e1, e2⟩ := su_0 (al := 3707) hn (.inr (tx_e g n 0)) (0, code) hle
      have e3 : F_X5_sum_a0_0 g (n : Int) (tx_a g n (tx_e g n 0) : Int) (tx_e g n (tx_e g n 0) : Int) (tx_k g n (tx_e g n 0) : Int) 3707 code (0 : Int) (0 : Int) (-1 : Int) = ap5 (cst g n (sSum g n 3707 6 (tx_e g n 0) (0, code)).1) d := e1
      rw [e3]
      exact rq_63 _ (sSum_ok 6 (tx_e g n 0) (0, code) hle).1
    · rw [if_neg q2, if_neg q2]
      obtain ⟨d, e1, e2⟩ := te_0 (al := 3707) hn (.inr (tx_e g n 0)) (0, code) hle
      have e3 : F_X5_test_a0_0 g (n : Int) (tx_a g n (tx_e g n 0) : Int) (tx_e g n (tx_e g n 0) : Int) (tx_k g n (tx_e g n 0) : Int) 3707 code (0 : Int) (0 : Int) (-1 : Int) = ap5 (cst g n (sTest g n 3707 6 (tx_e g n 0) (0, code)).1) d := e1
      rw [e3]
      exact rq_63 _ (sTest_ok 6 (tx_e g n 0) (0, code) hle).1
def W_first : List Int := [102, 105, 114, 115, 116]
def W_last : List Int := [108, 97, 115, 116]
def W_often : List Int := [111, 102, 116, 101, 110]
def W_total : List Int := [116, 111, 116, 97, 108]
def W_most : List Int := [109, 111, 115, 116]
/-- the model's word of a question -/
theorem qk_1 {g u1 u2 u3 u4 u5 u6 : Nat → Int} {n : Nat} {xa xe : Int} (hn : n ≤ 1600) (h1 : wa u1 W_first) (h2 : wa u2 W_last) (h3 : wa u3 W_often) (h4 : wa u4 W_total) (h5 : wa u5 W_most) (h6 : wa u6 W_least) (h : mp g n 0 xa xe) : rm5 g n (if wl g n ws_2 0 = -1 then 5 else wl g n ws_2 0, if wl g n ws_2 0 = -1 then .inl (1, (tx_a g n 0 : Int)) else .inr (tx_e g n 0)) (F_X10_qKind xa (n : Int) xe (0 : Int) (-1 : Int) g u1 u2 u3 u4 u5 u6) := by
  have ew : wl g n ws_2 0 = wlf g n 0 [W_first, W_last, W_often, W_total, W_most, W_least] 0 := (wlf_1 ws_2 0).symm
  have hpn := h.1
  unfold F_X10_qKind
  rw [F_X10_takes_r5_1 hn (W := W_first) rfl h1 h]
  rw [wlf_c] at ew
  cases c0 : wh g n W_first 0 with
  | true =>
    rw [c0, if_pos rfl] at ew
    have ew' : wl g n ws_2 0 = 0 := ew
    rw [if_pos rfl, lf_p_e, lf_p_e, if_neg (show ¬ (1 : Int) = 0 from by decide), ew', if_neg (show ¬ (0 : Int) = -1 from by decide), if_neg (show ¬ (0 : Int) = -1 from by decide)]
    exact ⟨⟨rfl, rfl, mp_tok hpn (wh_k c0).1 (Or.inl rfl)⟩, fun _ _ => rfl⟩
  | false =>
    rw [c0, if_neg (show ¬ false = true from fun r => Bool.noConfusion r)] at ew
    rw [if_neg (show ¬ false = true from fun r => Bool.noConfusion r), lf_p_e, lf_p_e, if_pos rfl]
    rw [F_X10_takes_r4_1 hn (W := W_last) rfl h2 (mp_a h)]
    rw [wlf_c] at ew
    cases c1 : wh g n W_last 0 with
    | true =>
      rw [c1, if_pos rfl] at ew
      have ew' : wl g n ws_2 0 = 1 := ew
      rw [if_pos rfl, lf_p_e, lf_p_e, if_neg (show ¬ (1 : Int) = 0 from by decide), ew', if_neg (show ¬ (1 : Int) = -1 from by decide), if_neg (show ¬ (1 : Int) = -1 from by decide)]
      exact ⟨⟨rfl, rfl, mp_tok hpn (wh_k c1).1 (Or.inl rfl)⟩, fun _ _ => rfl⟩
    | false =>
      rw [c1, if_neg (show ¬ false = true from fun r => Bool.noConfusion r)] at ew
      rw [if_neg (show ¬ false = true from fun r => Bool.noConfusion r), lf_p_e, lf_p_e, if_pos rfl]
      rw [F_X10_takes_r5_1 hn (W := W_often) rfl h3 (mp_a h)]
      rw [wlf_c] at ew
      cases c2 : wh g n W_often 0 with
      | true =>
        rw [c2, if_pos rfl] at ew
        have ew' : wl g n ws_2 0 = 2 := ew
        rw [if_pos rfl, lf_p_e, lf_p_e, if_neg (show ¬ (1 : Int) = 0 from by decide), ew', if_neg (show ¬ (2 : Int) = -1 from by decide), if_neg (show ¬ (2 : Int) = -1 from by decide)]
        exact ⟨⟨rfl, rfl, mp_tok hpn (wh_k c2).1 (Or.inl rfl)⟩, fun _ _ => rfl⟩
      | false =>
        rw [c2, if_neg (show ¬ false = true from fun r => Bool.noConfusion r)] at ew
        rw [if_neg (show ¬ false = true from fun r => Bool.noConfusion r), lf_p_e, lf_p_e, if_pos rfl]
        rw [F_X10_takes_r5_1 hn (W := W_total) rfl h4 (mp_a h)]
        rw [wlf_c] at ew
        cases c3 : wh g n W_total 0 with
        | true =>
          rw [c3, if_pos rfl] at ew
          have ew' : wl g n ws_2 0 = 3 := ew
          rw [if_pos rfl, lf_p_e, lf_p_e, if_neg (show ¬ (1 : Int) = 0 from by decide), ew', if_neg (show ¬ (3 : Int) = -1 from by decide), if_neg (show ¬ (3 : Int) = -1 from by decide)]
          exact ⟨⟨rfl, rfl, mp_tok hpn (wh_k c3).1 (Or.inl rfl)⟩, fun _ _ => rfl⟩
        | false =>
          rw [c3, if_neg (show ¬ false = true from fun r => Bool.noConfusion r)] at ew
          rw [if_neg (show ¬ false = true from fun r => Bool.noConfusion r), lf_p_e, lf_p_e, if_pos rfl]
          rw [F_X10_takes_r4_1 hn (W := W_most) rfl h5 (mp_a h)]
          rw [wlf_c] at ew
          cases c4 : wh g n W_most 0 with
          | true =>
            rw [c4, if_pos rfl] at ew
            have ew' : wl g n ws_2 0 = 4 := ew
            rw [if_pos rfl, lf_p_e, lf_p_e, if_neg (show ¬ (1 : Int) = 0 from by decide), ew', if_neg (show ¬ (4 : Int) = -1 from by decide), if_neg (show ¬ (4 : Int) = -1 from by decide)]
            exact ⟨⟨rfl, rfl, mp_tok hpn (wh_k c4).1 (Or.inl rfl)⟩, fun _ _ => rfl⟩
          | false =>
            rw [c4, if_neg (show ¬ false = true from fun r => Bool.noConfusion r)] at ew
            rw [if_neg (show ¬ false = true from fun r => Bool.noConfusion r), lf_p_e, lf_p_e, if_pos rfl]
            rw [wlf_c] at ew
            have ha := F_X10_asks_r5_s (W := W_least) (s := .inr 0) (xb := 0) (xp := -1) hn rfl h6 hpn ⟨rfl, rfl, mp_a h⟩
            have ha' : rm4 g n (sp_w g n [W_least] 0) _ := ha
            rw [sp_w1] at ha'
            generalize F_X10_asks_r5 (tx_a g n 0 : Int) (n : Int) xe (0 : Int) (-1 : Int) g u6 = R at ha' ⊢
            obtain ⟨r1, r2, r3, r4⟩ := R
            rw [lf_p_e, lf_p_e, lf_p_e]
            cases c5 : wh g n W_least 0 with
            | true =>
              rw [c5, if_pos rfl] at ew ha'
              have ew' : wl g n ws_2 0 = 5 := ew
              rw [ew', if_neg (show ¬ (5 : Int) = -1 from by decide), if_neg (show ¬ (5 : Int) = -1 from by decide)]
              exact ⟨ha', fun _ _ => rfl⟩
            | false =>
              rw [c5, if_neg (show ¬ false = true from fun r => Bool.noConfusion r)] at ew ha'
              have ew' : wl g n ws_2 0 = -1 := ew
              rw [if_pos ew', if_pos ew']
              exact ⟨ha', fun _ r => by cases r⟩
def afr (a b : Int) (O : Int × Int × Int × Int × Int × Int × Int × Int × Int × Int × Int × Int × Int × Int × Int × Int × Int × Int × Int × Int × Int × Int × Int × (Nat → Int) × (Nat → Int) × (Nat → Int) × (Nat → Int) × (Nat → Int) × (Nat → Int) × (Nat → Int) × (Nat → Int) × (Nat → Int) × (Nat → Int) × (Nat → Int) × (Nat → Int) × (Nat → Int)) : Prop := O.2.2.2.2.2.2.1 = a ∧ O.2.2.2.2.2.2.2.1 = b
theorem ask_192 {M bar kd wk now : Nat → Int} {n a b : Int} (hM : 0 ≤ M 3) (hM2 : M 3 ≤ 12) : ∀ (f : Nat) (l1 y2 y4 y5 y6 y58 y59 y70 y71 y72 y73 y74 y111 y113 y114 y117 : Int) (a22 a24 a27 a32 a34 a35 a36 a37 a38 a39 a40 a41 a43 : Nat → Int) (y118 l2 y119 : Int), 0 ≤ l2 → 12 - l2 < (f : Int) → 0 < f → afr a b (F_X10_ask_192 n M bar kd wk now f l1 y2 y4 y5 y6 a b y58 y59 y70 y71 y72 y73 y74 y111 y113 y114 y117 a22 a24 a27 a32 a34 a35 a36 a37 a38 a39 a40 a41 a43 y118 l2 y119) := by
  intro f
  induction f with
  | zero => intro l1 y2 y4 y5 y6 y58 y59 y70 y71 y72 y73 y74 y111 y113 y114 y117 a22 a24 a27 a32 a34 a35 a36 a37 a38 a39 a40 a41 a43 y118 l2 y119 h0 h1 h2; omega
  | succ f ih =>
    intro l1 y2 y4 y5 y6 y58 y59 y70 y71 y72 y73 y74 y111 y113 y114 y117 a22 a24 a27 a32 a34 a35 a36 a37 a38 a39 a40 a41 a43 y118 l2 y119 h0 h1 h2
    show afr a b (F_X10_ask_192b n M bar kd wk now (F_X10_ask_192 n M bar kd wk now f) l1 y2 y4 y5 y6 a b y58 y59 y70 y71 y72 y73 y74 y111 y113 y114 y117 a22 a24 a27 a32 a34 a35 a36 a37 a38 a39 a40 a41 a43 y118 l2 y119)
    unfold F_X10_ask_192b
    refine lf_bI (Q := afr a b) (fun _ => ?_)
    refine lf_iI (Q := afr a b) (fun _ => ⟨rfl, rfl⟩) (fun q => ?_)
    refine lf_pI (Q := afr a b) (fun _ _ => ?_)
    refine lf_pI (Q := afr a b) (fun _ _ => ?_)
    refine lf_bI (Q := afr a b) (fun _ => ?_)
    exact ih _ _ _ _ _ _ _ _ _ _ _ _ _ _ _ _ _ _ _ _ _ _ _ _ _ _ _ _ _ _ _ _ (by omega) (by omega) (by omega)
