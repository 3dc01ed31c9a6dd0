theorem gM_s {g : Nat → Int} {n : Nat} {s : ST} {xa xe xb xp : Int} (hn : n ≤ 1600) (hv : sv n s) (h : rm g n s xa xe xb xp) (lo hi d : Int) : rm5 g n (sbv s (sp_num g n lo hi) d) (gM xa (n : Int) xe xb xp g lo hi) := by
  cases s with
  | inl q =>
    have hb : ¬ xb = 0 := fun r => hv (h.1.symm.trans r)
    unfold gM
    rw [if_neg hb]
    exact ⟨h, fun p r => by cases r⟩
  | inr p =>
    obtain ⟨h1, h2, h3⟩ := h
    subst h1
    subst h2
    exact gM_1 hn h3 lo hi
theorem sbv_nb {g : Nat → Int} {n : Nat} {s : ST} {ws : List (List Int)} {lo hi : Int} : sbv (sb s (sp_w g n ws)) (sp_num g n lo hi) lo = sbv s (sp_nb g n ws lo hi) lo := by
  cases s with
  | inl q => rfl
  | inr p =>
    show sbv (sp_w g n ws p) (sp_num g n lo hi) lo = sp_nb g n ws lo hi p
    unfold sp_nb
    cases sp_w g n ws p with
    | inl q => rfl
    | inr p2 => rfl
theorem sbv_hi {g : Nat → Int} {n : Nat} {s : ST} {lo hi hi2 d : Int} (h : ∀ p, s = .inr p → hi = hi2) : sbv s (sp_num g n lo hi) d = sbv s (sp_num g n lo hi2) d := by
  cases s with
  | inl q => rfl
  | inr p => rw [h p rfl]
theorem sp_num_in {g : Nat → Int} {n p q : Nat} {lo hi : Int} (h : (sp_num g n lo hi p).2 = .inr q) : lo ≤ (sp_num g n lo hi p).1 ∧ (sp_num g n lo hi p).1 ≤ hi := by
  unfold sp_num at *
  split at h
  · rename_i k
    rw [if_pos k]
    split at h
    · rename_i k2
      rw [if_pos k2]
      split at h
      · cases h
      · rename_i k3
        rw [if_neg k3]
        exact ⟨by show lo ≤ dval _ _ _ _; omega, by show dval _ _ _ _ ≤ hi; omega⟩
    · cases h
  · cases h
theorem sp_nb_in {g : Nat → Int} {n p q : Nat} {ws : List (List Int)} {lo hi : Int} (h : (sp_nb g n ws lo hi p).2 = .inr q) : lo ≤ (sp_nb g n ws lo hi p).1 ∧ (sp_nb g n ws lo hi p).1 ≤ hi := by
  unfold sp_nb at *
  cases e : sp_w g n ws p with
  | inl x => rw [e] at h; cases h
  | inr p2 =>
    rw [e] at h
    exact sp_num_in h
theorem bt_s {g bar : Nat → Int} {n : Nat} {s : ST} {xa xe xb xp : Int} {w1 w2 w3 w4 w5 w6 w7 w8 w9 w10 w11 w12 w13 w14 w15 w16 w17 w18 w19 w20 w21 w22 w23 w24 w25 w26 w27 w28 w29 w30 : Nat → Int} (hn : n ≤ 1600) (hm : mw w1 w2 w3 w4 w5 w6 w7 w8 w9 w10 w11 w12 w13 w14 w15 w16 w17 w18 w19 w20 w21 w22 w23 w24 w25 w26 w27 w28 w29 w30) (hv : sv n s) (h : rm g n s xa xe xb xp) : rm g n (sb (sp_1d g n s).2 (sp_need g n 59)) (F_X10_barTold xa (n : Int) xe xb xp g w1 w2 w3 w4 bar).1 (F_X10_barTold xa (n : Int) xe xb xp g w1 w2 w3 w4 bar).2.1 (F_X10_barTold xa (n : Int) xe xb xp g w1 w2 w3 w4 bar).2.2.1 (F_X10_barTold xa (n : Int) xe xb xp g w1 w2 w3 w4 bar).2.2.2.1 ∧ ∀ p, sb (sp_1d g n s).2 (sp_need g n 59) = .inr p → (F_X10_barTold xa (n : Int) xe xb xp g w1 w2 w3 w4 bar).2.2.2.2 0 = (sp_1a g n s).1 ∧ (F_X10_barTold xa (n : Int) xe xb xp g w1 w2 w3 w4 bar).2.2.2.2 1 = (sp_1b g n s).1 ∧ (F_X10_barTold xa (n : Int) xe xb xp g w1 w2 w3 w4 bar).2.2.2.2 2 = (sp_1c g n s).1 ∧ (F_X10_barTold xa (n : Int) xe xb xp g w1 w2 w3 w4 bar).2.2.2.2 3 = (sp_1d g n s).1 := by
  unfold F_X10_barTold
  have r1 := F_X10_asks_r5_s hn (W := W_cycle) rfl hm.1 hv h
  have v1 : sv n (sb s (sp_w g n [W_cycle])) := sv_sb hv (fun _ hp => sp_w_v _ hp)
  generalize F_X10_asks_r5 xa (n : Int) xe xb xp g w1 = o1 at r1 ⊢
  obtain ⟨xa1, xe1, xb1, xp1⟩ := o1
  have r1 : rm g n (sb s (sp_w g n [W_cycle])) xa1 xe1 xb1 xp1 := r1
  rw [lf_p_e, lf_p_e, lf_p_e]
  have r2 := gM_s hn v1 r1 10 120 10
  rw [F_X10_number_a0_10_a1_120_g]
  generalize gM xa1 (n : Int) xe1 xb1 xp1 g 10 120 = o2 at r2 ⊢
  obtain ⟨y2, xa2, xe2, xb2, xp2⟩ := o2
  rw [sbv_nb] at r2
  have r2 : rm5 g n (sp_1a g n s) (y2, xa2, xe2, xb2, xp2) := r2
  have y2h : ∀ p77, (sp_1a g n s).2 = .inr p77 → y2 = (sp_1a g n s).1 := r2.2
  have r2 : rm g n (sp_1a g n s).2 xa2 xe2 xb2 xp2 := r2.1
  rw [lf_p_e, lf_p_e, lf_p_e, lf_p_e]
  have r3 := F_X10_asks_r5_s hn (W := W_green) rfl hm.2.1 (sp_1a_v hv) r2
  have v3 : sv n (sb (sp_1a g n s).2 (sp_w g n [W_green])) := sv_sb (sp_1a_v hv) (fun _ hp => sp_w_v _ hp)
  generalize F_X10_asks_r5 xa2 (n : Int) xe2 xb2 xp2 g w2 = o3 at r3 ⊢
  obtain ⟨xa3, xe3, xb3, xp3⟩ := o3
  have r3 : rm g n (sb (sp_1a g n s).2 (sp_w g n [W_green])) xa3 xe3 xb3 xp3 := r3
  rw [lf_p_e, lf_p_e, lf_p_e]
  rw [show (lf_up bar (0 : Int) y2) 0 = y2 from rfl]
  by_cases c60 : y2 ≤ 60
  · rw [if_pos c60]
    have r4 := gM_s hn v3 r3 1 (lf_o lf_isub y2 1) 1
    rw [F_X10_number_a0_1_g]
    generalize gM xa3 (n : Int) xe3 xb3 xp3 g 1 (lf_o lf_isub y2 1) = o4 at r4 ⊢
    obtain ⟨y4, xa4, xe4, xb4, xp4⟩ := o4
    rw [sbv_hi (hi2 := min 60 ((sp_1a g n s).1 - 1)) (fun p e => by
      obtain ⟨p0, e0, e1⟩ := sb_in e
      have y0 := y2h p0 e0
      obtain ⟨p9, e9, e8⟩ := sbv_in e0
      have y9 := sp_nb_in e8
      subst e9
      have y8 : 10 ≤ (sp_1a g n (.inr p9)).1 ∧ (sp_1a g n (.inr p9)).1 ≤ 120 := y9
      rw [y0, lo_sub (by omega) (by omega) (by omega) (by omega) (by omega) (by omega)]
      omega), sbv_nb] at r4
    have r4 : rm5 g n (sp_1b g n s) (y4, xa4, xe4, xb4, xp4) := r4
    have y4h : ∀ p77, (sp_1b g n s).2 = .inr p77 → y4 = (sp_1b g n s).1 := r4.2
    have r4 : rm g n (sp_1b g n s).2 xa4 xe4 xb4 xp4 := r4.1
    rw [lf_p_e, lf_p_e, lf_p_e, lf_p_e]
    have r5 := F_X10_asks_r4_s hn (W := W_rule) rfl hm.2.2.1 (sp_1b_v hv) r4
    have v5 : sv n (sb (sp_1b g n s).2 (sp_w g n [W_rule])) := sv_sb (sp_1b_v hv) (fun _ hp => sp_w_v _ hp)
    generalize F_X10_asks_r4 xa4 (n : Int) xe4 xb4 xp4 g w3 = o5 at r5 ⊢
    obtain ⟨xa5, xe5, xb5, xp5⟩ := o5
    have r5 : rm g n (sb (sp_1b g n s).2 (sp_w g n [W_rule])) xa5 xe5 xb5 xp5 := r5
    rw [lf_p_e, lf_p_e, lf_p_e]
    have r6 := gM_s hn v5 r5 0 2 0
    rw [F_X10_number_a0_0_a1_2_g]
    generalize gM xa5 (n : Int) xe5 xb5 xp5 g 0 2 = o6 at r6 ⊢
    obtain ⟨y6, xa6, xe6, xb6, xp6⟩ := o6
    rw [sbv_nb] at r6
    have r6 : rm5 g n (sp_1c g n s) (y6, xa6, xe6, xb6, xp6) := r6
    have y6h : ∀ p77, (sp_1c g n s).2 = .inr p77 → y6 = (sp_1c g n s).1 := r6.2
    have r6 : rm g n (sp_1c g n s).2 xa6 xe6 xb6 xp6 := r6.1
    rw [lf_p_e, lf_p_e, lf_p_e, lf_p_e]
    have r7 := F_X10_asks_r5_s hn (W := W_least) rfl hm.2.2.2.1 (sp_1c_v hv) r6
    have v7 : sv n (sb (sp_1c g n s).2 (sp_w g n [W_least])) := sv_sb (sp_1c_v hv) (fun _ hp => sp_w_v _ hp)
    generalize F_X10_asks_r5 xa6 (n : Int) xe6 xb6 xp6 g w4 = o7 at r7 ⊢
    obtain ⟨xa7, xe7, xb7, xp7⟩ := o7
    have r7 : rm g n (sb (sp_1c g n s).2 (sp_w g n [W_least])) xa7 xe7 xb7 xp7 := r7
    rw [lf_p_e, lf_p_e, lf_p_e]
    have r8 := gM_s hn v7 r7 0 99 0
    rw [F_X10_number_a0_0_a1_99_g]
    generalize gM xa7 (n : Int) xe7 xb7 xp7 g 0 99 = o8 at r8 ⊢
    obtain ⟨y8, xa8, xe8, xb8, xp8⟩ := o8
    rw [sbv_nb] at r8
    have r8 : rm5 g n (sp_1d g n s) (y8, xa8, xe8, xb8, xp8) := r8
    have y8h : ∀ p77, (sp_1d g n s).2 = .inr p77 → y8 = (sp_1d g n s).1 := r8.2
    have r8 : rm g n (sp_1d g n s).2 xa8 xe8 xb8 xp8 := r8.1
    rw [lf_p_e, lf_p_e, lf_p_e, lf_p_e]
    have r9 := F_X10_asksSign_a0_59_s hn (sp_1d_v hv) r8
    generalize F_X10_asksSign_a0_59 xa8 (n : Int) xb8 xp8 g = o9 at r9 ⊢
    obtain ⟨xa9, xb9, xp9⟩ := o9
    rw [lf_p_e, lf_p_e]
    refine ⟨r9, fun p e => ?_⟩
    obtain ⟨p4, e4, _⟩ := sb_in e
    obtain ⟨p3, e3, _⟩ := sbv_in e4
    obtain ⟨p2, e2, _⟩ := sbv_in e3
    obtain ⟨p1, e1, _⟩ := sbv_in e2
    exact ⟨y2h p1 e1, y4h p2 e2, y6h p3 e3, y8h p4 e4⟩
  · rw [if_neg c60]
    have r4 := gM_s hn v3 r3 1 60 1
    rw [F_X10_number_a0_1_a1_60_g]
    generalize gM xa3 (n : Int) xe3 xb3 xp3 g 1 60 = o4 at r4 ⊢
    obtain ⟨y4, xa4, xe4, xb4, xp4⟩ := o4
    rw [sbv_hi (hi2 := min 60 ((sp_1a g n s).1 - 1)) (fun p e => by
      obtain ⟨p0, e0, e1⟩ := sb_in e
      have y0 := y2h p0 e0
      omega), sbv_nb] at r4
    have r4 : rm5 g n (sp_1b g n s) (y4, xa4, xe4, xb4, xp4) := r4
    have y4h : ∀ p77, (sp_1b g n s).2 = .inr p77 → y4 = (sp_1b g n s).1 := r4.2
    have r4 : rm g n (sp_1b g n s).2 xa4 xe4 xb4 xp4 := r4.1
    rw [lf_p_e, lf_p_e, lf_p_e, lf_p_e]
    have r5 := F_X10_asks_r4_s hn (W := W_rule) rfl hm.2.2.1 (sp_1b_v hv) r4
    have v5 : sv n (sb (sp_1b g n s).2 (sp_w g n [W_rule])) := sv_sb (sp_1b_v hv) (fun _ hp => sp_w_v _ hp)
    generalize F_X10_asks_r4 xa4 (n : Int) xe4 xb4 xp4 g w3 = o5 at r5 ⊢
    obtain ⟨xa5, xe5, xb5, xp5⟩ := o5
    have r5 : rm g n (sb (sp_1b g n s).2 (sp_w g n [W_rule])) xa5 xe5 xb5 xp5 := r5
    rw [lf_p_e, lf_p_e, lf_p_e]
    have r6 := gM_s hn v5 r5 0 2 0
    rw [F_X10_number_a0_0_a1_2_g]
    generalize gM xa5 (n : Int) xe5 xb5 xp5 g 0 2 = o6 at r6 ⊢
    obtain ⟨y6, xa6, xe6, xb6, xp6⟩ := o6
    rw [sbv_nb] at r6
    have r6 : rm5 g n (sp_1c g n s) (y6, xa6, xe6, xb6, xp6) := r6
    have y6h : ∀ p77, (sp_1c g n s).2 = .inr p77 → y6 = (sp_1c g n s).1 := r6.2
    have r6 : rm g n (sp_1c g n s).2 xa6 xe6 xb6 xp6 := r6.1
    rw [lf_p_e, lf_p_e, lf_p_e, lf_p_e]
    have r7 := F_X10_asks_r5_s hn (W := W_least) rfl hm.2.2.2.1 (sp_1c_v hv) r6
    have v7 : sv n (sb (sp_1c g n s).2 (sp_w g n [W_least])) := sv_sb (sp_1c_v hv) (fun _ hp => sp_w_v _ hp)
    generalize F_X10_asks_r5 xa6 (n : Int) xe6 xb6 xp6 g w4 = o7 at r7 ⊢
    obtain ⟨xa7, xe7, xb7, xp7⟩ := o7
    have r7 : rm g n (sb (sp_1c g n s).2 (sp_w g n [W_least])) xa7 xe7 xb7 xp7 := r7
    rw [lf_p_e, lf_p_e, lf_p_e]
    have r8 := gM_s hn v7 r7 0 99 0
    rw [F_X10_number_a0_0_a1_99_g]
    generalize gM xa7 (n : Int) xe7 xb7 xp7 g 0 99 = o8 at r8 ⊢
    obtain ⟨y8, xa8, xe8, xb8, xp8⟩ := o8
    rw [sbv_nb] at r8
    have r8 : rm5 g n (sp_1d g n s) (y8, xa8, xe8, xb8, xp8) := r8
    have y8h : ∀ p77, (sp_1d g n s).2 = .inr p77 → y8 = (sp_1d g n s).1 := r8.2
    have r8 : rm g n (sp_1d g n s).2 xa8 xe8 xb8 xp8 := r8.1
    rw [lf_p_e, lf_p_e, lf_p_e, lf_p_e]
    have r9 := F_X10_asksSign_a0_59_s hn (sp_1d_v hv) r8
    generalize F_X10_asksSign_a0_59 xa8 (n : Int) xb8 xp8 g = o9 at r9 ⊢
    obtain ⟨xa9, xb9, xp9⟩ := o9
    rw [lf_p_e, lf_p_e]
    refine ⟨r9, fun p e => ?_⟩
    obtain ⟨p4, e4, _⟩ := sb_in e
    obtain ⟨p3, e3, _⟩ := sbv_in e4
    obtain ⟨p2, e2, _⟩ := sbv_in e3
    obtain ⟨p1, e1, _⟩ := sbv_in e2
    exact ⟨y2h p1 e1, y4h p2 e2, y6h p3 e3, y8h p4 e4⟩
theorem mnm_k1 {M N : Nat → Int} {Ks Ws : List (List Int)} {w : List Int} (hw : isW w) (h : mnm M N Ks Ws) (hl : Ks.length < 6) : mnm (lf_up M 0 (M 0 + 1)) (lf_up N (M 0) (v27 w)) (Ks ++ [w]) Ws := by
  obtain ⟨h1, h2, h3, h4, h5, h6, h7, h8⟩ := h
  have e : (Ks ++ [w]).length = Ks.length + 1 := by rw [List.length_append]; rfl
  refine ⟨?_, h2, fun j hj => ?_, h4, fun i hi => ?_, fun i hi => ?_, by omega, h8⟩
  · show M 0 + 1 = _
    rw [h1, e]
    omega
  · rw [getD_app]
    by_cases q : j < Ks.length
    · rw [if_pos q]; exact h3 j q
    · rw [if_neg q, if_pos (by omega)]; exact hw
  · unfold lf_up
    rw [h1, Int.toNat_natCast, getD_app]
    by_cases q : i < Ks.length
    · rw [if_neg (by omega), if_pos q]; exact h5 i q
    · rw [if_pos (by omega), if_neg q, if_pos (by omega)]
  · unfold lf_up
    rw [h1, Int.toNat_natCast, if_neg (by omega)]
    exact h6 i hi
theorem kt_1 {g M N kd tr : Nat → Int} {n p : Nat} {xa xe np bg : Int} {Ks Ws : List (List Int)} {w1 w2 w3 w4 w5 w6 w7 w8 w9 w10 w11 w12 w13 w14 w15 w16 w17 w18 w19 w20 w21 w22 w23 w24 w25 w26 w27 w28 w29 w30 : Nat → Int} (hn : n ≤ 1600) (hm : mw w1 w2 w3 w4 w5 w6 w7 w8 w9 w10 w11 w12 w13 w14 w15 w16 w17 w18 w19 w20 w21 w22 w23 w24 w25 w26 w27 w28 w29 w30) (hp : p ≤ n) (h : mp g n (tx_e g n p) xa xe) (hN : mnm M N Ks Ws) (hl : Ks.length < 6) : rm g n (sp_k3 g n Ks Ws p).2 (F_X10_kindTold xa (n : Int) xe (0 : Int) (-1 : Int) np g w1 w2 w3 w4 w5 w6 w7 w8 w9 w10 w11 w12 w13 w14 w15 w16 w17 w18 w19 w20 w21 w22 w23 w24 w25 w26 w27 w28 w29 w30 M N kd tr bg).1 (F_X10_kindTold xa (n : Int) xe (0 : Int) (-1 : Int) np g w1 w2 w3 w4 w5 w6 w7 w8 w9 w10 w11 w12 w13 w14 w15 w16 w17 w18 w19 w20 w21 w22 w23 w24 w25 w26 w27 w28 w29 w30 M N kd tr bg).2.1 (F_X10_kindTold xa (n : Int) xe (0 : Int) (-1 : Int) np g w1 w2 w3 w4 w5 w6 w7 w8 w9 w10 w11 w12 w13 w14 w15 w16 w17 w18 w19 w20 w21 w22 w23 w24 w25 w26 w27 w28 w29 w30 M N kd tr bg).2.2.1 (F_X10_kindTold xa (n : Int) xe (0 : Int) (-1 : Int) np g w1 w2 w3 w4 w5 w6 w7 w8 w9 w10 w11 w12 w13 w14 w15 w16 w17 w18 w19 w20 w21 w22 w23 w24 w25 w26 w27 w28 w29 w30 M N kd tr bg).2.2.2.1 ∧ ∀ q, (sp_k3 g n Ks Ws p).2 = .inr q → mnm (F_X10_kindTold xa (n : Int) xe (0 : Int) (-1 : Int) np g w1 w2 w3 w4 w5 w6 w7 w8 w9 w10 w11 w12 w13 w14 w15 w16 w17 w18 w19 w20 w21 w22 w23 w24 w25 w26 w27 w28 w29 w30 M N kd tr bg).2.2.2.2.2.1 (F_X10_kindTold xa (n : Int) xe (0 : Int) (-1 : Int) np g w1 w2 w3 w4 w5 w6 w7 w8 w9 w10 w11 w12 w13 w14 w15 w16 w17 w18 w19 w20 w21 w22 w23 w24 w25 w26 w27 w28 w29 w30 M N kd tr bg).2.2.2.2.2.2.1 (Ks ++ [wd g n (tx_e g n p)]) Ws := by
  unfold F_X10_kindTold F_X10_isFull_a0_0_a1_6
  rw [if_pos rfl, if_neg (show ¬ M 0 = 6 from by have := hN.1; omega), lf_p_e, lf_p_e, if_pos rfl]
  have hv0 : sv n (sp_k0 g n Ks Ws p) := sp_k0_v Ks Ws hp
  have r0 := nw_1 (np := np) hn hm h hN
  generalize F_X10_newName xa (n : Int) xe (0 : Int) (-1 : Int) np g w1 w2 w3 w4 w5 w6 w7 w8 w9 w10 w11 w12 w13 w14 w15 w16 w17 w18 w19 w20 w21 w22 w23 w24 w25 w26 w27 w28 w29 w30 M N = o1 at r0 ⊢
  obtain ⟨y1, xa1, xe1, xb1, xp1, n1⟩ := o1
  have y1h : ∀ q, sp_k0 g n Ks Ws p = .inr q → y1 = v27 (wd g n (tx_e g n p)) := r0.2
  have r1 : rm g n (sp_k0 g n Ks Ws p) xa1 xe1 xb1 xp1 := r0.1
  rw [lf_p_e, lf_p_e, lf_p_e, lf_p_e, lf_p_e]
  have r2 := F_X10_asks_r4_s hn (W := W_calm) rfl hm.2.2.2.2.2.1 hv0 r1
  have v2 : sv n (sb (sp_k0 g n Ks Ws p) (sp_w g n [W_calm])) := sv_sb hv0 (fun _ hp => sp_w_v _ hp)
  generalize F_X10_asks_r4 xa1 (n : Int) xe1 xb1 xp1 g w6 = o2 at r2 ⊢
  obtain ⟨xa2, xe2, xb2, xp2⟩ := o2
  have r2 : rm g n (sb (sp_k0 g n Ks Ws p) (sp_w g n [W_calm])) xa2 xe2 xb2 xp2 := r2
  rw [lf_p_e, lf_p_e, lf_p_e]
  have r3 := gM_s hn v2 r2 0 99 0
  rw [F_X10_number_a0_0_a1_99_g]
  generalize gM xa2 (n : Int) xe2 xb2 xp2 g 0 99 = o3 at r3 ⊢
  obtain ⟨y3, xa3, xe3, xb3, xp3⟩ := o3
  rw [sbv_nb] at r3
  have r3 : rm5 g n (sp_k1 g n Ks Ws p) (y3, xa3, xe3, xb3, xp3) := r3
  have y3h : ∀ p77, (sp_k1 g n Ks Ws p).2 = .inr p77 → y3 = (sp_k1 g n Ks Ws p).1 := r3.2
  have r3 : rm g n (sp_k1 g n Ks Ws p).2 xa3 xe3 xb3 xp3 := r3.1
  rw [lf_p_e, lf_p_e, lf_p_e, lf_p_e]
  have r4 := F_X10_asks_r4_s hn (W := W_pace) rfl hm.2.2.2.2.2.2.1 (sp_k1_v Ks Ws hp) r3
  have v4 : sv n (sb (sp_k1 g n Ks Ws p).2 (sp_w g n [W_pace])) := sv_sb (sp_k1_v Ks Ws hp) (fun _ hp => sp_w_v _ hp)
  generalize F_X10_asks_r4 xa3 (n : Int) xe3 xb3 xp3 g w7 = o4 at r4 ⊢
  obtain ⟨xa4, xe4, xb4, xp4⟩ := o4
  have r4 : rm g n (sb (sp_k1 g n Ks Ws p).2 (sp_w g n [W_pace])) xa4 xe4 xb4 xp4 := r4
  rw [lf_p_e, lf_p_e, lf_p_e]
  have r5 := gM_s hn v4 r4 1 20 1
  rw [F_X10_number_a0_1_a1_20_g]
  generalize gM xa4 (n : Int) xe4 xb4 xp4 g 1 20 = o5 at r5 ⊢
  obtain ⟨y5, xa5, xe5, xb5, xp5⟩ := o5
  rw [sbv_nb] at r5
  have r5 : rm5 g n (sp_k2 g n Ks Ws p) (y5, xa5, xe5, xb5, xp5) := r5
  have y5h : ∀ p77, (sp_k2 g n Ks Ws p).2 = .inr p77 → y5 = (sp_k2 g n Ks Ws p).1 := r5.2
  have r5 : rm g n (sp_k2 g n Ks Ws p).2 xa5 xe5 xb5 xp5 := r5.1
  rw [lf_p_e, lf_p_e, lf_p_e, lf_p_e]
  have r6 := F_X10_asks_r6_s hn (W := W_trusts) rfl hm.2.2.2.2.2.2.2.1 (sp_k2_v Ks Ws hp) r5
  have v6 : sv n (sb (sp_k2 g n Ks Ws p).2 (sp_w g n [W_trusts])) := sv_sb (sp_k2_v Ks Ws hp) (fun _ hp => sp_w_v _ hp)
  generalize F_X10_asks_r6 xa5 (n : Int) xe5 xb5 xp5 g w8 = o6 at r6 ⊢
  obtain ⟨xa6, xe6, xb6, xp6⟩ := o6
  have r6 : rm g n (sb (sp_k2 g n Ks Ws p).2 (sp_w g n [W_trusts])) xa6 xe6 xb6 xp6 := r6
  rw [lf_p_e, lf_p_e, lf_p_e]
  have r7 := gM_s hn v6 r6 0 9 0
  rw [F_X10_number_a0_0_a1_9_g]
  generalize gM xa6 (n : Int) xe6 xb6 xp6 g 0 9 = o7 at r7 ⊢
  obtain ⟨y7, xa7, xe7, xb7, xp7⟩ := o7
  rw [sbv_nb] at r7
  have r7 : rm5 g n (sp_k3 g n Ks Ws p) (y7, xa7, xe7, xb7, xp7) := r7
  have y7h : ∀ p77, (sp_k3 g n Ks Ws p).2 = .inr p77 → y7 = (sp_k3 g n Ks Ws p).1 := r7.2
  have r7 : rm g n (sp_k3 g n Ks Ws p).2 xa7 xe7 xb7 xp7 := r7.1
  rw [lf_p_e, lf_p_e, lf_p_e, lf_p_e]
  have hv9 := sp_k3_v (g := g) Ks Ws hp
  cases e : (sp_k3 g n Ks Ws p).2 with
  | inl x =>
    rw [e] at r7 hv9
    have hb : ¬ xb7 = 0 := fun r => hv9 (r7.1.symm.trans r)
    rw [if_neg hb]
    exact ⟨r7, fun q r => by cases r⟩
  | inr q9 =>
    have e9 := e
    rw [e] at r7
    rw [if_pos r7.1]
    refine ⟨r7, fun q r => ?_⟩
    obtain ⟨z1, z2, p1, z3⟩ := sp_k3_gt e9
    rw [y1h p1 z3]
    exact mnm_k1 (isNm_W z2).2 hN hl
