theorem nm_s {g : Nat → Int} {n : Nat} {s : ST} {xa xe xb xp np : Int} {w1 w2 w3 w4 w5 w6 w7 w8 w9 w10 w11 w12 w13 w14 w15 w16 w17 w18 w19 w20 w21 w22 w23 w24 w25 w26 w27 w28 w29 w30 : Nat → Int} (hn : n ≤ 1600) (hm : mw w1 w2 w3 w4 w5 w6 w7 w8 w9 w10 w11 w12 w13 w14 w15 w16 w17 w18 w19 w20 w21 w22 w23 w24 w25 w26 w27 w28 w29 w30) (hv : sv n s) (h : rm g n s xa xe xb xp) : rm6 g n (sb s (sp_nm g n)) (F_X10_name xa (n : Int) xe xb xp np g w1 w2 w3 w4 w5 w6 w7 w8 w9 w10 w11 w12 w13 w14 w15 w16 w17 w18 w19 w20 w21 w22 w23 w24 w25 w26 w27 w28 w29 w30) ∧ ∀ p, s = .inr p → isNm g n p = true → (F_X10_name xa (n : Int) xe xb xp np g w1 w2 w3 w4 w5 w6 w7 w8 w9 w10 w11 w12 w13 w14 w15 w16 w17 w18 w19 w20 w21 w22 w23 w24 w25 w26 w27 w28 w29 w30).1 = v27 (wd g n p) ∧ (F_X10_name xa (n : Int) xe xb xp np g w1 w2 w3 w4 w5 w6 w7 w8 w9 w10 w11 w12 w13 w14 w15 w16 w17 w18 w19 w20 w21 w22 w23 w24 w25 w26 w27 w28 w29 w30).2.2.2.2.2 = (tx_a g n p : Int) := by
  cases s with
  | inl q =>
    have hb : ¬ xb = 0 := fun r => hv (h.1.symm.trans r)
    rw [nm_0 hb]
    exact ⟨h, fun p r => by cases r⟩
  | inr p =>
    obtain ⟨h1, h2, h3⟩ := h
    subst h1
    subst h2
    have := nm_1 (np := np) hn hm h3
    exact ⟨this.1, fun p2 r => by cases r; exact this.2⟩
theorem ask2_0 {g w : Nat → Int} {xa n xe xb xp : Int} (h : ¬ xb = 0) : F_X10_asks_r2 xa n xe xb xp g w = (xa, xe, xb, xp) := by
  unfold F_X10_asks_r2
  rw [if_neg h]
theorem gM_0 {g : Nat → Int} {xa n xe xb xp lo hi : Int} (h : ¬ xb = 0) : gM xa n xe xb xp g lo hi = ((0 : Int), xa, xe, xb, xp) := by
  unfold gM
  rw [if_neg h]
theorem mnm_w1 {M N : Nat → Int} {Ks Ws : List (List Int)} {w : List Int} (hw : isW w) (h : mnm M N Ks Ws) (hl : Ws.length < 12) : mnm (lf_up M 1 (M 1 + 1)) (lf_up N (12 + M 1) (v27 w)) Ks (Ws ++ [w]) := by
  obtain ⟨h1, h2, h3, h4, h5, h6, h7, h8⟩ := h
  have e : (Ws ++ [w]).length = Ws.length + 1 := by rw [List.length_append]; rfl
  refine ⟨h1, ?_, h3, fun j hj => ?_, fun i hi => ?_, fun i hi => ?_, h7, by omega⟩
  · show M 1 + 1 = _
    rw [h2, e]
    omega
  · rw [getD_app]
    by_cases q : j < Ws.length
    · rw [if_pos q]; exact h4 j q
    · rw [if_neg q, if_pos (by omega)]; exact hw
  · unfold lf_up
    rw [h2, if_neg (by omega)]
    exact h5 i hi
  · unfold lf_up
    rw [h2, getD_app]
    by_cases q : i < Ws.length
    · rw [if_neg (by omega), if_pos q]; exact h6 i q
    · rw [if_pos (by omega), if_neg q, if_pos (by omega)]
theorem wt_1 {g M N wk : Nat → Int} {n p : Nat} {xa xe np bg : Int} {Ks Ws : List (List Int)} {w1 w2 w3 w4 w5 w6 w7 w8 w9 w10 w11 w12 w13 w14 w15 w16 w17 w18 w19 w20 w21 w22 w23 w24 w25 w26 w27 w28 w29 w30 : Nat → Int} (hn : n ≤ 1600) (hm : mw w1 w2 w3 w4 w5 w6 w7 w8 w9 w10 w11 w12 w13 w14 w15 w16 w17 w18 w19 w20 w21 w22 w23 w24 w25 w26 w27 w28 w29 w30) (hp : p ≤ n) (h : mp g n (tx_e g n p) xa xe) (hN : mnm M N Ks Ws) (hl : Ws.length < 12) : rm g n (sp_c3 g n Ks Ws p).2 (F_X10_walkerTold xa (n : Int) xe (0 : Int) (-1 : Int) np g w1 w2 w3 w4 w5 w6 w7 w8 w9 w10 w11 w12 w13 w14 w15 w16 w17 w18 w19 w20 w21 w22 w23 w24 w25 w26 w27 w28 w29 w30 M N wk bg).1 (F_X10_walkerTold xa (n : Int) xe (0 : Int) (-1 : Int) np g w1 w2 w3 w4 w5 w6 w7 w8 w9 w10 w11 w12 w13 w14 w15 w16 w17 w18 w19 w20 w21 w22 w23 w24 w25 w26 w27 w28 w29 w30 M N wk bg).2.1 (F_X10_walkerTold xa (n : Int) xe (0 : Int) (-1 : Int) np g w1 w2 w3 w4 w5 w6 w7 w8 w9 w10 w11 w12 w13 w14 w15 w16 w17 w18 w19 w20 w21 w22 w23 w24 w25 w26 w27 w28 w29 w30 M N wk bg).2.2.1 (F_X10_walkerTold xa (n : Int) xe (0 : Int) (-1 : Int) np g w1 w2 w3 w4 w5 w6 w7 w8 w9 w10 w11 w12 w13 w14 w15 w16 w17 w18 w19 w20 w21 w22 w23 w24 w25 w26 w27 w28 w29 w30 M N wk bg).2.2.2.1 ∧ ∀ q, (sp_c3 g n Ks Ws p).2 = .inr q → mnm (F_X10_walkerTold xa (n : Int) xe (0 : Int) (-1 : Int) np g w1 w2 w3 w4 w5 w6 w7 w8 w9 w10 w11 w12 w13 w14 w15 w16 w17 w18 w19 w20 w21 w22 w23 w24 w25 w26 w27 w28 w29 w30 M N wk bg).2.2.2.2.2.1 (F_X10_walkerTold xa (n : Int) xe (0 : Int) (-1 : Int) np g w1 w2 w3 w4 w5 w6 w7 w8 w9 w10 w11 w12 w13 w14 w15 w16 w17 w18 w19 w20 w21 w22 w23 w24 w25 w26 w27 w28 w29 w30 M N wk bg).2.2.2.2.2.2.1 Ks (Ws ++ [wd g n (tx_e g n p)]) := by
  unfold F_X10_walkerTold F_X10_isFull_a0_1_a1_12
  rw [if_pos rfl, if_neg (show ¬ M 1 = 12 from by have := hN.2.1; omega), lf_p_e, lf_p_e, if_pos rfl]
  have hv0 : sv n (sp_k0 g n Ks Ws p) := sp_k0_v Ks Ws hp
  have r0 := nw_1 (np := np) hn hm h hN
  generalize F_X10_newName xa (n : Int) xe (0 : Int) (-1 : Int) np g w1 w2 w3 w4 w5 w6 w7 w8 w9 w10 w11 w12 w13 w14 w15 w16 w17 w18 w19 w20 w21 w22 w23 w24 w25 w26 w27 w28 w29 w30 M N = o1 at r0 ⊢
  obtain ⟨y1, xa1, xe1, xb1, xp1, n1⟩ := o1
  have y1h : ∀ q, sp_k0 g n Ks Ws p = .inr q → y1 = v27 (wd g n (tx_e g n p)) := r0.2
  have r1 : rm g n (sp_k0 g n Ks Ws p) xa1 xe1 xb1 xp1 := r0.1
  rw [lf_p_e, lf_p_e, lf_p_e, lf_p_e, lf_p_e]
  have r2 := F_X10_asks_r2_s hn (W := W_is) rfl hm.2.2.2.2.2.2.2.2.2.1 hv0 r1
  have v2 : sv n (sp_c1 g n Ks Ws p) := sp_c1_v Ks Ws hp
  generalize F_X10_asks_r2 xa1 (n : Int) xe1 xb1 xp1 g w10 = o2 at r2 ⊢
  obtain ⟨xa2, xe2, xb2, xp2⟩ := o2
  have r2 : rm g n (sp_c1 g n Ks Ws p) xa2 xe2 xb2 xp2 := r2
  rw [lf_p_e, lf_p_e, lf_p_e]
  have r3 := nm_s (np := n1) hn hm v2 r2
  generalize F_X10_name xa2 (n : Int) xe2 xb2 xp2 n1 g w1 w2 w3 w4 w5 w6 w7 w8 w9 w10 w11 w12 w13 w14 w15 w16 w17 w18 w19 w20 w21 w22 w23 w24 w25 w26 w27 w28 w29 w30 = o3 at r3 ⊢
  obtain ⟨y3, xa3, xe3, xb3, xp3, n3⟩ := o3
  obtain ⟨r4, y3h⟩ := r3
  rw [lf_p_e, lf_p_e, lf_p_e, lf_p_e, lf_p_e, lf_b_e]
  cases ec : sp_c1 g n Ks Ws p with
  | inl x =>
    rw [ec] at r4 v2
    have r4 : xb3 = x.1 ∧ xp3 = x.2 := r4
    have hb : ¬ xb3 = 0 := fun r => v2 (r4.1.symm.trans r)
    have e3 : (sp_c3 g n Ks Ws p).2 = .inl x := by
      unfold sp_c3 sp_c2
      rw [ec]
      rfl
    rw [if_neg hb, ask2_0 hb, lf_p_e, lf_p_e, lf_p_e, F_X10_number_a0_0_a1_199_g, gM_0 hb, lf_p_e, lf_p_e, lf_p_e, lf_p_e, e3]
    exact ⟨r4, fun q r => by cases r⟩
  | inr p2 =>
    rw [ec] at r4 v2
    have hp2 : p2 ≤ n := v2
    by_cases c : isNm g n p2 = true
    · have y4 := y3h p2 ec c
      have e5 : sp_nm g n p2 = .inr (tx_e g n p2) := by
        unfold sp_nm
        exact if_pos c
      have r5 : rm6 g n (sp_nm g n p2) (y3, xa3, xe3, xb3, xp3, n3) := r4
      rw [e5] at r5
      obtain ⟨z1, z2, z3⟩ := r5
      have z1 : xb3 = 0 := z1
      have z2 : xp3 = -1 := z2
      have z3 : mp g n (tx_e g n p2) xa3 xe3 := z3
      have z4 : y3 = v27 (wd g n p2) := y4.1
      have z5 : n3 = (tx_a g n p2 : Int) := y4.2
      subst z1
      subst z2
      subst z4
      subst z5
      rw [if_pos rfl, no_0 (isNm_W c).2 hN]
      by_cases q1 : fi (wd g n p2) Ks 0 = -1
      · have hb : ¬ (3 : Int) = 0 := by decide
        have e3 : (sp_c3 g n Ks Ws p).2 = .inl (3, (tx_a g n p2 : Int)) := by
          unfold sp_c3 sp_c2
          rw [ec]
          show (sbv (sp_kn g n Ks p2).2 (sp_nb g n ws_11 0 199) 0).2 = _
          unfold sp_kn
          rw [if_pos c, if_pos q1]
          rfl
        rw [if_pos q1, ask2_0 hb, lf_p_e, lf_p_e, lf_p_e, F_X10_number_a0_0_a1_199_g, gM_0 hb, lf_p_e, lf_p_e, lf_p_e, lf_p_e, e3]
        exact ⟨⟨rfl, rfl⟩, fun q r => by cases r⟩
      · rw [if_neg q1]
        have e3 : sp_c3 g n Ks Ws p = sbv (.inr (tx_e g n p2)) (sp_nb g n ws_11 0 199) 0 := by
          unfold sp_c3 sp_c2
          rw [ec]
          show sbv (sp_kn g n Ks p2).2 (sp_nb g n ws_11 0 199) 0 = _
          unfold sp_kn
          rw [if_pos c, if_neg q1]
        have v4 : sv n (.inr (tx_e g n p2)) := tx_e_le hp2
        have r6 := F_X10_asks_r2_s (s := .inr (tx_e g n p2)) hn (W := W_at) rfl hm.2.2.2.2.2.2.2.2.2.2.1 v4 ⟨rfl, rfl, z3⟩
        generalize F_X10_asks_r2 xa3 (n : Int) xe3 (0 : Int) (-1 : Int) g w11 = o6 at r6 ⊢
        obtain ⟨xa6, xe6, xb6, xp6⟩ := o6
        have r6 : rm g n (sb (.inr (tx_e g n p2)) (sp_w g n [W_at])) xa6 xe6 xb6 xp6 := r6
        rw [lf_p_e, lf_p_e, lf_p_e]
        have v6 : sv n (sb (.inr (tx_e g n p2)) (sp_w g n [W_at])) := sv_sb v4 (fun _ hp => sp_w_v _ hp)
        have r7 := gM_s hn v6 r6 0 199 0
        rw [F_X10_number_a0_0_a1_199_g]
        generalize gM xa6 (n : Int) xe6 xb6 xp6 g 0 199 = o7 at r7 ⊢
        obtain ⟨y7, xa7, xe7, xb7, xp7⟩ := o7
        rw [sbv_nb] at r7
        have r7 : rm g n (sbv (.inr (tx_e g n p2)) (sp_nb g n ws_11 0 199) 0).2 xa7 xe7 xb7 xp7 := r7.1
        rw [← e3] at r7
        rw [lf_p_e, lf_p_e, lf_p_e, lf_p_e]
        have hv9 := sp_c3_v (g := g) Ks Ws hp
        cases e : (sp_c3 g n Ks Ws p).2 with
        | inl x =>
          rw [e] at r7 hv9
          have hb : ¬ xb7 = 0 := fun r => hv9 (r7.1.symm.trans r)
          rw [if_neg hb]
          exact ⟨r7, fun q r => by cases r⟩
        | inr q9 =>
          have e9 := e
          rw [e] at r7
          rw [if_pos r7.1]
          refine ⟨r7, fun q r => ?_⟩
          obtain ⟨z1, z2, p1, z3⟩ := sp_c3_gt e9
          rw [y1h p1 z3]
          exact mnm_w1 (isNm_W z2).2 hN hl
    · have e5 : sp_nm g n p2 = .inl (1, wrN g n p2) := by
        unfold sp_nm
        exact if_neg c
      have r5 : rm6 g n (sp_nm g n p2) (y3, xa3, xe3, xb3, xp3, n3) := r4
      rw [e5] at r5
      obtain ⟨z1, z2⟩ := r5
      have z1 : xb3 = 1 := z1
      have z2 : xp3 = wrN g n p2 := z2
      have hb : ¬ xb3 = 0 := by rw [z1]; decide
      have e3 : (sp_c3 g n Ks Ws p).2 = .inl (1, wrN g n p2) := by
        unfold sp_c3 sp_c2
        rw [ec]
        show (sbv (sp_kn g n Ks p2).2 (sp_nb g n ws_11 0 199) 0).2 = _
        unfold sp_kn
        rw [if_neg c]
        rfl
      rw [if_neg hb, ask2_0 hb, lf_p_e, lf_p_e, lf_p_e, F_X10_number_a0_0_a1_199_g, gM_0 hb, lf_p_e, lf_p_e, lf_p_e, lf_p_e, e3]
      exact ⟨⟨z1, z2⟩, fun q r => by cases r⟩
