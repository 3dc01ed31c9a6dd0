/-! the model: what kinds, walkers and codes write -/
theorem kt_2 {g M N kd tr : Nat → Int} {n p : Nat} {xa xe np bg : Int} {Ks Ws : List (List Int)} {w1 w2 w3 w4 w5 w6 w7 w8 w9 w10 w11 w12 w13 w14 w15 w16 w17 w18 w19 w20 w21 w22 w23 w24 w25 w26 w27 w28 w29 w30 : Nat → Int} (hn : n ≤ 1600) (hm : mw w1 w2 w3 w4 w5 w6 w7 w8 w9 w10 w11 w12 w13 w14 w15 w16 w17 w18 w19 w20 w21 w22 w23 w24 w25 w26 w27 w28 w29 w30) (hp : p ≤ n) (h : mp g n (tx_e g n p) xa xe) (hN : mnm M N Ks Ws) (hl : Ks.length < 6) : (∀ j, 12 ≤ j → (F_X10_kindTold xa (n : Int) xe (0 : Int) (-1 : Int) np g w1 w2 w3 w4 w5 w6 w7 w8 w9 w10 w11 w12 w13 w14 w15 w16 w17 w18 w19 w20 w21 w22 w23 w24 w25 w26 w27 w28 w29 w30 M N kd tr bg).2.2.2.2.2.2.2.1 j = kd j) ∧ ∀ q, (sp_k3 g n Ks Ws p).2 = .inr q → (F_X10_kindTold xa (n : Int) xe (0 : Int) (-1 : Int) np g w1 w2 w3 w4 w5 w6 w7 w8 w9 w10 w11 w12 w13 w14 w15 w16 w17 w18 w19 w20 w21 w22 w23 w24 w25 w26 w27 w28 w29 w30 M N kd tr bg).2.2.2.2.2.2.2.1 = lf_up (lf_up kd ((2 : Int) * (Ks.length : Int)) (sp_k1 g n Ks Ws p).1) (((2 : Int) * (Ks.length : Int)) + (1 : Int)) (sp_k2 g n Ks Ws p).1 ∧ (F_X10_kindTold xa (n : Int) xe (0 : Int) (-1 : Int) np g w1 w2 w3 w4 w5 w6 w7 w8 w9 w10 w11 w12 w13 w14 w15 w16 w17 w18 w19 w20 w21 w22 w23 w24 w25 w26 w27 w28 w29 w30 M N kd tr bg).2.2.2.2.2.2.2.2 = lf_up tr (Ks.length : Int) (sp_k3 g n Ks Ws p).1 := by
  unfold F_X10_kindTold F_X10_isFull_a0_0_a1_6
  rw [if_pos rfl, if_neg (show ¬ M 0 = 6 from by have := hN.1; omega), lf_p_e, lf_p_e, if_pos rfl]
  have hv0 : sv n (sp_k0 g n Ks Ws p) := sp_k0_v Ks Ws hp
  have r0 := nw_1 (np := np) hn hm h hN
  generalize F_X10_newName xa (n : Int) xe (0 : Int) (-1 : Int) np g w1 w2 w3 w4 w5 w6 w7 w8 w9 w10 w11 w12 w13 w14 w15 w16 w17 w18 w19 w20 w21 w22 w23 w24 w25 w26 w27 w28 w29 w30 M N = o1 at r0 ⊢
  obtain ⟨y1, xa1, xe1, xb1, xp1, n1⟩ := o1
  have y1h : ∀ q, sp_k0 g n Ks Ws p = .inr q → y1 = v27 (wd g n (tx_e g n p)) := r0.2
  have r1 : rm g n (sp_k0 g n Ks Ws p) xa1 xe1 xb1 xp1 := r0.1
  rw [lf_p_e, lf_p_e, lf_p_e, lf_p_e, lf_p_e]
  have r2 := F_X10_asks_r4_s hn (W := W_calm) rfl hm.2.2.2.2.2.1 hv0 r1
  have v2 : sv n (sb (sp_k0 g n Ks Ws p) (sp_w g n [W_calm])) := sv_sb hv0 (fun _ hp => sp_w_v _ hp)
  generalize F_X10_asks_r4 xa1 (n : Int) xe1 xb1 xp1 g w6 = o2 at r2 ⊢
  obtain ⟨xa2, xe2, xb2, xp2⟩ := o2
  have r2 : rm g n (sb (sp_k0 g n Ks Ws p) (sp_w g n [W_calm])) xa2 xe2 xb2 xp2 := r2
  rw [lf_p_e, lf_p_e, lf_p_e]
  have r3 := gM_s hn v2 r2 0 99 0
  rw [F_X10_number_a0_0_a1_99_g]
  generalize gM xa2 (n : Int) xe2 xb2 xp2 g 0 99 = o3 at r3 ⊢
  obtain ⟨y3, xa3, xe3, xb3, xp3⟩ := o3
  rw [sbv_nb] at r3
  have r3 : rm5 g n (sp_k1 g n Ks Ws p) (y3, xa3, xe3, xb3, xp3) := r3
  have y3h : ∀ p77, (sp_k1 g n Ks Ws p).2 = .inr p77 → y3 = (sp_k1 g n Ks Ws p).1 := r3.2
  have r3 : rm g n (sp_k1 g n Ks Ws p).2 xa3 xe3 xb3 xp3 := r3.1
  rw [lf_p_e, lf_p_e, lf_p_e, lf_p_e]
  have r4 := F_X10_asks_r4_s hn (W := W_pace) rfl hm.2.2.2.2.2.2.1 (sp_k1_v Ks Ws hp) r3
  have v4 : sv n (sb (sp_k1 g n Ks Ws p).2 (sp_w g n [W_pace])) := sv_sb (sp_k1_v Ks Ws hp) (fun _ hp => sp_w_v _ hp)
  generalize F_X10_asks_r4 xa3 (n : Int) xe3 xb3 xp3 g w7 = o4 at r4 ⊢
  obtain ⟨xa4, xe4, xb4, xp4⟩ := o4
  have r4 : rm g n (sb (sp_k1 g n Ks Ws p).2 (sp_w g n [W_pace])) xa4 xe4 xb4 xp4 := r4
  rw [lf_p_e, lf_p_e, lf_p_e]
  have r5 := gM_s hn v4 r4 1 20 1
  rw [F_X10_number_a0_1_a1_20_g]
  generalize gM xa4 (n : Int) xe4 xb4 xp4 g 1 20 = o5 at r5 ⊢
  obtain ⟨y5, xa5, xe5, xb5, xp5⟩ := o5
  rw [sbv_nb] at r5
  have r5 : rm5 g n (sp_k2 g n Ks Ws p) (y5, xa5, xe5, xb5, xp5) := r5
  have y5h : ∀ p77, (sp_k2 g n Ks Ws p).2 = .inr p77 → y5 = (sp_k2 g n Ks Ws p).1 := r5.2
  have r5 : rm g n (sp_k2 g n Ks Ws p).2 xa5 xe5 xb5 xp5 := r5.1
  rw [lf_p_e, lf_p_e, lf_p_e, lf_p_e]
  have r6 := F_X10_asks_r6_s hn (W := W_trusts) rfl hm.2.2.2.2.2.2.2.1 (sp_k2_v Ks Ws hp) r5
  have v6 : sv n (sb (sp_k2 g n Ks Ws p).2 (sp_w g n [W_trusts])) := sv_sb (sp_k2_v Ks Ws hp) (fun _ hp => sp_w_v _ hp)
  generalize F_X10_asks_r6 xa5 (n : Int) xe5 xb5 xp5 g w8 = o6 at r6 ⊢
  obtain ⟨xa6, xe6, xb6, xp6⟩ := o6
  have r6 : rm g n (sb (sp_k2 g n Ks Ws p).2 (sp_w g n [W_trusts])) xa6 xe6 xb6 xp6 := r6
  rw [lf_p_e, lf_p_e, lf_p_e]
  have r7 := gM_s hn v6 r6 0 9 0
  rw [F_X10_number_a0_0_a1_9_g]
  generalize gM xa6 (n : Int) xe6 xb6 xp6 g 0 9 = o7 at r7 ⊢
  obtain ⟨y7, xa7, xe7, xb7, xp7⟩ := o7
  rw [sbv_nb] at r7
  have r7 : rm5 g n (sp_k3 g n Ks Ws p) (y7, xa7, xe7, xb7, xp7) := r7
  have y7h : ∀ p77, (sp_k3 g n Ks Ws p).2 = .inr p77 → y7 = (sp_k3 g n Ks Ws p).1 := r7.2
  have r7 : rm g n (sp_k3 g n Ks Ws p).2 xa7 xe7 xb7 xp7 := r7.1
  rw [lf_p_e, lf_p_e, lf_p_e, lf_p_e]
  have hv9 := sp_k3_v (g := g) Ks Ws hp
  cases e : (sp_k3 g n Ks Ws p).2 with
  | inl x =>
    rw [e] at r7 hv9
    have hb : ¬ xb7 = 0 := fun r => hv9 (r7.1.symm.trans r)
    rw [if_neg hb]
    exact ⟨fun j _ => rfl, fun q r => by cases r⟩
  | inr q9 =>
    have e9 := e
    rw [e] at r7
    rw [if_pos r7.1]
    obtain ⟨u2, f2, _⟩ := sbv_e e9
    have f2 : (sp_k2 g n Ks Ws p).2 = .inr u2 := f2
    obtain ⟨u1, f1, _⟩ := sbv_e f2
    have f1 : (sp_k1 g n Ks Ws p).2 = .inr u1 := f1
    have hm0 : M 0 = (Ks.length : Int) := hN.1
    refine ⟨fun j hj => ?_, fun q r => ?_⟩
    · show lf_up (lf_up kd ((2 : Int) * M 0) y3) (((2 : Int) * M 0) + (1 : Int)) y5 j = kd j
      rw [lf_up_o (by omega), lf_up_o (by omega)]
    · rw [y3h u1 f1, y5h u2 f2, y7h q9 e9, hm0]
      exact ⟨rfl, rfl⟩
theorem wt_2 {g M N wk : Nat → Int} {n p : Nat} {xa xe np bg : Int} {Ks Ws : List (List Int)} {w1 w2 w3 w4 w5 w6 w7 w8 w9 w10 w11 w12 w13 w14 w15 w16 w17 w18 w19 w20 w21 w22 w23 w24 w25 w26 w27 w28 w29 w30 : Nat → Int} (hn : n ≤ 1600) (hm : mw w1 w2 w3 w4 w5 w6 w7 w8 w9 w10 w11 w12 w13 w14 w15 w16 w17 w18 w19 w20 w21 w22 w23 w24 w25 w26 w27 w28 w29 w30) (hp : p ≤ n) (h : mp g n (tx_e g n p) xa xe) (hN : mnm M N Ks Ws) (hl : Ws.length < 12) : (∀ j, 24 ≤ j → (F_X10_walkerTold xa (n : Int) xe (0 : Int) (-1 : Int) np g w1 w2 w3 w4 w5 w6 w7 w8 w9 w10 w11 w12 w13 w14 w15 w16 w17 w18 w19 w20 w21 w22 w23 w24 w25 w26 w27 w28 w29 w30 M N wk bg).2.2.2.2.2.2.2 j = wk j) ∧ ∀ q, (sp_c3 g n Ks Ws p).2 = .inr q → (F_X10_walkerTold xa (n : Int) xe (0 : Int) (-1 : Int) np g w1 w2 w3 w4 w5 w6 w7 w8 w9 w10 w11 w12 w13 w14 w15 w16 w17 w18 w19 w20 w21 w22 w23 w24 w25 w26 w27 w28 w29 w30 M N wk bg).2.2.2.2.2.2.2 = lf_up (lf_up wk ((2 : Int) * (Ws.length : Int)) (sp_c2 g n Ks Ws p).1) (((2 : Int) * (Ws.length : Int)) + (1 : Int)) (sp_c3 g n Ks Ws p).1 := by
  unfold F_X10_walkerTold F_X10_isFull_a0_1_a1_12
  rw [if_pos rfl, if_neg (show ¬ M 1 = 12 from by have := hN.2.1; omega), lf_p_e, lf_p_e, if_pos rfl]
  have hv0 : sv n (sp_k0 g n Ks Ws p) := sp_k0_v Ks Ws hp
  have r0 := nw_1 (np := np) hn hm h hN
  generalize F_X10_newName xa (n : Int) xe (0 : Int) (-1 : Int) np g w1 w2 w3 w4 w5 w6 w7 w8 w9 w10 w11 w12 w13 w14 w15 w16 w17 w18 w19 w20 w21 w22 w23 w24 w25 w26 w27 w28 w29 w30 M N = o1 at r0 ⊢
  obtain ⟨y1, xa1, xe1, xb1, xp1, n1⟩ := o1
  have y1h : ∀ q, sp_k0 g n Ks Ws p = .inr q → y1 = v27 (wd g n (tx_e g n p)) := r0.2
  have r1 : rm g n (sp_k0 g n Ks Ws p) xa1 xe1 xb1 xp1 := r0.1
  rw [lf_p_e, lf_p_e, lf_p_e, lf_p_e, lf_p_e]
  have r2 := F_X10_asks_r2_s hn (W := W_is) rfl hm.2.2.2.2.2.2.2.2.2.1 hv0 r1
  have v2 : sv n (sp_c1 g n Ks Ws p) := sp_c1_v Ks Ws hp
  generalize F_X10_asks_r2 xa1 (n : Int) xe1 xb1 xp1 g w10 = o2 at r2 ⊢
  obtain ⟨xa2, xe2, xb2, xp2⟩ := o2
  have r2 : rm g n (sp_c1 g n Ks Ws p) xa2 xe2 xb2 xp2 := r2
  rw [lf_p_e, lf_p_e, lf_p_e]
  have r3 := nm_s (np := n1) hn hm v2 r2
  generalize F_X10_name xa2 (n : Int) xe2 xb2 xp2 n1 g w1 w2 w3 w4 w5 w6 w7 w8 w9 w10 w11 w12 w13 w14 w15 w16 w17 w18 w19 w20 w21 w22 w23 w24 w25 w26 w27 w28 w29 w30 = o3 at r3 ⊢
  obtain ⟨y3, xa3, xe3, xb3, xp3, n3⟩ := o3
  obtain ⟨r4, y3h⟩ := r3
  rw [lf_p_e, lf_p_e, lf_p_e, lf_p_e, lf_p_e, lf_b_e]
  cases ec : sp_c1 g n Ks Ws p with
  | inl x =>
    rw [ec] at r4 v2
    have r4 : xb3 = x.1 ∧ xp3 = x.2 := r4
    have hb : ¬ xb3 = 0 := fun r => v2 (r4.1.symm.trans r)
    have e3 : (sp_c3 g n Ks Ws p).2 = .inl x := by
      unfold sp_c3 sp_c2
      rw [ec]
      rfl
    rw [if_neg hb, ask2_0 hb, lf_p_e, lf_p_e, lf_p_e, F_X10_number_a0_0_a1_199_g, gM_0 hb, lf_p_e, lf_p_e, lf_p_e, lf_p_e, e3]
    exact ⟨fun j _ => rfl, fun q r => by cases r⟩
  | inr p2 =>
    rw [ec] at r4 v2
    have hp2 : p2 ≤ n := v2
    by_cases c : isNm g n p2 = true
    · have y4 := y3h p2 ec c
      have e5 : sp_nm g n p2 = .inr (tx_e g n p2) := by
        unfold sp_nm
        exact if_pos c
      have r5 : rm6 g n (sp_nm g n p2) (y3, xa3, xe3, xb3, xp3, n3) := r4
      rw [e5] at r5
      obtain ⟨z1, z2, z3⟩ := r5
      have z1 : xb3 = 0 := z1
      have z2 : xp3 = -1 := z2
      have z3 : mp g n (tx_e g n p2) xa3 xe3 := z3
      have z4 : y3 = v27 (wd g n p2) := y4.1
      have z5 : n3 = (tx_a g n p2 : Int) := y4.2
      subst z1
      subst z2
      subst z4
      subst z5
      rw [if_pos rfl, no_0 (isNm_W c).2 hN]
      by_cases q1 : fi (wd g n p2) Ks 0 = -1
      · have hb : ¬ (3 : Int) = 0 := by decide
        have e3 : (sp_c3 g n Ks Ws p).2 = .inl (3, (tx_a g n p2 : Int)) := by
          unfold sp_c3 sp_c2
          rw [ec]
          show (sbv (sp_kn g n Ks p2).2 (sp_nb g n ws_11 0 199) 0).2 = _
          unfold sp_kn
          rw [if_pos c, if_pos q1]
          rfl
        rw [if_pos q1, ask2_0 hb, lf_p_e, lf_p_e, lf_p_e, F_X10_number_a0_0_a1_199_g, gM_0 hb, lf_p_e, lf_p_e, lf_p_e, lf_p_e, e3]
        exact ⟨fun j _ => rfl, fun q r => by cases r⟩
      · rw [if_neg q1]
        have e3 : sp_c3 g n Ks Ws p = sbv (.inr (tx_e g n p2)) (sp_nb g n ws_11 0 199) 0 := by
          unfold sp_c3 sp_c2
          rw [ec]
          show sbv (sp_kn g n Ks p2).2 (sp_nb g n ws_11 0 199) 0 = _
          unfold sp_kn
          rw [if_pos c, if_neg q1]
        have v4 : sv n (.inr (tx_e g n p2)) := tx_e_le hp2
        have r6 := F_X10_asks_r2_s (s := .inr (tx_e g n p2)) hn (W := W_at) rfl hm.2.2.2.2.2.2.2.2.2.2.1 v4 ⟨rfl, rfl, z3⟩
        generalize F_X10_asks_r2 xa3 (n : Int) xe3 (0 : Int) (-1 : Int) g w11 = o6 at r6 ⊢
        obtain ⟨xa6, xe6, xb6, xp6⟩ := o6
        have r6 : rm g n (sb (.inr (tx_e g n p2)) (sp_w g n [W_at])) xa6 xe6 xb6 xp6 := r6
        rw [lf_p_e, lf_p_e, lf_p_e]
        have v6 : sv n (sb (.inr (tx_e g n p2)) (sp_w g n [W_at])) := sv_sb v4 (fun _ hp => sp_w_v _ hp)
        have r7 := gM_s hn v6 r6 0 199 0
        rw [F_X10_number_a0_0_a1_199_g]
        generalize gM xa6 (n : Int) xe6 xb6 xp6 g 0 199 = o7 at r7 ⊢
        obtain ⟨y7, xa7, xe7, xb7, xp7⟩ := o7
        rw [sbv_nb] at r7
        have y7h : ∀ p77, (sbv (.inr (tx_e g n p2)) (sp_nb g n ws_11 0 199) 0).2 = .inr p77 → y7 = (sbv (.inr (tx_e g n p2)) (sp_nb g n ws_11 0 199) 0).1 := r7.2
        have r7 : rm g n (sbv (.inr (tx_e g n p2)) (sp_nb g n ws_11 0 199) 0).2 xa7 xe7 xb7 xp7 := r7.1
        rw [← e3] at r7 y7h
        rw [lf_p_e, lf_p_e, lf_p_e, lf_p_e]
        have hv9 := sp_c3_v (g := g) Ks Ws hp
        cases e : (sp_c3 g n Ks Ws p).2 with
        | inl x =>
          rw [e] at r7 hv9
          have hb : ¬ xb7 = 0 := fun r => hv9 (r7.1.symm.trans r)
          rw [if_neg hb]
          exact ⟨fun j _ => rfl, fun q r => by cases r⟩
        | inr q9 =>
          have e9 := e
          rw [e] at r7
          rw [if_pos r7.1]
          have hm1 : M 1 = (Ws.length : Int) := hN.2.1
          have ec2 : (sp_c2 g n Ks Ws p).1 = fi (wd g n p2) Ks 0 := by
            unfold sp_c2
            rw [ec]
            show (sp_kn g n Ks p2).1 = _
            unfold sp_kn
            rw [if_pos c, if_neg q1]
          refine ⟨fun j hj => ?_, fun q r => ?_⟩
          · show lf_up (lf_up wk ((2 : Int) * M 1) (fi (wd g n p2) Ks 0)) (((2 : Int) * M 1) + (1 : Int)) y7 j = wk j
            rw [lf_up_o (by omega), lf_up_o (by omega)]
          · rw [y7h q9 e9, ec2, hm1]
    · have e5 : sp_nm g n p2 = .inl (1, wrN g n p2) := by
        unfold sp_nm
        exact if_neg c
      have r5 : rm6 g n (sp_nm g n p2) (y3, xa3, xe3, xb3, xp3, n3) := r4
      rw [e5] at r5
      obtain ⟨z1, z2⟩ := r5
      have z1 : xb3 = 1 := z1
      have z2 : xp3 = wrN g n p2 := z2
      have hb : ¬ xb3 = 0 := by rw [z1]; decide
      have e3 : (sp_c3 g n Ks Ws p).2 = .inl (1, wrN g n p2) := by
        unfold sp_c3 sp_c2
        rw [ec]
        show (sbv (sp_kn g n Ks p2).2 (sp_nb g n ws_11 0 199) 0).2 = _
        unfold sp_kn
        rw [if_neg c]
        rfl
      rw [if_neg hb, ask2_0 hb, lf_p_e, lf_p_e, lf_p_e, F_X10_number_a0_0_a1_199_g, gM_0 hb, lf_p_e, lf_p_e, lf_p_e, lf_p_e, e3]
      exact ⟨fun j _ => rfl, fun q r => by cases r⟩
theorem kc_0l {ce A1 A17 A19 : Nat → Int} {xa xe xb xp qn m o : Int} : ∀ (f : Nat) (l x : Int) (A21 : Nat → Int), 0 ≤ x → 0 ≤ l → l ≤ qn → qn - l < (f : Int) → ∃ cd, F_X10_codesTold_a0_0_92 ce f xa xe xb xp qn m o A1 A17 A19 l x A21 = (xa, xe, xb, xp, x + (qn - l), (0 : Int), qn, m, o, (0 : Int), A1, A17, A19, lf_up ce (0 : Int) (x + (qn - l)), cd) ∧ (∀ j : Nat, (j : Int) < qn - l → cd (x.toNat + j) = A19 (l.toNat + j)) ∧ ∀ j : Nat, (j : Int) < x ∨ x + (qn - l) ≤ (j : Int) → cd j = A21 j := by
  intro f
  induction f with
  | zero => intro l x A21 hx h0 h1 h2; omega
  | succ f ih =>
    intro l x A21 hx h0 h1 h2
    show ∃ cd, F_X10_codesTold_a0_0_92b ce (F_X10_codesTold_a0_0_92 ce f) xa xe xb xp qn m o A1 A17 A19 l x A21 = (xa, xe, xb, xp, x + (qn - l), (0 : Int), qn, m, o, (0 : Int), A1, A17, A19, lf_up ce (0 : Int) (x + (qn - l)), cd) ∧ (∀ j : Nat, (j : Int) < qn - l → cd (x.toNat + j) = A19 (l.toNat + j)) ∧ ∀ j : Nat, (j : Int) < x ∨ x + (qn - l) ≤ (j : Int) → cd j = A21 j
    unfold F_X10_codesTold_a0_0_92b
    by_cases q : qn ≤ l
    · rw [if_pos q, show x + (qn - l) = x from by omega]
      exact ⟨A21, rfl, fun j hj => absurd hj (by omega), fun j _ => rfl⟩
    · rw [if_neg q]
      obtain ⟨cd, e, e3, e4⟩ := ih (l + 1) (x + 1) (lf_up A21 x (A19 (Int.toNat l))) (by omega) (by omega) (by omega) (by omega)
      rw [show x + 1 + (qn - (l + 1)) = x + (qn - l) from by omega] at e
      refine ⟨cd, e, fun j hj => ?_, fun j hj => ?_⟩
      · cases j with
        | zero =>
          rw [e4 (x.toNat + 0) (by omega), lf_up_y (by omega)]
          rfl
        | succ j =>
          have := e3 j (by omega)
          rw [show (x + 1).toNat + j = x.toNat + (j + 1) from by omega, show (l + 1).toNat + j = l.toNat + (j + 1) from by omega] at this
          exact this
      · rw [e4 j (by omega)]
        exact lf_up_o (by omega)
theorem kc_0 {g : Nat → Int} {n p : Nat} {vnot vand vor vall vmin vmax v1 v2 v3 v4 v5 v6 v7 v8 v9 v10 v11 v12 v13 cf ce cs qc qwt : Nat → Int} {xa xe cod0 x1 x2 x3 x4 x5 bg : Int} (hn : n ≤ 1600) (hq : qw v1 v2 v3 v4 v5 v6 v7 v8 v9 v10 v11 v12 v13) (hnot : wa vnot W_not) (hand : wa vand W_and) (hor : wa vor W_or) (hall : wa vall W_all) (hmin : wa vmin W_min) (hmax : wa vmax W_max) (h : mp g n p xa xe) (hc : 0 ≤ cod0) (hf : cf 0 = -1) (hc16 : cod0 ≤ (p : Int)) : ((∀ j, 3 ≤ j → (F_X10_codesTold_a0_0 xa (n : Int) xe (0 : Int) (-1 : Int) cod0 x1 x2 x3 x4 x5 g cf ce cs vnot vand vor vall vmin vmax v1 v2 v3 v4 v5 v6 v7 v8 v9 v10 v11 v12 v13 qc qwt bg).2.2.2.2.2.2.2.2.2.2.1 j = cf j) ∧ (∀ j, 3 ≤ j → (F_X10_codesTold_a0_0 xa (n : Int) xe (0 : Int) (-1 : Int) cod0 x1 x2 x3 x4 x5 g cf ce cs vnot vand vor vall vmin vmax v1 v2 v3 v4 v5 v6 v7 v8 v9 v10 v11 v12 v13 qc qwt bg).2.2.2.2.2.2.2.2.2.2.2.2.2.1 j = ce j) ∧ ∀ j, 1600 ≤ j → (F_X10_codesTold_a0_0 xa (n : Int) xe (0 : Int) (-1 : Int) cod0 x1 x2 x3 x4 x5 g cf ce cs vnot vand vor vall vmin vmax v1 v2 v3 v4 v5 v6 v7 v8 v9 v10 v11 v12 v13 qc qwt bg).2.2.2.2.2.2.2.2.2.2.2.2.2.2 j = cs j) ∧ ∀ q L, codM g n 0 7 p = .inr (q, L) → (F_X10_codesTold_a0_0 xa (n : Int) xe (0 : Int) (-1 : Int) cod0 x1 x2 x3 x4 x5 g cf ce cs vnot vand vor vall vmin vmax v1 v2 v3 v4 v5 v6 v7 v8 v9 v10 v11 v12 v13 qc qwt bg).2.2.2.2.2.2.2.2.2.2.1 = lf_up cf (0 : Int) cod0 ∧ (F_X10_codesTold_a0_0 xa (n : Int) xe (0 : Int) (-1 : Int) cod0 x1 x2 x3 x4 x5 g cf ce cs vnot vand vor vall vmin vmax v1 v2 v3 v4 v5 v6 v7 v8 v9 v10 v11 v12 v13 qc qwt bg).2.2.2.2.2.2.2.2.2.2.2.2.2.1 = lf_up ce (0 : Int) (cod0 + (L.length : Int)) ∧ (F_X10_codesTold_a0_0 xa (n : Int) xe (0 : Int) (-1 : Int) cod0 x1 x2 x3 x4 x5 g cf ce cs vnot vand vor vall vmin vmax v1 v2 v3 v4 v5 v6 v7 v8 v9 v10 v11 v12 v13 qc qwt bg).2.2.2.2.1 = cod0 + (L.length : Int) ∧ (∀ j, j < L.length → (F_X10_codesTold_a0_0 xa (n : Int) xe (0 : Int) (-1 : Int) cod0 x1 x2 x3 x4 x5 g cf ce cs vnot vand vor vall vmin vmax v1 v2 v3 v4 v5 v6 v7 v8 v9 v10 v11 v12 v13 qc qwt bg).2.2.2.2.2.2.2.2.2.2.2.2.2.2 (cod0.toNat + j) = L.getD j 0) ∧ ∀ j, j < cod0.toNat → (F_X10_codesTold_a0_0 xa (n : Int) xe (0 : Int) (-1 : Int) cod0 x1 x2 x3 x4 x5 g cf ce cs vnot vand vor vall vmin vmax v1 v2 v3 v4 v5 v6 v7 v8 v9 v10 v11 v12 v13 qc qwt bg).2.2.2.2.2.2.2.2.2.2.2.2.2.2 j = cs j := by
  have hpn := h.1
  have e0 : TC g n 7 true [] [] 0 p = bL (mTest g n 7 6 p) (fun q L => .inr (q, [] ++ L)) := testC_eq (g := g) (al := 7) hn 6 (Nat.le_refl _) p [] h.1
  have eM : codM g n 0 7 p = mTest g n 7 6 p := if_neg (by decide)
  unfold F_X10_codesTold_a0_0
  rw [if_pos rfl, if_pos hf]
  have hu := qc_test (al := 7) (tk := 0) hn hq hnot hand hor hall hmin hmax (Or.inl ⟨rfl, rfl⟩) (cd := qc) (w := qwt) h (Nat.le_refl p)
  have hu' : qUC g n [] 0 p (TC g n 7 true [] [] 0 p) p (F_X10_qTest xa (n : Int) xe (0 : Int) (-1 : Int) (0 : Int) (0 : Int) (0 : Int) (0 : Int) g vnot vand vor vall vmin vmax v1 v2 v3 v4 v5 v6 v7 v8 v9 v10 v11 v12 v13 qc qwt) := hu
  generalize F_X10_qTest xa (n : Int) xe (0 : Int) (-1 : Int) (0 : Int) (0 : Int) (0 : Int) (0 : Int) g vnot vand vor vall vmin vmax v1 v2 v3 v4 v5 v6 v7 v8 v9 v10 v11 v12 v13 qc qwt = R at hu' ⊢
  obtain ⟨y1, y2, y3, y4, y5, y6, y7, y8, y9⟩ := R
  rw [lf_p_e, lf_p_e, lf_p_e, lf_p_e, lf_p_e, lf_p_e, lf_p_e, lf_p_e]
  rw [e0] at hu'
  rw [eM]
  rcases hu' with ⟨q, e, q1, q2, q3⟩ | ⟨p1, K2, e, hlt, hs⟩
  · have q2' : y3 = q.1 := q2
    rw [if_neg (show ¬ y3 = 0 from fun r => q1 (q2'.symm.trans r))]
    refine ⟨⟨fun j _ => rfl, fun j _ => rfl, fun j _ => rfl⟩, fun q5 L r => ?_⟩
    rw [r] at e
    have e9 : (Sum.inr (q5, [] ++ L) : SL) = .inl q := e
    cases e9
  · have hs' : qSC g n [] 0 p [] K2 0 p1 y1 y2 y3 y4 y5 y6 y7 y8 y9 := hs
    obtain ⟨⟨s1, s2, s3, s4, s5, s6, s7, s8, s9, s10, s11, s12⟩, s13, s14⟩ := hs'
    subst s8
    have s5' : y5 + (p : Int) + ((0 : Nat) : Int) ≤ (p1 : Int) := s5
    have hp1 := s7.1
    obtain ⟨cd, e2, e3, e4⟩ := kc_0l (ce := ce) (A1 := lf_up cf (0 : Int) cod0) (A17 := y8) (A19 := y9) (xa := y1) (xe := y2) (xb := (0 : Int)) (xp := y4) (qn := y5) (m := y6) (o := y7) 1602 0 cod0 cs hc (Int.le_refl _) s6 (by omega)
    rw [if_pos rfl, e2]
    refine ⟨⟨fun j hj => lf_up_o (by omega), fun j hj => lf_up_o (by omega), fun j hj => e4 j (by omega)⟩, fun q L r => ?_⟩
    rw [r] at e
    have e9 : (Sum.inr (q, [] ++ L) : SL) = .inr (p1, K2) := e
    have eK : K2 = L := by
      cases e9
      rfl
    rw [eK] at s13 s14
    have e5 : y5 - 0 = (L.length : Int) := by omega
    rw [e5]
    refine ⟨rfl, rfl, rfl, fun j hj => ?_, fun j hj => e4 j (by omega)⟩
    show cd (cod0.toNat + j) = _
    rw [e3 j (by omega)]
    show y9 ((0 : Int).toNat + j) = _
    rw [show (0 : Int).toNat + j = j from by omega]
    exact s14 j hj
theorem kc_1l {ce A1 A17 A19 : Nat → Int} {xa xe xb xp qn m o : Int} : ∀ (f : Nat) (l x : Int) (A21 : Nat → Int), 0 ≤ x → 0 ≤ l → l ≤ qn → qn - l < (f : Int) → ∃ cd, F_X10_codesTold_a0_1_92 ce f xa xe xb xp qn m o A1 A17 A19 l x A21 = (xa, xe, xb, xp, x + (qn - l), (1 : Int), qn, m, o, (0 : Int), A1, A17, A19, lf_up ce (1 : Int) (x + (qn - l)), cd) ∧ (∀ j : Nat, (j : Int) < qn - l → cd (x.toNat + j) = A19 (l.toNat + j)) ∧ ∀ j : Nat, (j : Int) < x ∨ x + (qn - l) ≤ (j : Int) → cd j = A21 j := by
  intro f
  induction f with
  | zero => intro l x A21 hx h0 h1 h2; omega
  | succ f ih =>
    intro l x A21 hx h0 h1 h2
    show ∃ cd, F_X10_codesTold_a0_1_92b ce (F_X10_codesTold_a0_1_92 ce f) xa xe xb xp qn m o A1 A17 A19 l x A21 = (xa, xe, xb, xp, x + (qn - l), (1 : Int), qn, m, o, (0 : Int), A1, A17, A19, lf_up ce (1 : Int) (x + (qn - l)), cd) ∧ (∀ j : Nat, (j : Int) < qn - l → cd (x.toNat + j) = A19 (l.toNat + j)) ∧ ∀ j : Nat, (j : Int) < x ∨ x + (qn - l) ≤ (j : Int) → cd j = A21 j
    unfold F_X10_codesTold_a0_1_92b
    by_cases q : qn ≤ l
    · rw [if_pos q, show x + (qn - l) = x from by omega]
      exact ⟨A21, rfl, fun j hj => absurd hj (by omega), fun j _ => rfl⟩
    · rw [if_neg q]
      obtain ⟨cd, e, e3, e4⟩ := ih (l + 1) (x + 1) (lf_up A21 x (A19 (Int.toNat l))) (by omega) (by omega) (by omega) (by omega)
      rw [show x + 1 + (qn - (l + 1)) = x + (qn - l) from by omega] at e
      refine ⟨cd, e, fun j hj => ?_, fun j hj => ?_⟩
      · cases j with
        | zero =>
          rw [e4 (x.toNat + 0) (by omega), lf_up_y (by omega)]
          rfl
        | succ j =>
          have := e3 j (by omega)
          rw [show (x + 1).toNat + j = x.toNat + (j + 1) from by omega, show (l + 1).toNat + j = l.toNat + (j + 1) from by omega] at this
          exact this
      · rw [e4 j (by omega)]
        exact lf_up_o (by omega)
theorem kc_1 {g : Nat → Int} {n p : Nat} {vnot vand vor vall vmin vmax v1 v2 v3 v4 v5 v6 v7 v8 v9 v10 v11 v12 v13 cf ce cs qc qwt : Nat → Int} {xa xe cod0 x1 x2 x3 x4 x5 bg : Int} (hn : n ≤ 1600) (hq : qw v1 v2 v3 v4 v5 v6 v7 v8 v9 v10 v11 v12 v13) (hnot : wa vnot W_not) (hand : wa vand W_and) (hor : wa vor W_or) (hall : wa vall W_all) (hmin : wa vmin W_min) (hmax : wa vmax W_max) (h : mp g n p xa xe) (hc : 0 ≤ cod0) (hf : cf 1 = -1) (hc16 : cod0 ≤ (p : Int)) : ((∀ j, 3 ≤ j → (F_X10_codesTold_a0_1 xa (n : Int) xe (0 : Int) (-1 : Int) cod0 x1 x2 x3 x4 x5 g cf ce cs vnot vand vor vall vmin vmax v1 v2 v3 v4 v5 v6 v7 v8 v9 v10 v11 v12 v13 qc qwt bg).2.2.2.2.2.2.2.2.2.2.1 j = cf j) ∧ (∀ j, 3 ≤ j → (F_X10_codesTold_a0_1 xa (n : Int) xe (0 : Int) (-1 : Int) cod0 x1 x2 x3 x4 x5 g cf ce cs vnot vand vor vall vmin vmax v1 v2 v3 v4 v5 v6 v7 v8 v9 v10 v11 v12 v13 qc qwt bg).2.2.2.2.2.2.2.2.2.2.2.2.2.1 j = ce j) ∧ ∀ j, 1600 ≤ j → (F_X10_codesTold_a0_1 xa (n : Int) xe (0 : Int) (-1 : Int) cod0 x1 x2 x3 x4 x5 g cf ce cs vnot vand vor vall vmin vmax v1 v2 v3 v4 v5 v6 v7 v8 v9 v10 v11 v12 v13 qc qwt bg).2.2.2.2.2.2.2.2.2.2.2.2.2.2 j = cs j) ∧ ∀ q L, codM g n 2 507 p = .inr (q, L) → (F_X10_codesTold_a0_1 xa (n : Int) xe (0 : Int) (-1 : Int) cod0 x1 x2 x3 x4 x5 g cf ce cs vnot vand vor vall vmin vmax v1 v2 v3 v4 v5 v6 v7 v8 v9 v10 v11 v12 v13 qc qwt bg).2.2.2.2.2.2.2.2.2.2.1 = lf_up cf (1 : Int) cod0 ∧ (F_X10_codesTold_a0_1 xa (n : Int) xe (0 : Int) (-1 : Int) cod0 x1 x2 x3 x4 x5 g cf ce cs vnot vand vor vall vmin vmax v1 v2 v3 v4 v5 v6 v7 v8 v9 v10 v11 v12 v13 qc qwt bg).2.2.2.2.2.2.2.2.2.2.2.2.2.1 = lf_up ce (1 : Int) (cod0 + (L.length : Int)) ∧ (F_X10_codesTold_a0_1 xa (n : Int) xe (0 : Int) (-1 : Int) cod0 x1 x2 x3 x4 x5 g cf ce cs vnot vand vor vall vmin vmax v1 v2 v3 v4 v5 v6 v7 v8 v9 v10 v11 v12 v13 qc qwt bg).2.2.2.2.1 = cod0 + (L.length : Int) ∧ (∀ j, j < L.length → (F_X10_codesTold_a0_1 xa (n : Int) xe (0 : Int) (-1 : Int) cod0 x1 x2 x3 x4 x5 g cf ce cs vnot vand vor vall vmin vmax v1 v2 v3 v4 v5 v6 v7 v8 v9 v10 v11 v12 v13 qc qwt bg).2.2.2.2.2.2.2.2.2.2.2.2.2.2 (cod0.toNat + j) = L.getD j 0) ∧ ∀ j, j < cod0.toNat → (F_X10_codesTold_a0_1 xa (n : Int) xe (0 : Int) (-1 : Int) cod0 x1 x2 x3 x4 x5 g cf ce cs vnot vand vor vall vmin vmax v1 v2 v3 v4 v5 v6 v7 v8 v9 v10 v11 v12 v13 qc qwt bg).2.2.2.2.2.2.2.2.2.2.2.2.2.2 j = cs j := by
  have hpn := h.1
  have e0 : TC g n 507 true [] [] 0 p = bL (mTest g n 507 6 p) (fun q L => .inr (q, [] ++ L)) := testC_eq (g := g) (al := 507) hn 6 (Nat.le_refl _) p [] h.1
  have eM : codM g n 2 507 p = mTest g n 507 6 p := if_neg (by decide)
  unfold F_X10_codesTold_a0_1
  rw [if_pos rfl, if_pos hf]
  have hu := qc_test (al := 507) (tk := 1) hn hq hnot hand hor hall hmin hmax (Or.inr (Or.inl ⟨rfl, rfl⟩)) (cd := qc) (w := qwt) h (Nat.le_refl p)
  have hu' : qUC g n [] 0 p (TC g n 507 true [] [] 0 p) p (F_X10_qTest xa (n : Int) xe (0 : Int) (-1 : Int) (1 : Int) (0 : Int) (0 : Int) (0 : Int) g vnot vand vor vall vmin vmax v1 v2 v3 v4 v5 v6 v7 v8 v9 v10 v11 v12 v13 qc qwt) := hu
  generalize F_X10_qTest xa (n : Int) xe (0 : Int) (-1 : Int) (1 : Int) (0 : Int) (0 : Int) (0 : Int) g vnot vand vor vall vmin vmax v1 v2 v3 v4 v5 v6 v7 v8 v9 v10 v11 v12 v13 qc qwt = R at hu' ⊢
  obtain ⟨y1, y2, y3, y4, y5, y6, y7, y8, y9⟩ := R
  rw [lf_p_e, lf_p_e, lf_p_e, lf_p_e, lf_p_e, lf_p_e, lf_p_e, lf_p_e]
  rw [e0] at hu'
  rw [eM]
  rcases hu' with ⟨q, e, q1, q2, q3⟩ | ⟨p1, K2, e, hlt, hs⟩
  · have q2' : y3 = q.1 := q2
    rw [if_neg (show ¬ y3 = 0 from fun r => q1 (q2'.symm.trans r))]
    refine ⟨⟨fun j _ => rfl, fun j _ => rfl, fun j _ => rfl⟩, fun q5 L r => ?_⟩
    rw [r] at e
    have e9 : (Sum.inr (q5, [] ++ L) : SL) = .inl q := e
    cases e9
  · have hs' : qSC g n [] 0 p [] K2 0 p1 y1 y2 y3 y4 y5 y6 y7 y8 y9 := hs
    obtain ⟨⟨s1, s2, s3, s4, s5, s6, s7, s8, s9, s10, s11, s12⟩, s13, s14⟩ := hs'
    subst s8
    have s5' : y5 + (p : Int) + ((0 : Nat) : Int) ≤ (p1 : Int) := s5
    have hp1 := s7.1
    obtain ⟨cd, e2, e3, e4⟩ := kc_1l (ce := ce) (A1 := lf_up cf (1 : Int) cod0) (A17 := y8) (A19 := y9) (xa := y1) (xe := y2) (xb := (0 : Int)) (xp := y4) (qn := y5) (m := y6) (o := y7) 1602 0 cod0 cs hc (Int.le_refl _) s6 (by omega)
    rw [if_pos rfl, e2]
    refine ⟨⟨fun j hj => lf_up_o (by omega), fun j hj => lf_up_o (by omega), fun j hj => e4 j (by omega)⟩, fun q L r => ?_⟩
    rw [r] at e
    have e9 : (Sum.inr (q, [] ++ L) : SL) = .inr (p1, K2) := e
    have eK : K2 = L := by
      cases e9
      rfl
    rw [eK] at s13 s14
    have e5 : y5 - 0 = (L.length : Int) := by omega
    rw [e5]
    refine ⟨rfl, rfl, rfl, fun j hj => ?_, fun j hj => e4 j (by omega)⟩
    show cd (cod0.toNat + j) = _
    rw [e3 j (by omega)]
    show y9 ((0 : Int).toNat + j) = _
    rw [show (0 : Int).toNat + j = j from by omega]
    exact s14 j hj
theorem kc_2l {ce A1 A17 A19 : Nat → Int} {xa xe xb xp qn m o : Int} : ∀ (f : Nat) (l x : Int) (A21 : Nat → Int), 0 ≤ x → 0 ≤ l → l ≤ qn → qn - l < (f : Int) → ∃ cd, F_X10_codesTold_a0_2_92 ce f xa xe xb xp qn m o A1 A17 A19 l x A21 = (xa, xe, xb, xp, x + (qn - l), (2 : Int), qn, m, o, (0 : Int), A1, A17, A19, lf_up ce (2 : Int) (x + (qn - l)), cd) ∧ (∀ j : Nat, (j : Int) < qn - l → cd (x.toNat + j) = A19 (l.toNat + j)) ∧ ∀ j : Nat, (j : Int) < x ∨ x + (qn - l) ≤ (j : Int) → cd j = A21 j := by
  intro f
  induction f with
  | zero => intro l x A21 hx h0 h1 h2; omega
  | succ f ih =>
    intro l x A21 hx h0 h1 h2
    show ∃ cd, F_X10_codesTold_a0_2_92b ce (F_X10_codesTold_a0_2_92 ce f) xa xe xb xp qn m o A1 A17 A19 l x A21 = (xa, xe, xb, xp, x + (qn - l), (2 : Int), qn, m, o, (0 : Int), A1, A17, A19, lf_up ce (2 : Int) (x + (qn - l)), cd) ∧ (∀ j : Nat, (j : Int) < qn - l → cd (x.toNat + j) = A19 (l.toNat + j)) ∧ ∀ j : Nat, (j : Int) < x ∨ x + (qn - l) ≤ (j : Int) → cd j = A21 j
    unfold F_X10_codesTold_a0_2_92b
    by_cases q : qn ≤ l
    · rw [if_pos q, show x + (qn - l) = x from by omega]
      exact ⟨A21, rfl, fun j hj => absurd hj (by omega), fun j _ => rfl⟩
    · rw [if_neg q]
      obtain ⟨cd, e, e3, e4⟩ := ih (l + 1) (x + 1) (lf_up A21 x (A19 (Int.toNat l))) (by omega) (by omega) (by omega) (by omega)
      rw [show x + 1 + (qn - (l + 1)) = x + (qn - l) from by omega] at e
      refine ⟨cd, e, fun j hj => ?_, fun j hj => ?_⟩
      · cases j with
        | zero =>
          rw [e4 (x.toNat + 0) (by omega), lf_up_y (by omega)]
          rfl
        | succ j =>
          have := e3 j (by omega)
          rw [show (x + 1).toNat + j = x.toNat + (j + 1) from by omega, show (l + 1).toNat + j = l.toNat + (j + 1) from by omega] at this
          exact this
      · rw [e4 j (by omega)]
        exact lf_up_o (by omega)
theorem kc_2 {g : Nat → Int} {n p : Nat} {vmin vmax v1 v2 v3 v4 v5 v6 v7 v8 v9 v10 v11 v12 v13 cf ce cs qc qwt : Nat → Int} {xa xe cod0 x1 x2 x3 x4 x5 bg : Int} (hn : n ≤ 1600) (hq : qw v1 v2 v3 v4 v5 v6 v7 v8 v9 v10 v11 v12 v13) (hmin : wa vmin W_min) (hmax : wa vmax W_max) (h : mp g n p xa xe) (hc : 0 ≤ cod0) (hf : cf 2 = -1) (hc16 : cod0 ≤ (p : Int)) : ((∀ j, 3 ≤ j → (F_X10_codesTold_a0_2 xa (n : Int) xe (0 : Int) (-1 : Int) cod0 x1 x2 x3 x4 x5 g cf ce cs vmin vmax v1 v2 v3 v4 v5 v6 v7 v8 v9 v10 v11 v12 v13 qc qwt bg).2.2.2.2.2.2.2.2.2.2.1 j = cf j) ∧ (∀ j, 3 ≤ j → (F_X10_codesTold_a0_2 xa (n : Int) xe (0 : Int) (-1 : Int) cod0 x1 x2 x3 x4 x5 g cf ce cs vmin vmax v1 v2 v3 v4 v5 v6 v7 v8 v9 v10 v11 v12 v13 qc qwt bg).2.2.2.2.2.2.2.2.2.2.2.2.2.1 j = ce j) ∧ ∀ j, 1600 ≤ j → (F_X10_codesTold_a0_2 xa (n : Int) xe (0 : Int) (-1 : Int) cod0 x1 x2 x3 x4 x5 g cf ce cs vmin vmax v1 v2 v3 v4 v5 v6 v7 v8 v9 v10 v11 v12 v13 qc qwt bg).2.2.2.2.2.2.2.2.2.2.2.2.2.2 j = cs j) ∧ ∀ q L, codM g n 4 123 p = .inr (q, L) → (F_X10_codesTold_a0_2 xa (n : Int) xe (0 : Int) (-1 : Int) cod0 x1 x2 x3 x4 x5 g cf ce cs vmin vmax v1 v2 v3 v4 v5 v6 v7 v8 v9 v10 v11 v12 v13 qc qwt bg).2.2.2.2.2.2.2.2.2.2.1 = lf_up cf (2 : Int) cod0 ∧ (F_X10_codesTold_a0_2 xa (n : Int) xe (0 : Int) (-1 : Int) cod0 x1 x2 x3 x4 x5 g cf ce cs vmin vmax v1 v2 v3 v4 v5 v6 v7 v8 v9 v10 v11 v12 v13 qc qwt bg).2.2.2.2.2.2.2.2.2.2.2.2.2.1 = lf_up ce (2 : Int) (cod0 + (L.length : Int)) ∧ (F_X10_codesTold_a0_2 xa (n : Int) xe (0 : Int) (-1 : Int) cod0 x1 x2 x3 x4 x5 g cf ce cs vmin vmax v1 v2 v3 v4 v5 v6 v7 v8 v9 v10 v11 v12 v13 qc qwt bg).2.2.2.2.1 = cod0 + (L.length : Int) ∧ (∀ j, j < L.length → (F_X10_codesTold_a0_2 xa (n : Int) xe (0 : Int) (-1 : Int) cod0 x1 x2 x3 x4 x5 g cf ce cs vmin vmax v1 v2 v3 v4 v5 v6 v7 v8 v9 v10 v11 v12 v13 qc qwt bg).2.2.2.2.2.2.2.2.2.2.2.2.2.2 (cod0.toNat + j) = L.getD j 0) ∧ ∀ j, j < cod0.toNat → (F_X10_codesTold_a0_2 xa (n : Int) xe (0 : Int) (-1 : Int) cod0 x1 x2 x3 x4 x5 g cf ce cs vmin vmax v1 v2 v3 v4 v5 v6 v7 v8 v9 v10 v11 v12 v13 qc qwt bg).2.2.2.2.2.2.2.2.2.2.2.2.2.2 j = cs j := by
  have hpn := h.1
  have e0 : RC g n 123 true [] [] 0 p = bL (mSum g n 123 6 p) (fun q L => .inr (q, [] ++ L)) := sumC_eq (g := g) (al := 123) hn 6 (Nat.le_refl _) p [] h.1
  have eM : codM g n 4 123 p = mSum g n 123 6 p := if_pos rfl
  unfold F_X10_codesTold_a0_2
  rw [if_pos rfl, if_pos hf]
  have hu := qc_sums (K := []) (B := []) (o0 := 0) (d := p) (al := 123) (tk := 2) hn (show ¬ (1 ≤ (0 : Int) ∧ (0 : Int) ≤ 4) from by decide) hq hmin hmax (Or.inr (Or.inr (Or.inl ⟨rfl, rfl⟩))) (p := p) (cd := qc) (w := qwt) ⟨True.intro, rfl, Int.le_refl _, (by decide), (by show (0 : Int) + (p : Int) + ((0 : Nat) : Int) ≤ _; omega), Int.le_refl _, h, rfl, rfl, rfl, rfl, True.intro⟩ (pcl_0 qc)
  have hu' : qUC g n [] 0 p (RC g n 123 true [] [] 0 p) p (F_X10_qSums xa (n : Int) xe (0 : Int) (-1 : Int) (2 : Int) (0 : Int) (0 : Int) (0 : Int) g vmin vmax v1 v2 v3 v4 v5 v6 v7 v8 v9 v10 v11 v12 v13 qc qwt) := hu
  generalize F_X10_qSums xa (n : Int) xe (0 : Int) (-1 : Int) (2 : Int) (0 : Int) (0 : Int) (0 : Int) g vmin vmax v1 v2 v3 v4 v5 v6 v7 v8 v9 v10 v11 v12 v13 qc qwt = R at hu' ⊢
  obtain ⟨y1, y2, y3, y4, y5, y6, y7, y8, y9⟩ := R
  rw [lf_p_e, lf_p_e, lf_p_e, lf_p_e, lf_p_e, lf_p_e, lf_p_e, lf_p_e]
  rw [e0] at hu'
  rw [eM]
  rcases hu' with ⟨q, e, q1, q2, q3⟩ | ⟨p1, K2, e, hlt, hs⟩
  · have q2' : y3 = q.1 := q2
    rw [if_neg (show ¬ y3 = 0 from fun r => q1 (q2'.symm.trans r))]
    refine ⟨⟨fun j _ => rfl, fun j _ => rfl, fun j _ => rfl⟩, fun q5 L r => ?_⟩
    rw [r] at e
    have e9 : (Sum.inr (q5, [] ++ L) : SL) = .inl q := e
    cases e9
  · have hs' : qSC g n [] 0 p [] K2 0 p1 y1 y2 y3 y4 y5 y6 y7 y8 y9 := hs
    obtain ⟨⟨s1, s2, s3, s4, s5, s6, s7, s8, s9, s10, s11, s12⟩, s13, s14⟩ := hs'
    subst s8
    have s5' : y5 + (p : Int) + ((0 : Nat) : Int) ≤ (p1 : Int) := s5
    have hp1 := s7.1
    obtain ⟨cd, e2, e3, e4⟩ := kc_2l (ce := ce) (A1 := lf_up cf (2 : Int) cod0) (A17 := y8) (A19 := y9) (xa := y1) (xe := y2) (xb := (0 : Int)) (xp := y4) (qn := y5) (m := y6) (o := y7) 1602 0 cod0 cs hc (Int.le_refl _) s6 (by omega)
    rw [if_pos rfl, e2]
    refine ⟨⟨fun j hj => lf_up_o (by omega), fun j hj => lf_up_o (by omega), fun j hj => e4 j (by omega)⟩, fun q L r => ?_⟩
    rw [r] at e
    have e9 : (Sum.inr (q, [] ++ L) : SL) = .inr (p1, K2) := e
    have eK : K2 = L := by
      cases e9
      rfl
    rw [eK] at s13 s14
    have e5 : y5 - 0 = (L.length : Int) := by omega
    rw [e5]
    refine ⟨rfl, rfl, rfl, fun j hj => ?_, fun j hj => e4 j (by omega)⟩
    show cd (cod0.toNat + j) = _
    rw [e3 j (by omega)]
    show y9 ((0 : Int).toNat + j) = _
    rw [show (0 : Int).toNat + j = j from by omega]
    exact s14 j hj
