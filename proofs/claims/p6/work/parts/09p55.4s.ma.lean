theorem ma_1 {g M vnot vand vor vall vmin vmax v1 v2 v3 v4 v5 v6 v7 v8 v9 v10 v11 v12 v13 u1 u2 u3 u4 u5 u6 z_bar z_kinds z_walkers z_codeFrom z_codeEnd z_codes z_now z_isCar z_gaps z_isGreen z_isHere z_crosses z_waits z_goes z_harms z_presses z_crossedIn z_qCodes z_qWait z_qPile : Nat → Int} {isc z_at z_end z_ended z_bad z_badPlace z_fault z_faultPlace z_textKind z_askSecond z_redMany z_isOpen z_lastGreen z_greenTo z_isCycleGreen z_stillGreen z_qCoded z_qWaits z_qOpened z_qBase z_qPiled z_qAnswer z_qIsNew : Int} {n : Nat} (c : CD) (hn : n ≤ 1600) (hg : ∀ k, k < n → 0 ≤ g k) (hq : qw v1 v2 v3 v4 v5 v6 v7 v8 v9 v10 v11 v12 v13) (hnot : wa vnot W_not) (hand : wa vand W_and) (hor : wa vor W_or) (hall : wa vall W_all) (hmin : wa vmin W_min) (hmax : wa vmax W_max) (h1 : wa u1 W_first) (h2 : wa u2 W_last) (h3 : wa u3 W_often) (h4 : wa u4 W_total) (h5 : wa u5 W_most) (h6 : wa u6 W_least) (hM : 0 ≤ M 3) (hM2 : M 3 ≤ 12) (hi : ¬ isc = 0) : afr (cst g n (rqS g n c)).2.2.2.1 (cst g n (rqS g n c)).2.2.2.2 (F_X10_ask (n : Int) z_at z_end z_ended z_bad z_badPlace z_fault z_faultPlace isc z_textKind z_askSecond z_redMany z_isOpen z_lastGreen z_greenTo z_isCycleGreen z_stillGreen z_qCoded z_qWaits z_qOpened z_qBase z_qPiled z_qAnswer z_qIsNew g M z_bar z_kinds z_walkers z_codeFrom z_codeEnd z_codes z_now z_isCar z_gaps z_isGreen z_isHere z_crosses z_waits z_goes z_harms z_presses z_crossedIn u1 u2 u3 u4 u5 u6 vnot vand vor vall vmin vmax v1 v2 v3 v4 v5 v6 v7 v8 v9 v10 v11 v12 v13 z_qCodes z_qWait z_qPile) := by
  have h0 : mp g n 0 (0 : Int) (-1 : Int) := ⟨Nat.zero_le _, ⟨0, rfl, Nat.le_refl _, Nat.zero_le _, rfl⟩, (by decide), ⟨fun r => absurd r (by decide), fun r => absurd rfl r.1⟩⟩
  have hle := tx_e_le (f := g) (Nat.zero_le n)
  have hk := qk_1 hn h1 h2 h3 h4 h5 h6 h0
  unfold F_X10_ask
  rw [if_neg hi]
  generalize F_X10_qKind (0 : Int) (n : Int) (-1 : Int) (0 : Int) (-1 : Int) g u1 u2 u3 u4 u5 u6 = R at hk ⊢
  obtain ⟨r1, r2, r3, r4, r5⟩ := R
  rw [lf_p_e, lf_p_e, lf_p_e, lf_p_e]
  unfold rqS
  by_cases q : wl g n ws_2 0 = -1
  · rw [if_pos q, if_pos q] at hk
    obtain ⟨⟨k1, k2⟩, _⟩ := hk
    have k1' : r4 = 1 := k1
    have k2' : r5 = (tx_a g n 0 : Int) := k2
    rw [if_pos q, if_neg (show ¬ r4 = 0 from by omega)]
    exact ⟨k1', k2'⟩
  · rw [if_neg q, if_neg q] at hk
    obtain ⟨⟨k1, k2, k3⟩, k4⟩ := hk
    have k1' : r4 = 0 := k1
    have k2' : r5 = -1 := k2
    have k4' : r1 = wl g n ws_2 0 := k4 _ rfl
    have k3' : mp g n (tx_e g n 0) r2 r3 := k3
    subst k1'
    subst k2'
    rw [if_neg q, if_pos rfl]
    have tk : tkA 3 3707 := Or.inr (Or.inr (Or.inr ⟨rfl, rfl⟩))
    by_cases q2 : 3 ≤ r1
    · rw [if_pos q2, if_pos (show 2 < wl g n ws_2 0 from by omega)]
      have hs := q_sums (B := []) (o0 := 0) (d := 0) (al := 3707) (tk := 3) hn (show ¬ (1 ≤ (0 : Int) ∧ (0 : Int) ≤ 4) from by decide) hq hmin hmax tk (p := tx_e g n 0) (cd := z_qCodes) (w := z_qWait) ⟨True.intro, rfl, Int.le_refl _, (by decide), (by show (0 : Int) + ((0 : Nat) : Int) + ((0 : Nat) : Int) ≤ _; omega), Int.le_refl _, k3', rfl, rfl, rfl, rfl, True.intro⟩
      have hs' : qU g n [] 0 0 (RR g n 3707 true [] 0 (tx_e g n 0)) (tx_e g n 0) (F_X10_qSums r2 (n : Int) r3 (0 : Int) (-1 : Int) (3 : Int) (0 : Int) (0 : Int) (0 : Int) g vmin vmax v1 v2 v3 v4 v5 v6 v7 v8 v9 v10 v11 v12 v13 z_qCodes z_qWait) := hs
      rw [show RR g n 3707 true [] 0 (tx_e g n 0) = (sSum g n 3707 6 (tx_e g n 0) c).1 from sum_eq (g := g) (al := 3707) hn 6 (Nat.le_refl _) (tx_e g n 0) c hle] at hs'
      generalize F_X10_qSums r2 (n : Int) r3 (0 : Int) (-1 : Int) (3 : Int) (0 : Int) (0 : Int) (0 : Int) g vmin vmax v1 v2 v3 v4 v5 v6 v7 v8 v9 v10 v11 v12 v13 z_qCodes z_qWait = R at hs' ⊢
      obtain ⟨y1, y2, y3, y4, y5, y6, y7, y8, y9⟩ := R
      rw [lf_p_e, lf_p_e, lf_p_e, lf_p_e, lf_p_e, lf_p_e, lf_p_e, lf_p_e]
      rcases hs' with ⟨q, e, q1, q2, q3⟩ | ⟨p2, e, hlt, hs⟩
      · have q2' : y3 = q.1 := q2
        rw [if_neg (show ¬ y3 = 0 from fun r => q1 (q2'.symm.trans r)), e]
        exact ⟨q2, q3⟩
      · have hsq : qS g n [] 0 0 [] 0 p2 y1 y2 y3 y4 y5 y6 y7 y8 := hs
        obtain ⟨s1, s2, s3, s4, s5, s6, s7, s8, s9, s10, s11, s12⟩ := hsq
        subst s8
        subst s9
        rw [if_pos rfl, ml_look hn s7, lf_p_e, e]
        by_cases q3 : tx_k g n p2 = 0
        · rw [if_pos ((lk_end s7.1 hg).mpr q3), show sb (.inr p2 : ST) (fun p2 => if tx_k g n p2 = 0 then .inr p2 else .inl (1, (tx_a g n p2 : Int))) = .inr p2 from if_pos q3]
          show afr (0 : Int) (-1 : Int) _
          repeat' (first | (with_reducible refine lf_pI (Q := afr (0 : Int) (-1 : Int)) (fun _ _ => ?_)) | (with_reducible refine lf_iI (Q := afr (0 : Int) (-1 : Int)) (fun _ => ?_) (fun _ => ?_)))
          all_goals exact ask_192 hM hM2 14 _ _ _ _ _ _ _ _ _ _ _ _ _ _ _ _ _ _ _ _ _ _ _ _ _ _ _ _ _ _ _ _ (Int.le_refl _) (by decide) (by decide)
        · rw [if_neg (fun r => q3 ((lk_end s7.1 hg).mp r)), show sb (.inr p2 : ST) (fun p2 => if tx_k g n p2 = 0 then .inr p2 else .inl (1, (tx_a g n p2 : Int))) = .inl (1, (tx_a g n p2 : Int)) from if_neg q3]
          exact ⟨rfl, rfl⟩
    · rw [if_neg q2, if_neg (show ¬ 2 < wl g n ws_2 0 from by omega)]
      have hs' : qU g n [] 0 0 (TT g n 3707 true [] 0 (tx_e g n 0)) (tx_e g n 0) (F_X10_qTest r2 (n : Int) r3 (0 : Int) (-1 : Int) (3 : Int) (0 : Int) (0 : Int) (0 : Int) g vnot vand vor vall vmin vmax v1 v2 v3 v4 v5 v6 v7 v8 v9 v10 v11 v12 v13 z_qCodes z_qWait) := q_test (al := 3707) (tk := 3) (d := 0) hn hq hnot hand hor hall hmin hmax tk (cd := z_qCodes) (w := z_qWait) k3' (Nat.zero_le _)
      rw [show TT g n 3707 true [] 0 (tx_e g n 0) = (sTest g n 3707 6 (tx_e g n 0) c).1 from test_eq (g := g) (al := 3707) hn 6 (Nat.le_refl _) (tx_e g n 0) c hle] at hs'
      generalize F_X10_qTest r2 (n : Int) r3 (0 : Int) (-1 : Int) (3 : Int) (0 : Int) (0 : Int) (0 : Int) g vnot vand vor vall vmin vmax v1 v2 v3 v4 v5 v6 v7 v8 v9 v10 v11 v12 v13 z_qCodes z_qWait = R at hs' ⊢
      obtain ⟨y1, y2, y3, y4, y5, y6, y7, y8, y9⟩ := R
      rw [lf_p_e, lf_p_e, lf_p_e, lf_p_e, lf_p_e, lf_p_e, lf_p_e, lf_p_e]
      rcases hs' with ⟨q, e, q1, q2, q3⟩ | ⟨p2, e, hlt, hs⟩
      · have q2' : y3 = q.1 := q2
        rw [if_neg (show ¬ y3 = 0 from fun r => q1 (q2'.symm.trans r)), e]
        exact ⟨q2, q3⟩
      · have hsq : qS g n [] 0 0 [] 0 p2 y1 y2 y3 y4 y5 y6 y7 y8 := hs
        obtain ⟨s1, s2, s3, s4, s5, s6, s7, s8, s9, s10, s11, s12⟩ := hsq
        subst s8
        subst s9
        rw [if_pos rfl, ml_look hn s7, lf_p_e, e]
        by_cases q3 : tx_k g n p2 = 0
        · rw [if_pos ((lk_end s7.1 hg).mpr q3), show sb (.inr p2 : ST) (fun p2 => if tx_k g n p2 = 0 then .inr p2 else .inl (1, (tx_a g n p2 : Int))) = .inr p2 from if_pos q3]
          show afr (0 : Int) (-1 : Int) _
          repeat' (first | (with_reducible refine lf_pI (Q := afr (0 : Int) (-1 : Int)) (fun _ _ => ?_)) | (with_reducible refine lf_iI (Q := afr (0 : Int) (-1 : Int)) (fun _ => ?_) (fun _ => ?_)))
          all_goals exact ask_192 hM hM2 14 _ _ _ _ _ _ _ _ _ _ _ _ _ _ _ _ _ _ _ _ _ _ _ _ _ _ _ _ _ _ _ _ (Int.le_refl _) (by decide) (by decide)
        · rw [if_neg (fun r => q3 ((lk_end s7.1 hg).mp r)), show sb (.inr p2 : ST) (fun p2 => if tx_k g n p2 = 0 then .inr p2 else .inl (1, (tx_a g n p2 : Int))) = .inl (1, (tx_a g n p2 : Int)) from if_neg q3]
          exact ⟨rfl, rfl⟩
