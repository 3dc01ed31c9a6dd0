theorem q_wo1 {g : Nat → Int} {n p : Nat} {xa xe tk al : Int} {v1 v2 v3 v4 v5 v6 v7 v8 v9 v10 v11 v12 v13 : Nat → Int} (hn : n ≤ 1600) (hq : qw v1 v2 v3 v4 v5 v6 v7 v8 v9 v10 v11 v12 v13) (ht : tkA tk al) (h : mp g n p xa xe) : F_X10_qWordOf_a0_0_a1_12 xa (n : Int) xe (0 : Int) tk g v1 v2 v3 v4 v5 v6 v7 v8 v9 v10 v11 v12 v13 = ((if wl g n ws_20 p = -1 then -1 else if alB al (wl g n ws_20 p) = true then wl g n ws_20 p else -1), (tx_a g n p : Int)) := by
  unfold F_X10_qWordOf_a0_0_a1_12
  rw [q_wh hn hq h, lf_p_e, wl_q]
  by_cases c : wl g n ws_20 p = -1
  · rw [if_pos c, if_pos c]
    by_cases c2 : wl g n ws_19 p = -1
    · rw [if_pos c2, if_pos (show (-1 : Int) < 0 from by decide)]
    · rw [if_neg c2, if_neg (show ¬ (12 : Int) < 0 from by decide), if_pos (Int.le_refl _)]
  · have hb := wl_20 c
    rw [if_neg c, if_neg c, if_neg (by omega), if_neg (by omega), lf_b_e, al_eq ht hb.1 hb.2]
    cases alB al (wl g n ws_20 p) with
    | true => rw [if_neg (show ¬ b2 true = 0 from by decide), if_pos rfl]
    | false => rw [if_pos (show b2 false = 0 from rfl), if_neg (show ¬ false = true from fun r => Bool.noConfusion r)]
theorem q_wo2 {g : Nat → Int} {n p : Nat} {xa xe tk al : Int} {v1 v2 v3 v4 v5 v6 v7 v8 v9 v10 v11 v12 v13 : Nat → Int} (hn : n ≤ 1600) (hq : qw v1 v2 v3 v4 v5 v6 v7 v8 v9 v10 v11 v12 v13) (ht : tkA tk al) (h : mp g n p xa xe) : F_X10_qWordOf_a0_12_a1_13 xa (n : Int) xe (0 : Int) tk g v1 v2 v3 v4 v5 v6 v7 v8 v9 v10 v11 v12 v13 = ((if wl g n ws_20 p = -1 ∧ ¬ wl g n ws_19 p = -1 ∧ al = 3707 then 12 else -1), (tx_a g n p : Int)) := by
  unfold F_X10_qWordOf_a0_12_a1_13
  rw [q_wh hn hq h, lf_p_e, wl_q]
  by_cases c : wl g n ws_20 p = -1
  · rw [if_pos c]
    by_cases c2 : wl g n ws_19 p = -1
    · rw [if_pos c2, if_pos (show (-1 : Int) < 12 from by decide), if_neg (fun r => r.2.1 c2)]
    · rw [if_neg c2, if_neg (show ¬ (12 : Int) < 12 from by decide), lf_b_e, al_k ht]
      by_cases c3 : al = 3707
      · rw [decide_eq_true c3, if_neg (show ¬ b2 true = 0 from by decide), if_pos ⟨c, c2, c3⟩]
      · rw [decide_eq_false c3, if_pos (show b2 false = 0 from rfl), if_neg (fun r => c3 r.2.2)]
  · have hb := wl_20 c
    rw [if_neg c, if_pos (by omega), if_neg (fun r => c r.1)]
