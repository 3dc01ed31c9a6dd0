def wlf (g : Nat → Int) (n p : Nat) : List (List Int) → Nat → Int
  | [], _ => -1
  | w :: ws, i => if wh g n w p = true then (i : Int) else wlf g n p ws (i + 1)
theorem wlf_c {g : Nat → Int} {n p i : Nat} {w : List Int} {ws : List (List Int)} : wlf g n p (w :: ws) i = if wh g n w p = true then (i : Int) else wlf g n p ws (i + 1) := rfl
theorem wlf_1 {g : Nat → Int} {n p : Nat} : ∀ (ws : List (List Int)) (i : Nat), wlf g n p ws i = if tx_k g n p = 1 then wfind g (tx_a g n p) (tx_e g n p) ws i else -1
  | [], i => by
    show (-1 : Int) = if tx_k g n p = 1 then -1 else -1
    split
    · rfl
    · rfl
  | w :: ws, i => by
    rw [wlf_c, wlf_1 ws (i + 1)]
    unfold wh
    by_cases q : tx_k g n p = 1
    · rw [if_pos q, if_pos q, decide_eq_true q, Bool.true_and]
      rfl
    · rw [if_neg q, if_neg q, decide_eq_false q]
      rfl
/-- the words that the model asks for in sums -/
def qw (v1 v2 v3 v4 v5 v6 v7 v8 v9 v10 v11 v12 v13 : Nat → Int) : Prop := wa v1 W_second ∧ wa v2 W_day ∧ wa v3 W_phase ∧ wa v4 W_waited ∧ wa v5 W_calm ∧ wa v6 W_pace ∧ wa v7 W_trusts ∧ wa v8 W_gap ∧ wa v9 W_reds ∧ wa v10 W_number ∧ wa v11 W_went ∧ wa v12 W_harm ∧ wa v13 W_kind
def ws_q : List (List Int) := [W_second, W_day, W_phase, W_waited, W_calm, W_pace, W_trusts, W_gap, W_reds, W_number, W_went, W_harm, W_kind]
theorem q_wh {g : Nat → Int} {n p : Nat} {xa xe : Int} {v1 v2 v3 v4 v5 v6 v7 v8 v9 v10 v11 v12 v13 : Nat → Int} (hn : n ≤ 1600) (hq : qw v1 v2 v3 v4 v5 v6 v7 v8 v9 v10 v11 v12 v13) (h : mp g n p xa xe) : F_X10_qWordHere xa (n : Int) xe (0 : Int) g v1 v2 v3 v4 v5 v6 v7 v8 v9 v10 v11 v12 v13 = (wl g n ws_q p, (tx_a g n p : Int)) := by
  have e : wl g n ws_q p = wlf g n p [W_second, W_day, W_phase, W_waited, W_calm, W_pace, W_trusts, W_gap, W_reds, W_number, W_went, W_harm, W_kind] 0 := (wlf_1 ws_q 0).symm
  rw [e]
  unfold F_X10_qWordHere
  rw [F_X10_isHere_r6_1 hn (W := W_second) rfl hq.1 h, lf_p_e, wlf_c]
  cases c0 : wh g n W_second p with
  | true =>
    rw [if_neg (show ¬ b2 true = 0 from by decide)]
    rfl
  | false =>
    rw [if_pos (show b2 false = 0 from rfl), if_neg (show ¬ false = true from fun r => Bool.noConfusion r)]
    rw [F_X10_isHere_1 hn (W := W_day) rfl hq.2.1 (mp_a h), lf_p_e, wlf_c]
    cases c1 : wh g n W_day p with
    | true =>
      rw [if_neg (show ¬ b2 true = 0 from by decide)]
      rfl
    | false =>
      rw [if_pos (show b2 false = 0 from rfl), if_neg (show ¬ false = true from fun r => Bool.noConfusion r)]
      rw [F_X10_isHere_r5_1 hn (W := W_phase) rfl hq.2.2.1 (mp_a h), lf_p_e, wlf_c]
      cases c2 : wh g n W_phase p with
      | true =>
        rw [if_neg (show ¬ b2 true = 0 from by decide)]
        rfl
      | false =>
        rw [if_pos (show b2 false = 0 from rfl), if_neg (show ¬ false = true from fun r => Bool.noConfusion r)]
        rw [F_X10_isHere_r6_1 hn (W := W_waited) rfl hq.2.2.2.1 (mp_a h), lf_p_e, wlf_c]
        cases c3 : wh g n W_waited p with
        | true =>
          rw [if_neg (show ¬ b2 true = 0 from by decide)]
          rfl
        | false =>
          rw [if_pos (show b2 false = 0 from rfl), if_neg (show ¬ false = true from fun r => Bool.noConfusion r)]
          rw [F_X10_isHere_r4_1 hn (W := W_calm) rfl hq.2.2.2.2.1 (mp_a h), lf_p_e, wlf_c]
          cases c4 : wh g n W_calm p with
          | true =>
            rw [if_neg (show ¬ b2 true = 0 from by decide)]
            rfl
          | false =>
            rw [if_pos (show b2 false = 0 from rfl), if_neg (show ¬ false = true from fun r => Bool.noConfusion r)]
            rw [F_X10_isHere_r4_1 hn (W := W_pace) rfl hq.2.2.2.2.2.1 (mp_a h), lf_p_e, wlf_c]
            cases c5 : wh g n W_pace p with
            | true =>
              rw [if_neg (show ¬ b2 true = 0 from by decide)]
              rfl
            | false =>
              rw [if_pos (show b2 false = 0 from rfl), if_neg (show ¬ false = true from fun r => Bool.noConfusion r)]
              rw [F_X10_isHere_r6_1 hn (W := W_trusts) rfl hq.2.2.2.2.2.2.1 (mp_a h), lf_p_e, wlf_c]
              cases c6 : wh g n W_trusts p with
              | true =>
                rw [if_neg (show ¬ b2 true = 0 from by decide)]
                rfl
              | false =>
                rw [if_pos (show b2 false = 0 from rfl), if_neg (show ¬ false = true from fun r => Bool.noConfusion r)]
                rw [F_X10_isHere_1 hn (W := W_gap) rfl hq.2.2.2.2.2.2.2.1 (mp_a h), lf_p_e, wlf_c]
                cases c7 : wh g n W_gap p with
                | true =>
                  rw [if_neg (show ¬ b2 true = 0 from by decide)]
                  rfl
                | false =>
                  rw [if_pos (show b2 false = 0 from rfl), if_neg (show ¬ false = true from fun r => Bool.noConfusion r)]
                  rw [F_X10_isHere_r4_1 hn (W := W_reds) rfl hq.2.2.2.2.2.2.2.2.1 (mp_a h), lf_p_e, wlf_c]
                  cases c8 : wh g n W_reds p with
                  | true =>
                    rw [if_neg (show ¬ b2 true = 0 from by decide)]
                    rfl
                  | false =>
                    rw [if_pos (show b2 false = 0 from rfl), if_neg (show ¬ false = true from fun r => Bool.noConfusion r)]
                    rw [F_X10_isHere_r6_1 hn (W := W_number) rfl hq.2.2.2.2.2.2.2.2.2.1 (mp_a h), lf_p_e, wlf_c]
                    cases c9 : wh g n W_number p with
                    | true =>
                      rw [if_neg (show ¬ b2 true = 0 from by decide)]
                      rfl
                    | false =>
                      rw [if_pos (show b2 false = 0 from rfl), if_neg (show ¬ false = true from fun r => Bool.noConfusion r)]
                      rw [F_X10_isHere_r4_1 hn (W := W_went) rfl hq.2.2.2.2.2.2.2.2.2.2.1 (mp_a h), lf_p_e, wlf_c]
                      cases c10 : wh g n W_went p with
                      | true =>
                        rw [if_neg (show ¬ b2 true = 0 from by decide)]
                        rfl
                      | false =>
                        rw [if_pos (show b2 false = 0 from rfl), if_neg (show ¬ false = true from fun r => Bool.noConfusion r)]
                        rw [F_X10_isHere_r4_1 hn (W := W_harm) rfl hq.2.2.2.2.2.2.2.2.2.2.2.1 (mp_a h), lf_p_e, wlf_c]
                        cases c11 : wh g n W_harm p with
                        | true =>
                          rw [if_neg (show ¬ b2 true = 0 from by decide)]
                          rfl
                        | false =>
                          rw [if_pos (show b2 false = 0 from rfl), if_neg (show ¬ false = true from fun r => Bool.noConfusion r)]
                          rw [F_X10_isHere_r4_1 hn (W := W_kind) rfl hq.2.2.2.2.2.2.2.2.2.2.2.2 (mp_a h), lf_p_e, wlf_c]
                          cases c12 : wh g n W_kind p with
                          | true =>
                            rw [if_neg (show ¬ b2 true = 0 from by decide)]
                            rfl
                          | false =>
                            rw [if_pos (show b2 false = 0 from rfl), if_neg (show ¬ false = true from fun r => Bool.noConfusion r)]
                            rfl
