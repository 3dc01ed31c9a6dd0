def W_cycle : List Int := [99, 121, 99, 108, 101]
def W_green : List Int := [103, 114, 101, 101, 110]
def W_rule : List Int := [114, 117, 108, 101]
def W_least : List Int := [108, 101, 97, 115, 116]
def W_kind : List Int := [107, 105, 110, 100]
def W_calm : List Int := [99, 97, 108, 109]
def W_pace : List Int := [112, 97, 99, 101]
def W_trusts : List Int := [116, 114, 117, 115, 116, 115]
def W_comes : List Int := [99, 111, 109, 101, 115]
def W_is : List Int := [105, 115]
def W_at : List Int := [97, 116]
def W_car : List Int := [99, 97, 114]
def W_red : List Int := [114, 101, 100]
def W_learns : List Int := [108, 101, 97, 114, 110, 115]
def W_away : List Int := [97, 119, 97, 121]
def W_second : List Int := [115, 101, 99, 111, 110, 100]
def W_day : List Int := [100, 97, 121]
def W_phase : List Int := [112, 104, 97, 115, 101]
def W_waited : List Int := [119, 97, 105, 116, 101, 100]
def W_gap : List Int := [103, 97, 112]
def W_reds : List Int := [114, 101, 100, 115]
def W_number : List Int := [110, 117, 109, 98, 101, 114]
def W_went : List Int := [119, 101, 110, 116]
def W_harm : List Int := [104, 97, 114, 109]
def W_or : List Int := [111, 114]
def W_and : List Int := [97, 110, 100]
def W_not : List Int := [110, 111, 116]
def W_all : List Int := [97, 108, 108]
def W_min : List Int := [109, 105, 110]
def W_max : List Int := [109, 97, 120]
def orw (g : Nat → Int) (n p : Nat) : List (List Int) → Bool
  | [] => false
  | w :: ws => wh g n w p || orw g n p ws
theorem orw_c {g : Nat → Int} {n p : Nat} {w : List Int} {ws : List (List Int)} : orw g n p (w :: ws) = (wh g n w p || orw g n p ws) := rfl
theorem orw_1 {g : Nat → Int} {n p : Nat} (hk : tx_k g n p = 1) : ∀ (ws : List (List Int)) (i : Nat), orw g n p ws = decide (¬ wfind g (tx_a g n p) (tx_e g n p) ws i = -1)
  | [], i => by
    show false = decide (¬ (-1 : Int) = -1)
    decide
  | w :: ws, i => by
    show (wh g n w p || orw g n p ws) = decide (¬ (if wq g (tx_e g n p) w (tx_a g n p) = true then (i : Int) else wfind g (tx_a g n p) (tx_e g n p) ws (i + 1)) = -1)
    rw [orw_1 hk ws (i + 1)]
    unfold wh
    rw [decide_eq_true hk, Bool.true_and]
    cases c : wq g (tx_e g n p) w (tx_a g n p) with
    | true =>
      rw [if_pos rfl, Bool.true_or, decide_eq_true (by omega)]
    | false => rw [if_neg (fun r => Bool.noConfusion r), Bool.false_or]
theorem orw_0 {g : Nat → Int} {n p : Nat} (hk : ¬ tx_k g n p = 1) : ∀ ws : List (List Int), orw g n p ws = false
  | [] => rfl
  | w :: ws => by
    show (wh g n w p || orw g n p ws) = false
    rw [orw_0 hk ws]
    unfold wh
    rw [decide_eq_false hk]
    rfl
/-- one of the language's own words stands here -/
def ow (g : Nat → Int) (n p : Nat) : Bool := decide (¬ wl g n ws_12 p = -1)
theorem orw_ow {g : Nat → Int} {n p : Nat} : orw g n p ws_12 = ow g n p := by
  unfold ow wl
  by_cases hk : tx_k g n p = 1
  · rw [if_pos hk, orw_1 hk ws_12 0]
  · rw [if_neg hk, orw_0 hk]
    decide
/-- the words that the model holds -/
def mw (w1 w2 w3 w4 w5 w6 w7 w8 w9 w10 w11 w12 w13 w14 w15 w16 w17 w18 w19 w20 w21 w22 w23 w24 w25 w26 w27 w28 w29 w30 : Nat → Int) : Prop := wa w1 W_cycle ∧ wa w2 W_green ∧ wa w3 W_rule ∧ wa w4 W_least ∧ wa w5 W_kind ∧ wa w6 W_calm ∧ wa w7 W_pace ∧ wa w8 W_trusts ∧ wa w9 W_comes ∧ wa w10 W_is ∧ wa w11 W_at ∧ wa w12 W_car ∧ wa w13 W_red ∧ wa w14 W_learns ∧ wa w15 W_away ∧ wa w16 W_second ∧ wa w17 W_day ∧ wa w18 W_phase ∧ wa w19 W_waited ∧ wa w20 W_gap ∧ wa w21 W_reds ∧ wa w22 W_number ∧ wa w23 W_went ∧ wa w24 W_harm ∧ wa w25 W_or ∧ wa w26 W_and ∧ wa w27 W_not ∧ wa w28 W_all ∧ wa w29 W_min ∧ wa w30 W_max
theorem ow_299_1 {g : Nat → Int} {n p : Nat} {xe : Int} {w1 w2 w3 w4 w5 w6 w7 w8 w9 w10 w11 w12 w13 w14 w15 w16 w17 w18 w19 w20 w21 w22 w23 w24 w25 w26 w27 w28 w29 w30 : Nat → Int} (l : Int) : F_X10_isOwnHere_299 (n : Int) xe (0 : Int) g w25 w26 w27 w28 w29 w30 l (tx_a g n p : Int) (1 : Int) = ((1 : Int), (tx_a g n p : Int)) := by
  unfold F_X10_isOwnHere_299 F_X10_isOwnHere_370
  rw [if_neg (by decide)]
  exact rfl
theorem ow_299_0 {g : Nat → Int} {n p : Nat} {xa xe : Int} {w1 w2 w3 w4 w5 w6 w7 w8 w9 w10 w11 w12 w13 w14 w15 w16 w17 w18 w19 w20 w21 w22 w23 w24 w25 w26 w27 w28 w29 w30 : Nat → Int} (hn : n ≤ 1600) (hm : mw w1 w2 w3 w4 w5 w6 w7 w8 w9 w10 w11 w12 w13 w14 w15 w16 w17 w18 w19 w20 w21 w22 w23 w24 w25 w26 w27 w28 w29 w30) (h : mp g n p xa xe) (l : Int) : F_X10_isOwnHere_299 (n : Int) xe (0 : Int) g w25 w26 w27 w28 w29 w30 l (tx_a g n p : Int) (0 : Int) = (b2 (orw g n p [W_or, W_and, W_not, W_all, W_min, W_max]), (tx_a g n p : Int)) := by
  unfold F_X10_isOwnHere_299
  rw [if_pos rfl]
  rw [F_X10_isHere_r2_1 hn (W := W_or) rfl hm.2.2.2.2.2.2.2.2.2.2.2.2.2.2.2.2.2.2.2.2.2.2.2.2.1 (mp_a h), lf_p_e, orw_c]
  cases c24 : wh g n W_or p with
  | true =>
    rw [if_neg (show ¬ b2 true = 0 from by decide)]
    unfold F_X10_isOwnHere_370
    exact rfl
  | false =>
    rw [if_pos (show b2 false = 0 from rfl), Bool.false_or]
    rw [F_X10_isHere_1 hn (W := W_and) rfl hm.2.2.2.2.2.2.2.2.2.2.2.2.2.2.2.2.2.2.2.2.2.2.2.2.2.1 (mp_a h), lf_p_e, orw_c]
    cases c25 : wh g n W_and p with
    | true =>
      rw [if_neg (show ¬ b2 true = 0 from by decide)]
      unfold F_X10_isOwnHere_370
      exact rfl
    | false =>
      rw [if_pos (show b2 false = 0 from rfl), Bool.false_or]
      rw [F_X10_isHere_1 hn (W := W_not) rfl hm.2.2.2.2.2.2.2.2.2.2.2.2.2.2.2.2.2.2.2.2.2.2.2.2.2.2.1 (mp_a h), lf_p_e, orw_c]
      cases c26 : wh g n W_not p with
      | true =>
        rw [if_neg (show ¬ b2 true = 0 from by decide)]
        unfold F_X10_isOwnHere_370
        exact rfl
      | false =>
        rw [if_pos (show b2 false = 0 from rfl), Bool.false_or]
        rw [F_X10_isHere_1 hn (W := W_all) rfl hm.2.2.2.2.2.2.2.2.2.2.2.2.2.2.2.2.2.2.2.2.2.2.2.2.2.2.2.1 (mp_a h), lf_p_e, orw_c]
        cases c27 : wh g n W_all p with
        | true =>
          rw [if_neg (show ¬ b2 true = 0 from by decide)]
          unfold F_X10_isOwnHere_370
          exact rfl
        | false =>
          rw [if_pos (show b2 false = 0 from rfl), Bool.false_or]
          rw [F_X10_isHere_1 hn (W := W_min) rfl hm.2.2.2.2.2.2.2.2.2.2.2.2.2.2.2.2.2.2.2.2.2.2.2.2.2.2.2.2.1 (mp_a h), lf_p_e, orw_c]
          cases c28 : wh g n W_min p with
          | true =>
            rw [if_neg (show ¬ b2 true = 0 from by decide)]
            unfold F_X10_isOwnHere_370
            exact rfl
          | false =>
            rw [if_pos (show b2 false = 0 from rfl), Bool.false_or]
            rw [F_X10_isHere_1 hn (W := W_max) rfl hm.2.2.2.2.2.2.2.2.2.2.2.2.2.2.2.2.2.2.2.2.2.2.2.2.2.2.2.2.2 (mp_a h), lf_p_e, orw_c]
            cases c29 : wh g n W_max p with
            | true =>
              rw [if_neg (show ¬ b2 true = 0 from by decide)]
              unfold F_X10_isOwnHere_370
              exact rfl
            | false =>
              rw [if_pos (show b2 false = 0 from rfl), Bool.false_or]
              rfl
theorem ow_223_1 {g : Nat → Int} {n p : Nat} {xe : Int} {w1 w2 w3 w4 w5 w6 w7 w8 w9 w10 w11 w12 w13 w14 w15 w16 w17 w18 w19 w20 w21 w22 w23 w24 w25 w26 w27 w28 w29 w30 : Nat → Int} (l : Int) : F_X10_isOwnHere_223 (n : Int) xe (0 : Int) g w19 w20 w21 w22 w23 w24 w25 w26 w27 w28 w29 w30 l (tx_a g n p : Int) (1 : Int) = ((1 : Int), (tx_a g n p : Int)) := by
  unfold F_X10_isOwnHere_223 F_X10_isOwnHere_294
  rw [if_neg (by decide)]
  exact ow_299_1 (w1 := w1) (w2 := w2) (w3 := w3) (w4 := w4) (w5 := w5) (w6 := w6) (w7 := w7) (w8 := w8) (w9 := w9) (w10 := w10) (w11 := w11) (w12 := w12) (w13 := w13) (w14 := w14) (w15 := w15) (w16 := w16) (w17 := w17) (w18 := w18) (w19 := w19) (w20 := w20) (w21 := w21) (w22 := w22) (w23 := w23) (w24 := w24) _
theorem ow_223_0 {g : Nat → Int} {n p : Nat} {xa xe : Int} {w1 w2 w3 w4 w5 w6 w7 w8 w9 w10 w11 w12 w13 w14 w15 w16 w17 w18 w19 w20 w21 w22 w23 w24 w25 w26 w27 w28 w29 w30 : Nat → Int} (hn : n ≤ 1600) (hm : mw w1 w2 w3 w4 w5 w6 w7 w8 w9 w10 w11 w12 w13 w14 w15 w16 w17 w18 w19 w20 w21 w22 w23 w24 w25 w26 w27 w28 w29 w30) (h : mp g n p xa xe) (l : Int) : F_X10_isOwnHere_223 (n : Int) xe (0 : Int) g w19 w20 w21 w22 w23 w24 w25 w26 w27 w28 w29 w30 l (tx_a g n p : Int) (0 : Int) = (b2 (orw g n p [W_waited, W_gap, W_reds, W_number, W_went, W_harm, W_or, W_and, W_not, W_all, W_min, W_max]), (tx_a g n p : Int)) := by
  unfold F_X10_isOwnHere_223
  rw [if_pos rfl]
  rw [F_X10_isHere_r6_1 hn (W := W_waited) rfl hm.2.2.2.2.2.2.2.2.2.2.2.2.2.2.2.2.2.2.1 (mp_a h), lf_p_e, orw_c]
  cases c18 : wh g n W_waited p with
  | true =>
    rw [if_neg (show ¬ b2 true = 0 from by decide)]
    unfold F_X10_isOwnHere_294
    exact ow_299_1 (w1 := w1) (w2 := w2) (w3 := w3) (w4 := w4) (w5 := w5) (w6 := w6) (w7 := w7) (w8 := w8) (w9 := w9) (w10 := w10) (w11 := w11) (w12 := w12) (w13 := w13) (w14 := w14) (w15 := w15) (w16 := w16) (w17 := w17) (w18 := w18) (w19 := w19) (w20 := w20) (w21 := w21) (w22 := w22) (w23 := w23) (w24 := w24) _
  | false =>
    rw [if_pos (show b2 false = 0 from rfl), Bool.false_or]
    rw [F_X10_isHere_1 hn (W := W_gap) rfl hm.2.2.2.2.2.2.2.2.2.2.2.2.2.2.2.2.2.2.2.1 (mp_a h), lf_p_e, orw_c]
    cases c19 : wh g n W_gap p with
    | true =>
      rw [if_neg (show ¬ b2 true = 0 from by decide)]
      unfold F_X10_isOwnHere_294
      exact ow_299_1 (w1 := w1) (w2 := w2) (w3 := w3) (w4 := w4) (w5 := w5) (w6 := w6) (w7 := w7) (w8 := w8) (w9 := w9) (w10 := w10) (w11 := w11) (w12 := w12) (w13 := w13) (w14 := w14) (w15 := w15) (w16 := w16) (w17 := w17) (w18 := w18) (w19 := w19) (w20 := w20) (w21 := w21) (w22 := w22) (w23 := w23) (w24 := w24) _
    | false =>
      rw [if_pos (show b2 false = 0 from rfl), Bool.false_or]
      rw [F_X10_isHere_r4_1 hn (W := W_reds) rfl hm.2.2.2.2.2.2.2.2.2.2.2.2.2.2.2.2.2.2.2.2.1 (mp_a h), lf_p_e, orw_c]
      cases c20 : wh g n W_reds p with
      | true =>
        rw [if_neg (show ¬ b2 true = 0 from by decide)]
        unfold F_X10_isOwnHere_294
        exact ow_299_1 (w1 := w1) (w2 := w2) (w3 := w3) (w4 := w4) (w5 := w5) (w6 := w6) (w7 := w7) (w8 := w8) (w9 := w9) (w10 := w10) (w11 := w11) (w12 := w12) (w13 := w13) (w14 := w14) (w15 := w15) (w16 := w16) (w17 := w17) (w18 := w18) (w19 := w19) (w20 := w20) (w21 := w21) (w22 := w22) (w23 := w23) (w24 := w24) _
      | false =>
        rw [if_pos (show b2 false = 0 from rfl), Bool.false_or]
        rw [F_X10_isHere_r6_1 hn (W := W_number) rfl hm.2.2.2.2.2.2.2.2.2.2.2.2.2.2.2.2.2.2.2.2.2.1 (mp_a h), lf_p_e, orw_c]
        cases c21 : wh g n W_number p with
        | true =>
          rw [if_neg (show ¬ b2 true = 0 from by decide)]
          unfold F_X10_isOwnHere_294
          exact ow_299_1 (w1 := w1) (w2 := w2) (w3 := w3) (w4 := w4) (w5 := w5) (w6 := w6) (w7 := w7) (w8 := w8) (w9 := w9) (w10 := w10) (w11 := w11) (w12 := w12) (w13 := w13) (w14 := w14) (w15 := w15) (w16 := w16) (w17 := w17) (w18 := w18) (w19 := w19) (w20 := w20) (w21 := w21) (w22 := w22) (w23 := w23) (w24 := w24) _
        | false =>
          rw [if_pos (show b2 false = 0 from rfl), Bool.false_or]
          rw [F_X10_isHere_r4_1 hn (W := W_went) rfl hm.2.2.2.2.2.2.2.2.2.2.2.2.2.2.2.2.2.2.2.2.2.2.1 (mp_a h), lf_p_e, orw_c]
          cases c22 : wh g n W_went p with
          | true =>
            rw [if_neg (show ¬ b2 true = 0 from by decide)]
            unfold F_X10_isOwnHere_294
            exact ow_299_1 (w1 := w1) (w2 := w2) (w3 := w3) (w4 := w4) (w5 := w5) (w6 := w6) (w7 := w7) (w8 := w8) (w9 := w9) (w10 := w10) (w11 := w11) (w12 := w12) (w13 := w13) (w14 := w14) (w15 := w15) (w16 := w16) (w17 := w17) (w18 := w18) (w19 := w19) (w20 := w20) (w21 := w21) (w22 := w22) (w23 := w23) (w24 := w24) _
          | false =>
            rw [if_pos (show b2 false = 0 from rfl), Bool.false_or]
            rw [F_X10_isHere_r4_1 hn (W := W_harm) rfl hm.2.2.2.2.2.2.2.2.2.2.2.2.2.2.2.2.2.2.2.2.2.2.2.1 (mp_a h), lf_p_e, orw_c]
            cases c23 : wh g n W_harm p with
            | true =>
              rw [if_neg (show ¬ b2 true = 0 from by decide)]
              unfold F_X10_isOwnHere_294
              exact ow_299_1 (w1 := w1) (w2 := w2) (w3 := w3) (w4 := w4) (w5 := w5) (w6 := w6) (w7 := w7) (w8 := w8) (w9 := w9) (w10 := w10) (w11 := w11) (w12 := w12) (w13 := w13) (w14 := w14) (w15 := w15) (w16 := w16) (w17 := w17) (w18 := w18) (w19 := w19) (w20 := w20) (w21 := w21) (w22 := w22) (w23 := w23) (w24 := w24) _
            | false =>
              rw [if_pos (show b2 false = 0 from rfl), Bool.false_or]
              exact ow_299_0 hn hm h _
theorem ow_147_1 {g : Nat → Int} {n p : Nat} {xe : Int} {w1 w2 w3 w4 w5 w6 w7 w8 w9 w10 w11 w12 w13 w14 w15 w16 w17 w18 w19 w20 w21 w22 w23 w24 w25 w26 w27 w28 w29 w30 : Nat → Int} (l : Int) : F_X10_isOwnHere_147 (n : Int) xe (0 : Int) g w13 w14 w15 w16 w17 w18 w19 w20 w21 w22 w23 w24 w25 w26 w27 w28 w29 w30 l (tx_a g n p : Int) (1 : Int) = ((1 : Int), (tx_a g n p : Int)) := by
  unfold F_X10_isOwnHere_147 F_X10_isOwnHere_218
  rw [if_neg (by decide)]
  exact ow_223_1 (w1 := w1) (w2 := w2) (w3 := w3) (w4 := w4) (w5 := w5) (w6 := w6) (w7 := w7) (w8 := w8) (w9 := w9) (w10 := w10) (w11 := w11) (w12 := w12) (w13 := w13) (w14 := w14) (w15 := w15) (w16 := w16) (w17 := w17) (w18 := w18) _
theorem ow_147_0 {g : Nat → Int} {n p : Nat} {xa xe : Int} {w1 w2 w3 w4 w5 w6 w7 w8 w9 w10 w11 w12 w13 w14 w15 w16 w17 w18 w19 w20 w21 w22 w23 w24 w25 w26 w27 w28 w29 w30 : Nat → Int} (hn : n ≤ 1600) (hm : mw w1 w2 w3 w4 w5 w6 w7 w8 w9 w10 w11 w12 w13 w14 w15 w16 w17 w18 w19 w20 w21 w22 w23 w24 w25 w26 w27 w28 w29 w30) (h : mp g n p xa xe) (l : Int) : F_X10_isOwnHere_147 (n : Int) xe (0 : Int) g w13 w14 w15 w16 w17 w18 w19 w20 w21 w22 w23 w24 w25 w26 w27 w28 w29 w30 l (tx_a g n p : Int) (0 : Int) = (b2 (orw g n p [W_red, W_learns, W_away, W_second, W_day, W_phase, W_waited, W_gap, W_reds, W_number, W_went, W_harm, W_or, W_and, W_not, W_all, W_min, W_max]), (tx_a g n p : Int)) := by
  unfold F_X10_isOwnHere_147
  rw [if_pos rfl]
  rw [F_X10_isHere_1 hn (W := W_red) rfl hm.2.2.2.2.2.2.2.2.2.2.2.2.1 (mp_a h), lf_p_e, orw_c]
  cases c12 : wh g n W_red p with
  | true =>
    rw [if_neg (show ¬ b2 true = 0 from by decide)]
    unfold F_X10_isOwnHere_218
    exact ow_223_1 (w1 := w1) (w2 := w2) (w3 := w3) (w4 := w4) (w5 := w5) (w6 := w6) (w7 := w7) (w8 := w8) (w9 := w9) (w10 := w10) (w11 := w11) (w12 := w12) (w13 := w13) (w14 := w14) (w15 := w15) (w16 := w16) (w17 := w17) (w18 := w18) _
  | false =>
    rw [if_pos (show b2 false = 0 from rfl), Bool.false_or]
    rw [F_X10_isHere_r6_1 hn (W := W_learns) rfl hm.2.2.2.2.2.2.2.2.2.2.2.2.2.1 (mp_a h), lf_p_e, orw_c]
    cases c13 : wh g n W_learns p with
    | true =>
      rw [if_neg (show ¬ b2 true = 0 from by decide)]
      unfold F_X10_isOwnHere_218
      exact ow_223_1 (w1 := w1) (w2 := w2) (w3 := w3) (w4 := w4) (w5 := w5) (w6 := w6) (w7 := w7) (w8 := w8) (w9 := w9) (w10 := w10) (w11 := w11) (w12 := w12) (w13 := w13) (w14 := w14) (w15 := w15) (w16 := w16) (w17 := w17) (w18 := w18) _
    | false =>
      rw [if_pos (show b2 false = 0 from rfl), Bool.false_or]
      rw [F_X10_isHere_r4_1 hn (W := W_away) rfl hm.2.2.2.2.2.2.2.2.2.2.2.2.2.2.1 (mp_a h), lf_p_e, orw_c]
      cases c14 : wh g n W_away p with
      | true =>
        rw [if_neg (show ¬ b2 true = 0 from by decide)]
        unfold F_X10_isOwnHere_218
        exact ow_223_1 (w1 := w1) (w2 := w2) (w3 := w3) (w4 := w4) (w5 := w5) (w6 := w6) (w7 := w7) (w8 := w8) (w9 := w9) (w10 := w10) (w11 := w11) (w12 := w12) (w13 := w13) (w14 := w14) (w15 := w15) (w16 := w16) (w17 := w17) (w18 := w18) _
      | false =>
        rw [if_pos (show b2 false = 0 from rfl), Bool.false_or]
        rw [F_X10_isHere_r6_1 hn (W := W_second) rfl hm.2.2.2.2.2.2.2.2.2.2.2.2.2.2.2.1 (mp_a h), lf_p_e, orw_c]
        cases c15 : wh g n W_second p with
        | true =>
          rw [if_neg (show ¬ b2 true = 0 from by decide)]
          unfold F_X10_isOwnHere_218
          exact ow_223_1 (w1 := w1) (w2 := w2) (w3 := w3) (w4 := w4) (w5 := w5) (w6 := w6) (w7 := w7) (w8 := w8) (w9 := w9) (w10 := w10) (w11 := w11) (w12 := w12) (w13 := w13) (w14 := w14) (w15 := w15) (w16 := w16) (w17 := w17) (w18 := w18) _
        | false =>
          rw [if_pos (show b2 false = 0 from rfl), Bool.false_or]
          rw [F_X10_isHere_1 hn (W := W_day) rfl hm.2.2.2.2.2.2.2.2.2.2.2.2.2.2.2.2.1 (mp_a h), lf_p_e, orw_c]
          cases c16 : wh g n W_day p with
          | true =>
            rw [if_neg (show ¬ b2 true = 0 from by decide)]
            unfold F_X10_isOwnHere_218
            exact ow_223_1 (w1 := w1) (w2 := w2) (w3 := w3) (w4 := w4) (w5 := w5) (w6 := w6) (w7 := w7) (w8 := w8) (w9 := w9) (w10 := w10) (w11 := w11) (w12 := w12) (w13 := w13) (w14 := w14) (w15 := w15) (w16 := w16) (w17 := w17) (w18 := w18) _
          | false =>
            rw [if_pos (show b2 false = 0 from rfl), Bool.false_or]
            rw [F_X10_isHere_r5_1 hn (W := W_phase) rfl hm.2.2.2.2.2.2.2.2.2.2.2.2.2.2.2.2.2.1 (mp_a h), lf_p_e, orw_c]
            cases c17 : wh g n W_phase p with
            | true =>
              rw [if_neg (show ¬ b2 true = 0 from by decide)]
              unfold F_X10_isOwnHere_218
              exact ow_223_1 (w1 := w1) (w2 := w2) (w3 := w3) (w4 := w4) (w5 := w5) (w6 := w6) (w7 := w7) (w8 := w8) (w9 := w9) (w10 := w10) (w11 := w11) (w12 := w12) (w13 := w13) (w14 := w14) (w15 := w15) (w16 := w16) (w17 := w17) (w18 := w18) _
            | false =>
              rw [if_pos (show b2 false = 0 from rfl), Bool.false_or]
              exact ow_223_0 hn hm h _
theorem ow_71_1 {g : Nat → Int} {n p : Nat} {xe : Int} {w1 w2 w3 w4 w5 w6 w7 w8 w9 w10 w11 w12 w13 w14 w15 w16 w17 w18 w19 w20 w21 w22 w23 w24 w25 w26 w27 w28 w29 w30 : Nat → Int} : F_X10_isOwnHere_71 (n : Int) xe (0 : Int) g w7 w8 w9 w10 w11 w12 w13 w14 w15 w16 w17 w18 w19 w20 w21 w22 w23 w24 w25 w26 w27 w28 w29 w30 (tx_a g n p : Int) (1 : Int) = ((1 : Int), (tx_a g n p : Int)) := by
  unfold F_X10_isOwnHere_71 F_X10_isOwnHere_142
  rw [if_neg (by decide)]
  exact ow_147_1 (w1 := w1) (w2 := w2) (w3 := w3) (w4 := w4) (w5 := w5) (w6 := w6) (w7 := w7) (w8 := w8) (w9 := w9) (w10 := w10) (w11 := w11) (w12 := w12) _
theorem ow_71_0 {g : Nat → Int} {n p : Nat} {xa xe : Int} {w1 w2 w3 w4 w5 w6 w7 w8 w9 w10 w11 w12 w13 w14 w15 w16 w17 w18 w19 w20 w21 w22 w23 w24 w25 w26 w27 w28 w29 w30 : Nat → Int} (hn : n ≤ 1600) (hm : mw w1 w2 w3 w4 w5 w6 w7 w8 w9 w10 w11 w12 w13 w14 w15 w16 w17 w18 w19 w20 w21 w22 w23 w24 w25 w26 w27 w28 w29 w30) (h : mp g n p xa xe) : F_X10_isOwnHere_71 (n : Int) xe (0 : Int) g w7 w8 w9 w10 w11 w12 w13 w14 w15 w16 w17 w18 w19 w20 w21 w22 w23 w24 w25 w26 w27 w28 w29 w30 (tx_a g n p : Int) (0 : Int) = (b2 (orw g n p [W_pace, W_trusts, W_comes, W_is, W_at, W_car, W_red, W_learns, W_away, W_second, W_day, W_phase, W_waited, W_gap, W_reds, W_number, W_went, W_harm, W_or, W_and, W_not, W_all, W_min, W_max]), (tx_a g n p : Int)) := by
  unfold F_X10_isOwnHere_71
  rw [if_pos rfl]
  rw [F_X10_isHere_r4_1 hn (W := W_pace) rfl hm.2.2.2.2.2.2.1 (mp_a h), lf_p_e, orw_c]
  cases c6 : wh g n W_pace p with
  | true =>
    rw [if_neg (show ¬ b2 true = 0 from by decide)]
    unfold F_X10_isOwnHere_142
    exact ow_147_1 (w1 := w1) (w2 := w2) (w3 := w3) (w4 := w4) (w5 := w5) (w6 := w6) (w7 := w7) (w8 := w8) (w9 := w9) (w10 := w10) (w11 := w11) (w12 := w12) _
  | false =>
    rw [if_pos (show b2 false = 0 from rfl), Bool.false_or]
    rw [F_X10_isHere_r6_1 hn (W := W_trusts) rfl hm.2.2.2.2.2.2.2.1 (mp_a h), lf_p_e, orw_c]
    cases c7 : wh g n W_trusts p with
    | true =>
      rw [if_neg (show ¬ b2 true = 0 from by decide)]
      unfold F_X10_isOwnHere_142
      exact ow_147_1 (w1 := w1) (w2 := w2) (w3 := w3) (w4 := w4) (w5 := w5) (w6 := w6) (w7 := w7) (w8 := w8) (w9 := w9) (w10 := w10) (w11 := w11) (w12 := w12) _
    | false =>
      rw [if_pos (show b2 false = 0 from rfl), Bool.false_or]
      rw [F_X10_isHere_r5_1 hn (W := W_comes) rfl hm.2.2.2.2.2.2.2.2.1 (mp_a h), lf_p_e, orw_c]
      cases c8 : wh g n W_comes p with
      | true =>
        rw [if_neg (show ¬ b2 true = 0 from by decide)]
        unfold F_X10_isOwnHere_142
        exact ow_147_1 (w1 := w1) (w2 := w2) (w3 := w3) (w4 := w4) (w5 := w5) (w6 := w6) (w7 := w7) (w8 := w8) (w9 := w9) (w10 := w10) (w11 := w11) (w12 := w12) _
      | false =>
        rw [if_pos (show b2 false = 0 from rfl), Bool.false_or]
        rw [F_X10_isHere_r2_1 hn (W := W_is) rfl hm.2.2.2.2.2.2.2.2.2.1 (mp_a h), lf_p_e, orw_c]
        cases c9 : wh g n W_is p with
        | true =>
          rw [if_neg (show ¬ b2 true = 0 from by decide)]
          unfold F_X10_isOwnHere_142
          exact ow_147_1 (w1 := w1) (w2 := w2) (w3 := w3) (w4 := w4) (w5 := w5) (w6 := w6) (w7 := w7) (w8 := w8) (w9 := w9) (w10 := w10) (w11 := w11) (w12 := w12) _
        | false =>
          rw [if_pos (show b2 false = 0 from rfl), Bool.false_or]
          rw [F_X10_isHere_r2_1 hn (W := W_at) rfl hm.2.2.2.2.2.2.2.2.2.2.1 (mp_a h), lf_p_e, orw_c]
          cases c10 : wh g n W_at p with
          | true =>
            rw [if_neg (show ¬ b2 true = 0 from by decide)]
            unfold F_X10_isOwnHere_142
            exact ow_147_1 (w1 := w1) (w2 := w2) (w3 := w3) (w4 := w4) (w5 := w5) (w6 := w6) (w7 := w7) (w8 := w8) (w9 := w9) (w10 := w10) (w11 := w11) (w12 := w12) _
          | false =>
            rw [if_pos (show b2 false = 0 from rfl), Bool.false_or]
            rw [F_X10_isHere_1 hn (W := W_car) rfl hm.2.2.2.2.2.2.2.2.2.2.2.1 (mp_a h), lf_p_e, orw_c]
            cases c11 : wh g n W_car p with
            | true =>
              rw [if_neg (show ¬ b2 true = 0 from by decide)]
              unfold F_X10_isOwnHere_142
              exact ow_147_1 (w1 := w1) (w2 := w2) (w3 := w3) (w4 := w4) (w5 := w5) (w6 := w6) (w7 := w7) (w8 := w8) (w9 := w9) (w10 := w10) (w11 := w11) (w12 := w12) _
            | false =>
              rw [if_pos (show b2 false = 0 from rfl), Bool.false_or]
              exact ow_147_0 hn hm h _
theorem ow_own {g : Nat → Int} {n p : Nat} {xa xe : Int} {w1 w2 w3 w4 w5 w6 w7 w8 w9 w10 w11 w12 w13 w14 w15 w16 w17 w18 w19 w20 w21 w22 w23 w24 w25 w26 w27 w28 w29 w30 : Nat → Int} (hn : n ≤ 1600) (hm : mw w1 w2 w3 w4 w5 w6 w7 w8 w9 w10 w11 w12 w13 w14 w15 w16 w17 w18 w19 w20 w21 w22 w23 w24 w25 w26 w27 w28 w29 w30) (h : mp g n p xa xe) : F_X10_isOwnHere xa (n : Int) xe (0 : Int) g w1 w2 w3 w4 w5 w6 w7 w8 w9 w10 w11 w12 w13 w14 w15 w16 w17 w18 w19 w20 w21 w22 w23 w24 w25 w26 w27 w28 w29 w30 = (b2 (ow g n p), (tx_a g n p : Int)) := by
  rw [← orw_ow, show ws_12 = [W_cycle, W_green, W_rule, W_least, W_kind, W_calm, W_pace, W_trusts, W_comes, W_is, W_at, W_car, W_red, W_learns, W_away, W_second, W_day, W_phase, W_waited, W_gap, W_reds, W_number, W_went, W_harm, W_or, W_and, W_not, W_all, W_min, W_max] from rfl]
  unfold F_X10_isOwnHere
  rw [F_X10_isHere_r5_1 hn (W := W_cycle) rfl hm.1 h, lf_p_e, orw_c]
  cases c0 : wh g n W_cycle p with
  | true =>
    rw [if_neg (show ¬ b2 true = 0 from by decide)]
    unfold F_X10_isOwnHere_66
    exact ow_71_1 (w1 := w1) (w2 := w2) (w3 := w3) (w4 := w4) (w5 := w5) (w6 := w6)
  | false =>
    rw [if_pos (show b2 false = 0 from rfl), Bool.false_or]
    rw [F_X10_isHere_r5_1 hn (W := W_green) rfl hm.2.1 (mp_a h), lf_p_e, orw_c]
    cases c1 : wh g n W_green p with
    | true =>
      rw [if_neg (show ¬ b2 true = 0 from by decide)]
      unfold F_X10_isOwnHere_66
      exact ow_71_1 (w1 := w1) (w2 := w2) (w3 := w3) (w4 := w4) (w5 := w5) (w6 := w6)
    | false =>
      rw [if_pos (show b2 false = 0 from rfl), Bool.false_or]
      rw [F_X10_isHere_r4_1 hn (W := W_rule) rfl hm.2.2.1 (mp_a h), lf_p_e, orw_c]
      cases c2 : wh g n W_rule p with
      | true =>
        rw [if_neg (show ¬ b2 true = 0 from by decide)]
        unfold F_X10_isOwnHere_66
        exact ow_71_1 (w1 := w1) (w2 := w2) (w3 := w3) (w4 := w4) (w5 := w5) (w6 := w6)
      | false =>
        rw [if_pos (show b2 false = 0 from rfl), Bool.false_or]
        rw [F_X10_isHere_r5_1 hn (W := W_least) rfl hm.2.2.2.1 (mp_a h), lf_p_e, orw_c]
        cases c3 : wh g n W_least p with
        | true =>
          rw [if_neg (show ¬ b2 true = 0 from by decide)]
          unfold F_X10_isOwnHere_66
          exact ow_71_1 (w1 := w1) (w2 := w2) (w3 := w3) (w4 := w4) (w5 := w5) (w6 := w6)
        | false =>
          rw [if_pos (show b2 false = 0 from rfl), Bool.false_or]
          rw [F_X10_isHere_r4_1 hn (W := W_kind) rfl hm.2.2.2.2.1 (mp_a h), lf_p_e, orw_c]
          cases c4 : wh g n W_kind p with
          | true =>
            rw [if_neg (show ¬ b2 true = 0 from by decide)]
            unfold F_X10_isOwnHere_66
            exact ow_71_1 (w1 := w1) (w2 := w2) (w3 := w3) (w4 := w4) (w5 := w5) (w6 := w6)
          | false =>
            rw [if_pos (show b2 false = 0 from rfl), Bool.false_or]
            rw [F_X10_isHere_r4_1 hn (W := W_calm) rfl hm.2.2.2.2.2.1 (mp_a h), lf_p_e, orw_c]
            cases c5 : wh g n W_calm p with
            | true =>
              rw [if_neg (show ¬ b2 true = 0 from by decide)]
              unfold F_X10_isOwnHere_66
              exact ow_71_1 (w1 := w1) (w2 := w2) (w3 := w3) (w4 := w4) (w5 := w5) (w6 := w6)
            | false =>
              rw [if_pos (show b2 false = 0 from rfl), Bool.false_or]
              exact ow_71_0 hn hm h
