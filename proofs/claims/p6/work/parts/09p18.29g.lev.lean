/-! the levels: how many more may open -/
def dmR : Nat → CD → ST × CD := fun _ c => (.inl (4, 0), c)
theorem dmR_ok {n : Nat} : okR n dmR := fun p c hp => ⟨sv_l (by decide), fun q r => by cases r⟩
def sPrO (g : Nat → Int) (n : Nat) (sp : Nat → CD → ST × CD) : Nat → CD → ST × CD := spL g n sp 42 47 (-22) (-23)
def sSuO (g : Nat → Int) (n : Nat) (sp : Nat → CD → ST × CD) : Nat → CD → ST × CD := spL g n (sPrO g n sp) 43 45 (-20) (-21)
def sPart (g : Nat → Int) (n : Nat) (al : Int) : Nat → Nat → CD → ST × CD
  | 0 => sp_partD g n al false dmR dmR
  | d + 1 => sp_partD g n al true (sSuO g n (sPart g n al d)) (sPart g n al d)
theorem sPrO_ok {g : Nat → Int} {n : Nat} {sp : Nat → CD → ST × CD} (h : okR n sp) : okR n (sPrO g n sp) := spL_ok h
theorem sSuO_ok {g : Nat → Int} {n : Nat} {sp : Nat → CD → ST × CD} (h : okR n sp) : okR n (sSuO g n sp) := spL_ok (sPrO_ok h)
theorem sPart_ok {g : Nat → Int} {n : Nat} {al : Int} : ∀ d, okR n (sPart g n al d)
  | 0 => part_ok dmR_ok dmR_ok
  | d + 1 => part_ok (sSuO_ok (sPart_ok d)) (sPart_ok d)
def sSum (g : Nat → Int) (n : Nat) (al : Int) (d : Nat) : Nat → CD → ST × CD := sSuO g n (sPart g n al d)
theorem sSum_ok {g : Nat → Int} {n : Nat} {al : Int} (d : Nat) : okR n (sSum g n al d) := sSuO_ok (sPart_ok d)
def sBoO (g : Nat → Int) (n : Nat) (sp : Nat → CD → ST × CD) : Nat → CD → ST × CD := spV g n sp ws_14 (-29)
def sTeO (g : Nat → Int) (n : Nat) (sp : Nat → CD → ST × CD) : Nat → CD → ST × CD := spV g n (sBoO g n sp) ws_13 (-30)
def sFact (g : Nat → Int) (n : Nat) (al : Int) : Nat → Nat → CD → ST × CD
  | 0 => sp_factD g n false (sSum g n al 0) dmR dmR
  | d + 1 => sp_factD g n true (sSum g n al (d + 1)) (sTeO g n (sFact g n al d)) (sFact g n al d)
theorem sTeO_ok {g : Nat → Int} {n : Nat} {sp : Nat → CD → ST × CD} (h : okR n sp) : okR n (sTeO g n sp) := spV_ok (spV_ok h)
theorem sFact_ok {g : Nat → Int} {n : Nat} {al : Int} : ∀ d, okR n (sFact g n al d)
  | 0 => fact_ok (sSum_ok 0) dmR_ok dmR_ok
  | d + 1 => fact_ok (sSum_ok (d + 1)) (sTeO_ok (sFact_ok d)) (sFact_ok d)
def sTest (g : Nat → Int) (n : Nat) (al : Int) (d : Nat) : Nat → CD → ST × CD := sTeO g n (sFact g n al d)
theorem sTest_ok {g : Nat → Int} {n : Nat} {al : Int} (d : Nat) : okR n (sTest g n al d) := sTeO_ok (sFact_ok d)
theorem pa_6 {g : Nat → Int} {n : Nat} {al : Int} (hn : n ≤ 1600) : meets g n (fun a b d cd sz fa pl => F_X5_part_a0_6 g (n : Int) a b d al cd sz fa pl) (sPart g n al 0) := gPart6_m hn
theorem prl_6 (g : Nat → Int) (n : Nat) (al : Int) : ∀ m : Nat, F_X5_product_a0_6_7 g (n : Int) al m = gl g (n : Int) (fun a b d cd sz fa pl => F_X5_part_a0_6 g (n : Int) a b d al cd sz fa pl) 42 47 (-22) (-23) m
  | 0 => rfl
  | m + 1 => by
    show F_X5_product_a0_6_7b g (n : Int) al (F_X5_product_a0_6_7 g (n : Int) al m) = gl_b g (n : Int) (fun a b d cd sz fa pl => F_X5_part_a0_6 g (n : Int) a b d al cd sz fa pl) 42 47 (-22) (-23) (gl g (n : Int) (fun a b d cd sz fa pl => F_X5_part_a0_6 g (n : Int) a b d al cd sz fa pl) 42 47 (-22) (-23) m)
    rw [prl_6 g n al m]
    rfl
theorem pr_6 {g : Nat → Int} {n : Nat} {al : Int} (hn : n ≤ 1600) : meets g n (fun a b d cd sz fa pl => F_X5_product_a0_6 g (n : Int) a b d al cd sz fa pl) (sPrO g n (sPart g n al 0)) := by
  have e : (fun a b d cd sz fa pl => F_X5_product_a0_6 g (n : Int) a b d al cd sz fa pl) = gL g (n : Int) (fun a b d cd sz fa pl => F_X5_part_a0_6 g (n : Int) a b d al cd sz fa pl) 42 47 (-22) (-23) := by
    funext a b d cd sz fa pl
    unfold F_X5_product_a0_6
    rw [prl_6]
    rfl
  rw [e]
  exact gL_m hn (pa_6 hn) (sPart_ok 0)
theorem sul_6 (g : Nat → Int) (n : Nat) (al : Int) : ∀ m : Nat, F_X5_sum_a0_6_7 g (n : Int) al m = gl g (n : Int) (fun a b d cd sz fa pl => F_X5_product_a0_6 g (n : Int) a b d al cd sz fa pl) 43 45 (-20) (-21) m
  | 0 => rfl
  | m + 1 => by
    show F_X5_sum_a0_6_7b g (n : Int) al (F_X5_sum_a0_6_7 g (n : Int) al m) = gl_b g (n : Int) (fun a b d cd sz fa pl => F_X5_product_a0_6 g (n : Int) a b d al cd sz fa pl) 43 45 (-20) (-21) (gl g (n : Int) (fun a b d cd sz fa pl => F_X5_product_a0_6 g (n : Int) a b d al cd sz fa pl) 43 45 (-20) (-21) m)
    rw [sul_6 g n al m]
    rfl
theorem su_6 {g : Nat → Int} {n : Nat} {al : Int} (hn : n ≤ 1600) : meets g n (fun a b d cd sz fa pl => F_X5_sum_a0_6 g (n : Int) a b d al cd sz fa pl) (sSum g n al 0) := by
  have e : (fun a b d cd sz fa pl => F_X5_sum_a0_6 g (n : Int) a b d al cd sz fa pl) = gL g (n : Int) (fun a b d cd sz fa pl => F_X5_product_a0_6 g (n : Int) a b d al cd sz fa pl) 43 45 (-20) (-21) := by
    funext a b d cd sz fa pl
    unfold F_X5_sum_a0_6
    rw [sul_6]
    rfl
  rw [e]
  exact gL_m hn (pr_6 hn) (sPrO_ok (sPart_ok 0))
theorem fa_6 {g : Nat → Int} {n : Nat} {al : Int} (hn : n ≤ 1600) : meets g n (fun a b d cd sz fa pl => F_X5_fact_a0_6 g (n : Int) a b d al cd sz fa pl) (sFact g n al 0) := by
  have e : (fun a b d cd sz fa pl => F_X5_fact_a0_6 g (n : Int) a b d al cd sz fa pl) = gFact6 g (n : Int) (fun a b d cd sz fa pl => F_X5_sum_a0_6 g (n : Int) a b d al cd sz fa pl) := rfl
  rw [e]
  exact gFact6_m hn (su_6 hn) (sSum_ok 0)
theorem bol_6 (g : Nat → Int) (n : Nat) (al : Int) : ∀ m : Nat, F_X5_both_a0_6_7 g (n : Int) al m = gv (fun a b d cd sz fa pl => F_X5_fact_a0_6 g (n : Int) a b d al cd sz fa pl) (F_X5_takeWord_s14 g (n : Int)) (-29) m
  | 0 => rfl
  | m + 1 => by
    show F_X5_both_a0_6_7b g (n : Int) al (F_X5_both_a0_6_7 g (n : Int) al m) = gv_b (fun a b d cd sz fa pl => F_X5_fact_a0_6 g (n : Int) a b d al cd sz fa pl) (F_X5_takeWord_s14 g (n : Int)) (-29) (gv (fun a b d cd sz fa pl => F_X5_fact_a0_6 g (n : Int) a b d al cd sz fa pl) (F_X5_takeWord_s14 g (n : Int)) (-29) m)
    rw [bol_6 g n al m]
    rfl
theorem bo_6 {g : Nat → Int} {n : Nat} {al : Int} (hn : n ≤ 1600) : meets g n (fun a b d cd sz fa pl => F_X5_both_a0_6 g (n : Int) a b d al cd sz fa pl) (sBoO g n (sFact g n al 0)) := by
  have e : (fun a b d cd sz fa pl => F_X5_both_a0_6 g (n : Int) a b d al cd sz fa pl) = gV (fun a b d cd sz fa pl => F_X5_fact_a0_6 g (n : Int) a b d al cd sz fa pl) (F_X5_takeWord_s14 g (n : Int)) (-29) := by
    funext a b d cd sz fa pl
    unfold F_X5_both_a0_6
    rw [bol_6]
    rfl
  rw [e]
  exact gV_m hn (F_X5_takeWord_s14_t hn) (fa_6 hn) (sFact_ok 0)
theorem tel_6 (g : Nat → Int) (n : Nat) (al : Int) : ∀ m : Nat, F_X5_test_a0_6_7 g (n : Int) al m = gv (fun a b d cd sz fa pl => F_X5_both_a0_6 g (n : Int) a b d al cd sz fa pl) (F_X5_takeWord_s13 g (n : Int)) (-30) m
  | 0 => rfl
  | m + 1 => by
    show F_X5_test_a0_6_7b g (n : Int) al (F_X5_test_a0_6_7 g (n : Int) al m) = gv_b (fun a b d cd sz fa pl => F_X5_both_a0_6 g (n : Int) a b d al cd sz fa pl) (F_X5_takeWord_s13 g (n : Int)) (-30) (gv (fun a b d cd sz fa pl => F_X5_both_a0_6 g (n : Int) a b d al cd sz fa pl) (F_X5_takeWord_s13 g (n : Int)) (-30) m)
    rw [tel_6 g n al m]
    rfl
theorem te_6 {g : Nat → Int} {n : Nat} {al : Int} (hn : n ≤ 1600) : meets g n (fun a b d cd sz fa pl => F_X5_test_a0_6 g (n : Int) a b d al cd sz fa pl) (sTest g n al 0) := by
  have e : (fun a b d cd sz fa pl => F_X5_test_a0_6 g (n : Int) a b d al cd sz fa pl) = gV (fun a b d cd sz fa pl => F_X5_both_a0_6 g (n : Int) a b d al cd sz fa pl) (F_X5_takeWord_s13 g (n : Int)) (-30) := by
    funext a b d cd sz fa pl
    unfold F_X5_test_a0_6
    rw [tel_6]
    rfl
  rw [e]
  exact gV_m hn (F_X5_takeWord_s13_t hn) (bo_6 hn) (spV_ok (sFact_ok 0))
theorem pa_5 {g : Nat → Int} {n : Nat} {al : Int} (hn : n ≤ 1600) : meets g n (fun a b d cd sz fa pl => F_X5_part_a0_5 g (n : Int) a b d al cd sz fa pl) (sPart g n al 1) := by
  have e : (fun a b d cd sz fa pl => F_X5_part_a0_5 g (n : Int) a b d al cd sz fa pl) = gPart g (n : Int) al (fun a b d cd sz fa pl => F_X5_sum_a0_6 g (n : Int) a b d al cd sz fa pl) (fun a b d cd sz fa pl => F_X5_part_a0_6 g (n : Int) a b d al cd sz fa pl) := rfl
  rw [e]
  exact gPart_m hn (su_6 hn) (sSum_ok 0) (pa_6 hn)
theorem prl_5 (g : Nat → Int) (n : Nat) (al : Int) : ∀ m : Nat, F_X5_product_a0_5_7 g (n : Int) al m = gl g (n : Int) (fun a b d cd sz fa pl => F_X5_part_a0_5 g (n : Int) a b d al cd sz fa pl) 42 47 (-22) (-23) m
  | 0 => rfl
  | m + 1 => by
    show F_X5_product_a0_5_7b g (n : Int) al (F_X5_product_a0_5_7 g (n : Int) al m) = gl_b g (n : Int) (fun a b d cd sz fa pl => F_X5_part_a0_5 g (n : Int) a b d al cd sz fa pl) 42 47 (-22) (-23) (gl g (n : Int) (fun a b d cd sz fa pl => F_X5_part_a0_5 g (n : Int) a b d al cd sz fa pl) 42 47 (-22) (-23) m)
    rw [prl_5 g n al m]
    rfl
theorem pr_5 {g : Nat → Int} {n : Nat} {al : Int} (hn : n ≤ 1600) : meets g n (fun a b d cd sz fa pl => F_X5_product_a0_5 g (n : Int) a b d al cd sz fa pl) (sPrO g n (sPart g n al 1)) := by
  have e : (fun a b d cd sz fa pl => F_X5_product_a0_5 g (n : Int) a b d al cd sz fa pl) = gL g (n : Int) (fun a b d cd sz fa pl => F_X5_part_a0_5 g (n : Int) a b d al cd sz fa pl) 42 47 (-22) (-23) := by
    funext a b d cd sz fa pl
    unfold F_X5_product_a0_5
    rw [prl_5]
    rfl
  rw [e]
  exact gL_m hn (pa_5 hn) (sPart_ok 1)
theorem sul_5 (g : Nat → Int) (n : Nat) (al : Int) : ∀ m : Nat, F_X5_sum_a0_5_7 g (n : Int) al m = gl g (n : Int) (fun a b d cd sz fa pl => F_X5_product_a0_5 g (n : Int) a b d al cd sz fa pl) 43 45 (-20) (-21) m
  | 0 => rfl
  | m + 1 => by
    show F_X5_sum_a0_5_7b g (n : Int) al (F_X5_sum_a0_5_7 g (n : Int) al m) = gl_b g (n : Int) (fun a b d cd sz fa pl => F_X5_product_a0_5 g (n : Int) a b d al cd sz fa pl) 43 45 (-20) (-21) (gl g (n : Int) (fun a b d cd sz fa pl => F_X5_product_a0_5 g (n : Int) a b d al cd sz fa pl) 43 45 (-20) (-21) m)
    rw [sul_5 g n al m]
    rfl
theorem su_5 {g : Nat → Int} {n : Nat} {al : Int} (hn : n ≤ 1600) : meets g n (fun a b d cd sz fa pl => F_X5_sum_a0_5 g (n : Int) a b d al cd sz fa pl) (sSum g n al 1) := by
  have e : (fun a b d cd sz fa pl => F_X5_sum_a0_5 g (n : Int) a b d al cd sz fa pl) = gL g (n : Int) (fun a b d cd sz fa pl => F_X5_product_a0_5 g (n : Int) a b d al cd sz fa pl) 43 45 (-20) (-21) := by
    funext a b d cd sz fa pl
    unfold F_X5_sum_a0_5
    rw [sul_5]
    rfl
  rw [e]
  exact gL_m hn (pr_5 hn) (sPrO_ok (sPart_ok 1))
theorem fa_5 {g : Nat → Int} {n : Nat} {al : Int} (hn : n ≤ 1600) : meets g n (fun a b d cd sz fa pl => F_X5_fact_a0_5 g (n : Int) a b d al cd sz fa pl) (sFact g n al 1) := by
  have e : (fun a b d cd sz fa pl => F_X5_fact_a0_5 g (n : Int) a b d al cd sz fa pl) = gFact g (n : Int) (fun a b d cd sz fa pl => F_X5_sum_a0_5 g (n : Int) a b d al cd sz fa pl) (fun a b d cd sz fa pl => F_X5_test_a0_6 g (n : Int) a b d al cd sz fa pl) (fun a b d cd sz fa pl => F_X5_fact_a0_6 g (n : Int) a b d al cd sz fa pl) := rfl
  rw [e]
  exact gFact_m hn (su_5 hn) (sSum_ok 1) (te_6 hn) (sTest_ok 0) (fa_6 hn)
theorem bol_5 (g : Nat → Int) (n : Nat) (al : Int) : ∀ m : Nat, F_X5_both_a0_5_7 g (n : Int) al m = gv (fun a b d cd sz fa pl => F_X5_fact_a0_5 g (n : Int) a b d al cd sz fa pl) (F_X5_takeWord_s14 g (n : Int)) (-29) m
  | 0 => rfl
  | m + 1 => by
    show F_X5_both_a0_5_7b g (n : Int) al (F_X5_both_a0_5_7 g (n : Int) al m) = gv_b (fun a b d cd sz fa pl => F_X5_fact_a0_5 g (n : Int) a b d al cd sz fa pl) (F_X5_takeWord_s14 g (n : Int)) (-29) (gv (fun a b d cd sz fa pl => F_X5_fact_a0_5 g (n : Int) a b d al cd sz fa pl) (F_X5_takeWord_s14 g (n : Int)) (-29) m)
    rw [bol_5 g n al m]
    rfl
theorem bo_5 {g : Nat → Int} {n : Nat} {al : Int} (hn : n ≤ 1600) : meets g n (fun a b d cd sz fa pl => F_X5_both_a0_5 g (n : Int) a b d al cd sz fa pl) (sBoO g n (sFact g n al 1)) := by
  have e : (fun a b d cd sz fa pl => F_X5_both_a0_5 g (n : Int) a b d al cd sz fa pl) = gV (fun a b d cd sz fa pl => F_X5_fact_a0_5 g (n : Int) a b d al cd sz fa pl) (F_X5_takeWord_s14 g (n : Int)) (-29) := by
    funext a b d cd sz fa pl
    unfold F_X5_both_a0_5
    rw [bol_5]
    rfl
  rw [e]
  exact gV_m hn (F_X5_takeWord_s14_t hn) (fa_5 hn) (sFact_ok 1)
theorem tel_5 (g : Nat → Int) (n : Nat) (al : Int) : ∀ m : Nat, F_X5_test_a0_5_7 g (n : Int) al m = gv (fun a b d cd sz fa pl => F_X5_both_a0_5 g (n : Int) a b d al cd sz fa pl) (F_X5_takeWord_s13 g (n : Int)) (-30) m
  | 0 => rfl
  | m + 1 => by
    show F_X5_test_a0_5_7b g (n : Int) al (F_X5_test_a0_5_7 g (n : Int) al m) = gv_b (fun a b d cd sz fa pl => F_X5_both_a0_5 g (n : Int) a b d al cd sz fa pl) (F_X5_takeWord_s13 g (n : Int)) (-30) (gv (fun a b d cd sz fa pl => F_X5_both_a0_5 g (n : Int) a b d al cd sz fa pl) (F_X5_takeWord_s13 g (n : Int)) (-30) m)
    rw [tel_5 g n al m]
    rfl
theorem te_5 {g : Nat → Int} {n : Nat} {al : Int} (hn : n ≤ 1600) : meets g n (fun a b d cd sz fa pl => F_X5_test_a0_5 g (n : Int) a b d al cd sz fa pl) (sTest g n al 1) := by
  have e : (fun a b d cd sz fa pl => F_X5_test_a0_5 g (n : Int) a b d al cd sz fa pl) = gV (fun a b d cd sz fa pl => F_X5_both_a0_5 g (n : Int) a b d al cd sz fa pl) (F_X5_takeWord_s13 g (n : Int)) (-30) := by
    funext a b d cd sz fa pl
    unfold F_X5_test_a0_5
    rw [tel_5]
    rfl
  rw [e]
  exact gV_m hn (F_X5_takeWord_s13_t hn) (bo_5 hn) (spV_ok (sFact_ok 1))
theorem pa_4 {g : Nat → Int} {n : Nat} {al : Int} (hn : n ≤ 1600) : meets g n (fun a b d cd sz fa pl => F_X5_part_a0_4 g (n : Int) a b d al cd sz fa pl) (sPart g n al 2) := by
  have e : (fun a b d cd sz fa pl => F_X5_part_a0_4 g (n : Int) a b d al cd sz fa pl) = gPart g (n : Int) al (fun a b d cd sz fa pl => F_X5_sum_a0_5 g (n : Int) a b d al cd sz fa pl) (fun a b d cd sz fa pl => F_X5_part_a0_5 g (n : Int) a b d al cd sz fa pl) := rfl
  rw [e]
  exact gPart_m hn (su_5 hn) (sSum_ok 1) (pa_5 hn)
theorem prl_4 (g : Nat → Int) (n : Nat) (al : Int) : ∀ m : Nat, F_X5_product_a0_4_7 g (n : Int) al m = gl g (n : Int) (fun a b d cd sz fa pl => F_X5_part_a0_4 g (n : Int) a b d al cd sz fa pl) 42 47 (-22) (-23) m
  | 0 => rfl
  | m + 1 => by
    show F_X5_product_a0_4_7b g (n : Int) al (F_X5_product_a0_4_7 g (n : Int) al m) = gl_b g (n : Int) (fun a b d cd sz fa pl => F_X5_part_a0_4 g (n : Int) a b d al cd sz fa pl) 42 47 (-22) (-23) (gl g (n : Int) (fun a b d cd sz fa pl => F_X5_part_a0_4 g (n : Int) a b d al cd sz fa pl) 42 47 (-22) (-23) m)
    rw [prl_4 g n al m]
    rfl
theorem pr_4 {g : Nat → Int} {n : Nat} {al : Int} (hn : n ≤ 1600) : meets g n (fun a b d cd sz fa pl => F_X5_product_a0_4 g (n : Int) a b d al cd sz fa pl) (sPrO g n (sPart g n al 2)) := by
  have e : (fun a b d cd sz fa pl => F_X5_product_a0_4 g (n : Int) a b d al cd sz fa pl) = gL g (n : Int) (fun a b d cd sz fa pl => F_X5_part_a0_4 g (n : Int) a b d al cd sz fa pl) 42 47 (-22) (-23) := by
    funext a b d cd sz fa pl
    unfold F_X5_product_a0_4
    rw [prl_4]
    rfl
  rw [e]
  exact gL_m hn (pa_4 hn) (sPart_ok 2)
theorem sul_4 (g : Nat → Int) (n : Nat) (al : Int) : ∀ m : Nat, F_X5_sum_a0_4_7 g (n : Int) al m = gl g (n : Int) (fun a b d cd sz fa pl => F_X5_product_a0_4 g (n : Int) a b d al cd sz fa pl) 43 45 (-20) (-21) m
  | 0 => rfl
  | m + 1 => by
    show F_X5_sum_a0_4_7b g (n : Int) al (F_X5_sum_a0_4_7 g (n : Int) al m) = gl_b g (n : Int) (fun a b d cd sz fa pl => F_X5_product_a0_4 g (n : Int) a b d al cd sz fa pl) 43 45 (-20) (-21) (gl g (n : Int) (fun a b d cd sz fa pl => F_X5_product_a0_4 g (n : Int) a b d al cd sz fa pl) 43 45 (-20) (-21) m)
    rw [sul_4 g n al m]
    rfl
theorem su_4 {g : Nat → Int} {n : Nat} {al : Int} (hn : n ≤ 1600) : meets g n (fun a b d cd sz fa pl => F_X5_sum_a0_4 g (n : Int) a b d al cd sz fa pl) (sSum g n al 2) := by
  have e : (fun a b d cd sz fa pl => F_X5_sum_a0_4 g (n : Int) a b d al cd sz fa pl) = gL g (n : Int) (fun a b d cd sz fa pl => F_X5_product_a0_4 g (n : Int) a b d al cd sz fa pl) 43 45 (-20) (-21) := by
    funext a b d cd sz fa pl
    unfold F_X5_sum_a0_4
    rw [sul_4]
    rfl
  rw [e]
  exact gL_m hn (pr_4 hn) (sPrO_ok (sPart_ok 2))
theorem fa_4 {g : Nat → Int} {n : Nat} {al : Int} (hn : n ≤ 1600) : meets g n (fun a b d cd sz fa pl => F_X5_fact_a0_4 g (n : Int) a b d al cd sz fa pl) (sFact g n al 2) := by
  have e : (fun a b d cd sz fa pl => F_X5_fact_a0_4 g (n : Int) a b d al cd sz fa pl) = gFact g (n : Int) (fun a b d cd sz fa pl => F_X5_sum_a0_4 g (n : Int) a b d al cd sz fa pl) (fun a b d cd sz fa pl => F_X5_test_a0_5 g (n : Int) a b d al cd sz fa pl) (fun a b d cd sz fa pl => F_X5_fact_a0_5 g (n : Int) a b d al cd sz fa pl) := rfl
  rw [e]
  exact gFact_m hn (su_4 hn) (sSum_ok 2) (te_5 hn) (sTest_ok 1) (fa_5 hn)
theorem bol_4 (g : Nat → Int) (n : Nat) (al : Int) : ∀ m : Nat, F_X5_both_a0_4_7 g (n : Int) al m = gv (fun a b d cd sz fa pl => F_X5_fact_a0_4 g (n : Int) a b d al cd sz fa pl) (F_X5_takeWord_s14 g (n : Int)) (-29) m
  | 0 => rfl
  | m + 1 => by
    show F_X5_both_a0_4_7b g (n : Int) al (F_X5_both_a0_4_7 g (n : Int) al m) = gv_b (fun a b d cd sz fa pl => F_X5_fact_a0_4 g (n : Int) a b d al cd sz fa pl) (F_X5_takeWord_s14 g (n : Int)) (-29) (gv (fun a b d cd sz fa pl => F_X5_fact_a0_4 g (n : Int) a b d al cd sz fa pl) (F_X5_takeWord_s14 g (n : Int)) (-29) m)
    rw [bol_4 g n al m]
    rfl
theorem bo_4 {g : Nat → Int} {n : Nat} {al : Int} (hn : n ≤ 1600) : meets g n (fun a b d cd sz fa pl => F_X5_both_a0_4 g (n : Int) a b d al cd sz fa pl) (sBoO g n (sFact g n al 2)) := by
  have e : (fun a b d cd sz fa pl => F_X5_both_a0_4 g (n : Int) a b d al cd sz fa pl) = gV (fun a b d cd sz fa pl => F_X5_fact_a0_4 g (n : Int) a b d al cd sz fa pl) (F_X5_takeWord_s14 g (n : Int)) (-29) := by
    funext a b d cd sz fa pl
    unfold F_X5_both_a0_4
    rw [bol_4]
    rfl
  rw [e]
  exact gV_m hn (F_X5_takeWord_s14_t hn) (fa_4 hn) (sFact_ok 2)
theorem tel_4 (g : Nat → Int) (n : Nat) (al : Int) : ∀ m : Nat, F_X5_test_a0_4_7 g (n : Int) al m = gv (fun a b d cd sz fa pl => F_X5_both_a0_4 g (n : Int) a b d al cd sz fa pl) (F_X5_takeWord_s13 g (n : Int)) (-30) m
  | 0 => rfl
  | m + 1 => by
    show F_X5_test_a0_4_7b g (n : Int) al (F_X5_test_a0_4_7 g (n : Int) al m) = gv_b (fun a b d cd sz fa pl => F_X5_both_a0_4 g (n : Int) a b d al cd sz fa pl) (F_X5_takeWord_s13 g (n : Int)) (-30) (gv (fun a b d cd sz fa pl => F_X5_both_a0_4 g (n : Int) a b d al cd sz fa pl) (F_X5_takeWord_s13 g (n : Int)) (-30) m)
    rw [tel_4 g n al m]
    rfl
theorem te_4 {g : Nat → Int} {n : Nat} {al : Int} (hn : n ≤ 1600) : meets g n (fun a b d cd sz fa pl => F_X5_test_a0_4 g (n : Int) a b d al cd sz fa pl) (sTest g n al 2) := by
  have e : (fun a b d cd sz fa pl => F_X5_test_a0_4 g (n : Int) a b d al cd sz fa pl) = gV (fun a b d cd sz fa pl => F_X5_both_a0_4 g (n : Int) a b d al cd sz fa pl) (F_X5_takeWord_s13 g (n : Int)) (-30) := by
    funext a b d cd sz fa pl
    unfold F_X5_test_a0_4
    rw [tel_4]
    rfl
  rw [e]
  exact gV_m hn (F_X5_takeWord_s13_t hn) (bo_4 hn) (spV_ok (sFact_ok 2))
theorem pa_3 {g : Nat → Int} {n : Nat} {al : Int} (hn : n ≤ 1600) : meets g n (fun a b d cd sz fa pl => F_X5_part_a0_3 g (n : Int) a b d al cd sz fa pl) (sPart g n al 3) := by
  have e : (fun a b d cd sz fa pl => F_X5_part_a0_3 g (n : Int) a b d al cd sz fa pl) = gPart g (n : Int) al (fun a b d cd sz fa pl => F_X5_sum_a0_4 g (n : Int) a b d al cd sz fa pl) (fun a b d cd sz fa pl => F_X5_part_a0_4 g (n : Int) a b d al cd sz fa pl) := rfl
  rw [e]
  exact gPart_m hn (su_4 hn) (sSum_ok 2) (pa_4 hn)
theorem prl_3 (g : Nat → Int) (n : Nat) (al : Int) : ∀ m : Nat, F_X5_product_a0_3_7 g (n : Int) al m = gl g (n : Int) (fun a b d cd sz fa pl => F_X5_part_a0_3 g (n : Int) a b d al cd sz fa pl) 42 47 (-22) (-23) m
  | 0 => rfl
  | m + 1 => by
    show F_X5_product_a0_3_7b g (n : Int) al (F_X5_product_a0_3_7 g (n : Int) al m) = gl_b g (n : Int) (fun a b d cd sz fa pl => F_X5_part_a0_3 g (n : Int) a b d al cd sz fa pl) 42 47 (-22) (-23) (gl g (n : Int) (fun a b d cd sz fa pl => F_X5_part_a0_3 g (n : Int) a b d al cd sz fa pl) 42 47 (-22) (-23) m)
    rw [prl_3 g n al m]
    rfl
theorem pr_3 {g : Nat → Int} {n : Nat} {al : Int} (hn : n ≤ 1600) : meets g n (fun a b d cd sz fa pl => F_X5_product_a0_3 g (n : Int) a b d al cd sz fa pl) (sPrO g n (sPart g n al 3)) := by
  have e : (fun a b d cd sz fa pl => F_X5_product_a0_3 g (n : Int) a b d al cd sz fa pl) = gL g (n : Int) (fun a b d cd sz fa pl => F_X5_part_a0_3 g (n : Int) a b d al cd sz fa pl) 42 47 (-22) (-23) := by
    funext a b d cd sz fa pl
    unfold F_X5_product_a0_3
    rw [prl_3]
    rfl
  rw [e]
  exact gL_m hn (pa_3 hn) (sPart_ok 3)
theorem sul_3 (g : Nat → Int) (n : Nat) (al : Int) : ∀ m : Nat, F_X5_sum_a0_3_7 g (n : Int) al m = gl g (n : Int) (fun a b d cd sz fa pl => F_X5_product_a0_3 g (n : Int) a b d al cd sz fa pl) 43 45 (-20) (-21) m
  | 0 => rfl
  | m + 1 => by
    show F_X5_sum_a0_3_7b g (n : Int) al (F_X5_sum_a0_3_7 g (n : Int) al m) = gl_b g (n : Int) (fun a b d cd sz fa pl => F_X5_product_a0_3 g (n : Int) a b d al cd sz fa pl) 43 45 (-20) (-21) (gl g (n : Int) (fun a b d cd sz fa pl => F_X5_product_a0_3 g (n : Int) a b d al cd sz fa pl) 43 45 (-20) (-21) m)
    rw [sul_3 g n al m]
    rfl
theorem su_3 {g : Nat → Int} {n : Nat} {al : Int} (hn : n ≤ 1600) : meets g n (fun a b d cd sz fa pl => F_X5_sum_a0_3 g (n : Int) a b d al cd sz fa pl) (sSum g n al 3) := by
  have e : (fun a b d cd sz fa pl => F_X5_sum_a0_3 g (n : Int) a b d al cd sz fa pl) = gL g (n : Int) (fun a b d cd sz fa pl => F_X5_product_a0_3 g (n : Int) a b d al cd sz fa pl) 43 45 (-20) (-21) := by
    funext a b d cd sz fa pl
    unfold F_X5_sum_a0_3
    rw [sul_3]
    rfl
  rw [e]
  exact gL_m hn (pr_3 hn) (sPrO_ok (sPart_ok 3))
theorem fa_3 {g : Nat → Int} {n : Nat} {al : Int} (hn : n ≤ 1600) : meets g n (fun a b d cd sz fa pl => F_X5_fact_a0_3 g (n : Int) a b d al cd sz fa pl) (sFact g n al 3) := by
  have e : (fun a b d cd sz fa pl => F_X5_fact_a0_3 g (n : Int) a b d al cd sz fa pl) = gFact g (n : Int) (fun a b d cd sz fa pl => F_X5_sum_a0_3 g (n : Int) a b d al cd sz fa pl) (fun a b d cd sz fa pl => F_X5_test_a0_4 g (n : Int) a b d al cd sz fa pl) (fun a b d cd sz fa pl => F_X5_fact_a0_4 g (n : Int) a b d al cd sz fa pl) := rfl
  rw [e]
  exact gFact_m hn (su_3 hn) (sSum_ok 3) (te_4 hn) (sTest_ok 2) (fa_4 hn)
theorem bol_3 (g : Nat → Int) (n : Nat) (al : Int) : ∀ m : Nat, F_X5_both_a0_3_7 g (n : Int) al m = gv (fun a b d cd sz fa pl => F_X5_fact_a0_3 g (n : Int) a b d al cd sz fa pl) (F_X5_takeWord_s14 g (n : Int)) (-29) m
  | 0 => rfl
  | m + 1 => by
    show F_X5_both_a0_3_7b g (n : Int) al (F_X5_both_a0_3_7 g (n : Int) al m) = gv_b (fun a b d cd sz fa pl => F_X5_fact_a0_3 g (n : Int) a b d al cd sz fa pl) (F_X5_takeWord_s14 g (n : Int)) (-29) (gv (fun a b d cd sz fa pl => F_X5_fact_a0_3 g (n : Int) a b d al cd sz fa pl) (F_X5_takeWord_s14 g (n : Int)) (-29) m)
    rw [bol_3 g n al m]
    rfl
theorem bo_3 {g : Nat → Int} {n : Nat} {al : Int} (hn : n ≤ 1600) : meets g n (fun a b d cd sz fa pl => F_X5_both_a0_3 g (n : Int) a b d al cd sz fa pl) (sBoO g n (sFact g n al 3)) := by
  have e : (fun a b d cd sz fa pl => F_X5_both_a0_3 g (n : Int) a b d al cd sz fa pl) = gV (fun a b d cd sz fa pl => F_X5_fact_a0_3 g (n : Int) a b d al cd sz fa pl) (F_X5_takeWord_s14 g (n : Int)) (-29) := by
    funext a b d cd sz fa pl
    unfold F_X5_both_a0_3
    rw [bol_3]
    rfl
  rw [e]
  exact gV_m hn (F_X5_takeWord_s14_t hn) (fa_3 hn) (sFact_ok 3)
theorem tel_3 (g : Nat → Int) (n : Nat) (al : Int) : ∀ m : Nat, F_X5_test_a0_3_7 g (n : Int) al m = gv (fun a b d cd sz fa pl => F_X5_both_a0_3 g (n : Int) a b d al cd sz fa pl) (F_X5_takeWord_s13 g (n : Int)) (-30) m
  | 0 => rfl
  | m + 1 => by
    show F_X5_test_a0_3_7b g (n : Int) al (F_X5_test_a0_3_7 g (n : Int) al m) = gv_b (fun a b d cd sz fa pl => F_X5_both_a0_3 g (n : Int) a b d al cd sz fa pl) (F_X5_takeWord_s13 g (n : Int)) (-30) (gv (fun a b d cd sz fa pl => F_X5_both_a0_3 g (n : Int) a b d al cd sz fa pl) (F_X5_takeWord_s13 g (n : Int)) (-30) m)
    rw [tel_3 g n al m]
    rfl
theorem te_3 {g : Nat → Int} {n : Nat} {al : Int} (hn : n ≤ 1600) : meets g n (fun a b d cd sz fa pl => F_X5_test_a0_3 g (n : Int) a b d al cd sz fa pl) (sTest g n al 3) := by
  have e : (fun a b d cd sz fa pl => F_X5_test_a0_3 g (n : Int) a b d al cd sz fa pl) = gV (fun a b d cd sz fa pl => F_X5_both_a0_3 g (n : Int) a b d al cd sz fa pl) (F_X5_takeWord_s13 g (n : Int)) (-30) := by
    funext a b d cd sz fa pl
    unfold F_X5_test_a0_3
    rw [tel_3]
    rfl
  rw [e]
  exact gV_m hn (F_X5_takeWord_s13_t hn) (bo_3 hn) (spV_ok (sFact_ok 3))
theorem pa_2 {g : Nat → Int} {n : Nat} {al : Int} (hn : n ≤ 1600) : meets g n (fun a b d cd sz fa pl => F_X5_part_a0_2 g (n : Int) a b d al cd sz fa pl) (sPart g n al 4) := by
  have e : (fun a b d cd sz fa pl => F_X5_part_a0_2 g (n : Int) a b d al cd sz fa pl) = gPart g (n : Int) al (fun a b d cd sz fa pl => F_X5_sum_a0_3 g (n : Int) a b d al cd sz fa pl) (fun a b d cd sz fa pl => F_X5_part_a0_3 g (n : Int) a b d al cd sz fa pl) := rfl
  rw [e]
  exact gPart_m hn (su_3 hn) (sSum_ok 3) (pa_3 hn)
theorem prl_2 (g : Nat → Int) (n : Nat) (al : Int) : ∀ m : Nat, F_X5_product_a0_2_7 g (n : Int) al m = gl g (n : Int) (fun a b d cd sz fa pl => F_X5_part_a0_2 g (n : Int) a b d al cd sz fa pl) 42 47 (-22) (-23) m
  | 0 => rfl
  | m + 1 => by
    show F_X5_product_a0_2_7b g (n : Int) al (F_X5_product_a0_2_7 g (n : Int) al m) = gl_b g (n : Int) (fun a b d cd sz fa pl => F_X5_part_a0_2 g (n : Int) a b d al cd sz fa pl) 42 47 (-22) (-23) (gl g (n : Int) (fun a b d cd sz fa pl => F_X5_part_a0_2 g (n : Int) a b d al cd sz fa pl) 42 47 (-22) (-23) m)
    rw [prl_2 g n al m]
    rfl
theorem pr_2 {g : Nat → Int} {n : Nat} {al : Int} (hn : n ≤ 1600) : meets g n (fun a b d cd sz fa pl => F_X5_product_a0_2 g (n : Int) a b d al cd sz fa pl) (sPrO g n (sPart g n al 4)) := by
  have e : (fun a b d cd sz fa pl => F_X5_product_a0_2 g (n : Int) a b d al cd sz fa pl) = gL g (n : Int) (fun a b d cd sz fa pl => F_X5_part_a0_2 g (n : Int) a b d al cd sz fa pl) 42 47 (-22) (-23) := by
    funext a b d cd sz fa pl
    unfold F_X5_product_a0_2
    rw [prl_2]
    rfl
  rw [e]
  exact gL_m hn (pa_2 hn) (sPart_ok 4)
theorem sul_2 (g : Nat → Int) (n : Nat) (al : Int) : ∀ m : Nat, F_X5_sum_a0_2_7 g (n : Int) al m = gl g (n : Int) (fun a b d cd sz fa pl => F_X5_product_a0_2 g (n : Int) a b d al cd sz fa pl) 43 45 (-20) (-21) m
  | 0 => rfl
  | m + 1 => by
    show F_X5_sum_a0_2_7b g (n : Int) al (F_X5_sum_a0_2_7 g (n : Int) al m) = gl_b g (n : Int) (fun a b d cd sz fa pl => F_X5_product_a0_2 g (n : Int) a b d al cd sz fa pl) 43 45 (-20) (-21) (gl g (n : Int) (fun a b d cd sz fa pl => F_X5_product_a0_2 g (n : Int) a b d al cd sz fa pl) 43 45 (-20) (-21) m)
    rw [sul_2 g n al m]
    rfl
theorem su_2 {g : Nat → Int} {n : Nat} {al : Int} (hn : n ≤ 1600) : meets g n (fun a b d cd sz fa pl => F_X5_sum_a0_2 g (n : Int) a b d al cd sz fa pl) (sSum g n al 4) := by
  have e : (fun a b d cd sz fa pl => F_X5_sum_a0_2 g (n : Int) a b d al cd sz fa pl) = gL g (n : Int) (fun a b d cd sz fa pl => F_X5_product_a0_2 g (n : Int) a b d al cd sz fa pl) 43 45 (-20) (-21) := by
    funext a b d cd sz fa pl
    unfold F_X5_sum_a0_2
    rw [sul_2]
    rfl
  rw [e]
  exact gL_m hn (pr_2 hn) (sPrO_ok (sPart_ok 4))
theorem fa_2 {g : Nat → Int} {n : Nat} {al : Int} (hn : n ≤ 1600) : meets g n (fun a b d cd sz fa pl => F_X5_fact_a0_2 g (n : Int) a b d al cd sz fa pl) (sFact g n al 4) := by
  have e : (fun a b d cd sz fa pl => F_X5_fact_a0_2 g (n : Int) a b d al cd sz fa pl) = gFact g (n : Int) (fun a b d cd sz fa pl => F_X5_sum_a0_2 g (n : Int) a b d al cd sz fa pl) (fun a b d cd sz fa pl => F_X5_test_a0_3 g (n : Int) a b d al cd sz fa pl) (fun a b d cd sz fa pl => F_X5_fact_a0_3 g (n : Int) a b d al cd sz fa pl) := rfl
  rw [e]
  exact gFact_m hn (su_2 hn) (sSum_ok 4) (te_3 hn) (sTest_ok 3) (fa_3 hn)
theorem bol_2 (g : Nat → Int) (n : Nat) (al : Int) : ∀ m : Nat, F_X5_both_a0_2_7 g (n : Int) al m = gv (fun a b d cd sz fa pl => F_X5_fact_a0_2 g (n : Int) a b d al cd sz fa pl) (F_X5_takeWord_s14 g (n : Int)) (-29) m
  | 0 => rfl
  | m + 1 => by
    show F_X5_both_a0_2_7b g (n : Int) al (F_X5_both_a0_2_7 g (n : Int) al m) = gv_b (fun a b d cd sz fa pl => F_X5_fact_a0_2 g (n : Int) a b d al cd sz fa pl) (F_X5_takeWord_s14 g (n : Int)) (-29) (gv (fun a b d cd sz fa pl => F_X5_fact_a0_2 g (n : Int) a b d al cd sz fa pl) (F_X5_takeWord_s14 g (n : Int)) (-29) m)
    rw [bol_2 g n al m]
    rfl
theorem bo_2 {g : Nat → Int} {n : Nat} {al : Int} (hn : n ≤ 1600) : meets g n (fun a b d cd sz fa pl => F_X5_both_a0_2 g (n : Int) a b d al cd sz fa pl) (sBoO g n (sFact g n al 4)) := by
  have e : (fun a b d cd sz fa pl => F_X5_both_a0_2 g (n : Int) a b d al cd sz fa pl) = gV (fun a b d cd sz fa pl => F_X5_fact_a0_2 g (n : Int) a b d al cd sz fa pl) (F_X5_takeWord_s14 g (n : Int)) (-29) := by
    funext a b d cd sz fa pl
    unfold F_X5_both_a0_2
    rw [bol_2]
    rfl
  rw [e]
  exact gV_m hn (F_X5_takeWord_s14_t hn) (fa_2 hn) (sFact_ok 4)
theorem tel_2 (g : Nat → Int) (n : Nat) (al : Int) : ∀ m : Nat, F_X5_test_a0_2_7 g (n : Int) al m = gv (fun a b d cd sz fa pl => F_X5_both_a0_2 g (n : Int) a b d al cd sz fa pl) (F_X5_takeWord_s13 g (n : Int)) (-30) m
  | 0 => rfl
  | m + 1 => by
    show F_X5_test_a0_2_7b g (n : Int) al (F_X5_test_a0_2_7 g (n : Int) al m) = gv_b (fun a b d cd sz fa pl => F_X5_both_a0_2 g (n : Int) a b d al cd sz fa pl) (F_X5_takeWord_s13 g (n : Int)) (-30) (gv (fun a b d cd sz fa pl => F_X5_both_a0_2 g (n : Int) a b d al cd sz fa pl) (F_X5_takeWord_s13 g (n : Int)) (-30) m)
    rw [tel_2 g n al m]
    rfl
theorem te_2 {g : Nat → Int} {n : Nat} {al : Int} (hn : n ≤ 1600) : meets g n (fun a b d cd sz fa pl => F_X5_test_a0_2 g (n : Int) a b d al cd sz fa pl) (sTest g n al 4) := by
  have e : (fun a b d cd sz fa pl => F_X5_test_a0_2 g (n : Int) a b d al cd sz fa pl) = gV (fun a b d cd sz fa pl => F_X5_both_a0_2 g (n : Int) a b d al cd sz fa pl) (F_X5_takeWord_s13 g (n : Int)) (-30) := by
    funext a b d cd sz fa pl
    unfold F_X5_test_a0_2
    rw [tel_2]
    rfl
  rw [e]
  exact gV_m hn (F_X5_takeWord_s13_t hn) (bo_2 hn) (spV_ok (sFact_ok 4))
theorem pa_1 {g : Nat → Int} {n : Nat} {al : Int} (hn : n ≤ 1600) : meets g n (fun a b d cd sz fa pl => F_X5_part_a0_1 g (n : Int) a b d al cd sz fa pl) (sPart g n al 5) := by
  have e : (fun a b d cd sz fa pl => F_X5_part_a0_1 g (n : Int) a b d al cd sz fa pl) = gPart g (n : Int) al (fun a b d cd sz fa pl => F_X5_sum_a0_2 g (n : Int) a b d al cd sz fa pl) (fun a b d cd sz fa pl => F_X5_part_a0_2 g (n : Int) a b d al cd sz fa pl) := rfl
  rw [e]
  exact gPart_m hn (su_2 hn) (sSum_ok 4) (pa_2 hn)
theorem prl_1 (g : Nat → Int) (n : Nat) (al : Int) : ∀ m : Nat, F_X5_product_a0_1_7 g (n : Int) al m = gl g (n : Int) (fun a b d cd sz fa pl => F_X5_part_a0_1 g (n : Int) a b d al cd sz fa pl) 42 47 (-22) (-23) m
  | 0 => rfl
  | m + 1 => by
    show F_X5_product_a0_1_7b g (n : Int) al (F_X5_product_a0_1_7 g (n : Int) al m) = gl_b g (n : Int) (fun a b d cd sz fa pl => F_X5_part_a0_1 g (n : Int) a b d al cd sz fa pl) 42 47 (-22) (-23) (gl g (n : Int) (fun a b d cd sz fa pl => F_X5_part_a0_1 g (n : Int) a b d al cd sz fa pl) 42 47 (-22) (-23) m)
    rw [prl_1 g n al m]
    rfl
theorem pr_1 {g : Nat → Int} {n : Nat} {al : Int} (hn : n ≤ 1600) : meets g n (fun a b d cd sz fa pl => F_X5_product_a0_1 g (n : Int) a b d al cd sz fa pl) (sPrO g n (sPart g n al 5)) := by
  have e : (fun a b d cd sz fa pl => F_X5_product_a0_1 g (n : Int) a b d al cd sz fa pl) = gL g (n : Int) (fun a b d cd sz fa pl => F_X5_part_a0_1 g (n : Int) a b d al cd sz fa pl) 42 47 (-22) (-23) := by
    funext a b d cd sz fa pl
    unfold F_X5_product_a0_1
    rw [prl_1]
    rfl
  rw [e]
  exact gL_m hn (pa_1 hn) (sPart_ok 5)
theorem sul_1 (g : Nat → Int) (n : Nat) (al : Int) : ∀ m : Nat, F_X5_sum_a0_1_7 g (n : Int) al m = gl g (n : Int) (fun a b d cd sz fa pl => F_X5_product_a0_1 g (n : Int) a b d al cd sz fa pl) 43 45 (-20) (-21) m
  | 0 => rfl
  | m + 1 => by
    show F_X5_sum_a0_1_7b g (n : Int) al (F_X5_sum_a0_1_7 g (n : Int) al m) = gl_b g (n : Int) (fun a b d cd sz fa pl => F_X5_product_a0_1 g (n : Int) a b d al cd sz fa pl) 43 45 (-20) (-21) (gl g (n : Int) (fun a b d cd sz fa pl => F_X5_product_a0_1 g (n : Int) a b d al cd sz fa pl) 43 45 (-20) (-21) m)
    rw [sul_1 g n al m]
    rfl
theorem su_1 {g : Nat → Int} {n : Nat} {al : Int} (hn : n ≤ 1600) : meets g n (fun a b d cd sz fa pl => F_X5_sum_a0_1 g (n : Int) a b d al cd sz fa pl) (sSum g n al 5) := by
  have e : (fun a b d cd sz fa pl => F_X5_sum_a0_1 g (n : Int) a b d al cd sz fa pl) = gL g (n : Int) (fun a b d cd sz fa pl => F_X5_product_a0_1 g (n : Int) a b d al cd sz fa pl) 43 45 (-20) (-21) := by
    funext a b d cd sz fa pl
    unfold F_X5_sum_a0_1
    rw [sul_1]
    rfl
  rw [e]
  exact gL_m hn (pr_1 hn) (sPrO_ok (sPart_ok 5))
theorem fa_1 {g : Nat → Int} {n : Nat} {al : Int} (hn : n ≤ 1600) : meets g n (fun a b d cd sz fa pl => F_X5_fact_a0_1 g (n : Int) a b d al cd sz fa pl) (sFact g n al 5) := by
  have e : (fun a b d cd sz fa pl => F_X5_fact_a0_1 g (n : Int) a b d al cd sz fa pl) = gFact g (n : Int) (fun a b d cd sz fa pl => F_X5_sum_a0_1 g (n : Int) a b d al cd sz fa pl) (fun a b d cd sz fa pl => F_X5_test_a0_2 g (n : Int) a b d al cd sz fa pl) (fun a b d cd sz fa pl => F_X5_fact_a0_2 g (n : Int) a b d al cd sz fa pl) := rfl
  rw [e]
  exact gFact_m hn (su_1 hn) (sSum_ok 5) (te_2 hn) (sTest_ok 4) (fa_2 hn)
theorem bol_1 (g : Nat → Int) (n : Nat) (al : Int) : ∀ m : Nat, F_X5_both_a0_1_7 g (n : Int) al m = gv (fun a b d cd sz fa pl => F_X5_fact_a0_1 g (n : Int) a b d al cd sz fa pl) (F_X5_takeWord_s14 g (n : Int)) (-29) m
  | 0 => rfl
  | m + 1 => by
    show F_X5_both_a0_1_7b g (n : Int) al (F_X5_both_a0_1_7 g (n : Int) al m) = gv_b (fun a b d cd sz fa pl => F_X5_fact_a0_1 g (n : Int) a b d al cd sz fa pl) (F_X5_takeWord_s14 g (n : Int)) (-29) (gv (fun a b d cd sz fa pl => F_X5_fact_a0_1 g (n : Int) a b d al cd sz fa pl) (F_X5_takeWord_s14 g (n : Int)) (-29) m)
    rw [bol_1 g n al m]
    rfl
theorem bo_1 {g : Nat → Int} {n : Nat} {al : Int} (hn : n ≤ 1600) : meets g n (fun a b d cd sz fa pl => F_X5_both_a0_1 g (n : Int) a b d al cd sz fa pl) (sBoO g n (sFact g n al 5)) := by
  have e : (fun a b d cd sz fa pl => F_X5_both_a0_1 g (n : Int) a b d al cd sz fa pl) = gV (fun a b d cd sz fa pl => F_X5_fact_a0_1 g (n : Int) a b d al cd sz fa pl) (F_X5_takeWord_s14 g (n : Int)) (-29) := by
    funext a b d cd sz fa pl
    unfold F_X5_both_a0_1
    rw [bol_1]
    rfl
  rw [e]
  exact gV_m hn (F_X5_takeWord_s14_t hn) (fa_1 hn) (sFact_ok 5)
theorem tel_1 (g : Nat → Int) (n : Nat) (al : Int) : ∀ m : Nat, F_X5_test_a0_1_7 g (n : Int) al m = gv (fun a b d cd sz fa pl => F_X5_both_a0_1 g (n : Int) a b d al cd sz fa pl) (F_X5_takeWord_s13 g (n : Int)) (-30) m
  | 0 => rfl
  | m + 1 => by
    show F_X5_test_a0_1_7b g (n : Int) al (F_X5_test_a0_1_7 g (n : Int) al m) = gv_b (fun a b d cd sz fa pl => F_X5_both_a0_1 g (n : Int) a b d al cd sz fa pl) (F_X5_takeWord_s13 g (n : Int)) (-30) (gv (fun a b d cd sz fa pl => F_X5_both_a0_1 g (n : Int) a b d al cd sz fa pl) (F_X5_takeWord_s13 g (n : Int)) (-30) m)
    rw [tel_1 g n al m]
    rfl
theorem te_1 {g : Nat → Int} {n : Nat} {al : Int} (hn : n ≤ 1600) : meets g n (fun a b d cd sz fa pl => F_X5_test_a0_1 g (n : Int) a b d al cd sz fa pl) (sTest g n al 5) := by
  have e : (fun a b d cd sz fa pl => F_X5_test_a0_1 g (n : Int) a b d al cd sz fa pl) = gV (fun a b d cd sz fa pl => F_X5_both_a0_1 g (n : Int) a b d al cd sz fa pl) (F_X5_takeWord_s13 g (n : Int)) (-30) := by
    funext a b d cd sz fa pl
    unfold F_X5_test_a0_1
    rw [tel_1]
    rfl
  rw [e]
  exact gV_m hn (F_X5_takeWord_s13_t hn) (bo_1 hn) (spV_ok (sFact_ok 5))
theorem pa_0 {g : Nat → Int} {n : Nat} {al : Int} (hn : n ≤ 1600) : meets g n (fun a b d cd sz fa pl => F_X5_part_a0_0 g (n : Int) a b d al cd sz fa pl) (sPart g n al 6) := by
  have e : (fun a b d cd sz fa pl => F_X5_part_a0_0 g (n : Int) a b d al cd sz fa pl) = gPart g (n : Int) al (fun a b d cd sz fa pl => F_X5_sum_a0_1 g (n : Int) a b d al cd sz fa pl) (fun a b d cd sz fa pl => F_X5_part_a0_1 g (n : Int) a b d al cd sz fa pl) := rfl
  rw [e]
  exact gPart_m hn (su_1 hn) (sSum_ok 5) (pa_1 hn)
theorem prl_0 (g : Nat → Int) (n : Nat) (al : Int) : ∀ m : Nat, F_X5_product_a0_0_7 g (n : Int) al m = gl g (n : Int) (fun a b d cd sz fa pl => F_X5_part_a0_0 g (n : Int) a b d al cd sz fa pl) 42 47 (-22) (-23) m
  | 0 => rfl
  | m + 1 => by
    show F_X5_product_a0_0_7b g (n : Int) al (F_X5_product_a0_0_7 g (n : Int) al m) = gl_b g (n : Int) (fun a b d cd sz fa pl => F_X5_part_a0_0 g (n : Int) a b d al cd sz fa pl) 42 47 (-22) (-23) (gl g (n : Int) (fun a b d cd sz fa pl => F_X5_part_a0_0 g (n : Int) a b d al cd sz fa pl) 42 47 (-22) (-23) m)
    rw [prl_0 g n al m]
    rfl
theorem pr_0 {g : Nat → Int} {n : Nat} {al : Int} (hn : n ≤ 1600) : meets g n (fun a b d cd sz fa pl => F_X5_product_a0_0 g (n : Int) a b d al cd sz fa pl) (sPrO g n (sPart g n al 6)) := by
  have e : (fun a b d cd sz fa pl => F_X5_product_a0_0 g (n : Int) a b d al cd sz fa pl) = gL g (n : Int) (fun a b d cd sz fa pl => F_X5_part_a0_0 g (n : Int) a b d al cd sz fa pl) 42 47 (-22) (-23) := by
    funext a b d cd sz fa pl
    unfold F_X5_product_a0_0
    rw [prl_0]
    rfl
  rw [e]
  exact gL_m hn (pa_0 hn) (sPart_ok 6)
theorem sul_0 (g : Nat → Int) (n : Nat) (al : Int) : ∀ m : Nat, F_X5_sum_a0_0_7 g (n : Int) al m = gl g (n : Int) (fun a b d cd sz fa pl => F_X5_product_a0_0 g (n : Int) a b d al cd sz fa pl) 43 45 (-20) (-21) m
  | 0 => rfl
  | m + 1 => by
    show F_X5_sum_a0_0_7b g (n : Int) al (F_X5_sum_a0_0_7 g (n : Int) al m) = gl_b g (n : Int) (fun a b d cd sz fa pl => F_X5_product_a0_0 g (n : Int) a b d al cd sz fa pl) 43 45 (-20) (-21) (gl g (n : Int) (fun a b d cd sz fa pl => F_X5_product_a0_0 g (n : Int) a b d al cd sz fa pl) 43 45 (-20) (-21) m)
    rw [sul_0 g n al m]
    rfl
theorem su_0 {g : Nat → Int} {n : Nat} {al : Int} (hn : n ≤ 1600) : meets g n (fun a b d cd sz fa pl => F_X5_sum_a0_0 g (n : Int) a b d al cd sz fa pl) (sSum g n al 6) := by
  have e : (fun a b d cd sz fa pl => F_X5_sum_a0_0 g (n : Int) a b d al cd sz fa pl) = gL g (n : Int) (fun a b d cd sz fa pl => F_X5_product_a0_0 g (n : Int) a b d al cd sz fa pl) 43 45 (-20) (-21) := by
    funext a b d cd sz fa pl
    unfold F_X5_sum_a0_0
    rw [sul_0]
    rfl
  rw [e]
  exact gL_m hn (pr_0 hn) (sPrO_ok (sPart_ok 6))
theorem fa_0 {g : Nat → Int} {n : Nat} {al : Int} (hn : n ≤ 1600) : meets g n (fun a b d cd sz fa pl => F_X5_fact_a0_0 g (n : Int) a b d al cd sz fa pl) (sFact g n al 6) := by
  have e : (fun a b d cd sz fa pl => F_X5_fact_a0_0 g (n : Int) a b d al cd sz fa pl) = gFact g (n : Int) (fun a b d cd sz fa pl => F_X5_sum_a0_0 g (n : Int) a b d al cd sz fa pl) (fun a b d cd sz fa pl => F_X5_test_a0_1 g (n : Int) a b d al cd sz fa pl) (fun a b d cd sz fa pl => F_X5_fact_a0_1 g (n : Int) a b d al cd sz fa pl) := rfl
  rw [e]
  exact gFact_m hn (su_0 hn) (sSum_ok 6) (te_1 hn) (sTest_ok 5) (fa_1 hn)
theorem bol_0 (g : Nat → Int) (n : Nat) (al : Int) : ∀ m : Nat, F_X5_both_a0_0_7 g (n : Int) al m = gv (fun a b d cd sz fa pl => F_X5_fact_a0_0 g (n : Int) a b d al cd sz fa pl) (F_X5_takeWord_s14 g (n : Int)) (-29) m
  | 0 => rfl
  | m + 1 => by
    show F_X5_both_a0_0_7b g (n : Int) al (F_X5_both_a0_0_7 g (n : Int) al m) = gv_b (fun a b d cd sz fa pl => F_X5_fact_a0_0 g (n : Int) a b d al cd sz fa pl) (F_X5_takeWord_s14 g (n : Int)) (-29) (gv (fun a b d cd sz fa pl => F_X5_fact_a0_0 g (n : Int) a b d al cd sz fa pl) (F_X5_takeWord_s14 g (n : Int)) (-29) m)
    rw [bol_0 g n al m]
    rfl
theorem bo_0 {g : Nat → Int} {n : Nat} {al : Int} (hn : n ≤ 1600) : meets g n (fun a b d cd sz fa pl => F_X5_both_a0_0 g (n : Int) a b d al cd sz fa pl) (sBoO g n (sFact g n al 6)) := by
  have e : (fun a b d cd sz fa pl => F_X5_both_a0_0 g (n : Int) a b d al cd sz fa pl) = gV (fun a b d cd sz fa pl => F_X5_fact_a0_0 g (n : Int) a b d al cd sz fa pl) (F_X5_takeWord_s14 g (n : Int)) (-29) := by
    funext a b d cd sz fa pl
    unfold F_X5_both_a0_0
    rw [bol_0]
    rfl
  rw [e]
  exact gV_m hn (F_X5_takeWord_s14_t hn) (fa_0 hn) (sFact_ok 6)
theorem tel_0 (g : Nat → Int) (n : Nat) (al : Int) : ∀ m : Nat, F_X5_test_a0_0_7 g (n : Int) al m = gv (fun a b d cd sz fa pl => F_X5_both_a0_0 g (n : Int) a b d al cd sz fa pl) (F_X5_takeWord_s13 g (n : Int)) (-30) m
  | 0 => rfl
  | m + 1 => by
    show F_X5_test_a0_0_7b g (n : Int) al (F_X5_test_a0_0_7 g (n : Int) al m) = gv_b (fun a b d cd sz fa pl => F_X5_both_a0_0 g (n : Int) a b d al cd sz fa pl) (F_X5_takeWord_s13 g (n : Int)) (-30) (gv (fun a b d cd sz fa pl => F_X5_both_a0_0 g (n : Int) a b d al cd sz fa pl) (F_X5_takeWord_s13 g (n : Int)) (-30) m)
    rw [tel_0 g n al m]
    rfl
theorem te_0 {g : Nat → Int} {n : Nat} {al : Int} (hn : n ≤ 1600) : meets g n (fun a b d cd sz fa pl => F_X5_test_a0_0 g (n : Int) a b d al cd sz fa pl) (sTest g n al 6) := by
  have e : (fun a b d cd sz fa pl => F_X5_test_a0_0 g (n : Int) a b d al cd sz fa pl) = gV (fun a b d cd sz fa pl => F_X5_both_a0_0 g (n : Int) a b d al cd sz fa pl) (F_X5_takeWord_s13 g (n : Int)) (-30) := by
    funext a b d cd sz fa pl
    unfold F_X5_test_a0_0
    rw [tel_0]
    rfl
  rw [e]
  exact gV_m hn (F_X5_takeWord_s13_t hn) (bo_0 hn) (spV_ok (sFact_ok 6))
