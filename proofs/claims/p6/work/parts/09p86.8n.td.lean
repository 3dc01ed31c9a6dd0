/-! what a DAY tells: one description, both sides -/
def snm (f : Nat → Int) : Nat → Int
  | 0 => 0
  | k + 1 => snm f k + f k
theorem snm_b {f : Nat → Int} : ∀ n, (∀ w, w < n → 0 ≤ f w ∧ f w ≤ 300) → 0 ≤ snm f n ∧ snm f n ≤ 300 * (n : Int)
  | 0, _ => ⟨Int.le_refl _, Int.le_refl _⟩
  | k + 1, h => by
    have ih := snm_b k (fun w hw => h w (by omega))
    have hk := h k (Nat.lt_succ_self k)
    show 0 ≤ snm f k + f k ∧ snm f k + f k ≤ 300 * ((k + 1 : Nat) : Int)
    omega
theorem snm_cg {f g : Nat → Int} : ∀ n, (∀ w, w < n → f w = g w) → snm f n = snm g n
  | 0, _ => rfl
  | k + 1, h => by
    show snm f k + f k = snm g k + g k
    rw [snm_cg k (fun w hw => h w (by omega)), h k (Nat.lt_succ_self k)]
theorem cnf_to {f : Nat → Bool} {n : Nat} : ∀ k, n ≤ k → (∀ w, n ≤ w → w < k → f w = false) → cnf f k = cnf f n
  | 0, h, _ => by
    rw [Nat.le_zero.mp h]
  | k + 1, h, hf => by
    by_cases q : n = k + 1
    · rw [q]
    · show cnf f k + b2 (f k) = cnf f n
      rw [cnf_to k (by omega) (fun w h1 h2 => hf w h1 (by omega)), hf k (by omega) (Nat.lt_succ_self k)]
      show cnf f n + 0 = cnf f n
      omega
theorem pcn_c (X : Int) : ∀ k, pcn X k = cnf (bt X) k
  | 0 => rfl
  | k + 1 => by
    show pcn X k + b2 (bt X k) = cnf (bt X) k + b2 (bt X k)
    rw [pcn_c X k]
/-- a count of bits -/
theorem bc_c {X : Int} {f : Nat → Bool} {n : Nat} (hX : rg X) (hn : n ≤ 12) (h : ∀ w, w < 12 → bt X w = f w) (h0 : ∀ w, n ≤ w → w < 12 → f w = false) : F_J6_bitCount_0f7a4 X = cnf f n := by
  rw [bc_x hX, pcn_c, cnf_cg 12 h]
  exact cnf_to 12 hn h0
def wt0 (cA : Nat → Int) (ab : Nat → Bool) (z : wzT) (w : Nat) : Int := if ab w = true then 0 else if z.1 w = -1 then 300 - cA w else z.1 w - cA w
/-- greens that nobody crosses in: their number, whether one has crossed in the last -/
def gnS (L C : Nat → Bool) : Nat → Int × Bool
  | 0 => (0, true)
  | s + 1 => ((gnS L C s).1 + b2 (L s && !(if L s = true then (if s = 0 ∨ L (s - 1) = false then C s else (gnS L C s).2 || C s) else (gnS L C s).2) && (decide (s + 1 = 300) || !L (s + 1))), if L s = true then (if s = 0 ∨ L (s - 1) = false then C s else (gnS L C s).2 || C s) else (gnS L C s).2)
theorem gnS_s (L C : Nat → Bool) (s : Nat) : gnS L C (s + 1) = ((gnS L C s).1 + b2 (L s && !(if L s = true then (if s = 0 ∨ L (s - 1) = false then C s else (gnS L C s).2 || C s) else (gnS L C s).2) && (decide (s + 1 = 300) || !L (s + 1))), if L s = true then (if s = 0 ∨ L (s - 1) = false then C s else (gnS L C s).2 || C s) else (gnS L C s).2) := rfl
theorem gnS_b (L C : Nat → Bool) : ∀ s, 0 ≤ (gnS L C s).1 ∧ (gnS L C s).1 ≤ (s : Int)
  | 0 => ⟨Int.le_refl _, Int.le_refl _⟩
  | s + 1 => by
    have ih := gnS_b L C s
    show 0 ≤ (gnS L C s).1 + b2 _ ∧ (gnS L C s).1 + b2 _ ≤ ((s + 1 : Nat) : Int)
    generalize (L s && !(if L s = true then (if s = 0 ∨ L (s - 1) = false then C s else (gnS L C s).2 || C s) else (gnS L C s).2) && (decide (s + 1 = 300) || !L (s + 1))) = b
    cases b
    · show 0 ≤ (gnS L C s).1 + 0 ∧ (gnS L C s).1 + 0 ≤ ((s + 1 : Nat) : Int)
      omega
    · show 0 ≤ (gnS L C s).1 + 1 ∧ (gnS L C s).1 + 1 ≤ ((s + 1 : Nat) : Int)
      omega
theorem gn_i1 {K : Int → Int → Int → Int} {L : Nat → Bool} {s : Nat} {isG : Nat → Int} {l1 u y : Int} {a : Bool} (hs : s < 300) (hG : ∀ j, j < 300 → isG j = b2 (L j)) (h0 : 0 ≤ l1) (h1 : l1 ≤ 300) (hy : y = b2 a) (hL : L s = true) : F_X10_forNobody_60 isG l1 (s : Int) K u y = K (l1 + b2 (L s && !a && (decide (s + 1 = 300) || !L (s + 1)))) (b2 a) ((s + 1 : Nat) : Int) := by
  unfold F_X10_forNobody_60 F_X10_forNobody_85 F_X10_forNobody_88
  rw [hy, hL]
  cases a
  · rw [show b2 false = 0 from rfl, if_pos rfl, lo_add (by omega) (by omega) (by omega) (by omega) (by omega) (by omega)]
    by_cases q : s + 1 = 300
    · rw [if_pos (show (s : Int) + 1 = 300 from by omega), decide_eq_true q]
      rfl
    · rw [if_neg (show ¬ (s : Int) + 1 = 300 from by omega), decide_eq_false q, show Int.toNat ((s : Int) + 1) = s + 1 from by omega, hG (s + 1) (by omega)]
      cases L (s + 1)
      · rfl
      · rw [show b2 true = 1 from rfl, if_neg (by decide)]
        show K l1 0 ((s : Int) + 1) = K (l1 + 0) 0 ((s + 1 : Nat) : Int)
        rw [Int.add_zero]
        rfl
  · rw [show b2 true = 1 from rfl, if_neg (by decide)]
    show K l1 1 ((s : Int) + 1) = K (l1 + 0) 1 ((s + 1 : Nat) : Int)
    rw [Int.add_zero]
    rfl
theorem gn_i2 {K : Int → Int → Int → Int} {L C : Nat → Bool} {s : Nat} {isG ci : Nat → Int} {l1 : Int} {a : Bool} (hs : s < 300) (hG : ∀ j, j < 300 → isG j = b2 (L j)) (hC : ∀ j, j < 300 → ci j = b2 (C j)) (h0 : 0 ≤ l1) (h1 : l1 ≤ 300) (hL : L s = true) : F_X10_forNobody_42 isG ci l1 (s : Int) K (b2 a) = K (l1 + b2 (L s && !(a || C s) && (decide (s + 1 = 300) || !L (s + 1)))) (b2 (a || C s)) ((s + 1 : Nat) : Int) := by
  unfold F_X10_forNobody_42 F_X10_forNobody_55
  cases a
  · rw [show b2 false = 0 from rfl, if_pos rfl, Int.toNat_natCast, hC s hs, Bool.false_or]
    cases C s
    · rw [show b2 false = 0 from rfl, if_pos rfl]
      exact gn_i1 (a := false) hs hG h0 h1 rfl hL
    · rw [show b2 true = 1 from rfl, if_neg (by decide)]
      exact gn_i1 (a := true) hs hG h0 h1 rfl hL
  · rw [show b2 true = 1 from rfl, if_neg (by decide), Bool.true_or]
    exact gn_i1 (a := true) hs hG h0 h1 rfl hL
theorem gn_m {L C : Nat → Bool} {isG ci : Nat → Int} (hG : ∀ j, j < 300 → isG j = b2 (L j)) (hC : ∀ j, j < 300 → ci j = b2 (C j)) : ∀ (f s : Nat), s ≤ 300 → 300 - s < f → F_X10_forNobody_6 isG ci f (gnS L C s).1 (b2 (gnS L C s).2) (s : Int) = (gnS L C 300).1 := by
  intro f
  induction f with
  | zero => intro s h1 h2; omega
  | succ f ih =>
    intro s h1 h2
    show F_X10_forNobody_6b isG ci (F_X10_forNobody_6 isG ci f) (gnS L C s).1 (b2 (gnS L C s).2) (s : Int) = _
    unfold F_X10_forNobody_6b
    by_cases q : s = 300
    · rw [if_pos (by omega), q]
    · have hb := gnS_b L C s
      have hs : s < 300 := by omega
      rw [if_neg (by omega), Int.toNat_natCast, hG s hs]
      have hn := ih (s + 1) (by omega) (by omega)
      rw [gnS_s L C s] at hn
      cases e : L s
      · rw [show b2 false = 0 from rfl, if_pos rfl]
        rw [e] at hn
        unfold F_X10_forNobody_88
        rw [if_neg (show ¬ false = true from by decide), Bool.false_and, Bool.false_and] at hn
        rw [← hn]
        show F_X10_forNobody_6 isG ci f (gnS L C s).1 (b2 (gnS L C s).2) ((s : Int) + 1) = F_X10_forNobody_6 isG ci f ((gnS L C s).1 + 0) (b2 (gnS L C s).2) ((s + 1 : Nat) : Int)
        rw [Int.add_zero]
        rfl
      · rw [show b2 true = 1 from rfl, if_neg (show ¬ (1 : Int) = 0 from by decide)]
        rw [if_pos e] at hn
        unfold F_X10_forNobody_40
        by_cases q0 : s = 0
        · rw [if_pos (by omega)]
          rw [if_pos (Or.inl q0)] at hn
          have hx := gn_i2 (K := F_X10_forNobody_6 isG ci f) (a := false) hs hG hC hb.1 (by omega) e
          rw [Bool.false_or] at hx
          exact hx.trans hn
        · rw [if_neg (by omega), show Int.toNat ((s : Int) - 1) = s - 1 from by omega, hG (s - 1) (by omega)]
          cases e2 : L (s - 1)
          · rw [show b2 false = 0 from rfl, if_pos rfl]
            rw [if_pos (Or.inr e2)] at hn
            have hx := gn_i2 (K := F_X10_forNobody_6 isG ci f) (a := false) hs hG hC hb.1 (by omega) e
            rw [Bool.false_or] at hx
            exact hx.trans hn
          · rw [show b2 true = 1 from rfl, if_neg (show ¬ (1 : Int) = 0 from by decide)]
            rw [if_neg (show ¬ (s = 0 ∨ L (s - 1) = false) from fun r => r.elim q0 (fun r => Bool.noConfusion (e2.symm.trans r)))] at hn
            exact (gn_i2 (K := F_X10_forNobody_6 isG ci f) hs hG hC hb.1 (by omega) e).trans hn
theorem gn_x {L C : Nat → Bool} {isG ci : Nat → Int} (hG : ∀ j, j < 300 → isG j = b2 (L j)) (hC : ∀ j, j < 300 → ci j = b2 (C j)) : F_X10_forNobody isG ci = (gnS L C 300).1 := gn_m hG hC 302 0 (Nat.zero_le _) (by decide)
/-- the class's -/
theorem sc_run {nW s : Nat} {z : wzT} {leaves : Nat → Int} {cr : Int} (hn : nW ≤ 12) (hl : ∀ w, w < 12 → leaves w = z.1 w) (hc : rg cr ∧ ∀ w, w < 12 → bt cr w = decide (z.2.1 w = 1)) : ∀ (f k : Nat), k ≤ nW → nW - k < f → (∀ w, w < k → ¬ (z.1 w = (s : Int) ∧ z.2.1 w = 1)) → F_X7_someoneCrosses_2 (nW : Int) leaves cr (s : Int) f (k : Int) = b2 (cin nW z s) := by
  intro f
  induction f with
  | zero => intro k h1 h2; omega
  | succ f ih =>
    intro k h1 h2 h3
    show F_X7_someoneCrosses_2b (nW : Int) leaves cr (s : Int) (F_X7_someoneCrosses_2 (nW : Int) leaves cr (s : Int) f) (k : Int) = _
    unfold F_X7_someoneCrosses_2b F_X7_someoneCrosses_37
    by_cases q : k = nW
    · rw [if_pos (by omega)]
      have e : cin nW z s = false := by
        cases x : cin nW z s
        · rfl
        · obtain ⟨w, y1, y2, y3⟩ := cin_i.mp x
          exact absurd ⟨y2, y3⟩ (h3 w (by omega))
      rw [e]
      rfl
    · have hg := ih (k + 1) (by omega) (by omega)
      rw [if_neg (by omega), Int.toNat_natCast, hl k (by omega)]
      have hR := hc.1
      by_cases q2 : z.1 k = (s : Int)
      · rw [if_pos q2, bt_bit hR.1 (show cr < 2147483648 from by have := hR.2; omega) (by omega), hc.2 k (by omega)]
        by_cases q3 : z.2.1 k = 1
        · rw [decide_eq_true q3, show b2 true = 1 from rfl, if_pos rfl, cin_i.mpr ⟨k, by omega, q2, q3⟩]
          rfl
        · rw [decide_eq_false q3, show b2 false = 0 from rfl, if_neg (by decide)]
          exact hg (fun w hw r => by
            by_cases x : w = k
            · rw [x] at r
              exact q3 r.2
            · exact h3 w (by omega) r)
      · rw [if_neg q2]
        exact hg (fun w hw r => by
          by_cases x : w = k
          · rw [x] at r
            exact q2 r.1
          · exact h3 w (by omega) r)
/-- is a green on from the second before to this one -/
def opnG (L : Nat → Bool) (s : Nat) : Bool := decide (0 < s) && decide (s < 300) && L (s - 1) && L s
theorem gn_c {nW : Nat} {z : wzT} {L : Nat → Bool} {left leaves : Nat → Int} {cr : Int} (hn : nW ≤ 12) (hl : ∀ w, w < 12 → leaves w = z.1 w) (hc : rg cr ∧ ∀ w, w < 12 → bt cr w = decide (z.2.1 w = 1)) (hL : ∀ j, j < 300 → 0 ≤ left j ∧ L j = decide (0 < left j)) : ∀ (f s : Nat) (n sv : Int), s ≤ 300 → 300 - s < f → n = (gnS L (cin nW z) s).1 + b2 (opnG L s && !(gnS L (cin nW z) s).2) → (opnG L s = true → sv = b2 (gnS L (cin nW z) s).2) → F_X7_greensForNobody_6 (nW : Int) left leaves cr f n sv (s : Int) = (gnS L (cin nW z) 300).1 := by
  intro f
  induction f with
  | zero => intro s n sv h1 h2; omega
  | succ f ih =>
    intro s n sv h1 h2 hN hS
    show F_X7_greensForNobody_6b (nW : Int) left leaves cr (F_X7_greensForNobody_6 (nW : Int) left leaves cr f) n sv (s : Int) = _
    unfold F_X7_greensForNobody_6b
    by_cases q : s = 300
    · rw [if_pos (by omega), hN]
      have e : opnG L s = false := by
        unfold opnG
        rw [decide_eq_false (show ¬ s < 300 from by omega), Bool.and_false, Bool.false_and, Bool.false_and]
      rw [e, q, Bool.false_and]
      exact Int.add_zero _
    · have hs : s < 300 := by omega
      have hb := gnS_b L (cin nW z) s
      have hl0 := hL s hs
      have hsc : F_X7_someoneCrosses_2 (nW : Int) leaves cr (s : Int) 14 (0 : Int) = b2 (cin nW z s) := sc_run (s := s) hn hl hc 14 0 (Nat.zero_le _) (by omega) (fun w hw => absurd hw (Nat.not_lt_zero w))
      have hn1 : 0 ≤ n ∧ n ≤ 301 := by
        rw [hN]
        cases (opnG L s && !(gnS L (cin nW z) s).2)
        · show 0 ≤ (gnS L (cin nW z) s).1 + 0 ∧ (gnS L (cin nW z) s).1 + 0 ≤ 301
          omega
        · show 0 ≤ (gnS L (cin nW z) s).1 + 1 ∧ (gnS L (cin nW z) s).1 + 1 ≤ 301
          omega
      have hnx := fun n' sv' => ih (s + 1) n' sv' (by omega) (by omega)
      have eo : opnG L (s + 1) = (decide (s + 1 < 300) && L s && L (s + 1)) := by
        unfold opnG
        rw [decide_eq_true (show 0 < s + 1 from by omega), Bool.true_and, Nat.add_sub_cancel]
      rw [if_neg (by omega), Int.toNat_natCast]
      unfold F_X7_greensForNobody_41 F_X7_greensForNobody_37 F_X7_greensForNobody_42
      cases e : L s
      · have hz : ¬ 0 < left s := of_decide_eq_false (hl0.2.symm.trans e)
        rw [if_pos (show left s ≤ 0 from by omega), if_pos rfl]
        unfold F_X7_greensForNobody_54 F_X7_greensForNobody_80
        rw [Int.toNat_natCast, if_pos (show left s ≤ 0 from by omega)]
        have e9 : opnG L s = false := by
          unfold opnG
          rw [e, Bool.and_false]
        refine hnx n sv ?_ (fun r => ?_)
        · rw [hN, e9, eo, e]
          rw [gnS_s L (cin nW z) s, e, Bool.false_and, Bool.false_and, Bool.false_and, Bool.and_false, Bool.false_and, Bool.false_and]
          show (gnS L (cin nW z) s).1 + 0 = (gnS L (cin nW z) s).1 + 0 + 0
          omega
        · rw [eo, e, Bool.and_false, Bool.false_and] at r
          exact Bool.noConfusion r
      · have hz : 0 < left s := of_decide_eq_true (hl0.2.symm.trans e)
        rw [if_neg (show ¬ left s ≤ 0 from by omega)]
        -- how it goes on from what is counted and who has been served
        have go : ∀ (n1 : Int) (a : Bool), 0 ≤ n1 → n1 ≤ 302 → (gnS L (cin nW z) (s + 1)).2 = (a || cin nW z s) → n1 - b2 (!a && cin nW z s) = (gnS L (cin nW z) (s + 1)).1 + b2 (opnG L (s + 1) && !(gnS L (cin nW z) (s + 1)).2) → ∀ u, F_X7_greensForNobody_54 (nW : Int) left leaves cr (s : Int) (F_X7_greensForNobody_6 (nW : Int) left leaves cr f) u n1 (b2 a) = (gnS L (cin nW z) 300).1 := by
          intro n1 a k1 k2 k3 k4 u
          unfold F_X7_greensForNobody_54 F_X7_greensForNobody_80 F_X7_someoneCrosses
          rw [Int.toNat_natCast, if_neg (show ¬ left s ≤ 0 from by omega), lf_b_e, hsc]
          cases a
          · rw [show b2 false = 0 from rfl, if_pos rfl]
            cases c : cin nW z s
            · rw [show b2 false = 0 from rfl, if_pos rfl]
              rw [c] at k3 k4
              refine hnx n1 0 ?_ (fun _ => ?_)
              · rw [← k4]
                show n1 = n1 - 0
                omega
              · rw [k3]
                rfl
            · rw [show b2 true = 1 from rfl, if_neg (show ¬ (1 : Int) = 0 from by decide), lo_add (by omega) (by omega) (by omega) (by omega) (by omega) (by omega)]
              rw [c] at k3 k4
              refine hnx (n1 + -1) 1 ?_ (fun _ => ?_)
              · rw [← k4]
                show n1 + -1 = n1 - 1
                omega
              · rw [k3]
                rfl
          · rw [show b2 true = 1 from rfl, if_neg (show ¬ (1 : Int) = 0 from by decide)]
            refine hnx n1 1 ?_ (fun _ => ?_)
            · rw [← k4]
              show n1 = n1 - 0
              omega
            · rw [k3]
              rfl
        have e2 : (gnS L (cin nW z) (s + 1)).2 = if s = 0 ∨ L (s - 1) = false then cin nW z s else (gnS L (cin nW z) s).2 || cin nW z s := by
          show (if L s = true then _ else _) = _
          rw [if_pos e]
        have e1 : (gnS L (cin nW z) (s + 1)).1 + b2 (opnG L (s + 1) && !(gnS L (cin nW z) (s + 1)).2) = (gnS L (cin nW z) s).1 + b2 (!(gnS L (cin nW z) (s + 1)).2) := by
          have e3 : (gnS L (cin nW z) (s + 1)).1 = (gnS L (cin nW z) s).1 + b2 (L s && !(gnS L (cin nW z) (s + 1)).2 && (decide (s + 1 = 300) || !L (s + 1))) := rfl
          rw [e3, eo, e]
          cases (gnS L (cin nW z) (s + 1)).2
          · by_cases q3 : s + 1 = 300
            · rw [decide_eq_true q3, decide_eq_false (show ¬ s + 1 < 300 from by omega)]
              show (gnS L (cin nW z) s).1 + 1 + 0 = (gnS L (cin nW z) s).1 + 1
              omega
            · rw [decide_eq_false q3, decide_eq_true (show s + 1 < 300 from by omega)]
              cases L (s + 1)
              · show (gnS L (cin nW z) s).1 + 1 + 0 = (gnS L (cin nW z) s).1 + 1
                omega
              · show (gnS L (cin nW z) s).1 + 0 + 1 = (gnS L (cin nW z) s).1 + 1
                omega
          · rw [Bool.not_true, Bool.and_false, Bool.and_false, Bool.false_and]
            show (gnS L (cin nW z) s).1 + 0 + 0 = (gnS L (cin nW z) s).1 + 0
            omega
        have st : (s = 0 ∨ L (s - 1) = false) → F_X7_greensForNobody_54 (nW : Int) left leaves cr (s : Int) (F_X7_greensForNobody_6 (nW : Int) left leaves cr f) 1 (lf_o lf_iadd n 1) 0 = (gnS L (cin nW z) 300).1 := by
          intro r
          have e9 : opnG L s = false := by
            unfold opnG
            rcases r with r | r
            · rw [decide_eq_false (show ¬ 0 < s from by omega)]
              rfl
            · rw [r, Bool.and_false, Bool.false_and]
          have hn2 : n = (gnS L (cin nW z) s).1 := by
            rw [hN, e9]
            exact Int.add_zero _
          rw [if_pos r] at e2
          rw [lo_add (by omega) (by omega) (by omega) (by omega) (by omega) (by omega)]
          refine go (n + 1) false (by omega) (by omega) (by rw [e2, Bool.false_or]) ?_ 1
          rw [e1, e2, hn2]
          cases cin nW z s
          · show (gnS L (cin nW z) s).1 + 1 - 0 = (gnS L (cin nW z) s).1 + 1
            omega
          · show (gnS L (cin nW z) s).1 + 1 - 1 = (gnS L (cin nW z) s).1 + 0
            omega
        by_cases q0 : s = 0
        · rw [if_pos (show (s : Int) = 0 from by omega), if_neg (show ¬ (1 : Int) = 0 from by decide)]
          exact st (Or.inl q0)
        · rw [if_neg (show ¬ (s : Int) = 0 from by omega), show Int.toNat ((s : Int) - 1) = s - 1 from by omega]
          have hp := hL (s - 1) (by omega)
          cases e5 : L (s - 1)
          · have : ¬ 0 < left (s - 1) := of_decide_eq_false (hp.2.symm.trans e5)
            rw [if_pos (show left (s - 1) = 0 from by omega), if_neg (show ¬ (1 : Int) = 0 from by decide)]
            exact st (Or.inr e5)
          · have : 0 < left (s - 1) := of_decide_eq_true (hp.2.symm.trans e5)
            rw [if_neg (show ¬ left (s - 1) = 0 from by omega), if_pos rfl]
            have e9 : opnG L s = true := by
              unfold opnG
              rw [e5, e, decide_eq_true (show 0 < s from by omega), decide_eq_true hs]
              rfl
            rw [if_neg (show ¬ (s = 0 ∨ L (s - 1) = false) from fun r => r.elim q0 (fun r => Bool.noConfusion (e5.symm.trans r)))] at e2
            rw [hS e9]
            refine go n (gnS L (cin nW z) s).2 hn1.1 (by omega) e2 ?_ 0
            rw [e1, e2, hN, e9]
            cases (gnS L (cin nW z) s).2
            · cases cin nW z s
              · show (gnS L (cin nW z) s).1 + 1 - 0 = (gnS L (cin nW z) s).1 + 1
                omega
              · show (gnS L (cin nW z) s).1 + 1 - 1 = (gnS L (cin nW z) s).1 + 0
                omega
            · show (gnS L (cin nW z) s).1 + 0 - 0 = (gnS L (cin nW z) s).1 + 0
              omega
theorem gn_cx {nW : Nat} {z : wzT} {L : Nat → Bool} {left leaves : Nat → Int} {cr : Int} (hn : nW ≤ 12) (hl : ∀ w, w < 12 → leaves w = z.1 w) (hc : rg cr ∧ ∀ w, w < 12 → bt cr w = decide (z.2.1 w = 1)) (hL : ∀ j, j < 300 → 0 ≤ left j ∧ L j = decide (0 < left j)) : F_X7_greensForNobody (nW : Int) left leaves cr = (gnS L (cin nW z) 300).1 := gn_c hn hl hc hL 302 0 0 0 (Nat.zero_le _) (by decide) rfl (fun r => Bool.noConfusion r)
/-- what stands of a walk -/
def zOK (nW : Nat) (cA : Nat → Int) (z : wzT) : Prop := (∀ w, w < nW → (0 ≤ cA w ∧ cA w < 200) ∧ (z.1 w = -1 ∨ (cA w ≤ z.1 w ∧ z.1 w < 300))) ∧ ∀ w, (z.1 w = -1 ↔ z.2.1 w = 0) ∧ (0 ≤ z.2.1 w ∧ z.2.1 w ≤ 3) ∧ (nW ≤ w → z.2.1 w = 0)
theorem zOK_S {nW : Nat} {cA pcw : Nat → Int} {ab : Nat → Bool} {lf gp : Nat → Int} {G : Nat → Nat → Int → Bool} (hc : ∀ w, w < nW → 0 ≤ cA w ∧ cA w < 200) : zOK nW cA (wzS nW cA pcw ab lf gp G 300) := by
  have h := spI_S (nW := nW) (cA := cA) (pcw := pcw) (ab := ab) (lf := lf) (gp := gp) (G := G) 300
  refine ⟨fun w hw => ⟨hc w hw, ?_⟩, fun w => ⟨(h.1 w).1, (h.1 w).2.1, fun r => ?_⟩⟩
  · by_cases q : (wzS nW cA pcw ab lf gp G 300).1 w = -1
    · exact Or.inl q
    · have := (h.1 w).2.2 q
      exact Or.inr ⟨this.2.2.2.1, by omega⟩
  · by_cases q : (wzS nW cA pcw ab lf gp G 300).1 w = -1
    · exact ((h.1 w).1).mp q
    · have := ((h.1 w).2.2 q).1
      omega
theorem wt0_b {nW : Nat} {cA : Nat → Int} {ab : Nat → Bool} {z : wzT} (h : zOK nW cA z) : ∀ w, w < nW → 0 ≤ wt0 cA ab z w ∧ wt0 cA ab z w ≤ 300 := by
  intro w hw
  obtain ⟨h1, h2⟩ := h.1 w hw
  unfold wt0
  by_cases a : ab w = true
  · rw [if_pos a]
    omega
  · rw [if_neg a]
    by_cases b : z.1 w = -1
    · rw [if_pos b]
      omega
    · rw [if_neg b]
      omega
theorem wa_m {nW : Nat} {many wt f : Nat → Int} (hm : many 3 = (nW : Int)) (hn : nW ≤ 12) (hw : ∀ w, w < nW → wt w = f w) (hb : ∀ w, w < nW → 0 ≤ f w ∧ f w ≤ 300) : F_X10_waitedAll many wt = snm f nW := by
  have run : ∀ (n k : Nat), k ≤ nW → nW - k < n → F_X10_waitedAll_4 many wt n (snm f k) (k : Int) = snm f nW := by
    intro n
    induction n with
    | zero => intro k h1 h2; omega
    | succ n ih =>
      intro k h1 h2
      show F_X10_waitedAll_4b many wt (F_X10_waitedAll_4 many wt n) (snm f k) (k : Int) = _
      unfold F_X10_waitedAll_4b
      rw [lf_b_e, hm]
      by_cases q : k = nW
      · rw [if_pos (by omega), q]
      · have h3 := snm_b k (fun w hw' => hb w (by omega))
        have h4 := hb k (by omega)
        rw [if_neg (by omega), Int.toNat_natCast, hw k (by omega), lo_add (by omega) (by omega) (by omega) (by omega) (by omega) (by omega)]
        exact ih (k + 1) (by omega) (by omega)
  exact run 14 0 (Nat.zero_le _) (by omega)
theorem wb_c {nW w : Nat} {cA leaves : Nat → Int} {z : wzT} {ab : Nat → Bool} (h : zOK nW cA z) (hl : ∀ w, w < 12 → leaves w = z.1 w) (hn : nW ≤ 12) (hw : w < nW) (ha : ab w = false) : F_X7_waitedBy cA leaves (w : Int) = wt0 cA ab z w := by
  obtain ⟨h1, h2⟩ := h.1 w hw
  unfold F_X7_waitedBy F_X7_waitedBy_22 wt0
  rw [Int.toNat_natCast, hl w (by omega), ha, if_neg (show ¬ false = true from by decide)]
  by_cases b : z.1 w = -1
  · rw [if_pos b, if_pos b, lo_sub (by omega) (by omega) (by omega) (by omega) (by omega) (by omega)]
  · rw [if_neg b, if_neg b, lo_sub (by omega) (by omega) (by omega) (by omega) (by omega) (by omega)]
theorem wa_c {nW : Nat} {cA leaves : Nat → Int} {z : wzT} {ab : Nat → Bool} {A : Int} (h : zOK nW cA z) (hl : ∀ w, w < 12 → leaves w = z.1 w) (hn : nW ≤ 12) (hA : rg A) (hA2 : ∀ w, w < 12 → bt A w = ab w) : F_X7_waitedByAll (nW : Int) cA A leaves = snm (wt0 cA ab z) nW := by
  have run : ∀ (n k : Nat), k ≤ nW → nW - k < n → F_X7_waitedByAll_4 (nW : Int) cA A leaves n (snm (wt0 cA ab z) k) (k : Int) = snm (wt0 cA ab z) nW := by
    intro n
    induction n with
    | zero => intro k h1 h2; omega
    | succ n ih =>
      intro k h1 h2
      show F_X7_waitedByAll_4b (nW : Int) cA A leaves (F_X7_waitedByAll_4 (nW : Int) cA A leaves n) (snm (wt0 cA ab z) k) (k : Int) = _
      unfold F_X7_waitedByAll_4b F_X7_waitedByAll_34
      by_cases q : k = nW
      · rw [if_pos (by omega), q]
      · have h3 := snm_b k (fun w hw' => wt0_b (ab := ab) h w (by omega))
        have h4 := wt0_b (ab := ab) h k (by omega)
        have hR := hA
        have hx := ih (k + 1) (by omega) (by omega)
        rw [if_neg (by omega), bt_bit hR.1 (show A < 2147483648 from by have := hR.2; omega) (by omega), hA2 k (by omega), lf_b_e]
        cases a : ab k
        · rw [show b2 false = 0 from rfl, if_pos rfl, wb_c h hl hn (by omega) a, lo_add (by omega) (by omega) (by omega) (by omega) (by omega) (by omega)]
          exact hx
        · rw [show b2 true = 1 from rfl, if_neg (show ¬ (1 : Int) = 0 from by decide)]
          have e : wt0 cA ab z k = 0 := if_pos a
          have e2 : snm (wt0 cA ab z) (k + 1) = snm (wt0 cA ab z) k := by
            show snm (wt0 cA ab z) k + wt0 cA ab z k = _
            rw [e]
            exact Int.add_zero _
          rw [e2] at hx
          exact hx
  exact run 14 0 (Nat.zero_le _) (by omega)
theorem ct_m {nW : Nat} {a : Nat → Int} {f : Nat → Bool} (hn : nW ≤ 12) (hw : ∀ w, w < nW → a w = b2 (f w)) : F_X10_counted a (nW : Int) = cnf f nW := by
  have run : ∀ (n k : Nat), k ≤ nW → nW - k < n → F_X10_counted_4 a (nW : Int) n (cnf f k) (k : Int) = cnf f nW := by
    intro n
    induction n with
    | zero => intro k h1 h2; omega
    | succ n ih =>
      intro k h1 h2
      show F_X10_counted_4b a (nW : Int) (F_X10_counted_4 a (nW : Int) n) (cnf f k) (k : Int) = _
      unfold F_X10_counted_4b F_X10_counted_18
      by_cases q : k = nW
      · rw [if_pos (by omega), q]
      · have h3 := cnf_le f k
        have hx := ih (k + 1) (by omega) (by omega)
        rw [if_neg (by omega), Int.toNat_natCast, hw k (by omega)]
        have e2 : cnf f (k + 1) = cnf f k + b2 (f k) := rfl
        rw [e2] at hx
        cases e : f k
        · rw [show b2 false = 0 from rfl, if_pos rfl]
          rw [e, show b2 false = 0 from rfl, Int.add_zero] at hx
          exact hx
        · rw [show b2 true = 1 from rfl, if_neg (show ¬ (1 : Int) = 0 from by decide), lo_add (by omega) (by omega) (by omega) (by omega) (by omega) (by omega)]
          rw [e] at hx
          exact hx
  exact run 14 0 (Nat.zero_le _) (by omega)
theorem nc_m {nW : Nat} {many a : Nat → Int} {f : Nat → Bool} (hm : many 3 = (nW : Int)) (hn : nW ≤ 12) (hw : ∀ w, w < nW → a w = b2 (f w)) : F_X10_notCrossed many a = cnf f nW := by
  have run : ∀ (n k : Nat), k ≤ nW → nW - k < n → F_X10_notCrossed_4 many a n (cnf f k) (k : Int) = cnf f nW := by
    intro n
    induction n with
    | zero => intro k h1 h2; omega
    | succ n ih =>
      intro k h1 h2
      show F_X10_notCrossed_4b many a (F_X10_notCrossed_4 many a n) (cnf f k) (k : Int) = _
      unfold F_X10_notCrossed_4b F_X10_notCrossed_24
      rw [lf_b_e, hm]
      by_cases q : k = nW
      · rw [if_pos (by omega), q]
      · have h3 := cnf_le f k
        have hx := ih (k + 1) (by omega) (by omega)
        rw [if_neg (by omega), Int.toNat_natCast, hw k (by omega)]
        have e2 : cnf f (k + 1) = cnf f k + b2 (f k) := rfl
        rw [e2] at hx
        cases e : f k
        · rw [show b2 false = 0 from rfl, if_pos rfl]
          rw [e, show b2 false = 0 from rfl, Int.add_zero] at hx
          exact hx
        · rw [show b2 true = 1 from rfl, if_neg (show ¬ (1 : Int) = 0 from by decide), lo_add (by omega) (by omega) (by omega) (by omega) (by omega) (by omega)]
          rw [e] at hx
          exact hx
  exact run 14 0 (Nat.zero_le _) (by omega)
def tdS (nW : Nat) (cA tw : Nat → Int) (ab : Nat → Bool) (cy ls ru gr : Int) (z : wzT) (what : Int) : Int := if what = 0 then snm (wt0 cA ab z) nW else if what = 1 then cnf (fun w => decide (2 ≤ z.2.1 w)) nW else if what = 2 then cnf (fun w => decide (z.2.1 w = 3)) nW else if what = 3 then cnf (fun w => !ab w && decide (z.1 w = -1)) nW else if what = 4 then (gnS (fun j => decide (0 < lef nW cA tw ab cy ls ru gr j)) (cin nW z) 300).1 else cnf (fun w => prS nW cA tw ab cy ls ru gr w) nW
section TD
variable {nW : Nat} {cA tw : Nat → Int} {ab : Nat → Bool} {cy ls ru gr : Int} {z : wzT}
/-- the model's -/
theorem td_m {many isH cr wt go hm pr2 ci isG : Nat → Int} {what : Int} (h : dF nW cA tw ab cy ls ru gr z isH cr wt go hm pr2 ci isG) (hz : zOK nW cA z) (hm3 : many 3 = (nW : Int)) (hn : nW ≤ 12) (hp : 0 ≤ what ∧ what ≤ 5) : F_X10_toldOfDay many isG isH wt go hm pr2 ci what = tdS nW cA tw ab cy ls ru gr z what := by
  unfold F_X10_toldOfDay tdS F_X10_walkerMany
  rw [lf_b_e, lf_b_e, lf_b_e, lf_b_e, lf_b_e, lf_b_e, lf_b_e, lf_b_e, lf_b_e, hm3]
  by_cases q0 : what = 0
  · rw [if_pos q0, if_pos q0]
    exact wa_m hm3 hn (fun w hw => (h.1 w hw).2.2.1) (wt0_b hz)
  · rw [if_neg q0, if_neg q0]
    by_cases q1 : what = 1
    · rw [if_pos q1, if_pos q1]
      exact ct_m hn (fun w hw => (h.1 w hw).2.2.2.1)
    · rw [if_neg q1, if_neg q1]
      by_cases q2 : what = 2
      · rw [if_pos q2, if_pos q2]
        exact ct_m hn (fun w hw => (h.1 w hw).2.2.2.2.1)
      · rw [if_neg q2, if_neg q2]
        by_cases q3 : what = 3
        · rw [if_pos q3, if_pos q3]
          exact nc_m hm3 hn (fun w hw => (h.1 w hw).1)
        · rw [if_neg q3, if_neg q3]
          by_cases q4 : what = 4
          · rw [if_pos q4, if_pos q4]
            exact gn_x (fun j hj => (h.2 j hj).2) (fun j hj => (h.2 j hj).1)
          · rw [if_neg q4, if_neg q4]
            exact ct_m hn (fun w hw => (h.1 w hw).2.2.2.2.2)
theorem td_m0 {many isH cr wt go hm pr2 ci isG : Nat → Int} (h : dF nW cA tw ab cy ls ru gr z isH cr wt go hm pr2 ci isG) (hz : zOK nW cA z) (hm3 : many 3 = (nW : Int)) (hn : nW ≤ 12) : F_X10_waitedAll many wt = tdS nW cA tw ab cy ls ru gr z 0 := wa_m hm3 hn (fun w hw => (h.1 w hw).2.2.1) (wt0_b hz)
/-- the class's -/
theorem td_c {left leaves : Nat → Int} {A pr2 cr we ha what : Int} (hz : zOK nW cA z) (hn : nW ≤ 12) (hA : rg A) (hA2 : ∀ w, w < 12 → bt A w = ab w) (hl : ∀ j, j < 300 → left j = lef nW cA tw ab cy ls ru gr j ∧ 0 ≤ left j) (hpr : rg pr2 ∧ ∀ w, w < 12 → bt pr2 w = prS nW cA tw ab cy ls ru gr w) (hcr : rg cr ∧ ∀ w, w < 12 → bt cr w = decide (z.2.1 w = 1)) (hwe : rg we ∧ ∀ w, w < 12 → bt we w = decide (2 ≤ z.2.1 w)) (hha : rg ha ∧ ∀ w, w < 12 → bt ha w = decide (z.2.1 w = 3)) (hlv : ∀ w, w < 12 → leaves w = z.1 w) (hp : 0 ≤ what ∧ what ≤ 5) : F_X7_told (nW : Int) cA A left leaves pr2 cr we ha what = tdS nW cA tw ab cy ls ru gr z what := by
  have hall := rg_all hn
  have n1 := rg_andn hall.1 hA
  have n2 := rg_andn n1.1 hcr.1
  have n3 := rg_andn n2.1 hwe.1
  unfold F_X7_told tdS
  rw [lf_b_e, lf_b_e, lf_b_e, lf_b_e, lf_b_e, lf_b_e, lf_b_e]
  by_cases q0 : what = 0
  · rw [if_pos q0, if_pos q0]
    exact wa_c hz hlv hn hA hA2
  · rw [if_neg q0, if_neg q0]
    by_cases q1 : what = 1
    · rw [if_pos q1, if_pos q1]
      refine bc_c hwe.1 hn hwe.2 (fun w h1 _ => ?_)
      rw [(hz.2 w).2.2 h1]
      rfl
    · rw [if_neg q1, if_neg q1]
      by_cases q2 : what = 2
      · rw [if_pos q2, if_pos q2]
        refine bc_c hha.1 hn hha.2 (fun w h1 _ => ?_)
        rw [(hz.2 w).2.2 h1]
        rfl
      · rw [if_neg q2, if_neg q2]
        by_cases q3 : what = 3
        · rw [if_pos q3, if_pos q3]
          have e : cnf (fun w => !ab w && decide (z.1 w = -1)) nW = cnf (fun w => decide (w < nW) && (!ab w && decide (z.1 w = -1))) nW := cnf_cg nW (fun w hw => by
            rw [decide_eq_true hw, Bool.true_and])
          rw [e]
          refine bc_c n3.1 hn (fun w hw => ?_) (fun w h1 _ => by
            rw [decide_eq_false (show ¬ w < nW from by omega), Bool.false_and])
          rw [n3.2, n2.2, n1.2, hall.2, hA2 w hw, hcr.2 w hw, hwe.2 w hw]
          have hz2 := hz.2 w
          cases decide (w < nW)
          · rfl
          · cases ab w
            · by_cases x : z.1 w = -1
              · rw [hz2.1.mp x, decide_eq_true x]
                rfl
              · have : ¬ z.2.1 w = 0 := fun r => x (hz2.1.mpr r)
                rw [decide_eq_false x]
                by_cases y : z.2.1 w = 1
                · rw [decide_eq_true y]
                  rfl
                · rw [decide_eq_false y, decide_eq_true (show 2 ≤ z.2.1 w from by omega)]
                  rfl
            · rfl
        · rw [if_neg q3, if_neg q3]
          by_cases q4 : what = 4
          · rw [if_pos q4, if_pos q4]
            exact gn_cx hn hlv hcr (fun j hj => ⟨(hl j hj).2, by rw [(hl j hj).1]⟩)
          · rw [if_neg q4, if_neg q4, if_pos (show what = 5 from by omega)]
            refine bc_c hpr.1 hn hpr.2 (fun w h1 _ => ?_)
            unfold prS
            rw [decide_eq_false (show ¬ w < nW from by omega)]
            rfl
theorem td_c0 {leaves : Nat → Int} {A : Int} (hz : zOK nW cA z) (hn : nW ≤ 12) (hA : rg A) (hA2 : ∀ w, w < 12 → bt A w = ab w) (hlv : ∀ w, w < 12 → leaves w = z.1 w) : F_X7_told_a0_0 (nW : Int) cA A leaves = tdS nW cA tw ab cy ls ru gr z 0 := wa_c hz hlv hn hA hA2
theorem td_c2 {ha : Int} (hz : zOK nW cA z) (hn : nW ≤ 12) (hha : rg ha ∧ ∀ w, w < 12 → bt ha w = decide (z.2.1 w = 3)) : F_X7_told_a0_2 ha = tdS nW cA tw ab cy ls ru gr z 2 := by
  show F_J6_bitCount_0f7a4 ha = cnf (fun w => decide (z.2.1 w = 3)) nW
  refine bc_c hha.1 hn hha.2 (fun w h1 _ => ?_)
  rw [(hz.2 w).2.2 h1]
  rfl
end TD
