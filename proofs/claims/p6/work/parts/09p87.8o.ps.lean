/-! behind a DAY: who came learns, on both sides -/
def rhoL (d : Int) (cA clmK pcK kO wt : Nat → Int) (w : Nat) (t : Int) : Int → Int := fun j => if j = 0 then cA w else if j = 1 then d else if j = 3 then wt w else if j = 4 then clmK (kO w).toNat else if j = 5 then pcK (kO w).toNat else if j = 6 then t else 0
noncomputable def lnS (oL : Option (List Int)) (d : Int) (cA clmK pcK kO wt : Nat → Int) (ab : Nat → Bool) (tr : Nat → Int) : Nat → Nat → Int
  | 0 => tr
  | k + 1 => if ab k = true then lnS oL d cA clmK pcK kO wt ab tr k else upn (lnS oL d cA clmK pcK kO wt ab tr k) (kO k).toNat (max 0 (min (lnS oL d cA clmK pcK kO wt ab tr k (kO k).toNat + vlO false 123 oL (rhoL d cA clmK pcK kO wt k (lnS oL d cA clmK pcK kO wt ab tr k (kO k).toNat)) 0) 9))
theorem lnS_s {oL : Option (List Int)} {d : Int} {cA clmK pcK kO wt : Nat → Int} {ab : Nat → Bool} {tr : Nat → Int} {k : Nat} : lnS oL d cA clmK pcK kO wt ab tr (k + 1) = if ab k = true then lnS oL d cA clmK pcK kO wt ab tr k else upn (lnS oL d cA clmK pcK kO wt ab tr k) (kO k).toNat (max 0 (min (lnS oL d cA clmK pcK kO wt ab tr k (kO k).toNat + vlO false 123 oL (rhoL d cA clmK pcK kO wt k (lnS oL d cA clmK pcK kO wt ab tr k (kO k).toNat)) 0) 9)) := rfl
theorem al123 {j : Int} (h0 : 0 ≤ j) (h1 : j < 12) (h : alB 123 j = true) : j = 0 ∨ j = 1 ∨ j = 3 ∨ j = 4 ∨ j = 5 ∨ j = 6 := by
  have a2 : ¬ alB 123 2 = true := by decide +kernel
  have a7 : ¬ alB 123 7 = true := by decide +kernel
  have a8 : ¬ alB 123 8 = true := by decide +kernel
  have a9 : ¬ alB 123 9 = true := by decide +kernel
  have a10 : ¬ alB 123 10 = true := by decide +kernel
  have a11 : ¬ alB 123 11 = true := by decide +kernel
  have n2 : ¬ j = 2 := fun r => a2 (by rw [← r]; exact h)
  have n7 : ¬ j = 7 := fun r => a7 (by rw [← r]; exact h)
  have n8 : ¬ j = 8 := fun r => a8 (by rw [← r]; exact h)
  have n9 : ¬ j = 9 := fun r => a9 (by rw [← r]; exact h)
  have n10 : ¬ j = 10 := fun r => a10 (by rw [← r]; exact h)
  have n11 : ¬ j = 11 := fun r => a11 (by rw [← r]; exact h)
  omega
section PS
variable {nW nK : Nat} {d : Int} {oL : Option (List Int)} {kO cA clmK pcK wt tr : Nat → Int} {ab : Nat → Bool}
/-- bounds -/
def lnB (nW nK : Nat) (d : Int) (kO cA clmK pcK wt tr : Nat → Int) : Prop := nW ≤ 12 ∧ nK ≤ 6 ∧ (0 ≤ d ∧ d ≤ 999) ∧ (∀ w, w < nW → (0 ≤ kO w ∧ kO w < (nK : Int)) ∧ (0 ≤ cA w ∧ cA w < 200) ∧ (0 ≤ wt w ∧ wt w ≤ 300)) ∧ (∀ k, k < nK → (0 ≤ clmK k ∧ clmK k ≤ 99) ∧ (1 ≤ pcK k ∧ pcK k ≤ 20)) ∧ ∀ k, k < nK → 0 ≤ tr k ∧ tr k ≤ 9
theorem rhoL_b {al : Int} {w : Nat} {t : Int} (h : lnB nW nK d kO cA clmK pcK wt tr) (hw : w < nW) (ht : 0 ≤ t ∧ t ≤ 9) : okE al (rhoL d cA clmK pcK kO wt w t) := by
  intro j h0 h1 _
  obtain ⟨b1, b2', b3, b4, b5, b6⟩ := h
  obtain ⟨c1, c2, c3⟩ := b4 w hw
  obtain ⟨e1, e2⟩ := b5 (kO w).toNat (by omega)
  unfold rhoL in6
  by_cases c0 : j = 0
  · rw [if_pos c0]
    omega
  rw [if_neg c0]
  by_cases c1 : j = 1
  · rw [if_pos c1]
    omega
  rw [if_neg c1]
  by_cases c3 : j = 3
  · rw [if_pos c3]
    omega
  rw [if_neg c3]
  by_cases c4 : j = 4
  · rw [if_pos c4]
    omega
  rw [if_neg c4]
  by_cases c5 : j = 5
  · rw [if_pos c5]
    omega
  rw [if_neg c5]
  by_cases c6 : j = 6
  · rw [if_pos c6]
    omega
  rw [if_neg c6]
  omega
theorem lnS_b (h : lnB nW nK d kO cA clmK pcK wt tr) : ∀ k, ∀ i, i < nK → 0 ≤ lnS oL d cA clmK pcK kO wt ab tr k i ∧ lnS oL d cA clmK pcK kO wt ab tr k i ≤ 9
  | 0, i, hi => h.2.2.2.2.2 i hi
  | k + 1, i, hi => by
    have ih := lnS_b h k
    show 0 ≤ (if ab k = true then lnS oL d cA clmK pcK kO wt ab tr k else upn (lnS oL d cA clmK pcK kO wt ab tr k) (kO k).toNat _) i ∧ (if ab k = true then lnS oL d cA clmK pcK kO wt ab tr k else upn (lnS oL d cA clmK pcK kO wt ab tr k) (kO k).toNat _) i ≤ 9
    by_cases a : ab k = true
    · rw [if_pos a]
      exact ih i hi
    · rw [if_neg a]
      by_cases q : i = (kO k).toNat
      · rw [q, upn_y]
        omega
      · rw [upn_o q]
        exact ih i hi
/-- the class's -/
theorem ps_run {code spans leaves : Nat → Int} {A day : Int} (h : lnB nW nK d kO cA clmK pcK wt tr) (hA : rg A) (hA2 : ∀ w, w < 12 → bt A w = ab w) (hX : cdX code spans 4 oL) (hG : cdG false 123 oL) (hw : ∀ w, w < nW → ab w = false → F_X7_waitedBy cA leaves (w : Int) = wt w) (hday : 0 ≤ day ∧ day ≤ 999) : ∀ (n k : Nat) (a6 a8 a13 : Nat → Int), k ≤ nW → nW - k < n → (∀ i, i < nK → a6 i = lnS oL d cA clmK pcK kO wt ab tr k i) → ∃ t2 f2 s2, F_X7_pass_2 clmK pcK (nW : Int) kO cA code spans d A leaves day n (k : Int) a6 a8 a13 = (day + 1, t2, f2, s2) ∧ ∀ i, i < nK → t2 i = lnS oL d cA clmK pcK kO wt ab tr nW i := by
  intro n
  induction n with
  | zero => intro k a6 a8 a13 h1 h2; omega
  | succ n ih =>
    intro k a6 a8 a13 h1 h2 h3
    have e0 : F_X7_pass_2 clmK pcK (nW : Int) kO cA code spans d A leaves day (n + 1) (k : Int) a6 a8 a13 = F_X7_pass_2b clmK pcK (nW : Int) kO cA code spans d A leaves day (F_X7_pass_2 clmK pcK (nW : Int) kO cA code spans d A leaves day n) (k : Int) a6 a8 a13 := rfl
    rw [e0]
    unfold F_X7_pass_2b F_X7_pass_121
    by_cases q : k = nW
    · rw [if_pos (by omega), lo_add (by omega) (by omega) (by omega) (by omega) (by omega) (by omega)]
      refine ⟨a6, a8, a13, rfl, fun i hi => ?_⟩
      rw [h3 i hi, q]
    · have hR := hA
      have hn : nW ≤ 12 := h.1
      rw [if_neg (by omega), bt_bit hR.1 (show A < 2147483648 from by have := hR.2; omega) (by omega), hA2 k (by omega)]
      cases a : ab k with
      | true =>
        rw [if_neg (show ¬ b2 true = 0 from by decide)]
        refine ih (k + 1) a6 a8 a13 (by omega) (by omega) (fun i hi => ?_)
        rw [h3 i hi]
        rw [lnS_s, if_pos a]
      | false =>
        have hk := (h.2.2.2.1 k (by omega)).1
        have hki : (kO k).toNat < nK := by omega
        have hb := lnS_b (oL := oL) (ab := ab) h k (kO k).toNat hki
        rw [if_pos (show b2 false = 0 from rfl), lf_b_e, lf_b_e, hw k (by omega) a, Int.toNat_natCast, h3 (kO k).toNat hki]
        unfold F_X7_describe
        rw [Int.toNat_natCast]
        have hρ := rhoL_b (al := 123) (w := k) h (by omega) hb
        have hv := vX (stack := a13) (κ := 0) (facts := lf_up (lf_up (lf_up (lf_up (lf_up (lf_up a8 (0 : Int) (cA k)) (1 : Int) d) (3 : Int) (wt k)) (4 : Int) (clmK (kO k).toNat)) (5 : Int) (pcK (kO k).toNat)) (6 : Int) (lnS oL d cA clmK pcK kO wt ab tr k (kO k).toNat)) hX hG hρ (fun j j0 j1 ja => by
          rcases al123 j0 j1 ja with x | x | x | x | x | x <;> subst x
          · rw [lf_up_o (by decide), lf_up_o (by decide), lf_up_o (by decide), lf_up_o (by decide), lf_up_o (by decide), lf_up_y (by decide)]
            rfl
          · rw [lf_up_o (by decide), lf_up_o (by decide), lf_up_o (by decide), lf_up_o (by decide), lf_up_y (by decide)]
            rfl
          · rw [lf_up_o (by decide), lf_up_o (by decide), lf_up_o (by decide), lf_up_y (by decide)]
            rfl
          · rw [lf_up_o (by decide), lf_up_o (by decide), lf_up_y (by decide)]
            rfl
          · rw [lf_up_o (by decide), lf_up_y (by decide)]
            rfl
          · rw [lf_up_y (by decide)]
            rfl) (fun r => absurd r (by decide))
        have hvb := (vlO_b (κ := 0) hG hρ).1
        unfold in6 at hvb
        rw [show Int.toNat (4 : Int) = 4 from rfl, show Int.toNat (5 : Int) = 4 + 1 from rfl]
        generalize F_X3_value _ a13 code (spans 4) (spans (4 + 1)) = R at hv ⊢
        obtain ⟨v, s9⟩ := R
        have hv' : v = vlO false 123 oL (rhoL d cA clmK pcK kO wt k (lnS oL d cA clmK pcK kO wt ab tr k (kO k).toNat)) 0 := hv
        rw [lf_p_e, hv', lo_add (by omega) (by omega) (by omega) (by omega) (by omega) (by omega)]
        refine ih (k + 1) _ _ s9 (by omega) (by omega) (fun i hi => ?_)
        rw [lnS_s, if_neg (show ¬ ab k = true from fun r => Bool.noConfusion (a.symm.trans r))]
        by_cases y : i = (kO k).toNat
        · rw [lf_up_y y, y, upn_y]
        · rw [lf_up_o y, upn_o y]
          exact h3 i hi
theorem ps_x {facts stack code spans leaves : Nat → Int} {A day : Int} (h : lnB nW nK d kO cA clmK pcK wt tr) (hA : rg A) (hA2 : ∀ w, w < 12 → bt A w = ab w) (hX : cdX code spans 4 oL) (hG : cdG false 123 oL) (hw : ∀ w, w < nW → ab w = false → F_X7_waitedBy cA leaves (w : Int) = wt w) (hday : 0 ≤ day ∧ day ≤ 999) : ∃ t2 f2 s2, F_X7_pass facts stack clmK pcK (nW : Int) kO cA code spans d A leaves day tr = (day + 1, t2, f2, s2) ∧ ∀ i, i < nK → t2 i = lnS oL d cA clmK pcK kO wt ab tr nW i := ps_run h hA hA2 hX hG hw hday 14 0 tr facts stack (Nat.zero_le _) (by have := h.1; omega) (fun _ _ => rfl)
/-- the model's -/
theorem lr_run {ask red A : Int} {many bar kinds walkers cf ce codes gaps waits go hm : Nat → Int} {nw0 : Nat → Int} (h : lnB nW nK d kO cA clmK pcK wt tr) (hA : rg A) (hA2 : ∀ w, w < 12 → bt A w = ab w) (hM : cdM cf ce codes 5 oL) (hG : cdG false 123 oL) (hm3 : many 3 = (nW : Int)) (hwk : ∀ w, w < nW → walkers (24 + 2 * w) = kO w ∧ walkers (25 + 2 * w) = cA w) (hkd : ∀ k, k < nK → kinds (12 + 2 * k) = clmK k ∧ kinds (13 + 2 * k) = pcK k) (hw : ∀ w, w < nW → waits w = wt w) (h00 : nw0 0 = d) : ∀ (n k : Nat) (c55 c117 : Int) (a4 a6 : Nat → Int), k ≤ nW → nW - k < n → (∀ i, i < nK → a4 (3 + i) = lnS oL d cA clmK pcK kO wt ab tr k i) → (∀ i, i < 3 ∨ 3 + nK ≤ i → a4 i = nw0 i) → ∃ c55' c117' a4' a6', F_X10_learn_2 ask red many bar kinds walkers cf ce codes gaps waits go hm A n (k : Int) c55 c117 a4 a6 = (c55', c117', a4', a6') ∧ (∀ i, i < nK → a4' (3 + i) = lnS oL d cA clmK pcK kO wt ab tr nW i) ∧ ∀ i, i < 3 ∨ 3 + nK ≤ i → a4' i = nw0 i := by
  intro n
  induction n with
  | zero => intro k c55 c117 a4 a6 h1 h2; omega
  | succ n ih =>
    intro k c55 c117 a4 a6 h1 h2 h3 h4
    have e0 : F_X10_learn_2 ask red many bar kinds walkers cf ce codes gaps waits go hm A (n + 1) (k : Int) c55 c117 a4 a6 = F_X10_learn_2b ask red many bar kinds walkers cf ce codes gaps waits go hm A (F_X10_learn_2 ask red many bar kinds walkers cf ce codes gaps waits go hm A n) (k : Int) c55 c117 a4 a6 := rfl
    rw [e0]
    unfold F_X10_learn_2b F_X10_learn_88 F_X10_learn_89
    rw [lf_b_e, hm3]
    by_cases q : k = nW
    · rw [if_pos (by omega)]
      refine ⟨c55, c117, a4, a6, rfl, fun i hi => ?_, h4⟩
      rw [h3 i hi, q]
    · have hR := hA
      have hn : nW ≤ 12 := h.1
      have hn6 : nK ≤ 6 := h.2.1
      have hk := (h.2.2.2.1 k (by omega)).1
      have hki : (kO k).toNat < nK := by omega
      have hb := lnS_b (oL := oL) (ab := ab) h k (kO k).toNat hki
      obtain ⟨w1, w2⟩ := hwk k (by omega)
      have ek : F_X10_kindOf walkers (k : Int) = kO k := by
        unfold F_X10_kindOf
        rw [show Int.toNat ((24 : Int) + ((2 : Int) * (k : Int))) = 24 + 2 * k from by omega, w1]
      have et : F_X10_trustsOf a4 (kO k) = lnS oL d cA clmK pcK kO wt ab tr k (kO k).toNat := by
        unfold F_X10_trustsOf
        rw [show Int.toNat ((3 : Int) + kO k) = 3 + (kO k).toNat from by omega]
        exact h3 _ hki
      rw [if_neg (by omega), bt_bit hR.1 (show A < 2147483648 from by have := hR.2; omega) (by omega), hA2 k (by omega)]
      cases a : ab k with
      | true =>
        rw [if_pos (show b2 true = 1 from rfl)]
        refine ih (k + 1) c55 c117 a4 a6 (by omega) (by omega) (fun i hi => ?_) h4
        rw [h3 i hi]
        rw [lnS_s, if_pos a]
      | false =>
        rw [if_neg (show ¬ b2 false = 1 from by decide)]
        have hρ := rhoL_b (al := 123) (w := k) h (by omega) hb
        have eS : ∀ i, lnS oL d cA clmK pcK kO wt ab tr (k + 1) i = upn (lnS oL d cA clmK pcK kO wt ab tr k) (kO k).toNat (max 0 (min (lnS oL d cA clmK pcK kO wt ab tr k (kO k).toNat + vlO false 123 oL (rhoL d cA clmK pcK kO wt k (lnS oL d cA clmK pcK kO wt ab tr k (kO k).toNat)) 0) 9)) i := by
          intro i
          rw [lnS_s, if_neg (show ¬ ab k = true from fun r => Bool.noConfusion (a.symm.trans r))]
        have fin : ∀ (v c9 c8 : Int) (p9 : Nat → Int), v = max 0 (min (lnS oL d cA clmK pcK kO wt ab tr k (kO k).toNat + vlO false 123 oL (rhoL d cA clmK pcK kO wt k (lnS oL d cA clmK pcK kO wt ab tr k (kO k).toNat)) 0) 9) → ∃ c55' c117' a4' a6', F_X10_learn_2 ask red many bar kinds walkers cf ce codes gaps waits go hm A n ((k : Int) + (1 : Int)) c9 c8 (lf_up a4 ((3 : Int) + kO k) v) p9 = (c55', c117', a4', a6') ∧ (∀ i, i < nK → a4' (3 + i) = lnS oL d cA clmK pcK kO wt ab tr nW i) ∧ ∀ i, i < 3 ∨ 3 + nK ≤ i → a4' i = nw0 i := by
          intro v c9 c8 p9 hv
          refine ih (k + 1) c9 c8 _ p9 (by omega) (by omega) (fun i hi => ?_) (fun i hi => ?_)
          · rw [eS i]
            by_cases y : i = (kO k).toNat
            · rw [lf_up_y (by omega), y, upn_y, hv]
            · rw [lf_up_o (by omega), upn_o y]
              exact h3 i hi
          · rw [lf_up_o (by omega)]
            exact h4 i hi
        cases oL with
        | none =>
          have hM' : cf 5 = -1 := hM
          rw [if_pos hM']
          refine ih (k + 1) c55 c117 a4 a6 (by omega) (by omega) (fun i hi => ?_) h4
          rw [eS i, h3 i hi]
          by_cases y : i = (kO k).toNat
          · rw [y, upn_y]
            show _ = max 0 (min (_ + (0 : Int)) 9)
            omega
          · rw [upn_o y]
        | some L =>
          obtain ⟨i0, i1, i2, i3, i4⟩ := hM
          have hv := (vlu_s (κ := 0) hG hρ).2
          have hvb := (vlO_b (κ := 0) (o := some L) hG hρ).1
          have e := vm_val2 (ask := ask) (red := red) (bar := bar) (kd := kinds) (wk := walkers) (nw := a4) (gp := gaps) (wt := waits) (go := go) (hm := hm) (p1 := (k : Int)) (pile := a6) (fun j j0 j1 ja => by
            rcases al123 j0 j1 ja with x | x | x | x | x | x <;> subst x
            · show walkers (Int.toNat ((25 : Int) + ((2 : Int) * (k : Int)))) = cA k
              rw [show Int.toNat ((25 : Int) + ((2 : Int) * (k : Int))) = 25 + 2 * k from by omega, w2]
            · show a4 0 = d
              rw [h4 0 (by omega)]
              exact h00
            · show waits (Int.toNat (k : Int)) = wt k
              rw [Int.toNat_natCast]
              exact hw k (by omega)
            · show lf_b (F_X10_kindOf walkers (k : Int)) (fun r25 => kinds (Int.toNat ((12 : Int) + ((2 : Int) * r25)))) = clmK (kO k).toNat
              rw [lf_b_e, ek, show Int.toNat ((12 : Int) + ((2 : Int) * kO k)) = 12 + 2 * (kO k).toNat from by omega]
              exact (hkd _ hki).1
            · show lf_b (F_X10_paceOf kinds walkers (k : Int)) (fun r38 => r38) = pcK (kO k).toNat
              rw [lf_b_e]
              unfold F_X10_paceOf
              rw [lf_b_e, ek, show Int.toNat ((13 : Int) + ((2 : Int) * kO k)) = 13 + 2 * (kO k).toNat from by omega]
              exact (hkd _ hki).2
            · show lf_b (F_X10_kindOf walkers (k : Int)) (fun r42 => lf_b (F_X10_trustsOf a4 r42) (fun r46 => r46)) = _
              rw [lf_b_e, ek, lf_b_e, et]
              rfl) (show ¬ (123 : Int) = 3707 from by decide) i1 i4 i2.symm i3 hv
          rw [if_neg (by omega), lf_b_e, ek, lf_b_e, et]
          generalize F_X10_codesTell_a0_2 ask red bar kinds walkers cf ce codes a4 gaps waits go hm a6 (k : Int) = R at e ⊢
          obtain ⟨v, c, p⟩ := R
          have e' : v = vlO false 123 (some L) (rhoL d cA clmK pcK kO wt k (lnS (some L) d cA clmK pcK kO wt ab tr k (kO k).toNat)) 0 := e
          rw [← e'] at fin hvb
          have hvb2 := hvb
          unfold in6 at hvb2
          rw [lf_p_e, lf_p_e, ol_add (show in6 _ from by unfold in6; omega) hvb]
          by_cases y : 0 ≤ lnS (some L) d cA clmK pcK kO wt ab tr k (kO k).toNat + v
          · rw [if_pos (cmp_ge.mpr y)]
            by_cases y2 : lnS (some L) d cA clmK pcK kO wt ab tr k (kO k).toNat + v ≤ 9
            · rw [if_pos (cmp_le.mpr y2), l2i_6 (by omega) (by omega)]
              exact fin _ _ _ _ (by omega)
            · rw [if_neg (fun r => y2 (cmp_le.mp r))]
              exact fin _ _ _ _ (by omega)
          · rw [if_neg (fun r => y (cmp_ge.mp r))]
            exact fin _ _ _ _ (by omega)
theorem lr_x {tk ask red qp A : Int} {many bar kinds walkers cf ce codes now gaps waits go hm pile : Nat → Int} (h : lnB nW nK d kO cA clmK pcK wt tr) (hA : rg A) (hA2 : ∀ w, w < 12 → bt A w = ab w) (hM : cdM cf ce codes 5 oL) (hG : cdG false 123 oL) (hm3 : many 3 = (nW : Int)) (hwk : ∀ w, w < nW → walkers (24 + 2 * w) = kO w ∧ walkers (25 + 2 * w) = cA w) (hkd : ∀ k, k < nK → kinds (12 + 2 * k) = clmK k ∧ kinds (13 + 2 * k) = pcK k) (hw : ∀ w, w < nW → waits w = wt w) (h00 : now 0 = d) (hnt : ∀ i, i < nK → now (3 + i) = tr i) : ∃ c55' c117' a4' a6', F_X10_learn tk ask red qp many bar kinds walkers cf ce codes now gaps waits go hm pile A = (c55', c117', a4', a6') ∧ (∀ i, i < nK → a4' (3 + i) = lnS oL d cA clmK pcK kO wt ab tr nW i) ∧ ∀ i, i < 3 ∨ 3 + nK ≤ i → a4' i = now i := lr_run h hA hA2 hM hG hm3 hwk hkd hw h00 14 0 tk qp now pile (Nat.zero_le _) (by have := h.1; omega) hnt (fun _ _ => rfl)
end PS
