/-! the model: cars and gaps -/
/-- a crossing as the model has it -/
def pmH (nW nK : Nat) (cy ls : Int) (oC oR oL : Option (List Int)) (kO cA clmK pcK many bar kinds walkers cf ce codes : Nat → Int) : Prop := many 3 = (nW : Int) ∧ many 2 = (nK : Int) ∧ bar 4 = cy ∧ bar 7 = ls ∧ (∀ w, w < nW → walkers (24 + 2 * w) = kO w ∧ walkers (25 + 2 * w) = cA w) ∧ (∀ k, k < nK → kinds (12 + 2 * k) = clmK k ∧ kinds (13 + 2 * k) = pcK k) ∧ cdM cf ce codes 3 oC ∧ cdM cf ce codes 4 oR ∧ cdM cf ce codes 5 oL
section MC
variable {oC : Option (List Int)} {d cy : Int} {bar kinds walkers cf ce codes now : Nat → Int}
theorem mg_68 {c55 c58 c117 : Int} {a3 a13 : Nat → Int} {K54 : Int → Int → Int → (Nat → Int) → (Nat → Int) → Int → (Nat → Int) → Int × Int × Int × (Nat → Int) × (Nat → Int) × (Nat → Int)} {car : Nat → Bool} {s : Nat} (hs : s < 300) (h13 : ∀ j, j < 320 → a13 j = b2 (car j)) : ∀ (f g : Nat) (a10 : Nat → Int), g ≤ 20 → 20 - g < f → a10 s = (g : Int) → ∃ a, F_X10_laysCars_68 c55 c58 c117 a3 a13 (s : Int) K54 f a10 = K54 c55 c58 c117 a3 a13 ((s : Int) + (1 : Int)) a ∧ a s = (g : Int) + cgap car (20 - g) (s + g) ∧ ∀ j, ¬ j = s → a j = a10 j := by
  intro f
  induction f with
  | zero => intro g a10 h1 h2; omega
  | succ f ih =>
    intro g a10 h1 h2 h3
    show ∃ a, F_X10_laysCars_68b c55 c58 c117 a3 a13 (s : Int) K54 (F_X10_laysCars_68 c55 c58 c117 a3 a13 (s : Int) K54 f) a10 = _ ∧ _
    unfold F_X10_laysCars_68b F_X10_laysCars_108
    rw [Int.toNat_natCast, h3]
    by_cases q : g = 20
    · rw [if_pos (by omega), q]
      refine ⟨a10, rfl, ?_, fun j _ => rfl⟩
      rw [h3, q]
      show (20 : Int) = 20 + 0
      decide
    · rw [if_neg (by omega), show Int.toNat ((s : Int) + (g : Int)) = s + g from by omega, h13 (s + g) (by omega)]
      have ek : ∃ k, 20 - g = k + 1 := ⟨20 - g - 1, by omega⟩
      obtain ⟨k, hk⟩ := ek
      have ec : cgap car (20 - g) (s + g) = if car (s + g) = true then 0 else cgap car k (s + g + 1) + 1 := by rw [hk]; rfl
      cases c : car (s + g) with
      | true =>
        rw [if_neg (show ¬ b2 true = 0 from by decide)]
        refine ⟨a10, rfl, ?_, fun j _ => rfl⟩
        rw [ec, if_pos c, h3]
        omega
      | false =>
        rw [if_pos (show b2 false = 0 from rfl)]
        obtain ⟨a, e, e1, e2⟩ := ih (g + 1) (lf_up a10 (s : Int) ((g : Int) + (1 : Int))) (by omega) (by omega) (lf_up_y (by omega))
        refine ⟨a, e, ?_, fun j hj => ?_⟩
        · rw [e1, ec, c, if_neg (fun r => Bool.noConfusion r), show 20 - (g + 1) = k from by omega, show s + (g + 1) = s + g + 1 from by omega]
          omega
        · rw [e2 j hj, lf_up_o (by omega)]
theorem mg_54 {c55 c58 c117 : Int} {a3 a13 : Nat → Int} {car : Nat → Bool} (h13 : ∀ j, j < 320 → a13 j = b2 (car j)) : ∀ (f s : Nat) (a10 : Nat → Int), s ≤ 300 → 300 - s < f → (∀ j, j < s → a10 j = cgap car 20 j) → ∃ a, F_X10_laysCars_54 f c55 c58 c117 a3 a13 (s : Int) a10 = (c55, c58, c117, a3, a, a13) ∧ ∀ j, j < 300 → a j = cgap car 20 j := by
  intro f
  induction f with
  | zero => intro s a10 h1 h2; omega
  | succ f ih =>
    intro s a10 h1 h2 h3
    show ∃ a, F_X10_laysCars_54b (F_X10_laysCars_54 f) c55 c58 c117 a3 a13 (s : Int) a10 = _ ∧ _
    unfold F_X10_laysCars_54b
    by_cases q : s = 300
    · subst q
      rw [if_pos (by decide)]
      exact ⟨a10, rfl, h3⟩
    · rw [if_neg (by omega)]
      obtain ⟨a, e, e1, e2⟩ := mg_68 (c55 := c55) (c58 := c58) (c117 := c117) (a3 := a3) (K54 := F_X10_laysCars_54 f) (by omega : s < 300) h13 21 0 (lf_up a10 (s : Int) (0 : Int)) (by decide) (by decide) (lf_up_y (by omega))
      rw [e]
      refine ih (s + 1) a (by omega) (by omega) (fun j hj => ?_)
      by_cases x : j = s
      · rw [x, e1]
        show ((0 : Nat) : Int) + cgap car 20 s = _
        omega
      · rw [e2 j x, lf_up_o (by omega)]
        exact h3 j (by omega)
theorem mc_part {red : Int} {gaps waits goes harms : Nat → Int} {s : Nat} (hcy : 1 ≤ cy) (hcy2 : cy ≤ 120) (hs : s < 320) (hb : bar 4 = cy) (hn : now 0 = d) (j : Int) (h0 : 0 ≤ j) (h1 : j < 12) (ha : alB 7 j = true) : F_X10_qPartOf (0 : Int) (s : Int) red bar kinds walkers now gaps waits goes harms j (0 : Int) = rhoC d cy s j := by
  rcases al7 h0 h1 ha with x | x | x
  · subst x
    rfl
  · subst x
    exact hn
  · subst x
    show lf_o lf_irem (s : Int) (bar 4) = (s : Int) % cy
    rw [hb]
    exact lo_rem (by omega) (by omega) hcy (by omega)
theorem mc_run {red : Int} {gaps waits goes harms : Nat → Int} (hd : 0 ≤ d ∧ d ≤ 999) (hcy : 1 ≤ cy) (hcy2 : cy ≤ 120) (hb : bar 4 = cy) (hn : now 0 = d) (hX : cdM cf ce codes 3 oC) (hG : cdG true 7 oC) : ∀ (f s : Nat) (c55 c58 c117 : Int) (a3 a13 : Nat → Int), s ≤ 320 → 320 - s < f → (∀ j, j < s → a13 j = b2 (decide (carV oC d cy j = 1))) → ∃ t q r p g i, F_X10_laysCars_2 red bar kinds walkers cf ce codes now gaps waits goes harms f (s : Int) c55 c58 c117 a3 a13 = (t, q, r, p, g, i) ∧ (∀ j, j < 320 → i j = b2 (decide (carV oC d cy j = 1))) ∧ ∀ j, j < 300 → g j = gpS oC d cy j := by
  intro f
  induction f with
  | zero => intro s c55 c58 c117 a3 a13 h1 h2; omega
  | succ f ih =>
    intro s c55 c58 c117 a3 a13 h1 h2 h3
    show ∃ t q r p g i, F_X10_laysCars_2b red bar kinds walkers cf ce codes now gaps waits goes harms (F_X10_laysCars_2 red bar kinds walkers cf ce codes now gaps waits goes harms f) (s : Int) c55 c58 c117 a3 a13 = (t, q, r, p, g, i) ∧ _
    unfold F_X10_laysCars_2b
    by_cases q : s = 320
    · subst q
      rw [if_pos (by decide)]
      obtain ⟨a, e, e1⟩ := mg_54 (c55 := c55) (c58 := c58) (c117 := c117) (a3 := a3) (car := fun j => decide (carV oC d cy j = 1)) h3 302 0 gaps (Nat.zero_le _) (by decide) (fun j hj => absurd hj (Nat.not_lt_zero j))
      exact ⟨c55, c58, c117, a3, a, a13, e, h3, e1⟩
    · rw [if_neg (by omega)]
      have go : ∀ (x : Int) (t c : Int) (p : Nat → Int), x = b2 (decide (carV oC d cy s = 1)) → ∃ t' q r p' g i, F_X10_laysCars_45 (s : Int) a13 (F_X10_laysCars_2 red bar kinds walkers cf ce codes now gaps waits goes harms f) c p x t = (t', q, r, p', g, i) ∧ (∀ j, j < 320 → i j = b2 (decide (carV oC d cy j = 1))) ∧ ∀ j, j < 300 → g j = gpS oC d cy j := by
        intro x t c p hx
        unfold F_X10_laysCars_45
        refine ih (s + 1) t (s : Int) c p (lf_up a13 (s : Int) x) (by omega) (by omega) (fun j hj => ?_)
        by_cases y : j = s
        · rw [lf_up_y (by omega), y]
          exact hx
        · rw [lf_up_o (by omega)]
          exact h3 j (by omega)
      unfold F_X10_laysCars_44
      cases oC with
      | none =>
        have hX' : cf 3 = -1 := hX
        rw [if_pos hX']
        exact go 0 c55 c117 a3 rfl
      | some L =>
        obtain ⟨i, i1, i2, i3, i4⟩ := hX
        have hv := (vlu_s (κ := 0) hG (rhoC_b (al := 7) hd (by omega : s < 400) hcy hcy2)).2
        have e := vm_val0 (ask := (s : Int)) (red := red) (bar := bar) (kd := kinds) (wk := walkers) (nw := now) (gp := gaps) (wt := waits) (go := goes) (hm := harms) (p1 := (0 : Int)) (pile := a3) (fun j h0 h1 ha => mc_part hcy hcy2 (by omega) hb hn j h0 h1 ha) (show ¬ (7 : Int) = 3707 from by decide) i1 i4 i2.symm i3 hv
        rw [if_neg (by omega)]
        generalize F_X10_codesTell_a0_0 (s : Int) red bar kinds walkers cf ce codes now gaps waits goes harms a3 (0 : Int) = R at e ⊢
        obtain ⟨v, c, p⟩ := R
        have e' : v = carV (some L) d cy s := e
        rw [lf_p_e, lf_p_e, e']
        by_cases y : carV (some L) d cy s = 1
        · rw [if_pos (cmp_eq.mpr y)]
          exact go 1 0 c p (by rw [decide_eq_true y]; rfl)
        · rw [if_neg (fun r => y (cmp_eq.mp r))]
          exact go 0 0 c p (by rw [decide_eq_false y]; rfl)
/-- laysCars -/
theorem mc_x {tk ask red qp : Int} {isCar gaps waits goes harms pile : Nat → Int} (hd : 0 ≤ d ∧ d ≤ 999) (hcy : 1 ≤ cy) (hcy2 : cy ≤ 120) (hb : bar 4 = cy) (hn : now 0 = d) (hX : cdM cf ce codes 3 oC) (hG : cdG true 7 oC) : ∃ t q r p g i, F_X10_laysCars tk ask red qp bar kinds walkers cf ce codes now isCar gaps waits goes harms pile = (t, q, r, p, g, i) ∧ (∀ j, j < 320 → i j = b2 (decide (carV oC d cy j = 1))) ∧ ∀ j, j < 300 → g j = gpS oC d cy j := mc_run hd hcy hcy2 hb hn hX hG 322 0 tk ask qp pile isCar (Nat.zero_le _) (by decide) (fun j hj => absurd hj (Nat.not_lt_zero j))
end MC
