section
/-! 8k -/
/-! the model: a DAY gone through is the one described -/
def cin (nW : Nat) (z : wzT) (j : Nat) : Bool := (List.range nW).any (fun w => decide (z.1 w = (j : Int)) && decide (z.2.1 w = 1))
def wtd (cA : Nat → Int) (ab : Nat → Bool) (s : Nat) (b : Bool) (z : wzT) (w : Nat) : Int := if ab w = true ∨ (s : Int) < cA w then 0 else if z.1 w = -1 then (s : Int) - cA w + b2 b else z.1 w - cA w
def mrS (nW : Nat) (cA : Nat → Int) (ab : Nat → Bool) (s k : Nat) (z : wzT) (a1 a2 a3 a4 a5 a7 : Nat → Int) : Prop := (∀ w, w < nW → a1 w = b2 (here cA ab s w z) ∧ a2 w = z.1 w ∧ a3 w = wtd cA ab s (decide (w < k)) z w ∧ a4 w = b2 (decide (2 ≤ z.2.1 w)) ∧ a5 w = b2 (decide (z.2.1 w = 3))) ∧ ∀ j, j ≤ s → a7 j = b2 (cin nW z j)
theorem cin_i {nW j : Nat} {z : wzT} : cin nW z j = true ↔ ∃ w, w < nW ∧ z.1 w = (j : Int) ∧ z.2.1 w = 1 := by
  unfold cin
  rw [List.any_eq_true]
  constructor
  · intro ⟨w, h1, h2⟩
    rw [Bool.and_eq_true] at h2
    exact ⟨w, List.mem_range.mp h1, of_decide_eq_true h2.1, of_decide_eq_true h2.2⟩
  · intro ⟨w, h1, h2, h3⟩
    refine ⟨w, List.mem_range.mpr h1, ?_⟩
    rw [decide_eq_true h2, decide_eq_true h3]
    rfl
theorem bo_eq {a b : Bool} (h : a = true ↔ b = true) : a = b := by
  cases a <;> cases b
  · rfl
  · exact h.mpr rfl
  · exact (h.mp rfl).symm
  · rfl
/-- held ones never go -/
noncomputable def gHd (H : Int) (G : Nat → Nat → Int → Bool) : Nat → Nat → Int → Bool := fun w s r => !bt H w && G w s r
section MD
variable {nW nK : Nat} {cy ls d : Int} {oC oR oL : Option (List Int)} {kO cA clmK pcK many bar kinds walkers cf ce codes now gaps tr : Nat → Int} {ab : Nat → Bool} {lf : Nat → Int}
/-- what stands for a DAY of the model -/
def mdH (nW nK : Nat) (cy ls d : Int) (oC oR oL : Option (List Int)) (kO cA clmK pcK many bar kinds walkers cf ce codes now gaps tr : Nat → Int) : Prop := pmH nW nK cy ls oC oR oL kO cA clmK pcK many bar kinds walkers cf ce codes ∧ nW ≤ 12 ∧ nK ≤ 6 ∧ (10 ≤ cy ∧ cy ≤ 120) ∧ (∀ w, w < nW → (0 ≤ kO w ∧ kO w < (nK : Int)) ∧ (0 ≤ cA w ∧ cA w < 200)) ∧ (∀ k, k < nK → (0 ≤ clmK k ∧ clmK k ≤ 99) ∧ (1 ≤ pcK k ∧ pcK k ≤ 20)) ∧ cdG true 7 oC ∧ cdG true 507 oR ∧ (0 ≤ d ∧ d ≤ 999) ∧ now 0 = d ∧ (∀ k, k < nK → now (3 + k) = tr k ∧ 0 ≤ tr k ∧ tr k ≤ 9) ∧ ∀ s, s < 300 → gaps s = gpS oC d cy s
theorem md_wk (h : mdH nW nK cy ls d oC oR oL kO cA clmK pcK many bar kinds walkers cf ce codes now gaps tr) : wkB nW cA (fun w => clmK (kO w).toNat) (fun w => pcK (kO w).toNat) (twf nW kO tr) := by
  obtain ⟨hP, h1, h2, h3, h4, h5, h6, h7, h8, h9, h10, h11⟩ := h
  intro w hw
  obtain ⟨a1, a2⟩ := h4 w hw
  have hk : (kO w).toNat < nK := by omega
  obtain ⟨b1, b2⟩ := h5 _ hk
  refine ⟨a2, b1, b2, ?_⟩
  unfold twf
  rw [if_pos hw]
  exact (h10 _ hk).2
theorem md_kind (h : mdH nW nK cy ls d oC oR oL kO cA clmK pcK many bar kinds walkers cf ce codes now gaps tr) {w : Nat} (hw : w < nW) : F_X10_kindOf walkers (w : Int) = kO w ∧ F_X10_secondOf walkers (w : Int) = cA w ∧ F_X10_paceOf kinds walkers (w : Int) = pcK (kO w).toNat ∧ kinds (12 + 2 * (kO w).toNat) = clmK (kO w).toNat ∧ F_X10_trustsOf now (kO w) = twf nW kO tr w := by
  obtain ⟨hP, h1, h2, h3, h4, h5, h6, h7, h8, h9, h10, h11⟩ := h
  obtain ⟨p1, p2, p3, p4, p5, p6, p7, p8, p9⟩ := hP
  obtain ⟨w1, w2⟩ := p5 w hw
  obtain ⟨a1, a2⟩ := h4 w hw
  have hk : (kO w).toNat < nK := by omega
  have e1 : F_X10_kindOf walkers (w : Int) = kO w := by
    unfold F_X10_kindOf
    rw [show Int.toNat ((24 : Int) + ((2 : Int) * (w : Int))) = 24 + 2 * w from by omega, w1]
  refine ⟨e1, ?_, ?_, (p6 _ hk).1, ?_⟩
  · unfold F_X10_secondOf
    rw [show Int.toNat ((25 : Int) + ((2 : Int) * (w : Int))) = 25 + 2 * w from by omega, w2]
  · unfold F_X10_paceOf
    rw [lf_b_e, e1, show Int.toNat ((13 : Int) + ((2 : Int) * kO w)) = 13 + 2 * (kO w).toNat from by omega]
    exact (p6 _ hk).2
  · unfold F_X10_trustsOf twf
    rw [if_pos hw, show Int.toNat ((3 : Int) + kO w) = 3 + (kO w).toNat from by omega]
    exact (h10 _ hk).1
theorem md_part (h : mdH nW nK cy ls d oC oR oL kO cA clmK pcK many bar kinds walkers cf ce codes now gaps tr) {w s : Nat} {red : Int} {waits goes harms : Nat → Int} (hw : w < nW) (hs : s < 300) (hwt : waits w = (s : Int) - cA w) (j : Int) (h0 : 0 ≤ j) (h1 : j < 12) (ha : alB 507 j = true) : F_X10_qPartOf (1 : Int) (s : Int) red bar kinds walkers now gaps waits goes harms j (w : Int) = rhoR d cA (fun w => clmK (kO w).toNat) (fun w => pcK (kO w).toNat) (twf nW kO tr) (gpS oC d cy) w s red j := by
  obtain ⟨e1, e2, e3, e4, e5⟩ := md_kind h hw
  obtain ⟨hP, g1, g2, g3, g4, g5, g6, g7, g8, g9, g10, g11⟩ := h
  have hk := (g4 w hw).1
  rcases al507 h0 h1 ha with x | x | x | x | x | x | x | x
  · subst x
    rfl
  · subst x
    exact g9
  · subst x
    exact hwt
  · subst x
    show lf_b (F_X10_kindOf walkers (w : Int)) (fun r25 => kinds (Int.toNat ((12 : Int) + ((2 : Int) * r25)))) = clmK (kO w).toNat
    rw [lf_b_e, e1, show Int.toNat ((12 : Int) + ((2 : Int) * kO w)) = 12 + 2 * (kO w).toNat from by omega, e4]
  · subst x
    show lf_b (F_X10_paceOf kinds walkers (w : Int)) (fun r38 => r38) = pcK (kO w).toNat
    rw [lf_b_e, e3]
  · subst x
    show lf_b (F_X10_kindOf walkers (w : Int)) (fun r42 => lf_b (F_X10_trustsOf now r42) (fun r46 => r46)) = twf nW kO tr w
    rw [lf_b_e, e1, lf_b_e, e5]
  · subst x
    show gaps (Int.toNat (s : Int)) = gpS oC d cy s
    rw [Int.toNat_natCast]
    exact g11 s hs
  · subst x
    rfl
theorem MR_up {s w : Nat} {z : wzT} {v y : Int} {a1 a2 a3 a4 a5 a7 b4 b5 b7 : Nat → Int} (hR : mrS nW cA ab s w z a1 a2 a3 a4 a5 a7) (hI : spI nW cA ab (s + 1) z) (hw : w < nW) (hh : here cA ab s w z = true) (h4 : b4 = if 2 ≤ v then lf_up a4 (w : Int) (1 : Int) else a4) (h5 : ∀ u, b5 u = if u = w then b2 (decide (v = 3)) else a5 u) (h7 : b7 = if v = 1 then lf_up a7 (s : Int) (1 : Int) else a7) (hv : 1 ≤ v ∧ v ≤ 3) : mrS nW cA ab s (w + 1) (upn z.1 w (s : Int), upn z.2.1 w v, y) (lf_up a1 (w : Int) (0 : Int)) (lf_up a2 (w : Int) (s : Int)) a3 b4 b5 b7 := by
  unfold here at hh
  rw [Bool.and_eq_true, Bool.and_eq_true] at hh
  have x1 := of_decide_eq_true hh.1.1
  have x2 : ab w = false := by
    have := hh.1.2
    cases c : ab w
    · rfl
    · rw [c] at this
      exact Bool.noConfusion this
  have x3 := of_decide_eq_true hh.2
  have x30 := ((hI.1 w).1).mp x3
  refine ⟨fun u hu => ?_, fun j hj => ?_⟩
  · obtain ⟨r1, r2, r3, r4, r5⟩ := hR.1 u hu
    by_cases q : u = w
    · subst q
      refine ⟨?_, ?_, ?_, ?_, ?_⟩
      · rw [lf_up_y (by omega), here_up, decide_eq_true (show u = u from rfl), Bool.not_true, Bool.and_false]
        rfl
      · rw [lf_up_y (by omega)]
        exact (upn_y z.1 u (s : Int)).symm
      · rw [r3]
        unfold wtd
        have hcn : ¬ (ab u = true ∨ (s : Int) < cA u) := fun r => r.elim (fun r => Bool.noConfusion (x2.symm.trans r)) (fun r => by omega)
        rw [if_neg hcn, if_neg hcn, if_pos x3]
        show _ = if upn z.1 u (s : Int) u = -1 then _ else upn z.1 u (s : Int) u - cA u
        rw [upn_y, if_neg (by omega), decide_eq_false (Nat.lt_irrefl u)]
        show (s : Int) - cA u + 0 = _
        omega
      · show b4 u = b2 (decide (2 ≤ upn z.2.1 u v u))
        rw [upn_y, h4]
        by_cases x : 2 ≤ v
        · rw [if_pos x, lf_up_y (by omega), decide_eq_true x]
          rfl
        · rw [if_neg x, r4, decide_eq_false x, x30]
          rfl
      · show b5 u = b2 (decide (upn z.2.1 u v u = 3))
        rw [upn_y, h5, if_pos rfl]
    · refine ⟨?_, ?_, ?_, ?_, ?_⟩
      · rw [lf_up_o (by omega), here_up, decide_eq_false (show ¬ w = u from fun r => q r.symm), Bool.not_false, Bool.and_true]
        exact r1
      · rw [lf_up_o (by omega)]
        exact r2.trans (upn_o q).symm
      · rw [r3]
        unfold wtd
        show _ = if ab u = true ∨ (s : Int) < cA u then 0 else if upn z.1 w (s : Int) u = -1 then (s : Int) - cA u + b2 (decide (u < w + 1)) else upn z.1 w (s : Int) u - cA u
        rw [upn_o q]
        by_cases y1 : u < w
        · rw [decide_eq_true y1, decide_eq_true (show u < w + 1 from by omega)]
        · rw [decide_eq_false y1, decide_eq_false (show ¬ u < w + 1 from by omega)]
      · show b4 u = b2 (decide (2 ≤ upn z.2.1 w v u))
        rw [upn_o q, h4]
        by_cases x : 2 ≤ v
        · rw [if_pos x, lf_up_o (by omega)]
          exact r4
        · rw [if_neg x]
          exact r4
      · show b5 u = b2 (decide (upn z.2.1 w v u = 3))
        rw [upn_o q, h5, if_neg q]
        exact r5
  · have r7 := hR.2 j hj
    have key : cin nW (upn z.1 w (s : Int), upn z.2.1 w v, y) j = (cin nW z j || (decide (j = s) && decide (v = 1))) := by
      refine bo_eq ?_
      rw [cin_i, Bool.or_eq_true, cin_i, Bool.and_eq_true]
      constructor
      · intro ⟨u, h1, h2, h3⟩
        have h2' : upn z.1 w (s : Int) u = (j : Int) := h2
        have h3' : upn z.2.1 w v u = 1 := h3
        by_cases q : u = w
        · rw [q, upn_y] at h2' h3'
          exact Or.inr ⟨decide_eq_true (by omega), decide_eq_true h3'⟩
        · rw [upn_o q] at h2' h3'
          exact Or.inl ⟨u, h1, h2', h3'⟩
      · intro h
        rcases h with ⟨u, h1, h2, h3⟩ | ⟨h1, h2⟩
        · have q : ¬ u = w := fun r => by
            rw [r] at h2
            omega
          exact ⟨u, h1, (upn_o q).trans h2, (upn_o q).trans h3⟩
        · have e1 := of_decide_eq_true h1
          have e2 := of_decide_eq_true h2
          refine ⟨w, hw, ?_, ?_⟩
          · show upn z.1 w (s : Int) w = (j : Int)
            rw [upn_y, e1]
          · show upn z.2.1 w v w = 1
            rw [upn_y, e2]
    rw [key, h7]
    by_cases x : v = 1
    · rw [if_pos x, decide_eq_true x, Bool.and_true]
      by_cases x2 : j = s
      · rw [lf_up_y (by omega), decide_eq_true x2, Bool.or_true]
        rfl
      · rw [lf_up_o (by omega), decide_eq_false x2, Bool.or_false]
        exact r7
    · rw [if_neg x, decide_eq_false x, Bool.and_false, Bool.or_false]
      exact r7
theorem MR_no {s w : Nat} {z : wzT} {a1 a2 a3 a4 a5 a7 b3 : Nat → Int} (hR : mrS nW cA ab s w z a1 a2 a3 a4 a5 a7) (h3 : ∀ u, u < nW → b3 u = if u = w ∧ here cA ab s w z = true then a3 u + 1 else a3 u) : mrS nW cA ab s (w + 1) z a1 a2 b3 a4 a5 a7 := by
  refine ⟨fun u hu => ?_, hR.2⟩
  obtain ⟨r1, r2, r3, r4, r5⟩ := hR.1 u hu
  refine ⟨r1, r2, ?_, r4, r5⟩
  rw [h3 u hu, r3]
  unfold wtd
  by_cases q : u = w
  · subst q
    by_cases c : ab u = true ∨ (s : Int) < cA u
    · have hf : ¬ here cA ab s u z = true := by
        intro hh
        unfold here at hh
        rw [Bool.and_eq_true, Bool.and_eq_true] at hh
        rcases c with c | c
        · rw [c] at hh
          exact Bool.noConfusion hh.1.2
        · have := of_decide_eq_true hh.1.1
          omega
      rw [if_neg (fun r => hf r.2), if_pos c, if_pos c]
    · rw [if_neg c, if_neg c]
      by_cases c2 : z.1 u = -1
      · have hf : here cA ab s u z = true := by
          unfold here
          have ha : ab u = false := by
            cases e : ab u
            · rfl
            · exact absurd (Or.inl e) c
          rw [decide_eq_true (show cA u ≤ (s : Int) from by omega), ha, decide_eq_true c2]
          rfl
        rw [if_pos ⟨rfl, hf⟩, if_pos c2, if_pos c2, decide_eq_false (Nat.lt_irrefl u), decide_eq_true (Nat.lt_succ_self u)]
        show (s : Int) - cA u + 0 + 1 = (s : Int) - cA u + 1
        omega
      · have hf : ¬ here cA ab s u z = true := by
          intro hh
          unfold here at hh
          rw [Bool.and_eq_true] at hh
          exact c2 (of_decide_eq_true hh.2)
        rw [if_neg (fun r => hf r.2), if_neg c2, if_neg c2]
  · rw [if_neg (fun r => q r.1)]
    by_cases y1 : u < w
    · rw [decide_eq_true y1, decide_eq_true (show u < w + 1 from by omega)]
    · rw [decide_eq_false y1, decide_eq_false (show ¬ u < w + 1 from by omega)]
end MD
end
section
/-! 8l -/
/-! the model: a second, a DAY -/
section DA
variable {nW nK : Nat} {cy ls d : Int} {oC oR oL : Option (List Int)} {kO cA clmK pcK many bar kinds walkers cf ce codes now gaps tr : Nat → Int} {ab : Nat → Bool} {lf : Nat → Int} {H : Int}
/-- the TEST of red in the model's DAY: held ones never go -/
noncomputable def gM2 (oC oR : Option (List Int)) (cy : Int) (nW : Nat) (kO cA clmK pcK : Nat → Int) (d : Int) (tr : Nat → Int) (H : Int) : Nat → Nat → Int → Bool := gHd H (gR oC oR cy nW kO cA clmK pcK d tr)
abbrev R11 : Type := Int × Int × Int × Int × (Nat → Int) × (Nat → Int) × (Nat → Int) × (Nat → Int) × (Nat → Int) × (Nat → Int) × (Nat → Int)
theorem ac_43 {tk red qp : Int} {here1 cr wt go hm ci pile : Nat → Int} {w s : Nat} (h : mdH nW nK cy ls d oC oR oL kO cA clmK pcK many bar kinds walkers cf ce codes now gaps tr) (hH : rg H) (hw : w < nW) (hs : s < 300) (hr : 0 ≤ red ∧ red ≤ 1000) (hwt : wt w = (s : Int) - cA w) : ∃ t q p, F_X10_acts_43 tk red qp bar kinds walkers cf ce codes now gaps here1 cr wt go hm ci pile (w : Int) (s : Int) H = (if gM2 oC oR cy nW kO cA clmK pcK d tr H w s red = true then (t, (s : Int), red + 1, q, lf_up cr (w : Int) (s : Int), lf_up here1 (w : Int) (0 : Int), ci, p, wt, lf_up go (w : Int) (1 : Int), lf_up hm (w : Int) (b2 (decide (gpS oC d cy s < pcK (kO w).toNat)))) else (t, (s : Int), red, q, cr, here1, ci, p, lf_up wt (w : Int) (wt w + 1), go, hm)) := by
  have hn : nW ≤ 12 := h.2.1
  have hd : 0 ≤ d ∧ d ≤ 999 := h.2.2.2.2.2.2.2.2.1
  have hcG : cdG true 507 oR := h.2.2.2.2.2.2.2.1
  have hcM : cdM cf ce codes 4 oR := h.1.2.2.2.2.2.2.2.1
  have hc0 := (h.2.2.2.2.1 w hw).2
  have hk := md_kind h hw
  have hbit := bt_bit (X := H) (w := w) hH.1 (by have := hH.2; omega) (by omega)
  have e78 : ∀ (t q : Int) (p : Nat → Int), F_X10_acts_78 red here1 cr wt go hm ci (w : Int) (s : Int) t q p = (t, (s : Int), red, q, cr, here1, ci, p, lf_up wt (w : Int) (wt w + 1), go, hm) := by
    intro t q p
    unfold F_X10_acts_78
    rw [Int.toNat_natCast, lo_add (by omega) (by omega) (by omega) (by omega) (by omega) (by omega)]
  have hg : gM2 oC oR cy nW kO cA clmK pcK d tr H w s red = (!bt H w && gR oC oR cy nW kO cA clmK pcK d tr w s red) := rfl
  unfold F_X10_acts_43
  rw [hbit, hg]
  cases hb : bt H w with
  | true =>
    rw [if_pos (show b2 true = 1 from rfl), e78, Bool.not_true, Bool.false_and]
    exact ⟨_, _, _, (if_neg (fun r => Bool.noConfusion r)).symm⟩
  | false =>
    rw [if_neg (show ¬ b2 false = 1 from by decide), Bool.not_false, Bool.true_and]
    have hρ := rho_b (al := 507) (d := d) (gp := gpS oC d cy) (s := s) (r := red) (md_wk h) hw (by omega) hd gp_b (by omega)
    cases oR with
    | none =>
      have hcM' : cf 4 = -1 := hcM
      have e0 : gR oC none cy nW kO cA clmK pcK d tr w s red = false := by
        unfold gR gvS
        exact decide_eq_false (show ¬ (0 : Int) = 1 from by decide)
      rw [if_pos hcM', e78, e0]
      exact ⟨_, _, _, (if_neg (fun r => Bool.noConfusion r)).symm⟩
    | some L =>
      obtain ⟨i, i1, i2, i3, i4⟩ := hcM
      have hv := (vlu_s (κ := 0) hcG hρ).2
      have e := vm_val1 (ask := (s : Int)) (red := red) (bar := bar) (kd := kinds) (wk := walkers) (nw := now) (gp := gaps) (wt := wt) (go := go) (hm := hm) (p1 := (w : Int)) (pile := pile) (fun j h0 h1 ha => md_part h hw hs hwt j h0 h1 ha) (show ¬ (507 : Int) = 3707 from by decide) i1 i4 i2.symm i3 hv
      rw [if_neg (by omega)]
      generalize F_X10_codesTell_a0_1 (s : Int) red bar kinds walkers cf ce codes now gaps wt go hm pile (w : Int) = R at e ⊢
      obtain ⟨v, c, p⟩ := R
      have e' : v = vlO true 507 (some L) (rhoR d cA (fun w => clmK (kO w).toNat) (fun w => pcK (kO w).toNat) (twf nW kO tr) (gpS oC d cy) w s red) 0 := e
      have eg : gR oC (some L) cy nW kO cA clmK pcK d tr w s red = decide (v = 1) := by
        rw [e']
        rfl
      rw [lf_p_e, lf_p_e, eg]
      by_cases y : v = 1
      · rw [if_pos (cmp_eq.mpr y), lf_b_e, decide_eq_true y]
        have hh : F_X10_isHarmed kinds walkers gaps (w : Int) (s : Int) = b2 (decide (gpS oC d cy s < pcK (kO w).toNat)) := by
          unfold F_X10_isHarmed
          rw [lf_b_e, hk.2.2.1, Int.toNat_natCast, h.2.2.2.2.2.2.2.2.2.2.2 s hs]
          by_cases x : gpS oC d cy s < pcK (kO w).toNat
          · rw [if_neg (by omega), decide_eq_true x]
            rfl
          · rw [if_pos (by omega), decide_eq_false x]
            rfl
        rw [hh, lo_add (by omega) (by omega) (by omega) (by omega) (by omega) (by omega)]
        exact ⟨_, _, _, (if_pos rfl).symm⟩
      · rw [if_neg (fun r => y (cmp_eq.mp r)), e78, decide_eq_false y]
        exact ⟨_, _, _, (if_neg (fun r => Bool.noConfusion r)).symm⟩
theorem da_step {K92 : (Nat → Int) → (Nat → Int) → (Nat → Int) → (Nat → Int) → (Nat → Int) → (Nat → Int) → Int → Int → Int → Int → Int → Int → (Nat → Int) → (Nat → Int) → Int → Int → Int → Int → (Nat → Int) → Int × Int × Int × Int × Int × Int × Int × Int × Int × (Nat → Int) × (Nat → Int) × (Nat → Int) × (Nat → Int) × (Nat → Int) × (Nat → Int) × (Nat → Int) × (Nat → Int) × (Nat → Int)} {K133 : Int → Int → Int → Int → Int → (Nat → Int) → (Nat → Int) → (Nat → Int) → (Nat → Int) → Int → Int → Int → Int → Int → (Nat → Int) → (Nat → Int) → (Nat → Int) → (Nat → Int) → (Nat → Int) → Int × Int × Int × Int × Int × Int × Int × Int × Int × (Nat → Int) × (Nat → Int) × (Nat → Int) × (Nat → Int) × (Nat → Int) × (Nat → Int) × (Nat → Int) × (Nat → Int) × (Nat → Int)} {c70 c71 c72 c73 c74 c55 c58 c117 : Int} {a1 a2 a3 a4 a5 a6 a7 a11 a16 : Nat → Int} {w s : Nat} {z : wzT} (h : mdH nW nK cy ls d oC oR oL kO cA clmK pcK many bar kinds walkers cf ce codes now gaps tr) (hH : rg H) (hw : w < nW) (hs : s < 300) (hI : spI nW cA ab (s + 1) z) (hR : mrS nW cA ab s w z a1 a2 a3 a4 a5 a7) (h11 : a11 s = b2 (decide (0 < lf s))) (h74 : 0 < lf s → c74 = lf s) : ∃ a1' a2' a3' a4' a5' a7' a16' c55' c58' c117', F_X10_dayBy_133b many bar kinds walkers cf ce codes now gaps H (s : Int) K92 K133 c70 c71 c72 c73 c74 a1 a6 a7 a11 (w : Int) c55 c58 z.2.2 c117 a2 a3 a4 a5 a16 = K133 c70 c71 c72 c73 c74 a1' a6 a7' a11 ((w : Int) + (1 : Int)) c55' c58' (wstep cA (fun w => pcK (kO w).toNat) ab lf (gpS oC d cy) (gM2 oC oR cy nW kO cA clmK pcK d tr H) s w z).2.2 c117' a2' a3' a4' a5' a16' ∧ mrS nW cA ab s (w + 1) (wstep cA (fun w => pcK (kO w).toNat) ab lf (gpS oC d cy) (gM2 oC oR cy nW kO cA clmK pcK d tr H) s w z) a1' a2' a3' a4' a5' a7' := by
  have hn : nW ≤ 12 := h.2.1
  have hm : many 3 = (nW : Int) := h.1.1
  have hk := md_kind h hw
  have hpc := (md_wk h w hw).2.2.1
  obtain ⟨r1, r2, r3, r4, r5⟩ := hR.1 w hw
  unfold F_X10_dayBy_133b
  rw [lf_b_e, hm, if_neg (by omega), Int.toNat_natCast, r1]
  unfold wstep
  cases hh : here cA ab s w z with
  | false =>
    rw [if_pos (show b2 false = 0 from rfl), if_neg (fun r => Bool.noConfusion r)]
    unfold F_X10_dayBy_162
    refine ⟨_, _, _, _, _, _, _, _, _, _, rfl, MR_no hR (fun u hu => ?_)⟩
    rw [if_neg (fun r => Bool.noConfusion (hh.symm.trans r.2))]
  | true =>
    obtain ⟨r, hr, hr11, h0⟩ := reds_n hI hn hw hh
    have hwt : a3 w = (s : Int) - cA w := by
      have hh2 := hh
      unfold here at hh2
      rw [Bool.and_eq_true, Bool.and_eq_true] at hh2
      have x1 := of_decide_eq_true hh2.1.1
      have x3 := of_decide_eq_true hh2.2
      have x2 : ¬ ab w = true := fun e => by
        rw [e] at hh2
        exact Bool.noConfusion hh2.1.2
      rw [r3]
      unfold wtd
      rw [if_neg (fun e => e.elim x2 (fun e => by omega)), if_pos x3, decide_eq_false (Nat.lt_irrefl w)]
      show (s : Int) - cA w + 0 = _
      omega
    rw [if_neg (show ¬ b2 true = 0 from by decide), if_pos rfl]
    -- one who does not cross
    have red : ¬ pcK (kO w).toNat ≤ lf s → ∃ a1' a2' a3' a4' a5' a7' a16' c55' c58' c117', (lf_p (F_X10_acts_43 c55 z.2.2 c117 bar kinds walkers cf ce codes now gaps a1 a2 a3 a4 a5 a7 a16 (w : Int) (s : Int) H) (fun v22 t_v23 => (lf_p t_v23 (fun v23 t_v24 => (lf_p t_v24 (fun v24 t_v25 => (lf_p t_v25 (fun v25 t_f26 => (lf_p t_f26 (fun f26 t_f27 => (lf_p t_f27 (fun f27 t_f28 => (lf_p t_f28 (fun f28 t_f29 => (lf_p t_f29 (fun f29 t_f30 => (lf_p t_f30 (fun f30 t_f31 => (lf_p t_f31 (fun f31 f32 => (F_X10_dayBy_162 c70 c71 c72 c73 c74 a6 a11 (w : Int) K133 v22 v23 v24 v25 f27 f26 f30 f31 f32 f28 f29))))))))))))))))))))) = K133 c70 c71 c72 c73 c74 a1' a6 a7' a11 ((w : Int) + (1 : Int)) c55' c58' (if pcK (kO w).toNat ≤ lf s then (upn z.1 w (s : Int), upn z.2.1 w 1, z.2.2) else if gM2 oC oR cy nW kO cA clmK pcK d tr H w s z.2.2 = true then (upn z.1 w (s : Int), upn z.2.1 w (if gpS oC d cy s < pcK (kO w).toNat then 3 else 2), z.2.2 + 1) else z).2.2 c117' a2' a3' a4' a5' a16' ∧ mrS nW cA ab s (w + 1) (if pcK (kO w).toNat ≤ lf s then (upn z.1 w (s : Int), upn z.2.1 w 1, z.2.2) else if gM2 oC oR cy nW kO cA clmK pcK d tr H w s z.2.2 = true then (upn z.1 w (s : Int), upn z.2.1 w (if gpS oC d cy s < pcK (kO w).toNat then 3 else 2), z.2.2 + 1) else z) a1' a2' a3' a4' a5' a7' := by
      intro c2
      obtain ⟨t, q, p, e⟩ := ac_43 (tk := c55) (red := z.2.2) (qp := c117) (here1 := a1) (cr := a2) (wt := a3) (go := a4) (hm := a5) (ci := a7) (pile := a16) h hH hw hs (by omega) hwt
      rw [e, if_neg c2]
      by_cases c3 : gM2 oC oR cy nW kO cA clmK pcK d tr H w s z.2.2 = true
      · rw [if_pos c3, if_pos c3, lf_p_e, lf_p_e, lf_p_e, lf_p_e, lf_p_e, lf_p_e, lf_p_e, lf_p_e, lf_p_e, lf_p_e]
        unfold F_X10_dayBy_162
        refine ⟨_, _, _, _, _, _, _, _, _, _, rfl, ?_⟩
        by_cases c4 : gpS oC d cy s < pcK (kO w).toNat
        · rw [if_pos c4, decide_eq_true c4]
          refine MR_up (v := 3) hR hI hw hh (if_pos (by decide)).symm (fun u => ?_) (if_neg (by decide)).symm (by decide)
          by_cases x : u = w
          · rw [lf_up_y (by omega), if_pos x]
            rfl
          · rw [lf_up_o (by omega), if_neg x]
        · rw [if_neg c4, decide_eq_false c4]
          refine MR_up (v := 2) hR hI hw hh (if_pos (by decide)).symm (fun u => ?_) (if_neg (by decide)).symm (by decide)
          by_cases x : u = w
          · rw [lf_up_y (by omega), if_pos x]
            rfl
          · rw [lf_up_o (by omega), if_neg x]
      · rw [if_neg c3, if_neg c3, lf_p_e, lf_p_e, lf_p_e, lf_p_e, lf_p_e, lf_p_e, lf_p_e, lf_p_e, lf_p_e, lf_p_e]
        unfold F_X10_dayBy_162
        refine ⟨_, _, _, _, _, _, _, _, _, _, rfl, MR_no hR (fun u hu => ?_)⟩
        by_cases x : u = w
        · rw [lf_up_y (by omega), if_pos ⟨x, hh⟩, x]
        · rw [lf_up_o (by omega), if_neg (fun y => x y.1)]
    unfold F_X10_acts
    rw [Int.toNat_natCast, h11]
    by_cases c1 : 0 < lf s
    · rw [decide_eq_true c1, if_neg (show ¬ b2 true = 0 from by decide), lf_b_e, hk.2.2.1, h74 c1]
      by_cases c2 : pcK (kO w).toNat ≤ lf s
      · rw [if_neg (by omega), if_pos c2, lf_p_e, lf_p_e, lf_p_e, lf_p_e, lf_p_e, lf_p_e, lf_p_e, lf_p_e, lf_p_e, lf_p_e]
        unfold F_X10_dayBy_162
        refine ⟨_, _, _, _, _, _, _, _, _, _, rfl, ?_⟩
        refine MR_up (v := 1) hR hI hw hh (if_neg (by decide)).symm (fun u => ?_) (if_pos rfl).symm (by decide)
        by_cases x : u = w
        · rw [if_pos x, x, r5, h0]
          rfl
        · rw [if_neg x]
      · rw [if_pos (by omega)]
        have r9 := red c2
        rw [h74 c1] at r9
        exact r9
    · rw [decide_eq_false c1, if_pos (show b2 false = 0 from rfl)]
      have hp1 : 1 ≤ pcK (kO w).toNat := (md_wk h w hw).2.2.1.1
      have c2 : ¬ pcK (kO w).toNat ≤ lf s := by omega
      exact red c2
theorem da_row {K92 : (Nat → Int) → (Nat → Int) → (Nat → Int) → (Nat → Int) → (Nat → Int) → (Nat → Int) → Int → Int → Int → Int → Int → Int → (Nat → Int) → (Nat → Int) → Int → Int → Int → Int → (Nat → Int) → Int × Int × Int × Int × Int × Int × Int × Int × Int × (Nat → Int) × (Nat → Int) × (Nat → Int) × (Nat → Int) × (Nat → Int) × (Nat → Int) × (Nat → Int) × (Nat → Int) × (Nat → Int)} {c70 c71 c72 c73 c74 : Int} {a6 a11 : Nat → Int} {s : Nat} {z : wzT} (h : mdH nW nK cy ls d oC oR oL kO cA clmK pcK many bar kinds walkers cf ce codes now gaps tr) (hH : rg H) (hs : s < 300) (hI : spI nW cA ab (s + 1) z) (h11 : a11 s = b2 (decide (0 < lf s))) (h74 : 0 < lf s → c74 = lf s) : ∀ (f w : Nat) (a1 a2 a3 a4 a5 a7 a16 : Nat → Int) (c55 c58 c117 : Int), w ≤ nW → nW - w < f → mrS nW cA ab s w (wrow cA (fun w => pcK (kO w).toNat) ab lf (gpS oC d cy) (gM2 oC oR cy nW kO cA clmK pcK d tr H) s w z) a1 a2 a3 a4 a5 a7 → ∃ a1' a2' a3' a4' a5' a7' a16' c55' c58' c117', F_X10_dayBy_133 many bar kinds walkers cf ce codes now gaps H (s : Int) K92 f c70 c71 c72 c73 c74 a1 a6 a7 a11 (w : Int) c55 c58 (wrow cA (fun w => pcK (kO w).toNat) ab lf (gpS oC d cy) (gM2 oC oR cy nW kO cA clmK pcK d tr H) s w z).2.2 c117 a2 a3 a4 a5 a16 = K92 a1' a2' a3' a4' a5' a6 ((s : Int) + (1 : Int)) c70 c71 c72 c73 c74 a7' a11 c55' c58' (wrow cA (fun w => pcK (kO w).toNat) ab lf (gpS oC d cy) (gM2 oC oR cy nW kO cA clmK pcK d tr H) s nW z).2.2 c117' a16' ∧ mrS nW cA ab s nW (wrow cA (fun w => pcK (kO w).toNat) ab lf (gpS oC d cy) (gM2 oC oR cy nW kO cA clmK pcK d tr H) s nW z) a1' a2' a3' a4' a5' a7' := by
  intro f
  induction f with
  | zero => intro w a1 a2 a3 a4 a5 a7 a16 c55 c58 c117 h1 h2; omega
  | succ f ih =>
    intro w a1 a2 a3 a4 a5 a7 a16 c55 c58 c117 h1 h2 hR
    have hm : many 3 = (nW : Int) := h.1.1
    by_cases q : w = nW
    · subst q
      refine ⟨a1, a2, a3, a4, a5, a7, a16, c55, c58, c117, ?_, hR⟩
      show F_X10_dayBy_133b many bar kinds walkers cf ce codes now gaps H (s : Int) K92 _ c70 c71 c72 c73 c74 a1 a6 a7 a11 (w : Int) c55 c58 _ c117 a2 a3 a4 a5 a16 = _
      unfold F_X10_dayBy_133b
      rw [lf_b_e, hm, if_pos (Int.le_refl _)]
    · have hI2 := spI_row (pcw := fun w => pcK (kO w).toNat) (lf := lf) (gp := gpS oC d cy) (G := gM2 oC oR cy nW kO cA clmK pcK d tr H) w z h1 hI
      obtain ⟨a1', a2', a3', a4', a5', a7', a16', c55', c58', c117', e, e1⟩ := da_step (K92 := K92) (K133 := F_X10_dayBy_133 many bar kinds walkers cf ce codes now gaps H (s : Int) K92 f) (c70 := c70) (c71 := c71) (c72 := c72) (c73 := c73) (c74 := c74) (c55 := c55) (c58 := c58) (c117 := c117) (a6 := a6) (a11 := a11) (a16 := a16) (w := w) (lf := lf) h hH (by omega) hs hI2 hR h11 h74
      show ∃ a1' a2' a3' a4' a5' a7' a16' c55' c58' c117', F_X10_dayBy_133b many bar kinds walkers cf ce codes now gaps H (s : Int) K92 (F_X10_dayBy_133 many bar kinds walkers cf ce codes now gaps H (s : Int) K92 f) c70 c71 c72 c73 c74 a1 a6 a7 a11 (w : Int) c55 c58 (wrow cA (fun w => pcK (kO w).toNat) ab lf (gpS oC d cy) (gM2 oC oR cy nW kO cA clmK pcK d tr H) s w z).2.2 c117 a2 a3 a4 a5 a16 = _ ∧ _
      rw [e]
      exact ih (w + 1) a1' a2' a3' a4' a5' a7' a16' c55' c58' c117' (by omega) (by omega) e1
end DA
end
section
/-! 8m -/
/-- ahead of a second, the model's rows -/
def wte (cA : Nat → Int) (ab : Nat → Bool) (s : Nat) (z : wzT) (w : Nat) : Int := if ab w = true ∨ (s : Int) ≤ cA w then 0 else if z.1 w = -1 then (s : Int) - cA w else z.1 w - cA w
def mqS (nW : Nat) (cA tw : Nat → Int) (ab : Nat → Bool) (cy ls ru gr : Int) (s : Nat) (z : wzT) (a1 a2 a3 a4 a5 a6 a7 a11 : Nat → Int) : Prop := (∀ w, w < nW → a1 w = b2 (decide (cA w < (s : Int)) && !ab w && decide (z.1 w = -1)) ∧ a2 w = z.1 w ∧ a3 w = wte cA ab s z w ∧ a4 w = b2 (decide (2 ≤ z.2.1 w)) ∧ a5 w = b2 (decide (z.2.1 w = 3)) ∧ a6 w = b2 (prS nW cA tw ab cy ls ru gr w && decide (cA w < (s : Int)))) ∧ ∀ j, j < s → a7 j = b2 (cin nW z j) ∧ a11 j = b2 (decide (0 < lef nW cA tw ab cy ls ru gr j))
section DY
variable {nW nK : Nat} {cy ls d ru gr A H : Int} {oC oR oL : Option (List Int)} {kO cA clmK pcK many bar kinds walkers cf ce codes now gaps tr : Nat → Int}
/-- the DAY that the model goes through -/
noncomputable def wkM (oC oR : Option (List Int)) (nW : Nat) (cy ls : Int) (kO cA clmK pcK : Nat → Int) (d : Int) (tr : Nat → Int) (ru gr A H : Int) (s : Nat) : wzT := wzS nW cA (fun w => pcK (kO w).toNat) (abf A) (leS nW cy ls kO cA tr ru gr A) (gpS oC d cy) (gM2 oC oR cy nW kO cA clmK pcK d tr H) s
theorem day_run (h : mdH nW nK cy ls d oC oR oL kO cA clmK pcK many bar kinds walkers cf ce codes now gaps tr) (hA : rg A) (hH : rg H) (hg0 : 1 ≤ gr) (hg1 : gr ≤ 60) (hr : 0 ≤ ru ∧ ru ≤ 2) : ∀ (f s : Nat) (a1 a2 a3 a4 a5 a6 a7 a11 a16 : Nat → Int) (c70 c71 c72 c73 c74 c55 c58 c117 : Int), s ≤ 300 → 300 - s < f → mlS ru s (lzS nW cA (twf nW kO tr) (abf A) cy ls ru gr s) c70 c71 c72 c73 → mqS nW cA (twf nW kO tr) (abf A) cy ls ru gr s (wkM oC oR nW cy ls kO cA clmK pcK d tr ru gr A H s) a1 a2 a3 a4 a5 a6 a7 a11 → (∀ w, ¬ w < nW → w < 12 → a6 w = 0) → ∃ b1 b2' b3 b4 b5 b6 b7 b11 b16 e70 e71 e72 e73 e74 e55 e58 e117, F_X10_dayBy_92 many bar kinds walkers cf ce codes now gaps ru gr A H f a1 a2 a3 a4 a5 a6 (s : Int) c70 c71 c72 c73 c74 a7 a11 c55 c58 (wkM oC oR nW cy ls kO cA clmK pcK d tr ru gr A H s).2.2 c117 a16 = (e55, e58, (wkM oC oR nW cy ls kO cA clmK pcK d tr ru gr A H 300).2.2, e70, e71, e72, e73, e74, e117, b1, b2', b3, b4, b5, b6, b7, b11, b16) ∧ mqS nW cA (twf nW kO tr) (abf A) cy ls ru gr 300 (wkM oC oR nW cy ls kO cA clmK pcK d tr ru gr A H 300) b1 b2' b3 b4 b5 b6 b7 b11 := by
  intro f
  induction f with
  | zero => intro s a1 a2 a3 a4 a5 a6 a7 a11 a16 c70 c71 c72 c73 c74 c55 c58 c117 h1 h2; omega
  | succ f ih =>
    intro s a1 a2 a3 a4 a5 a6 a7 a11 a16 c70 c71 c72 c73 c74 c55 c58 c117 h1 h2 hL hQ h6
    have hn : nW ≤ 12 := h.2.1
    have hcy := h.2.2.2.1
    have hm : many 3 = (nW : Int) := h.1.1
    have hb4 : bar 4 = cy := h.1.2.2.1
    have hb7 : bar 7 = ls := h.1.2.2.2.1
    show ∃ b1 b2' b3 b4 b5 b6 b7 b11 b16 e70 e71 e72 e73 e74 e55 e58 e117, F_X10_dayBy_92b many bar kinds walkers cf ce codes now gaps ru gr A H (F_X10_dayBy_92 many bar kinds walkers cf ce codes now gaps ru gr A H f) a1 a2 a3 a4 a5 a6 (s : Int) c70 c71 c72 c73 c74 a7 a11 c55 c58 (wkM oC oR nW cy ls kO cA clmK pcK d tr ru gr A H s).2.2 c117 a16 = _ ∧ _
    unfold F_X10_dayBy_92b
    by_cases q : s = 300
    · subst q
      rw [if_pos (by decide)]
      exact ⟨a1, a2, a3, a4, a5, a6, a7, a11, a16, c70, c71, c72, c73, c74, c55, c58, c117, rfl, hQ⟩
    · have hs : s < 300 := by omega
      rw [if_neg (by omega)]
      have hlb := lef_b (nW := nW) (cA := cA) (tw := twf nW kO tr) (ab := abf A) (ls := ls) (ru := ru) (by omega : 0 ≤ gr) hg1 (by omega : 1 ≤ cy) s
      have hbf : (lzS nW cA (twf nW kO tr) (abf A) cy ls ru gr s).2.2.2 = 0 ↔ (s = 0 ∨ a11 (s - 1) = 0) := by
        cases s with
        | zero => exact ⟨fun _ => Or.inl rfl, fun _ => rfl⟩
        | succ s =>
          have e := (hQ.2 s (Nat.lt_succ_self s)).2
          have e2 : (lzS nW cA (twf nW kO tr) (abf A) cy ls ru gr (s + 1)).2.2.2 = lef nW cA (twf nW kO tr) (abf A) cy ls ru gr s := rfl
          rw [e2] at hlb ⊢
          rw [show s + 1 - 1 = s from rfl, e]
          by_cases x : 0 < lef nW cA (twf nW kO tr) (abf A) cy ls ru gr s
          · rw [decide_eq_true x]
            exact ⟨fun r => by omega, fun r => r.elim (fun r => absurd r (Nat.succ_ne_zero s)) (fun r => absurd r (by decide))⟩
          · rw [decide_eq_false x]
            exact ⟨fun _ => Or.inr rfl, fun _ => by omega⟩
      obtain ⟨k70, k1, k6, ea, ea0, eak⟩ := ar_run (kO := kO) (isG := a11) (A := A) (bf := (lzS nW cA (twf nW kO tr) (abf A) cy ls ru gr s).2.2.2) (s := s) (c0 := c70) (h0 := a1) (p0 := a6) (tw := twf nW kO tr) (ab := abf A) hn hm (fun w hw => (h.1.2.2.2.2.1 w hw)) (fun w hw => (h.2.2.2.2.1 w hw).1.1) (fun w hw => by
        have hk := (h.2.2.2.2.1 w hw).1
        have ht := h.2.2.2.2.2.2.2.2.2.2.1 (kO w).toNat (by omega)
        unfold twf
        rw [if_pos hw]
        exact ⟨ht.1, ht.2.1⟩) hA (fun w _ => rfl) hbf 14 0 c70 a1 a6 (Nat.zero_le _) (by omega) (by
        have : pr 0 cA (twf nW kO tr) (abf A) (s : Int) (lzS nW cA (twf nW kO tr) (abf A) cy ls ru gr s).2.2.2 = false := rfl
        rw [this, if_neg (fun r => Bool.noConfusion r)]) (fun w hw => ⟨by rw [if_neg (fun r => Nat.not_lt_zero w r.1)], by rw [if_neg (fun r => Nat.not_lt_zero w r.1)]⟩)
      have ea' : F_X10_arrive c70 many walkers now a11 a1 a6 (s : Int) A = (k70, k1, k6) := ea
      rw [ea', lf_p_e, lf_p_e]
      obtain ⟨lit, d70, d71, d72, d73, d74, el, el1, el2, el3⟩ := li_x (nW := nW) (cA := cA) (tw := twf nW kO tr) (ab := abf A) (ru := ru) (gr := gr) (c70 := c70) (c71 := c71) (c72 := c72) (c73 := c73) hs hb4 hb7 (by omega : 1 ≤ cy) hcy.2 hg0 hg1 hr (fun r => by rw [r]; rfl) hL
      rw [← ea0] at el
      rw [el, lf_p_e, lf_p_e, lf_p_e, lf_p_e, lf_p_e]
      have hI := spI_S (nW := nW) (cA := cA) (pcw := fun w => pcK (kO w).toNat) (ab := abf A) (lf := leS nW cy ls kO cA tr ru gr A) (gp := gpS oC d cy) (G := gM2 oC oR cy nW kO cA clmK pcK d tr H) s
      have hIz : ∀ w, ¬ (wkM oC oR nW cy ls kO cA clmK pcK d tr ru gr A H s).1 w = -1 → cA w < (s : Int) ∧ (wkM oC oR nW cy ls kO cA clmK pcK d tr ru gr A H s).1 w < (s : Int) := fun w hw => by
        have := (hI.1 w).2.2 hw
        have e : (wkM oC oR nW cy ls kO cA clmK pcK d tr ru gr A H s).1 w = (wzS nW cA (fun w => pcK (kO w).toNat) (abf A) (leS nW cy ls kO cA tr ru gr A) (gpS oC d cy) (gM2 oC oR cy nW kO cA clmK pcK d tr H) s).1 w := rfl
        omega
      have hR0 : mrS nW cA (abf A) s 0 (wkM oC oR nW cy ls kO cA clmK pcK d tr ru gr A H s) k1 a2 a3 a4 a5 (lf_up a7 (s : Int) (0 : Int)) := by
        refine ⟨fun w hw => ?_, fun j hj => ?_⟩
        · obtain ⟨q1, q2, q3, q4, q5, q6⟩ := hQ.1 w hw
          refine ⟨?_, q2, ?_, q4, q5⟩
          · rw [(eak w (by omega)).1]
            unfold here
            by_cases x : cA w = (s : Int)
            · cases hab : abf A w with
              | false =>
                have hz : (wkM oC oR nW cy ls kO cA clmK pcK d tr ru gr A H s).1 w = -1 := by
                  rcases Decidable.em ((wkM oC oR nW cy ls kO cA clmK pcK d tr ru gr A H s).1 w = -1) with r | r
                  · exact r
                  · have := hIz w r
                    omega
                rw [if_pos ⟨hw, x, rfl⟩, decide_eq_true (show cA w ≤ (s : Int) from by omega), decide_eq_true hz]
                rfl
              | true =>
                rw [if_neg (fun r => Bool.noConfusion r.2.2), q1, hab, Bool.not_true, Bool.and_false, Bool.and_false]
            · rw [if_neg (fun r => x r.2.1), q1]
              by_cases y : cA w < (s : Int)
              · rw [decide_eq_true y, decide_eq_true (show cA w ≤ (s : Int) from by omega)]
              · rw [decide_eq_false y, decide_eq_false (show ¬ cA w ≤ (s : Int) from by omega)]
          · rw [q3]
            unfold wte wtd
            rw [decide_eq_false (Nat.not_lt_zero w)]
            by_cases x : abf A w = true ∨ (s : Int) < cA w
            · rw [if_pos (x.elim Or.inl (fun r => Or.inr (by omega))), if_pos x]
            · rw [if_neg x]
              by_cases y : (s : Int) = cA w
              · have hz : (wkM oC oR nW cy ls kO cA clmK pcK d tr ru gr A H s).1 w = -1 := by
                  rcases Decidable.em ((wkM oC oR nW cy ls kO cA clmK pcK d tr ru gr A H s).1 w = -1) with r | r
                  · exact r
                  · have := hIz w r
                    omega
                rw [if_pos (Or.inr (by omega)), if_pos hz]
                show (0 : Int) = (s : Int) - cA w + 0
                omega
              · rw [if_neg (fun r => r.elim (fun r => x (Or.inl r)) (fun r => x (Or.inr (by omega))))]
                by_cases y2 : (wkM oC oR nW cy ls kO cA clmK pcK d tr ru gr A H s).1 w = -1
                · rw [if_pos y2, if_pos y2]
                  show _ = (s : Int) - cA w + 0
                  omega
                · rw [if_neg y2, if_neg y2]
        · by_cases x : j = s
          · rw [lf_up_y (by omega), x]
            have e : cin nW (wkM oC oR nW cy ls kO cA clmK pcK d tr ru gr A H s) s = false := by
              cases c : cin nW (wkM oC oR nW cy ls kO cA clmK pcK d tr ru gr A H s) s
              · rfl
              · obtain ⟨w, w1, w2, w3⟩ := cin_i.mp c
                have := hIz w (by omega)
                omega
            rw [e]
            rfl
          · rw [lf_up_o (by omega)]
            exact (hQ.2 j (by omega)).1
      have hlf : leS nW cy ls kO cA tr ru gr A s = (lst nW cA (twf nW kO tr) (abf A) cy ls ru gr s (lzS nW cA (twf nW kO tr) (abf A) cy ls ru gr s)).2.2.2 := rfl
      obtain ⟨a1', a2', a3', a4', a5', a7', a16', c55', c58', c117', er, er1⟩ := da_row (K92 := F_X10_dayBy_92 many bar kinds walkers cf ce codes now gaps ru gr A H f) (c70 := d70) (c71 := d71) (c72 := d72) (c73 := d73) (c74 := d74) (a6 := k6) (a11 := lf_up a11 (s : Int) lit) (lf := leS nW cy ls kO cA tr ru gr A) (ab := abf A) (s := s) (z := wkM oC oR nW cy ls kO cA clmK pcK d tr ru gr A H s) h hH hs (spI_w hI) (by rw [lf_up_y (by omega), el1, hlf]) (fun r => by rw [hlf] at r ⊢; exact el2 r) 14 0 k1 a2 a3 a4 a5 (lf_up a7 (s : Int) (0 : Int)) a16 c55 c58 c117 (Nat.zero_le _) (by omega) hR0
      have er' : F_X10_dayBy_133 many bar kinds walkers cf ce codes now gaps H (s : Int) (F_X10_dayBy_92 many bar kinds walkers cf ce codes now gaps ru gr A H f) 14 d70 d71 d72 d73 d74 k1 k6 (lf_up a7 (s : Int) (0 : Int)) (lf_up a11 (s : Int) lit) (0 : Int) c55 c58 (wkM oC oR nW cy ls kO cA clmK pcK d tr ru gr A H s).2.2 c117 a2 a3 a4 a5 a16 = _ := er
      rw [er']
      have hzs : wrow cA (fun w => pcK (kO w).toNat) (abf A) (leS nW cy ls kO cA tr ru gr A) (gpS oC d cy) (gM2 oC oR cy nW kO cA clmK pcK d tr H) s nW (wkM oC oR nW cy ls kO cA clmK pcK d tr ru gr A H s) = wkM oC oR nW cy ls kO cA clmK pcK d tr ru gr A H (s + 1) := rfl
      rw [hzs] at er1 ⊢
      refine ih (s + 1) a1' a2' a3' a4' a5' k6 a7' (lf_up a11 (s : Int) lit) a16' d70 d71 d72 d73 d74 c55' c58' c117' (by omega) (by omega) el3 ⟨fun w hw => ?_, fun j hj => ?_⟩ (fun w hw hw2 => ?_)
      · obtain ⟨q1, q2, q3, q4, q5⟩ := er1.1 w hw
        refine ⟨?_, q2, ?_, q4, q5, ?_⟩
        · rw [q1]
          unfold here
          by_cases y : cA w ≤ (s : Int)
          · rw [decide_eq_true y, decide_eq_true (show cA w < ((s + 1 : Nat) : Int) from by omega)]
          · rw [decide_eq_false y, decide_eq_false (show ¬ cA w < ((s + 1 : Nat) : Int) from by omega)]
        · rw [q3]
          unfold wte wtd
          rw [decide_eq_true hw]
          by_cases x : abf A w = true ∨ (s : Int) < cA w
          · rw [if_pos x, if_pos (x.elim Or.inl (fun r => Or.inr (by omega)))]
          · rw [if_neg x, if_neg (show ¬ (abf A w = true ∨ ((s + 1 : Nat) : Int) ≤ cA w) from fun r => r.elim (fun r => x (Or.inl r)) (fun r => x (Or.inr (by omega))))]
            by_cases y2 : (wkM oC oR nW cy ls kO cA clmK pcK d tr ru gr A H (s + 1)).1 w = -1
            · rw [if_pos y2, if_pos y2]
              show (s : Int) - cA w + 1 = ((s + 1 : Nat) : Int) - cA w
              omega
            · rw [if_neg y2, if_neg y2]
        · rw [(eak w (by omega)).2, (hQ.1 w hw).2.2.2.2.2]
          unfold ndB prS
          rw [decide_eq_true hw, Bool.true_and]
          by_cases x : cA w = (s : Int)
          · have e4 : (cA w).toNat = s := by omega
            rw [e4, decide_eq_true x, Bool.true_and, decide_eq_true (show cA w < ((s + 1 : Nat) : Int) from by omega), decide_eq_false (show ¬ cA w < (s : Int) from by omega), Bool.and_false, Bool.and_true]
            cases (!abf A w && decide (0 < twf nW kO tr w) && decide ((lzS nW cA (twf nW kO tr) (abf A) cy ls ru gr s).2.2.2 = 0))
            · rw [if_neg (fun r => Bool.noConfusion r.2)]
            · rw [if_pos ⟨hw, rfl⟩]
              rfl
          · rw [decide_eq_false x, Bool.false_and, Bool.false_and, Bool.false_and, if_neg (fun r => Bool.noConfusion r.2)]
            by_cases y : cA w < (s : Int)
            · rw [decide_eq_true y, decide_eq_true (show cA w < ((s + 1 : Nat) : Int) from by omega)]
            · rw [decide_eq_false y, decide_eq_false (show ¬ cA w < ((s + 1 : Nat) : Int) from by omega)]
      · refine ⟨er1.2 j (by omega), ?_⟩
        by_cases x : j = s
        · rw [lf_up_y (by omega), el1, x]
          rfl
        · rw [lf_up_o (by omega)]
          exact (hQ.2 j (by omega)).2
      · rw [(eak w hw2).2, if_neg (fun r => hw r.1)]
        exact h6 w hw hw2
/-- what a DAY gone through leaves in the model -/
def dF (nW : Nat) (cA tw : Nat → Int) (ab : Nat → Bool) (cy ls ru gr : Int) (z : wzT) (isH cr wt go hm pr2 ci isG : Nat → Int) : Prop := (∀ w, w < nW → isH w = b2 (!ab w && decide (z.1 w = -1)) ∧ cr w = z.1 w ∧ wt w = (if ab w = true then 0 else if z.1 w = -1 then 300 - cA w else z.1 w - cA w) ∧ go w = b2 (decide (2 ≤ z.2.1 w)) ∧ hm w = b2 (decide (z.2.1 w = 3)) ∧ pr2 w = b2 (prS nW cA tw ab cy ls ru gr w)) ∧ ∀ j, j < 300 → ci j = b2 (cin nW z j) ∧ isG j = b2 (decide (0 < lef nW cA tw ab cy ls ru gr j))
theorem day_in {tk ask sg qp : Int} {isG ci pile : Nat → Int} {K : Int × Int × Int × Int × Int × Int × Int × Int × Int × (Nat → Int) × (Nat → Int) × (Nat → Int) × (Nat → Int) × (Nat → Int) × (Nat → Int) × (Nat → Int) × (Nat → Int) × (Nat → Int) → Prop} (hK : ∀ a1 a2 a3 a4 a5 a6 : Nat → Int, (∀ w, w < 12 → a1 w = 0 ∧ a2 w = -1 ∧ a3 w = 0 ∧ a4 w = 0 ∧ a5 w = 0 ∧ a6 w = 0) → K (F_X10_dayBy_92 many bar kinds walkers cf ce codes now gaps ru gr A H 302 a1 a2 a3 a4 a5 a6 (0 : Int) (0 : Int) (-1 : Int) (-1 : Int) (0 : Int) sg ci isG tk ask (0 : Int) qp pile)) : ∀ (f w : Nat) (a1 a2 a3 a4 a5 a6 : Nat → Int), w ≤ 12 → 12 - w < f → (∀ u, u < w → a1 u = 0 ∧ a2 u = -1 ∧ a3 u = 0 ∧ a4 u = 0 ∧ a5 u = 0 ∧ a6 u = 0) → K (F_X10_dayBy_3 tk ask sg qp many bar kinds walkers cf ce codes now gaps isG ci pile ru gr A H f (w : Int) a1 a2 a3 a4 a5 a6) := by
  intro f
  induction f with
  | zero => intro w a1 a2 a3 a4 a5 a6 h1 h2; omega
  | succ f ih =>
    intro w a1 a2 a3 a4 a5 a6 h1 h2 h3
    show K (F_X10_dayBy_3b tk ask sg qp many bar kinds walkers cf ce codes now gaps isG ci pile ru gr A H (F_X10_dayBy_3 tk ask sg qp many bar kinds walkers cf ce codes now gaps isG ci pile ru gr A H f) (w : Int) a1 a2 a3 a4 a5 a6)
    unfold F_X10_dayBy_3b
    by_cases q : w = 12
    · subst q
      rw [if_pos (by decide)]
      exact hK a1 a2 a3 a4 a5 a6 h3
    · rw [if_neg (by omega)]
      refine ih (w + 1) _ _ _ _ _ _ (by omega) (by omega) (fun u hu => ?_)
      by_cases x : u = w
      · rw [lf_up_y (by omega), lf_up_y (by omega), lf_up_y (by omega), lf_up_y (by omega), lf_up_y (by omega), lf_up_y (by omega)]
        exact ⟨rfl, rfl, rfl, rfl, rfl, rfl⟩
      · rw [lf_up_o (by omega), lf_up_o (by omega), lf_up_o (by omega), lf_up_o (by omega), lf_up_o (by omega), lf_up_o (by omega)]
        exact h3 u (by omega)
/-- dayBy -/
theorem day_x {tk ask sg qp : Int} {isG isH cr wt go hm pr2 ci pile : Nat → Int} (h : mdH nW nK cy ls d oC oR oL kO cA clmK pcK many bar kinds walkers cf ce codes now gaps tr) (hA : rg A) (hH : rg H) (hg0 : 1 ≤ gr) (hg1 : gr ≤ 60) (hr : 0 ≤ ru ∧ ru ≤ 2) : ∃ b1 b2' b3 b4 b5 b6 b7 b11 b16 e70 e71 e72 e73 e74 e55 e58 e59 e117, F_X10_dayBy tk ask sg qp many bar kinds walkers cf ce codes now gaps isG isH cr wt go hm pr2 ci pile ru gr A H = (e55, e58, e59, e70, e71, e72, e73, e74, e117, b1, b2', b3, b4, b5, b6, b7, b11, b16) ∧ dF nW cA (twf nW kO tr) (abf A) cy ls ru gr (wkM oC oR nW cy ls kO cA clmK pcK d tr ru gr A H 300) b1 b2' b3 b4 b5 b6 b7 b11 := by
  refine day_in (K := fun R => ∃ b1 b2' b3 b4 b5 b6 b7 b11 b16 e70 e71 e72 e73 e74 e55 e58 e59 e117, R = (e55, e58, e59, e70, e71, e72, e73, e74, e117, b1, b2', b3, b4, b5, b6, b7, b11, b16) ∧ dF nW cA (twf nW kO tr) (abf A) cy ls ru gr (wkM oC oR nW cy ls kO cA clmK pcK d tr ru gr A H 300) b1 b2' b3 b4 b5 b6 b7 b11) ?_ 14 0 isH cr wt go hm pr2 (Nat.zero_le _) (by decide) (fun u hu => absurd hu (Nat.not_lt_zero u))
  intro a1 a2 a3 a4 a5 a6 h0
  have hn : nW ≤ 12 := h.2.1
  have hcA : ∀ w, w < nW → 0 ≤ cA w ∧ cA w < 200 := fun w hw => (h.2.2.2.2.1 w hw).2
  obtain ⟨b1, b2', b3, b4, b5, b6, b7, b11, b16, e70, e71, e72, e73, e74, e55, e58, e117, e, e1⟩ := day_run (H := H) (ls := ls) h hA hH hg0 hg1 hr 302 0 a1 a2 a3 a4 a5 a6 ci isG pile 0 (-1) (-1) 0 sg tk ask qp (Nat.zero_le _) (by decide) ⟨fun _ => ⟨rfl, rfl, ⟨by show (-1 : Int) ≤ -1; decide, by show (-1 : Int) < ((0 : Nat) : Int); decide⟩, ⟨by decide, by decide⟩, fun _ => rfl, fun r => absurd r (Nat.lt_irrefl 0)⟩, fun _ => ⟨rfl, rfl⟩, fun _ => Or.inl rfl⟩ ⟨fun w hw => by
    obtain ⟨x1, x2, x3, x4, x5, x6⟩ := h0 w (by omega)
    have hc := hcA w hw
    have hlt : decide (cA w < ((0 : Nat) : Int)) = false := decide_eq_false (by omega)
    refine ⟨?_, x2, ?_, x4, x5, ?_⟩
    · rw [x1, hlt, Bool.false_and, Bool.false_and]
      rfl
    · rw [x3]
      unfold wte
      rw [if_pos (Or.inr (by omega))]
    · rw [x6, hlt, Bool.and_false]
      rfl, fun j hj => absurd hj (Nat.not_lt_zero j)⟩ (fun w _ hw2 => (h0 w hw2).2.2.2.2.2)
  refine ⟨b1, b2', b3, b4, b5, b6, b7, b11, b16, e70, e71, e72, e73, e74, e55, e58, _, e117, e, ⟨fun w hw => ?_, fun j hj => e1.2 j hj⟩⟩
  obtain ⟨x1, x2, x3, x4, x5, x6⟩ := e1.1 w hw
  have hc := hcA w hw
  have hlt : decide (cA w < ((300 : Nat) : Int)) = true := decide_eq_true (by omega)
  refine ⟨?_, x2, ?_, x4, x5, ?_⟩
  · rw [x1, hlt, Bool.true_and]
  · rw [x3]
    unfold wte
    by_cases y : abf A w = true
    · rw [if_pos (Or.inl y), if_pos y]
    · rw [if_neg (fun r => r.elim y (fun r => by omega)), if_neg y]
      rfl
  · rw [x6, hlt, Bool.and_true]
end DY
end
section
/-! 8n -/
/-! what a DAY tells: one description, both sides -/
def snm (f : Nat → Int) : Nat → Int
  | 0 => 0
  | k + 1 => snm f k + f k
theorem snm_b {f : Nat → Int} : ∀ n, (∀ w, w < n → 0 ≤ f w ∧ f w ≤ 300) → 0 ≤ snm f n ∧ snm f n ≤ 300 * (n : Int)
  | 0, _ => ⟨Int.le_refl _, Int.le_refl _⟩
  | k + 1, h => by
    have ih := snm_b k (fun w hw => h w (by omega))
    have hk := h k (Nat.lt_succ_self k)
    show 0 ≤ snm f k + f k ∧ snm f k + f k ≤ 300 * ((k + 1 : Nat) : Int)
    omega
theorem snm_cg {f g : Nat → Int} : ∀ n, (∀ w, w < n → f w = g w) → snm f n = snm g n
  | 0, _ => rfl
  | k + 1, h => by
    show snm f k + f k = snm g k + g k
    rw [snm_cg k (fun w hw => h w (by omega)), h k (Nat.lt_succ_self k)]
theorem cnf_to {f : Nat → Bool} {n : Nat} : ∀ k, n ≤ k → (∀ w, n ≤ w → w < k → f w = false) → cnf f k = cnf f n
  | 0, h, _ => by
    rw [Nat.le_zero.mp h]
  | k + 1, h, hf => by
    by_cases q : n = k + 1
    · rw [q]
    · show cnf f k + b2 (f k) = cnf f n
      rw [cnf_to k (by omega) (fun w h1 h2 => hf w h1 (by omega)), hf k (by omega) (Nat.lt_succ_self k)]
      show cnf f n + 0 = cnf f n
      omega
theorem pcn_c (X : Int) : ∀ k, pcn X k = cnf (bt X) k
  | 0 => rfl
  | k + 1 => by
    show pcn X k + b2 (bt X k) = cnf (bt X) k + b2 (bt X k)
    rw [pcn_c X k]
/-- a count of bits -/
theorem bc_c {X : Int} {f : Nat → Bool} {n : Nat} (hX : rg X) (hn : n ≤ 12) (h : ∀ w, w < 12 → bt X w = f w) (h0 : ∀ w, n ≤ w → w < 12 → f w = false) : F_J6_bitCount_0f7a4 X = cnf f n := by
  rw [bc_x hX, pcn_c, cnf_cg 12 h]
  exact cnf_to 12 hn h0
def wt0 (cA : Nat → Int) (ab : Nat → Bool) (z : wzT) (w : Nat) : Int := if ab w = true then 0 else if z.1 w = -1 then 300 - cA w else z.1 w - cA w
/-- greens that nobody crosses in: their number, whether one has crossed in the last -/
def gnS (L C : Nat → Bool) : Nat → Int × Bool
  | 0 => (0, true)
  | s + 1 => ((gnS L C s).1 + b2 (L s && !(if L s = true then (if s = 0 ∨ L (s - 1) = false then C s else (gnS L C s).2 || C s) else (gnS L C s).2) && (decide (s + 1 = 300) || !L (s + 1))), if L s = true then (if s = 0 ∨ L (s - 1) = false then C s else (gnS L C s).2 || C s) else (gnS L C s).2)
theorem gnS_s (L C : Nat → Bool) (s : Nat) : gnS L C (s + 1) = ((gnS L C s).1 + b2 (L s && !(if L s = true then (if s = 0 ∨ L (s - 1) = false then C s else (gnS L C s).2 || C s) else (gnS L C s).2) && (decide (s + 1 = 300) || !L (s + 1))), if L s = true then (if s = 0 ∨ L (s - 1) = false then C s else (gnS L C s).2 || C s) else (gnS L C s).2) := rfl
theorem gnS_b (L C : Nat → Bool) : ∀ s, 0 ≤ (gnS L C s).1 ∧ (gnS L C s).1 ≤ (s : Int)
  | 0 => ⟨Int.le_refl _, Int.le_refl _⟩
  | s + 1 => by
    have ih := gnS_b L C s
    show 0 ≤ (gnS L C s).1 + b2 _ ∧ (gnS L C s).1 + b2 _ ≤ ((s + 1 : Nat) : Int)
    generalize (L s && !(if L s = true then (if s = 0 ∨ L (s - 1) = false then C s else (gnS L C s).2 || C s) else (gnS L C s).2) && (decide (s + 1 = 300) || !L (s + 1))) = b
    cases b
    · show 0 ≤ (gnS L C s).1 + 0 ∧ (gnS L C s).1 + 0 ≤ ((s + 1 : Nat) : Int)
      omega
    · show 0 ≤ (gnS L C s).1 + 1 ∧ (gnS L C s).1 + 1 ≤ ((s + 1 : Nat) : Int)
      omega
theorem gn_i1 {K : Int → Int → Int → Int} {L : Nat → Bool} {s : Nat} {isG : Nat → Int} {l1 u y : Int} {a : Bool} (hs : s < 300) (hG : ∀ j, j < 300 → isG j = b2 (L j)) (h0 : 0 ≤ l1) (h1 : l1 ≤ 300) (hy : y = b2 a) (hL : L s = true) : F_X10_forNobody_60 isG l1 (s : Int) K u y = K (l1 + b2 (L s && !a && (decide (s + 1 = 300) || !L (s + 1)))) (b2 a) ((s + 1 : Nat) : Int) := by
  unfold F_X10_forNobody_60 F_X10_forNobody_85 F_X10_forNobody_88
  rw [hy, hL]
  cases a
  · rw [show b2 false = 0 from rfl, if_pos rfl, lo_add (by omega) (by omega) (by omega) (by omega) (by omega) (by omega)]
    by_cases q : s + 1 = 300
    · rw [if_pos (show (s : Int) + 1 = 300 from by omega), decide_eq_true q]
      rfl
    · rw [if_neg (show ¬ (s : Int) + 1 = 300 from by omega), decide_eq_false q, show Int.toNat ((s : Int) + 1) = s + 1 from by omega, hG (s + 1) (by omega)]
      cases L (s + 1)
      · rfl
      · rw [show b2 true = 1 from rfl, if_neg (by decide)]
        show K l1 0 ((s : Int) + 1) = K (l1 + 0) 0 ((s + 1 : Nat) : Int)
        rw [Int.add_zero]
        rfl
  · rw [show b2 true = 1 from rfl, if_neg (by decide)]
    show K l1 1 ((s : Int) + 1) = K (l1 + 0) 1 ((s + 1 : Nat) : Int)
    rw [Int.add_zero]
    rfl
theorem gn_i2 {K : Int → Int → Int → Int} {L C : Nat → Bool} {s : Nat} {isG ci : Nat → Int} {l1 : Int} {a : Bool} (hs : s < 300) (hG : ∀ j, j < 300 → isG j = b2 (L j)) (hC : ∀ j, j < 300 → ci j = b2 (C j)) (h0 : 0 ≤ l1) (h1 : l1 ≤ 300) (hL : L s = true) : F_X10_forNobody_42 isG ci l1 (s : Int) K (b2 a) = K (l1 + b2 (L s && !(a || C s) && (decide (s + 1 = 300) || !L (s + 1)))) (b2 (a || C s)) ((s + 1 : Nat) : Int) := by
  unfold F_X10_forNobody_42 F_X10_forNobody_55
  cases a
  · rw [show b2 false = 0 from rfl, if_pos rfl, Int.toNat_natCast, hC s hs, Bool.false_or]
    cases C s
    · rw [show b2 false = 0 from rfl, if_pos rfl]
      exact gn_i1 (a := false) hs hG h0 h1 rfl hL
    · rw [show b2 true = 1 from rfl, if_neg (by decide)]
      exact gn_i1 (a := true) hs hG h0 h1 rfl hL
  · rw [show b2 true = 1 from rfl, if_neg (by decide), Bool.true_or]
    exact gn_i1 (a := true) hs hG h0 h1 rfl hL
theorem gn_m {L C : Nat → Bool} {isG ci : Nat → Int} (hG : ∀ j, j < 300 → isG j = b2 (L j)) (hC : ∀ j, j < 300 → ci j = b2 (C j)) : ∀ (f s : Nat), s ≤ 300 → 300 - s < f → F_X10_forNobody_6 isG ci f (gnS L C s).1 (b2 (gnS L C s).2) (s : Int) = (gnS L C 300).1 := by
  intro f
  induction f with
  | zero => intro s h1 h2; omega
  | succ f ih =>
    intro s h1 h2
    show F_X10_forNobody_6b isG ci (F_X10_forNobody_6 isG ci f) (gnS L C s).1 (b2 (gnS L C s).2) (s : Int) = _
    unfold F_X10_forNobody_6b
    by_cases q : s = 300
    · rw [if_pos (by omega), q]
    · have hb := gnS_b L C s
      have hs : s < 300 := by omega
      rw [if_neg (by omega), Int.toNat_natCast, hG s hs]
      have hn := ih (s + 1) (by omega) (by omega)
      rw [gnS_s L C s] at hn
      cases e : L s
      · rw [show b2 false = 0 from rfl, if_pos rfl]
        rw [e] at hn
        unfold F_X10_forNobody_88
        rw [if_neg (show ¬ false = true from by decide), Bool.false_and, Bool.false_and] at hn
        rw [← hn]
        show F_X10_forNobody_6 isG ci f (gnS L C s).1 (b2 (gnS L C s).2) ((s : Int) + 1) = F_X10_forNobody_6 isG ci f ((gnS L C s).1 + 0) (b2 (gnS L C s).2) ((s + 1 : Nat) : Int)
        rw [Int.add_zero]
        rfl
      · rw [show b2 true = 1 from rfl, if_neg (show ¬ (1 : Int) = 0 from by decide)]
        rw [if_pos e] at hn
        unfold F_X10_forNobody_40
        by_cases q0 : s = 0
        · rw [if_pos (by omega)]
          rw [if_pos (Or.inl q0)] at hn
          have hx := gn_i2 (K := F_X10_forNobody_6 isG ci f) (a := false) hs hG hC hb.1 (by omega) e
          rw [Bool.false_or] at hx
          exact hx.trans hn
        · rw [if_neg (by omega), show Int.toNat ((s : Int) - 1) = s - 1 from by omega, hG (s - 1) (by omega)]
          cases e2 : L (s - 1)
          · rw [show b2 false = 0 from rfl, if_pos rfl]
            rw [if_pos (Or.inr e2)] at hn
            have hx := gn_i2 (K := F_X10_forNobody_6 isG ci f) (a := false) hs hG hC hb.1 (by omega) e
            rw [Bool.false_or] at hx
            exact hx.trans hn
          · rw [show b2 true = 1 from rfl, if_neg (show ¬ (1 : Int) = 0 from by decide)]
            rw [if_neg (show ¬ (s = 0 ∨ L (s - 1) = false) from fun r => r.elim q0 (fun r => Bool.noConfusion (e2.symm.trans r)))] at hn
            exact (gn_i2 (K := F_X10_forNobody_6 isG ci f) hs hG hC hb.1 (by omega) e).trans hn
theorem gn_x {L C : Nat → Bool} {isG ci : Nat → Int} (hG : ∀ j, j < 300 → isG j = b2 (L j)) (hC : ∀ j, j < 300 → ci j = b2 (C j)) : F_X10_forNobody isG ci = (gnS L C 300).1 := gn_m hG hC 302 0 (Nat.zero_le _) (by decide)
/-- the class's -/
theorem sc_run {nW s : Nat} {z : wzT} {leaves : Nat → Int} {cr : Int} (hn : nW ≤ 12) (hl : ∀ w, w < 12 → leaves w = z.1 w) (hc : rg cr ∧ ∀ w, w < 12 → bt cr w = decide (z.2.1 w = 1)) : ∀ (f k : Nat), k ≤ nW → nW - k < f → (∀ w, w < k → ¬ (z.1 w = (s : Int) ∧ z.2.1 w = 1)) → F_X7_someoneCrosses_2 (nW : Int) leaves cr (s : Int) f (k : Int) = b2 (cin nW z s) := by
  intro f
  induction f with
  | zero => intro k h1 h2; omega
  | succ f ih =>
    intro k h1 h2 h3
    show F_X7_someoneCrosses_2b (nW : Int) leaves cr (s : Int) (F_X7_someoneCrosses_2 (nW : Int) leaves cr (s : Int) f) (k : Int) = _
    unfold F_X7_someoneCrosses_2b F_X7_someoneCrosses_37
    by_cases q : k = nW
    · rw [if_pos (by omega)]
      have e : cin nW z s = false := by
        cases x : cin nW z s
        · rfl
        · obtain ⟨w, y1, y2, y3⟩ := cin_i.mp x
          exact absurd ⟨y2, y3⟩ (h3 w (by omega))
      rw [e]
      rfl
    · have hg := ih (k + 1) (by omega) (by omega)
      rw [if_neg (by omega), Int.toNat_natCast, hl k (by omega)]
      have hR := hc.1
      by_cases q2 : z.1 k = (s : Int)
      · rw [if_pos q2, bt_bit hR.1 (show cr < 2147483648 from by have := hR.2; omega) (by omega), hc.2 k (by omega)]
        by_cases q3 : z.2.1 k = 1
        · rw [decide_eq_true q3, show b2 true = 1 from rfl, if_pos rfl, cin_i.mpr ⟨k, by omega, q2, q3⟩]
          rfl
        · rw [decide_eq_false q3, show b2 false = 0 from rfl, if_neg (by decide)]
          exact hg (fun w hw r => by
            by_cases x : w = k
            · rw [x] at r
              exact q3 r.2
            · exact h3 w (by omega) r)
      · rw [if_neg q2]
        exact hg (fun w hw r => by
          by_cases x : w = k
          · rw [x] at r
            exact q2 r.1
          · exact h3 w (by omega) r)
/-- is a green on from the second before to this one -/
def opnG (L : Nat → Bool) (s : Nat) : Bool := decide (0 < s) && decide (s < 300) && L (s - 1) && L s
theorem gn_c {nW : Nat} {z : wzT} {L : Nat → Bool} {left leaves : Nat → Int} {cr : Int} (hn : nW ≤ 12) (hl : ∀ w, w < 12 → leaves w = z.1 w) (hc : rg cr ∧ ∀ w, w < 12 → bt cr w = decide (z.2.1 w = 1)) (hL : ∀ j, j < 300 → 0 ≤ left j ∧ L j = decide (0 < left j)) : ∀ (f s : Nat) (n sv : Int), s ≤ 300 → 300 - s < f → n = (gnS L (cin nW z) s).1 + b2 (opnG L s && !(gnS L (cin nW z) s).2) → (opnG L s = true → sv = b2 (gnS L (cin nW z) s).2) → F_X7_greensForNobody_6 (nW : Int) left leaves cr f n sv (s : Int) = (gnS L (cin nW z) 300).1 := by
  intro f
  induction f with
  | zero => intro s n sv h1 h2; omega
  | succ f ih =>
    intro s n sv h1 h2 hN hS
    show F_X7_greensForNobody_6b (nW : Int) left leaves cr (F_X7_greensForNobody_6 (nW : Int) left leaves cr f) n sv (s : Int) = _
    unfold F_X7_greensForNobody_6b
    by_cases q : s = 300
    · rw [if_pos (by omega), hN]
      have e : opnG L s = false := by
        unfold opnG
        rw [decide_eq_false (show ¬ s < 300 from by omega), Bool.and_false, Bool.false_and, Bool.false_and]
      rw [e, q, Bool.false_and]
      exact Int.add_zero _
    · have hs : s < 300 := by omega
      have hb := gnS_b L (cin nW z) s
      have hl0 := hL s hs
      have hsc : F_X7_someoneCrosses_2 (nW : Int) leaves cr (s : Int) 14 (0 : Int) = b2 (cin nW z s) := sc_run (s := s) hn hl hc 14 0 (Nat.zero_le _) (by omega) (fun w hw => absurd hw (Nat.not_lt_zero w))
      have hn1 : 0 ≤ n ∧ n ≤ 301 := by
        rw [hN]
        cases (opnG L s && !(gnS L (cin nW z) s).2)
        · show 0 ≤ (gnS L (cin nW z) s).1 + 0 ∧ (gnS L (cin nW z) s).1 + 0 ≤ 301
          omega
        · show 0 ≤ (gnS L (cin nW z) s).1 + 1 ∧ (gnS L (cin nW z) s).1 + 1 ≤ 301
          omega
      have hnx := fun n' sv' => ih (s + 1) n' sv' (by omega) (by omega)
      have eo : opnG L (s + 1) = (decide (s + 1 < 300) && L s && L (s + 1)) := by
        unfold opnG
        rw [decide_eq_true (show 0 < s + 1 from by omega), Bool.true_and, Nat.add_sub_cancel]
      rw [if_neg (by omega), Int.toNat_natCast]
      unfold F_X7_greensForNobody_41 F_X7_greensForNobody_37 F_X7_greensForNobody_42
      cases e : L s
      · have hz : ¬ 0 < left s := of_decide_eq_false (hl0.2.symm.trans e)
        rw [if_pos (show left s ≤ 0 from by omega), if_pos rfl]
        unfold F_X7_greensForNobody_54 F_X7_greensForNobody_80
        rw [Int.toNat_natCast, if_pos (show left s ≤ 0 from by omega)]
        have e9 : opnG L s = false := by
          unfold opnG
          rw [e, Bool.and_false]
        refine hnx n sv ?_ (fun r => ?_)
        · rw [hN, e9, eo, e]
          rw [gnS_s L (cin nW z) s, e, Bool.false_and, Bool.false_and, Bool.false_and, Bool.and_false, Bool.false_and, Bool.false_and]
          show (gnS L (cin nW z) s).1 + 0 = (gnS L (cin nW z) s).1 + 0 + 0
          omega
        · rw [eo, e, Bool.and_false, Bool.false_and] at r
          exact Bool.noConfusion r
      · have hz : 0 < left s := of_decide_eq_true (hl0.2.symm.trans e)
        rw [if_neg (show ¬ left s ≤ 0 from by omega)]
        -- how it goes on from what is counted and who has been served
        have go : ∀ (n1 : Int) (a : Bool), 0 ≤ n1 → n1 ≤ 302 → (gnS L (cin nW z) (s + 1)).2 = (a || cin nW z s) → n1 - b2 (!a && cin nW z s) = (gnS L (cin nW z) (s + 1)).1 + b2 (opnG L (s + 1) && !(gnS L (cin nW z) (s + 1)).2) → ∀ u, F_X7_greensForNobody_54 (nW : Int) left leaves cr (s : Int) (F_X7_greensForNobody_6 (nW : Int) left leaves cr f) u n1 (b2 a) = (gnS L (cin nW z) 300).1 := by
          intro n1 a k1 k2 k3 k4 u
          unfold F_X7_greensForNobody_54 F_X7_greensForNobody_80 F_X7_someoneCrosses
          rw [Int.toNat_natCast, if_neg (show ¬ left s ≤ 0 from by omega), lf_b_e, hsc]
          cases a
          · rw [show b2 false = 0 from rfl, if_pos rfl]
            cases c : cin nW z s
            · rw [show b2 false = 0 from rfl, if_pos rfl]
              rw [c] at k3 k4
              refine hnx n1 0 ?_ (fun _ => ?_)
              · rw [← k4]
                show n1 = n1 - 0
                omega
              · rw [k3]
                rfl
            · rw [show b2 true = 1 from rfl, if_neg (show ¬ (1 : Int) = 0 from by decide), lo_add (by omega) (by omega) (by omega) (by omega) (by omega) (by omega)]
              rw [c] at k3 k4
              refine hnx (n1 + -1) 1 ?_ (fun _ => ?_)
              · rw [← k4]
                show n1 + -1 = n1 - 1
                omega
              · rw [k3]
                rfl
          · rw [show b2 true = 1 from rfl, if_neg (show ¬ (1 : Int) = 0 from by decide)]
            refine hnx n1 1 ?_ (fun _ => ?_)
            · rw [← k4]
              show n1 = n1 - 0
              omega
            · rw [k3]
              rfl
        have e2 : (gnS L (cin nW z) (s + 1)).2 = if s = 0 ∨ L (s - 1) = false then cin nW z s else (gnS L (cin nW z) s).2 || cin nW z s := by
          show (if L s = true then _ else _) = _
          rw [if_pos e]
        have e1 : (gnS L (cin nW z) (s + 1)).1 + b2 (opnG L (s + 1) && !(gnS L (cin nW z) (s + 1)).2) = (gnS L (cin nW z) s).1 + b2 (!(gnS L (cin nW z) (s + 1)).2) := by
          have e3 : (gnS L (cin nW z) (s + 1)).1 = (gnS L (cin nW z) s).1 + b2 (L s && !(gnS L (cin nW z) (s + 1)).2 && (decide (s + 1 = 300) || !L (s + 1))) := rfl
          rw [e3, eo, e]
          cases (gnS L (cin nW z) (s + 1)).2
          · by_cases q3 : s + 1 = 300
            · rw [decide_eq_true q3, decide_eq_false (show ¬ s + 1 < 300 from by omega)]
              show (gnS L (cin nW z) s).1 + 1 + 0 = (gnS L (cin nW z) s).1 + 1
              omega
            · rw [decide_eq_false q3, decide_eq_true (show s + 1 < 300 from by omega)]
              cases L (s + 1)
              · show (gnS L (cin nW z) s).1 + 1 + 0 = (gnS L (cin nW z) s).1 + 1
                omega
              · show (gnS L (cin nW z) s).1 + 0 + 1 = (gnS L (cin nW z) s).1 + 1
                omega
          · rw [Bool.not_true, Bool.and_false, Bool.and_false, Bool.false_and]
            show (gnS L (cin nW z) s).1 + 0 + 0 = (gnS L (cin nW z) s).1 + 0
            omega
        have st : (s = 0 ∨ L (s - 1) = false) → F_X7_greensForNobody_54 (nW : Int) left leaves cr (s : Int) (F_X7_greensForNobody_6 (nW : Int) left leaves cr f) 1 (lf_o lf_iadd n 1) 0 = (gnS L (cin nW z) 300).1 := by
          intro r
          have e9 : opnG L s = false := by
            unfold opnG
            rcases r with r | r
            · rw [decide_eq_false (show ¬ 0 < s from by omega)]
              rfl
            · rw [r, Bool.and_false, Bool.false_and]
          have hn2 : n = (gnS L (cin nW z) s).1 := by
            rw [hN, e9]
            exact Int.add_zero _
          rw [if_pos r] at e2
          rw [lo_add (by omega) (by omega) (by omega) (by omega) (by omega) (by omega)]
          refine go (n + 1) false (by omega) (by omega) (by rw [e2, Bool.false_or]) ?_ 1
          rw [e1, e2, hn2]
          cases cin nW z s
          · show (gnS L (cin nW z) s).1 + 1 - 0 = (gnS L (cin nW z) s).1 + 1
            omega
          · show (gnS L (cin nW z) s).1 + 1 - 1 = (gnS L (cin nW z) s).1 + 0
            omega
        by_cases q0 : s = 0
        · rw [if_pos (show (s : Int) = 0 from by omega), if_neg (show ¬ (1 : Int) = 0 from by decide)]
          exact st (Or.inl q0)
        · rw [if_neg (show ¬ (s : Int) = 0 from by omega), show Int.toNat ((s : Int) - 1) = s - 1 from by omega]
          have hp := hL (s - 1) (by omega)
          cases e5 : L (s - 1)
          · have : ¬ 0 < left (s - 1) := of_decide_eq_false (hp.2.symm.trans e5)
            rw [if_pos (show left (s - 1) = 0 from by omega), if_neg (show ¬ (1 : Int) = 0 from by decide)]
            exact st (Or.inr e5)
          · have : 0 < left (s - 1) := of_decide_eq_true (hp.2.symm.trans e5)
            rw [if_neg (show ¬ left (s - 1) = 0 from by omega), if_pos rfl]
            have e9 : opnG L s = true := by
              unfold opnG
              rw [e5, e, decide_eq_true (show 0 < s from by omega), decide_eq_true hs]
              rfl
            rw [if_neg (show ¬ (s = 0 ∨ L (s - 1) = false) from fun r => r.elim q0 (fun r => Bool.noConfusion (e5.symm.trans r)))] at e2
            rw [hS e9]
            refine go n (gnS L (cin nW z) s).2 hn1.1 (by omega) e2 ?_ 0
            rw [e1, e2, hN, e9]
            cases (gnS L (cin nW z) s).2
            · cases cin nW z s
              · show (gnS L (cin nW z) s).1 + 1 - 0 = (gnS L (cin nW z) s).1 + 1
                omega
              · show (gnS L (cin nW z) s).1 + 1 - 1 = (gnS L (cin nW z) s).1 + 0
                omega
            · show (gnS L (cin nW z) s).1 + 0 - 0 = (gnS L (cin nW z) s).1 + 0
              omega
theorem gn_cx {nW : Nat} {z : wzT} {L : Nat → Bool} {left leaves : Nat → Int} {cr : Int} (hn : nW ≤ 12) (hl : ∀ w, w < 12 → leaves w = z.1 w) (hc : rg cr ∧ ∀ w, w < 12 → bt cr w = decide (z.2.1 w = 1)) (hL : ∀ j, j < 300 → 0 ≤ left j ∧ L j = decide (0 < left j)) : F_X7_greensForNobody (nW : Int) left leaves cr = (gnS L (cin nW z) 300).1 := gn_c hn hl hc hL 302 0 0 0 (Nat.zero_le _) (by decide) rfl (fun r => Bool.noConfusion r)
/-- what stands of a walk -/
def zOK (nW : Nat) (cA : Nat → Int) (z : wzT) : Prop := (∀ w, w < nW → (0 ≤ cA w ∧ cA w < 200) ∧ (z.1 w = -1 ∨ (cA w ≤ z.1 w ∧ z.1 w < 300))) ∧ ∀ w, (z.1 w = -1 ↔ z.2.1 w = 0) ∧ (0 ≤ z.2.1 w ∧ z.2.1 w ≤ 3) ∧ (nW ≤ w → z.2.1 w = 0)
theorem zOK_S {nW : Nat} {cA pcw : Nat → Int} {ab : Nat → Bool} {lf gp : Nat → Int} {G : Nat → Nat → Int → Bool} (hc : ∀ w, w < nW → 0 ≤ cA w ∧ cA w < 200) : zOK nW cA (wzS nW cA pcw ab lf gp G 300) := by
  have h := spI_S (nW := nW) (cA := cA) (pcw := pcw) (ab := ab) (lf := lf) (gp := gp) (G := G) 300
  refine ⟨fun w hw => ⟨hc w hw, ?_⟩, fun w => ⟨(h.1 w).1, (h.1 w).2.1, fun r => ?_⟩⟩
  · by_cases q : (wzS nW cA pcw ab lf gp G 300).1 w = -1
    · exact Or.inl q
    · have := (h.1 w).2.2 q
      exact Or.inr ⟨this.2.2.2.1, by omega⟩
  · by_cases q : (wzS nW cA pcw ab lf gp G 300).1 w = -1
    · exact ((h.1 w).1).mp q
    · have := ((h.1 w).2.2 q).1
      omega
theorem wt0_b {nW : Nat} {cA : Nat → Int} {ab : Nat → Bool} {z : wzT} (h : zOK nW cA z) : ∀ w, w < nW → 0 ≤ wt0 cA ab z w ∧ wt0 cA ab z w ≤ 300 := by
  intro w hw
  obtain ⟨h1, h2⟩ := h.1 w hw
  unfold wt0
  by_cases a : ab w = true
  · rw [if_pos a]
    omega
  · rw [if_neg a]
    by_cases b : z.1 w = -1
    · rw [if_pos b]
      omega
    · rw [if_neg b]
      omega
theorem wa_m {nW : Nat} {many wt f : Nat → Int} (hm : many 3 = (nW : Int)) (hn : nW ≤ 12) (hw : ∀ w, w < nW → wt w = f w) (hb : ∀ w, w < nW → 0 ≤ f w ∧ f w ≤ 300) : F_X10_waitedAll many wt = snm f nW := by
  have run : ∀ (n k : Nat), k ≤ nW → nW - k < n → F_X10_waitedAll_4 many wt n (snm f k) (k : Int) = snm f nW := by
    intro n
    induction n with
    | zero => intro k h1 h2; omega
    | succ n ih =>
      intro k h1 h2
      show F_X10_waitedAll_4b many wt (F_X10_waitedAll_4 many wt n) (snm f k) (k : Int) = _
      unfold F_X10_waitedAll_4b
      rw [lf_b_e, hm]
      by_cases q : k = nW
      · rw [if_pos (by omega), q]
      · have h3 := snm_b k (fun w hw' => hb w (by omega))
        have h4 := hb k (by omega)
        rw [if_neg (by omega), Int.toNat_natCast, hw k (by omega), lo_add (by omega) (by omega) (by omega) (by omega) (by omega) (by omega)]
        exact ih (k + 1) (by omega) (by omega)
  exact run 14 0 (Nat.zero_le _) (by omega)
theorem wb_c {nW w : Nat} {cA leaves : Nat → Int} {z : wzT} {ab : Nat → Bool} (h : zOK nW cA z) (hl : ∀ w, w < 12 → leaves w = z.1 w) (hn : nW ≤ 12) (hw : w < nW) (ha : ab w = false) : F_X7_waitedBy cA leaves (w : Int) = wt0 cA ab z w := by
  obtain ⟨h1, h2⟩ := h.1 w hw
  unfold F_X7_waitedBy F_X7_waitedBy_22 wt0
  rw [Int.toNat_natCast, hl w (by omega), ha, if_neg (show ¬ false = true from by decide)]
  by_cases b : z.1 w = -1
  · rw [if_pos b, if_pos b, lo_sub (by omega) (by omega) (by omega) (by omega) (by omega) (by omega)]
  · rw [if_neg b, if_neg b, lo_sub (by omega) (by omega) (by omega) (by omega) (by omega) (by omega)]
theorem wa_c {nW : Nat} {cA leaves : Nat → Int} {z : wzT} {ab : Nat → Bool} {A : Int} (h : zOK nW cA z) (hl : ∀ w, w < 12 → leaves w = z.1 w) (hn : nW ≤ 12) (hA : rg A) (hA2 : ∀ w, w < 12 → bt A w = ab w) : F_X7_waitedByAll (nW : Int) cA A leaves = snm (wt0 cA ab z) nW := by
  have run : ∀ (n k : Nat), k ≤ nW → nW - k < n → F_X7_waitedByAll_4 (nW : Int) cA A leaves n (snm (wt0 cA ab z) k) (k : Int) = snm (wt0 cA ab z) nW := by
    intro n
    induction n with
    | zero => intro k h1 h2; omega
    | succ n ih =>
      intro k h1 h2
      show F_X7_waitedByAll_4b (nW : Int) cA A leaves (F_X7_waitedByAll_4 (nW : Int) cA A leaves n) (snm (wt0 cA ab z) k) (k : Int) = _
      unfold F_X7_waitedByAll_4b F_X7_waitedByAll_34
      by_cases q : k = nW
      · rw [if_pos (by omega), q]
      · have h3 := snm_b k (fun w hw' => wt0_b (ab := ab) h w (by omega))
        have h4 := wt0_b (ab := ab) h k (by omega)
        have hR := hA
        have hx := ih (k + 1) (by omega) (by omega)
        rw [if_neg (by omega), bt_bit hR.1 (show A < 2147483648 from by have := hR.2; omega) (by omega), hA2 k (by omega), lf_b_e]
        cases a : ab k
        · rw [show b2 false = 0 from rfl, if_pos rfl, wb_c h hl hn (by omega) a, lo_add (by omega) (by omega) (by omega) (by omega) (by omega) (by omega)]
          exact hx
        · rw [show b2 true = 1 from rfl, if_neg (show ¬ (1 : Int) = 0 from by decide)]
          have e : wt0 cA ab z k = 0 := if_pos a
          have e2 : snm (wt0 cA ab z) (k + 1) = snm (wt0 cA ab z) k := by
            show snm (wt0 cA ab z) k + wt0 cA ab z k = _
            rw [e]
            exact Int.add_zero _
          rw [e2] at hx
          exact hx
  exact run 14 0 (Nat.zero_le _) (by omega)
theorem ct_m {nW : Nat} {a : Nat → Int} {f : Nat → Bool} (hn : nW ≤ 12) (hw : ∀ w, w < nW → a w = b2 (f w)) : F_X10_counted a (nW : Int) = cnf f nW := by
  have run : ∀ (n k : Nat), k ≤ nW → nW - k < n → F_X10_counted_4 a (nW : Int) n (cnf f k) (k : Int) = cnf f nW := by
    intro n
    induction n with
    | zero => intro k h1 h2; omega
    | succ n ih =>
      intro k h1 h2
      show F_X10_counted_4b a (nW : Int) (F_X10_counted_4 a (nW : Int) n) (cnf f k) (k : Int) = _
      unfold F_X10_counted_4b F_X10_counted_18
      by_cases q : k = nW
      · rw [if_pos (by omega), q]
      · have h3 := cnf_le f k
        have hx := ih (k + 1) (by omega) (by omega)
        rw [if_neg (by omega), Int.toNat_natCast, hw k (by omega)]
        have e2 : cnf f (k + 1) = cnf f k + b2 (f k) := rfl
        rw [e2] at hx
        cases e : f k
        · rw [show b2 false = 0 from rfl, if_pos rfl]
          rw [e, show b2 false = 0 from rfl, Int.add_zero] at hx
          exact hx
        · rw [show b2 true = 1 from rfl, if_neg (show ¬ (1 : Int) = 0 from by decide), lo_add (by omega) (by omega) (by omega) (by omega) (by omega) (by omega)]
          rw [e] at hx
          exact hx
  exact run 14 0 (Nat.zero_le _) (by omega)
theorem nc_m {nW : Nat} {many a : Nat → Int} {f : Nat → Bool} (hm : many 3 = (nW : Int)) (hn : nW ≤ 12) (hw : ∀ w, w < nW → a w = b2 (f w)) : F_X10_notCrossed many a = cnf f nW := by
  have run : ∀ (n k : Nat), k ≤ nW → nW - k < n → F_X10_notCrossed_4 many a n (cnf f k) (k : Int) = cnf f nW := by
    intro n
    induction n with
    | zero => intro k h1 h2; omega
    | succ n ih =>
      intro k h1 h2
      show F_X10_notCrossed_4b many a (F_X10_notCrossed_4 many a n) (cnf f k) (k : Int) = _
      unfold F_X10_notCrossed_4b F_X10_notCrossed_24
      rw [lf_b_e, hm]
      by_cases q : k = nW
      · rw [if_pos (by omega), q]
      · have h3 := cnf_le f k
        have hx := ih (k + 1) (by omega) (by omega)
        rw [if_neg (by omega), Int.toNat_natCast, hw k (by omega)]
        have e2 : cnf f (k + 1) = cnf f k + b2 (f k) := rfl
        rw [e2] at hx
        cases e : f k
        · rw [show b2 false = 0 from rfl, if_pos rfl]
          rw [e, show b2 false = 0 from rfl, Int.add_zero] at hx
          exact hx
        · rw [show b2 true = 1 from rfl, if_neg (show ¬ (1 : Int) = 0 from by decide), lo_add (by omega) (by omega) (by omega) (by omega) (by omega) (by omega)]
          rw [e] at hx
          exact hx
  exact run 14 0 (Nat.zero_le _) (by omega)
def tdS (nW : Nat) (cA tw : Nat → Int) (ab : Nat → Bool) (cy ls ru gr : Int) (z : wzT) (what : Int) : Int := if what = 0 then snm (wt0 cA ab z) nW else if what = 1 then cnf (fun w => decide (2 ≤ z.2.1 w)) nW else if what = 2 then cnf (fun w => decide (z.2.1 w = 3)) nW else if what = 3 then cnf (fun w => !ab w && decide (z.1 w = -1)) nW else if what = 4 then (gnS (fun j => decide (0 < lef nW cA tw ab cy ls ru gr j)) (cin nW z) 300).1 else cnf (fun w => prS nW cA tw ab cy ls ru gr w) nW
section TD
variable {nW : Nat} {cA tw : Nat → Int} {ab : Nat → Bool} {cy ls ru gr : Int} {z : wzT}
/-- the model's -/
theorem td_m {many isH cr wt go hm pr2 ci isG : Nat → Int} {what : Int} (h : dF nW cA tw ab cy ls ru gr z isH cr wt go hm pr2 ci isG) (hz : zOK nW cA z) (hm3 : many 3 = (nW : Int)) (hn : nW ≤ 12) (hp : 0 ≤ what ∧ what ≤ 5) : F_X10_toldOfDay many isG isH wt go hm pr2 ci what = tdS nW cA tw ab cy ls ru gr z what := by
  unfold F_X10_toldOfDay tdS F_X10_walkerMany
  rw [lf_b_e, lf_b_e, lf_b_e, lf_b_e, lf_b_e, lf_b_e, lf_b_e, lf_b_e, lf_b_e, hm3]
  by_cases q0 : what = 0
  · rw [if_pos q0, if_pos q0]
    exact wa_m hm3 hn (fun w hw => (h.1 w hw).2.2.1) (wt0_b hz)
  · rw [if_neg q0, if_neg q0]
    by_cases q1 : what = 1
    · rw [if_pos q1, if_pos q1]
      exact ct_m hn (fun w hw => (h.1 w hw).2.2.2.1)
    · rw [if_neg q1, if_neg q1]
      by_cases q2 : what = 2
      · rw [if_pos q2, if_pos q2]
        exact ct_m hn (fun w hw => (h.1 w hw).2.2.2.2.1)
      · rw [if_neg q2, if_neg q2]
        by_cases q3 : what = 3
        · rw [if_pos q3, if_pos q3]
          exact nc_m hm3 hn (fun w hw => (h.1 w hw).1)
        · rw [if_neg q3, if_neg q3]
          by_cases q4 : what = 4
          · rw [if_pos q4, if_pos q4]
            exact gn_x (fun j hj => (h.2 j hj).2) (fun j hj => (h.2 j hj).1)
          · rw [if_neg q4, if_neg q4]
            exact ct_m hn (fun w hw => (h.1 w hw).2.2.2.2.2)
theorem td_m0 {many isH cr wt go hm pr2 ci isG : Nat → Int} (h : dF nW cA tw ab cy ls ru gr z isH cr wt go hm pr2 ci isG) (hz : zOK nW cA z) (hm3 : many 3 = (nW : Int)) (hn : nW ≤ 12) : F_X10_waitedAll many wt = tdS nW cA tw ab cy ls ru gr z 0 := wa_m hm3 hn (fun w hw => (h.1 w hw).2.2.1) (wt0_b hz)
/-- the class's -/
theorem td_c {left leaves : Nat → Int} {A pr2 cr we ha what : Int} (hz : zOK nW cA z) (hn : nW ≤ 12) (hA : rg A) (hA2 : ∀ w, w < 12 → bt A w = ab w) (hl : ∀ j, j < 300 → left j = lef nW cA tw ab cy ls ru gr j ∧ 0 ≤ left j) (hpr : rg pr2 ∧ ∀ w, w < 12 → bt pr2 w = prS nW cA tw ab cy ls ru gr w) (hcr : rg cr ∧ ∀ w, w < 12 → bt cr w = decide (z.2.1 w = 1)) (hwe : rg we ∧ ∀ w, w < 12 → bt we w = decide (2 ≤ z.2.1 w)) (hha : rg ha ∧ ∀ w, w < 12 → bt ha w = decide (z.2.1 w = 3)) (hlv : ∀ w, w < 12 → leaves w = z.1 w) (hp : 0 ≤ what ∧ what ≤ 5) : F_X7_told (nW : Int) cA A left leaves pr2 cr we ha what = tdS nW cA tw ab cy ls ru gr z what := by
  have hall := rg_all hn
  have n1 := rg_andn hall.1 hA
  have n2 := rg_andn n1.1 hcr.1
  have n3 := rg_andn n2.1 hwe.1
  unfold F_X7_told tdS
  rw [lf_b_e, lf_b_e, lf_b_e, lf_b_e, lf_b_e, lf_b_e, lf_b_e]
  by_cases q0 : what = 0
  · rw [if_pos q0, if_pos q0]
    exact wa_c hz hlv hn hA hA2
  · rw [if_neg q0, if_neg q0]
    by_cases q1 : what = 1
    · rw [if_pos q1, if_pos q1]
      refine bc_c hwe.1 hn hwe.2 (fun w h1 _ => ?_)
      rw [(hz.2 w).2.2 h1]
      rfl
    · rw [if_neg q1, if_neg q1]
      by_cases q2 : what = 2
      · rw [if_pos q2, if_pos q2]
        refine bc_c hha.1 hn hha.2 (fun w h1 _ => ?_)
        rw [(hz.2 w).2.2 h1]
        rfl
      · rw [if_neg q2, if_neg q2]
        by_cases q3 : what = 3
        · rw [if_pos q3, if_pos q3]
          have e : cnf (fun w => !ab w && decide (z.1 w = -1)) nW = cnf (fun w => decide (w < nW) && (!ab w && decide (z.1 w = -1))) nW := cnf_cg nW (fun w hw => by
            rw [decide_eq_true hw, Bool.true_and])
          rw [e]
          refine bc_c n3.1 hn (fun w hw => ?_) (fun w h1 _ => by
            rw [decide_eq_false (show ¬ w < nW from by omega), Bool.false_and])
          rw [n3.2, n2.2, n1.2, hall.2, hA2 w hw, hcr.2 w hw, hwe.2 w hw]
          have hz2 := hz.2 w
          cases decide (w < nW)
          · rfl
          · cases ab w
            · by_cases x : z.1 w = -1
              · rw [hz2.1.mp x, decide_eq_true x]
                rfl
              · have : ¬ z.2.1 w = 0 := fun r => x (hz2.1.mpr r)
                rw [decide_eq_false x]
                by_cases y : z.2.1 w = 1
                · rw [decide_eq_true y]
                  rfl
                · rw [decide_eq_false y, decide_eq_true (show 2 ≤ z.2.1 w from by omega)]
                  rfl
            · rfl
        · rw [if_neg q3, if_neg q3]
          by_cases q4 : what = 4
          · rw [if_pos q4, if_pos q4]
            exact gn_cx hn hlv hcr (fun j hj => ⟨(hl j hj).2, by rw [(hl j hj).1]⟩)
          · rw [if_neg q4, if_neg q4, if_pos (show what = 5 from by omega)]
            refine bc_c hpr.1 hn hpr.2 (fun w h1 _ => ?_)
            unfold prS
            rw [decide_eq_false (show ¬ w < nW from by omega)]
            rfl
theorem td_c0 {leaves : Nat → Int} {A : Int} (hz : zOK nW cA z) (hn : nW ≤ 12) (hA : rg A) (hA2 : ∀ w, w < 12 → bt A w = ab w) (hlv : ∀ w, w < 12 → leaves w = z.1 w) : F_X7_told_a0_0 (nW : Int) cA A leaves = tdS nW cA tw ab cy ls ru gr z 0 := wa_c hz hlv hn hA hA2
theorem td_c2 {ha : Int} (hz : zOK nW cA z) (hn : nW ≤ 12) (hha : rg ha ∧ ∀ w, w < 12 → bt ha w = decide (z.2.1 w = 3)) : F_X7_told_a0_2 ha = tdS nW cA tw ab cy ls ru gr z 2 := by
  show F_J6_bitCount_0f7a4 ha = cnf (fun w => decide (z.2.1 w = 3)) nW
  refine bc_c hha.1 hn hha.2 (fun w h1 _ => ?_)
  rw [(hz.2 w).2.2 h1]
  rfl
end TD
end
section
/-! 8o -/
/-! behind a DAY: who came learns, on both sides -/
def rhoL (d : Int) (cA clmK pcK kO wt : Nat → Int) (w : Nat) (t : Int) : Int → Int := fun j => if j = 0 then cA w else if j = 1 then d else if j = 3 then wt w else if j = 4 then clmK (kO w).toNat else if j = 5 then pcK (kO w).toNat else if j = 6 then t else 0
noncomputable def lnS (oL : Option (List Int)) (d : Int) (cA clmK pcK kO wt : Nat → Int) (ab : Nat → Bool) (tr : Nat → Int) : Nat → Nat → Int
  | 0 => tr
  | k + 1 => if ab k = true then lnS oL d cA clmK pcK kO wt ab tr k else upn (lnS oL d cA clmK pcK kO wt ab tr k) (kO k).toNat (max 0 (min (lnS oL d cA clmK pcK kO wt ab tr k (kO k).toNat + vlO false 123 oL (rhoL d cA clmK pcK kO wt k (lnS oL d cA clmK pcK kO wt ab tr k (kO k).toNat)) 0) 9))
theorem lnS_s {oL : Option (List Int)} {d : Int} {cA clmK pcK kO wt : Nat → Int} {ab : Nat → Bool} {tr : Nat → Int} {k : Nat} : lnS oL d cA clmK pcK kO wt ab tr (k + 1) = if ab k = true then lnS oL d cA clmK pcK kO wt ab tr k else upn (lnS oL d cA clmK pcK kO wt ab tr k) (kO k).toNat (max 0 (min (lnS oL d cA clmK pcK kO wt ab tr k (kO k).toNat + vlO false 123 oL (rhoL d cA clmK pcK kO wt k (lnS oL d cA clmK pcK kO wt ab tr k (kO k).toNat)) 0) 9)) := rfl
theorem al123 {j : Int} (h0 : 0 ≤ j) (h1 : j < 12) (h : alB 123 j = true) : j = 0 ∨ j = 1 ∨ j = 3 ∨ j = 4 ∨ j = 5 ∨ j = 6 := by
  have a2 : ¬ alB 123 2 = true := by decide +kernel
  have a7 : ¬ alB 123 7 = true := by decide +kernel
  have a8 : ¬ alB 123 8 = true := by decide +kernel
  have a9 : ¬ alB 123 9 = true := by decide +kernel
  have a10 : ¬ alB 123 10 = true := by decide +kernel
  have a11 : ¬ alB 123 11 = true := by decide +kernel
  have n2 : ¬ j = 2 := fun r => a2 (by rw [← r]; exact h)
  have n7 : ¬ j = 7 := fun r => a7 (by rw [← r]; exact h)
  have n8 : ¬ j = 8 := fun r => a8 (by rw [← r]; exact h)
  have n9 : ¬ j = 9 := fun r => a9 (by rw [← r]; exact h)
  have n10 : ¬ j = 10 := fun r => a10 (by rw [← r]; exact h)
  have n11 : ¬ j = 11 := fun r => a11 (by rw [← r]; exact h)
  omega
section PS
variable {nW nK : Nat} {d : Int} {oL : Option (List Int)} {kO cA clmK pcK wt tr : Nat → Int} {ab : Nat → Bool}
/-- bounds -/
def lnB (nW nK : Nat) (d : Int) (kO cA clmK pcK wt tr : Nat → Int) : Prop := nW ≤ 12 ∧ nK ≤ 6 ∧ (0 ≤ d ∧ d ≤ 999) ∧ (∀ w, w < nW → (0 ≤ kO w ∧ kO w < (nK : Int)) ∧ (0 ≤ cA w ∧ cA w < 200) ∧ (0 ≤ wt w ∧ wt w ≤ 300)) ∧ (∀ k, k < nK → (0 ≤ clmK k ∧ clmK k ≤ 99) ∧ (1 ≤ pcK k ∧ pcK k ≤ 20)) ∧ ∀ k, k < nK → 0 ≤ tr k ∧ tr k ≤ 9
theorem rhoL_b {al : Int} {w : Nat} {t : Int} (h : lnB nW nK d kO cA clmK pcK wt tr) (hw : w < nW) (ht : 0 ≤ t ∧ t ≤ 9) : okE al (rhoL d cA clmK pcK kO wt w t) := by
  intro j h0 h1 _
  obtain ⟨b1, b2', b3, b4, b5, b6⟩ := h
  obtain ⟨c1, c2, c3⟩ := b4 w hw
  obtain ⟨e1, e2⟩ := b5 (kO w).toNat (by omega)
  unfold rhoL in6
  by_cases c0 : j = 0
  · rw [if_pos c0]
    omega
  rw [if_neg c0]
  by_cases c1 : j = 1
  · rw [if_pos c1]
    omega
  rw [if_neg c1]
  by_cases c3 : j = 3
  · rw [if_pos c3]
    omega
  rw [if_neg c3]
  by_cases c4 : j = 4
  · rw [if_pos c4]
    omega
  rw [if_neg c4]
  by_cases c5 : j = 5
  · rw [if_pos c5]
    omega
  rw [if_neg c5]
  by_cases c6 : j = 6
  · rw [if_pos c6]
    omega
  rw [if_neg c6]
  omega
theorem lnS_b (h : lnB nW nK d kO cA clmK pcK wt tr) : ∀ k, ∀ i, i < nK → 0 ≤ lnS oL d cA clmK pcK kO wt ab tr k i ∧ lnS oL d cA clmK pcK kO wt ab tr k i ≤ 9
  | 0, i, hi => h.2.2.2.2.2 i hi
  | k + 1, i, hi => by
    have ih := lnS_b h k
    show 0 ≤ (if ab k = true then lnS oL d cA clmK pcK kO wt ab tr k else upn (lnS oL d cA clmK pcK kO wt ab tr k) (kO k).toNat _) i ∧ (if ab k = true then lnS oL d cA clmK pcK kO wt ab tr k else upn (lnS oL d cA clmK pcK kO wt ab tr k) (kO k).toNat _) i ≤ 9
    by_cases a : ab k = true
    · rw [if_pos a]
      exact ih i hi
    · rw [if_neg a]
      by_cases q : i = (kO k).toNat
      · rw [q, upn_y]
        omega
      · rw [upn_o q]
        exact ih i hi
/-- the class's -/
theorem ps_run {code spans leaves : Nat → Int} {A day : Int} (h : lnB nW nK d kO cA clmK pcK wt tr) (hA : rg A) (hA2 : ∀ w, w < 12 → bt A w = ab w) (hX : cdX code spans 4 oL) (hG : cdG false 123 oL) (hw : ∀ w, w < nW → ab w = false → F_X7_waitedBy cA leaves (w : Int) = wt w) (hday : 0 ≤ day ∧ day ≤ 999) : ∀ (n k : Nat) (a6 a8 a13 : Nat → Int), k ≤ nW → nW - k < n → (∀ i, i < nK → a6 i = lnS oL d cA clmK pcK kO wt ab tr k i) → ∃ t2 f2 s2, F_X7_pass_2 clmK pcK (nW : Int) kO cA code spans d A leaves day n (k : Int) a6 a8 a13 = (day + 1, t2, f2, s2) ∧ ∀ i, i < nK → t2 i = lnS oL d cA clmK pcK kO wt ab tr nW i := by
  intro n
  induction n with
  | zero => intro k a6 a8 a13 h1 h2; omega
  | succ n ih =>
    intro k a6 a8 a13 h1 h2 h3
    have e0 : F_X7_pass_2 clmK pcK (nW : Int) kO cA code spans d A leaves day (n + 1) (k : Int) a6 a8 a13 = F_X7_pass_2b clmK pcK (nW : Int) kO cA code spans d A leaves day (F_X7_pass_2 clmK pcK (nW : Int) kO cA code spans d A leaves day n) (k : Int) a6 a8 a13 := rfl
    rw [e0]
    unfold F_X7_pass_2b F_X7_pass_121
    by_cases q : k = nW
    · rw [if_pos (by omega), lo_add (by omega) (by omega) (by omega) (by omega) (by omega) (by omega)]
      refine ⟨a6, a8, a13, rfl, fun i hi => ?_⟩
      rw [h3 i hi, q]
    · have hR := hA
      have hn : nW ≤ 12 := h.1
      rw [if_neg (by omega), bt_bit hR.1 (show A < 2147483648 from by have := hR.2; omega) (by omega), hA2 k (by omega)]
      cases a : ab k with
      | true =>
        rw [if_neg (show ¬ b2 true = 0 from by decide)]
        refine ih (k + 1) a6 a8 a13 (by omega) (by omega) (fun i hi => ?_)
        rw [h3 i hi]
        rw [lnS_s, if_pos a]
      | false =>
        have hk := (h.2.2.2.1 k (by omega)).1
        have hki : (kO k).toNat < nK := by omega
        have hb := lnS_b (oL := oL) (ab := ab) h k (kO k).toNat hki
        rw [if_pos (show b2 false = 0 from rfl), lf_b_e, lf_b_e, hw k (by omega) a, Int.toNat_natCast, h3 (kO k).toNat hki]
        unfold F_X7_describe
        rw [Int.toNat_natCast]
        have hρ := rhoL_b (al := 123) (w := k) h (by omega) hb
        have hv := vX (stack := a13) (κ := 0) (facts := lf_up (lf_up (lf_up (lf_up (lf_up (lf_up a8 (0 : Int) (cA k)) (1 : Int) d) (3 : Int) (wt k)) (4 : Int) (clmK (kO k).toNat)) (5 : Int) (pcK (kO k).toNat)) (6 : Int) (lnS oL d cA clmK pcK kO wt ab tr k (kO k).toNat)) hX hG hρ (fun j j0 j1 ja => by
          rcases al123 j0 j1 ja with x | x | x | x | x | x <;> subst x
          · rw [lf_up_o (by decide), lf_up_o (by decide), lf_up_o (by decide), lf_up_o (by decide), lf_up_o (by decide), lf_up_y (by decide)]
            rfl
          · rw [lf_up_o (by decide), lf_up_o (by decide), lf_up_o (by decide), lf_up_o (by decide), lf_up_y (by decide)]
            rfl
          · rw [lf_up_o (by decide), lf_up_o (by decide), lf_up_o (by decide), lf_up_y (by decide)]
            rfl
          · rw [lf_up_o (by decide), lf_up_o (by decide), lf_up_y (by decide)]
            rfl
          · rw [lf_up_o (by decide), lf_up_y (by decide)]
            rfl
          · rw [lf_up_y (by decide)]
            rfl) (fun r => absurd r (by decide))
        have hvb := (vlO_b (κ := 0) hG hρ).1
        unfold in6 at hvb
        rw [show Int.toNat (4 : Int) = 4 from rfl, show Int.toNat (5 : Int) = 4 + 1 from rfl]
        generalize F_X3_value _ a13 code (spans 4) (spans (4 + 1)) = R at hv ⊢
        obtain ⟨v, s9⟩ := R
        have hv' : v = vlO false 123 oL (rhoL d cA clmK pcK kO wt k (lnS oL d cA clmK pcK kO wt ab tr k (kO k).toNat)) 0 := hv
        rw [lf_p_e, hv', lo_add (by omega) (by omega) (by omega) (by omega) (by omega) (by omega)]
        refine ih (k + 1) _ _ s9 (by omega) (by omega) (fun i hi => ?_)
        rw [lnS_s, if_neg (show ¬ ab k = true from fun r => Bool.noConfusion (a.symm.trans r))]
        by_cases y : i = (kO k).toNat
        · rw [lf_up_y y, y, upn_y]
        · rw [lf_up_o y, upn_o y]
          exact h3 i hi
theorem ps_x {facts stack code spans leaves : Nat → Int} {A day : Int} (h : lnB nW nK d kO cA clmK pcK wt tr) (hA : rg A) (hA2 : ∀ w, w < 12 → bt A w = ab w) (hX : cdX code spans 4 oL) (hG : cdG false 123 oL) (hw : ∀ w, w < nW → ab w = false → F_X7_waitedBy cA leaves (w : Int) = wt w) (hday : 0 ≤ day ∧ day ≤ 999) : ∃ t2 f2 s2, F_X7_pass facts stack clmK pcK (nW : Int) kO cA code spans d A leaves day tr = (day + 1, t2, f2, s2) ∧ ∀ i, i < nK → t2 i = lnS oL d cA clmK pcK kO wt ab tr nW i := ps_run h hA hA2 hX hG hw hday 14 0 tr facts stack (Nat.zero_le _) (by have := h.1; omega) (fun _ _ => rfl)
/-- the model's -/
theorem lr_run {ask red A : Int} {many bar kinds walkers cf ce codes gaps waits go hm : Nat → Int} {nw0 : Nat → Int} (h : lnB nW nK d kO cA clmK pcK wt tr) (hA : rg A) (hA2 : ∀ w, w < 12 → bt A w = ab w) (hM : cdM cf ce codes 5 oL) (hG : cdG false 123 oL) (hm3 : many 3 = (nW : Int)) (hwk : ∀ w, w < nW → walkers (24 + 2 * w) = kO w ∧ walkers (25 + 2 * w) = cA w) (hkd : ∀ k, k < nK → kinds (12 + 2 * k) = clmK k ∧ kinds (13 + 2 * k) = pcK k) (hw : ∀ w, w < nW → waits w = wt w) (h00 : nw0 0 = d) : ∀ (n k : Nat) (c55 c117 : Int) (a4 a6 : Nat → Int), k ≤ nW → nW - k < n → (∀ i, i < nK → a4 (3 + i) = lnS oL d cA clmK pcK kO wt ab tr k i) → (∀ i, i < 3 ∨ 3 + nK ≤ i → a4 i = nw0 i) → ∃ c55' c117' a4' a6', F_X10_learn_2 ask red many bar kinds walkers cf ce codes gaps waits go hm A n (k : Int) c55 c117 a4 a6 = (c55', c117', a4', a6') ∧ (∀ i, i < nK → a4' (3 + i) = lnS oL d cA clmK pcK kO wt ab tr nW i) ∧ ∀ i, i < 3 ∨ 3 + nK ≤ i → a4' i = nw0 i := by
  intro n
  induction n with
  | zero => intro k c55 c117 a4 a6 h1 h2; omega
  | succ n ih =>
    intro k c55 c117 a4 a6 h1 h2 h3 h4
    have e0 : F_X10_learn_2 ask red many bar kinds walkers cf ce codes gaps waits go hm A (n + 1) (k : Int) c55 c117 a4 a6 = F_X10_learn_2b ask red many bar kinds walkers cf ce codes gaps waits go hm A (F_X10_learn_2 ask red many bar kinds walkers cf ce codes gaps waits go hm A n) (k : Int) c55 c117 a4 a6 := rfl
    rw [e0]
    unfold F_X10_learn_2b F_X10_learn_88 F_X10_learn_89
    rw [lf_b_e, hm3]
    by_cases q : k = nW
    · rw [if_pos (by omega)]
      refine ⟨c55, c117, a4, a6, rfl, fun i hi => ?_, h4⟩
      rw [h3 i hi, q]
    · have hR := hA
      have hn : nW ≤ 12 := h.1
      have hn6 : nK ≤ 6 := h.2.1
      have hk := (h.2.2.2.1 k (by omega)).1
      have hki : (kO k).toNat < nK := by omega
      have hb := lnS_b (oL := oL) (ab := ab) h k (kO k).toNat hki
      obtain ⟨w1, w2⟩ := hwk k (by omega)
      have ek : F_X10_kindOf walkers (k : Int) = kO k := by
        unfold F_X10_kindOf
        rw [show Int.toNat ((24 : Int) + ((2 : Int) * (k : Int))) = 24 + 2 * k from by omega, w1]
      have et : F_X10_trustsOf a4 (kO k) = lnS oL d cA clmK pcK kO wt ab tr k (kO k).toNat := by
        unfold F_X10_trustsOf
        rw [show Int.toNat ((3 : Int) + kO k) = 3 + (kO k).toNat from by omega]
        exact h3 _ hki
      rw [if_neg (by omega), bt_bit hR.1 (show A < 2147483648 from by have := hR.2; omega) (by omega), hA2 k (by omega)]
      cases a : ab k with
      | true =>
        rw [if_pos (show b2 true = 1 from rfl)]
        refine ih (k + 1) c55 c117 a4 a6 (by omega) (by omega) (fun i hi => ?_) h4
        rw [h3 i hi]
        rw [lnS_s, if_pos a]
      | false =>
        rw [if_neg (show ¬ b2 false = 1 from by decide)]
        have hρ := rhoL_b (al := 123) (w := k) h (by omega) hb
        have eS : ∀ i, lnS oL d cA clmK pcK kO wt ab tr (k + 1) i = upn (lnS oL d cA clmK pcK kO wt ab tr k) (kO k).toNat (max 0 (min (lnS oL d cA clmK pcK kO wt ab tr k (kO k).toNat + vlO false 123 oL (rhoL d cA clmK pcK kO wt k (lnS oL d cA clmK pcK kO wt ab tr k (kO k).toNat)) 0) 9)) i := by
          intro i
          rw [lnS_s, if_neg (show ¬ ab k = true from fun r => Bool.noConfusion (a.symm.trans r))]
        have fin : ∀ (v c9 c8 : Int) (p9 : Nat → Int), v = max 0 (min (lnS oL d cA clmK pcK kO wt ab tr k (kO k).toNat + vlO false 123 oL (rhoL d cA clmK pcK kO wt k (lnS oL d cA clmK pcK kO wt ab tr k (kO k).toNat)) 0) 9) → ∃ c55' c117' a4' a6', F_X10_learn_2 ask red many bar kinds walkers cf ce codes gaps waits go hm A n ((k : Int) + (1 : Int)) c9 c8 (lf_up a4 ((3 : Int) + kO k) v) p9 = (c55', c117', a4', a6') ∧ (∀ i, i < nK → a4' (3 + i) = lnS oL d cA clmK pcK kO wt ab tr nW i) ∧ ∀ i, i < 3 ∨ 3 + nK ≤ i → a4' i = nw0 i := by
          intro v c9 c8 p9 hv
          refine ih (k + 1) c9 c8 _ p9 (by omega) (by omega) (fun i hi => ?_) (fun i hi => ?_)
          · rw [eS i]
            by_cases y : i = (kO k).toNat
            · rw [lf_up_y (by omega), y, upn_y, hv]
            · rw [lf_up_o (by omega), upn_o y]
              exact h3 i hi
          · rw [lf_up_o (by omega)]
            exact h4 i hi
        cases oL with
        | none =>
          have hM' : cf 5 = -1 := hM
          rw [if_pos hM']
          refine ih (k + 1) c55 c117 a4 a6 (by omega) (by omega) (fun i hi => ?_) h4
          rw [eS i, h3 i hi]
          by_cases y : i = (kO k).toNat
          · rw [y, upn_y]
            show _ = max 0 (min (_ + (0 : Int)) 9)
            omega
          · rw [upn_o y]
        | some L =>
          obtain ⟨i0, i1, i2, i3, i4⟩ := hM
          have hv := (vlu_s (κ := 0) hG hρ).2
          have hvb := (vlO_b (κ := 0) (o := some L) hG hρ).1
          have e := vm_val2 (ask := ask) (red := red) (bar := bar) (kd := kinds) (wk := walkers) (nw := a4) (gp := gaps) (wt := waits) (go := go) (hm := hm) (p1 := (k : Int)) (pile := a6) (fun j j0 j1 ja => by
            rcases al123 j0 j1 ja with x | x | x | x | x | x <;> subst x
            · show walkers (Int.toNat ((25 : Int) + ((2 : Int) * (k : Int)))) = cA k
              rw [show Int.toNat ((25 : Int) + ((2 : Int) * (k : Int))) = 25 + 2 * k from by omega, w2]
            · show a4 0 = d
              rw [h4 0 (by omega)]
              exact h00
            · show waits (Int.toNat (k : Int)) = wt k
              rw [Int.toNat_natCast]
              exact hw k (by omega)
            · show lf_b (F_X10_kindOf walkers (k : Int)) (fun r25 => kinds (Int.toNat ((12 : Int) + ((2 : Int) * r25)))) = clmK (kO k).toNat
              rw [lf_b_e, ek, show Int.toNat ((12 : Int) + ((2 : Int) * kO k)) = 12 + 2 * (kO k).toNat from by omega]
              exact (hkd _ hki).1
            · show lf_b (F_X10_paceOf kinds walkers (k : Int)) (fun r38 => r38) = pcK (kO k).toNat
              rw [lf_b_e]
              unfold F_X10_paceOf
              rw [lf_b_e, ek, show Int.toNat ((13 : Int) + ((2 : Int) * kO k)) = 13 + 2 * (kO k).toNat from by omega]
              exact (hkd _ hki).2
            · show lf_b (F_X10_kindOf walkers (k : Int)) (fun r42 => lf_b (F_X10_trustsOf a4 r42) (fun r46 => r46)) = _
              rw [lf_b_e, ek, lf_b_e, et]
              rfl) (show ¬ (123 : Int) = 3707 from by decide) i1 i4 i2.symm i3 hv
          rw [if_neg (by omega), lf_b_e, ek, lf_b_e, et]
          generalize F_X10_codesTell_a0_2 ask red bar kinds walkers cf ce codes a4 gaps waits go hm a6 (k : Int) = R at e ⊢
          obtain ⟨v, c, p⟩ := R
          have e' : v = vlO false 123 (some L) (rhoL d cA clmK pcK kO wt k (lnS (some L) d cA clmK pcK kO wt ab tr k (kO k).toNat)) 0 := e
          rw [← e'] at fin hvb
          have hvb2 := hvb
          unfold in6 at hvb2
          rw [lf_p_e, lf_p_e, ol_add (show in6 _ from by unfold in6; omega) hvb]
          by_cases y : 0 ≤ lnS (some L) d cA clmK pcK kO wt ab tr k (kO k).toNat + v
          · rw [if_pos (cmp_ge.mpr y)]
            by_cases y2 : lnS (some L) d cA clmK pcK kO wt ab tr k (kO k).toNat + v ≤ 9
            · rw [if_pos (cmp_le.mpr y2), l2i_6 (by omega) (by omega)]
              exact fin _ _ _ _ (by omega)
            · rw [if_neg (fun r => y2 (cmp_le.mp r))]
              exact fin _ _ _ _ (by omega)
          · rw [if_neg (fun r => y (cmp_ge.mp r))]
            exact fin _ _ _ _ (by omega)
theorem lr_x {tk ask red qp A : Int} {many bar kinds walkers cf ce codes now gaps waits go hm pile : Nat → Int} (h : lnB nW nK d kO cA clmK pcK wt tr) (hA : rg A) (hA2 : ∀ w, w < 12 → bt A w = ab w) (hM : cdM cf ce codes 5 oL) (hG : cdG false 123 oL) (hm3 : many 3 = (nW : Int)) (hwk : ∀ w, w < nW → walkers (24 + 2 * w) = kO w ∧ walkers (25 + 2 * w) = cA w) (hkd : ∀ k, k < nK → kinds (12 + 2 * k) = clmK k ∧ kinds (13 + 2 * k) = pcK k) (hw : ∀ w, w < nW → waits w = wt w) (h00 : now 0 = d) (hnt : ∀ i, i < nK → now (3 + i) = tr i) : ∃ c55' c117' a4' a6', F_X10_learn tk ask red qp many bar kinds walkers cf ce codes now gaps waits go hm pile A = (c55', c117', a4', a6') ∧ (∀ i, i < nK → a4' (3 + i) = lnS oL d cA clmK pcK kO wt ab tr nW i) ∧ ∀ i, i < 3 ∨ 3 + nK ≤ i → a4' i = now i := lr_run h hA hA2 hM hG hm3 hwk hkd hw h00 14 0 tk qp now pile (Nat.zero_le _) (by have := h.1; omega) hnt (fun _ _ => rfl)
end PS
end
section
/-! 8p -/
/-! what a crossing's text plans, as a record; the class holds it -/
abbrev PR : Type := List (Int × Int × Int) × List (Int × Int) × Option (List Int) × Option (List Int) × Option (List Int) × Int
def codM (g : Nat → Int) (n : Nat) (i al : Int) (p : Nat) : SL := if i = 4 then mSum g n al 6 p else mTest g n al 6 p
def lstM (y : SL) : List Int := match y with
  | .inl _ => []
  | .inr z => z.2
def sp_px (g : Nat → Int) (n p : Nat) (st : PL) (pr : PR) : PR := if wl g n ws_0 p = 0 then (pr.1 ++ [((sp_k1 g n st.1 st.2.1 p).1, (sp_k2 g n st.1 st.2.1 p).1, (sp_k3 g n st.1 st.2.1 p).1)], pr.2) else if wl g n ws_0 p = 1 then (pr.1, pr.2.1 ++ [((sp_c2 g n st.1 st.2.1 p).1, (sp_c3 g n st.1 st.2.1 p).1)], pr.2.2) else if wl g n ws_0 p = 2 then (pr.1, pr.2.1, some (lstM (codM g n 0 7 (tx_e g n p))), pr.2.2.2) else if wl g n ws_0 p = 3 then (pr.1, pr.2.1, pr.2.2.1, some (lstM (codM g n 2 507 (tx_e g n p))), pr.2.2.2.2) else if wl g n ws_0 p = 4 then (pr.1, pr.2.1, pr.2.2.1, pr.2.2.2.1, some (lstM (codM g n 4 123 (tx_e g n p))), pr.2.2.2.2.2) else if wl g n ws_0 p = 5 then (pr.1, pr.2.1, pr.2.2.1, pr.2.2.2.1, pr.2.2.2.2.1, (sp_nb g n ws_1 0 100 p).1) else pr
def rcP (g : Nat → Int) (n : Nat) : Nat → Nat → Nat → PL → PR → PR
  | 0, _, _, _, pr => pr
  | f + 1, k, p, st, pr => if tx_k g n p = 0 then pr else if 80 ≤ k then pr else match sb (sp_st g n p st).1 (sp_need g n 59) with
    | .inl _ => pr
    | .inr p2 => rcP g n f (k + 1) p2 (sp_st g n p st).2 (sp_px g n p st pr)
theorem gd_ap {α : Type} {x d : α} : ∀ (l : List α) (j : Nat), (l ++ [x]).getD j d = if j < l.length then l.getD j d else if j = l.length then x else d
  | [], 0 => rfl
  | [], j + 1 => rfl
  | a :: l, 0 => rfl
  | a :: l, j + 1 => by
    have ih := gd_ap (x := x) (d := d) l j
    show (l ++ [x]).getD j d = if j + 1 < l.length + 1 then l.getD j d else if j + 1 = l.length + 1 then x else d
    rw [ih]
    by_cases q : j < l.length
    · rw [if_pos q, if_pos (show j + 1 < l.length + 1 from by omega)]
    · by_cases q2 : j = l.length
      · rw [if_neg q, if_pos q2, if_neg (show ¬ j + 1 < l.length + 1 from by omega), if_pos (show j + 1 = l.length + 1 from by omega)]
      · rw [if_neg q, if_neg q2, if_neg (show ¬ j + 1 < l.length + 1 from by omega), if_neg (show ¬ j + 1 = l.length + 1 from by omega)]
theorem gd_mp : ∀ (l : List Int) (j : Nat), j < l.length → (l.map toC).getD j 0 = toC (l.getD j 0)
  | [], j, h => absurd h (Nat.not_lt_zero j)
  | a :: l, 0, _ => rfl
  | a :: l, j + 1, h => gd_mp l j (Nat.lt_of_succ_lt_succ h)
theorem em_s {c : CD} {a : Int} (h : c.1 < 1600) : em c a = (c.1 + 1, lf_up c.2 c.1 a) := by
  unfold em F_X5_emit
  rw [if_neg (by omega)]
theorem em_t {c : CD} {a : Int} (h : 1600 ≤ c.1) : em c a = c := by
  unfold em F_X5_emit
  rw [if_pos h]
theorem ems_n : ∀ (L : List Int) (c : CD), c.1 ≤ 1600 → (ems c L).1 = min (c.1 + (L.length : Int)) 1600
  | [], c, h => by
    show c.1 = min (c.1 + ((0 : Nat) : Int)) 1600
    omega
  | a :: L, c, h => by
    show (ems (em c a) L).1 = min (c.1 + ((L.length + 1 : Nat) : Int)) 1600
    by_cases q : c.1 < 1600
    · have ih := ems_n L (em c a) (by rw [em_s q]; show c.1 + 1 ≤ 1600; omega)
      rw [ih, em_s q]
      show min (c.1 + 1 + (L.length : Int)) 1600 = _
      omega
    · rw [em_t (by omega), ems_n L c h]
      omega
theorem ems_at : ∀ (L : List Int) (c : CD), 0 ≤ c.1 → c.1 + (L.length : Int) ≤ 1600 → (∀ j, j < L.length → (ems c L).2 (c.1.toNat + j) = L.getD j 0) ∧ ∀ i, i < c.1.toNat → (ems c L).2 i = c.2 i
  | [], c, _, _ => ⟨fun j hj => absurd hj (Nat.not_lt_zero j), fun _ _ => rfl⟩
  | a :: L, c, h0, h => by
    have hl : ((a :: L).length : Int) = (L.length : Int) + 1 := by
      show ((L.length + 1 : Nat) : Int) = _
      omega
    have q : c.1 < 1600 := by omega
    have ih := ems_at L (em c a) (by rw [em_s q]; show 0 ≤ c.1 + 1; omega) (by rw [em_s q]; show c.1 + 1 + (L.length : Int) ≤ 1600; omega)
    have e1 : (em c a).1.toNat = c.1.toNat + 1 := by
      rw [em_s q]
      show (c.1 + 1).toNat = c.1.toNat + 1
      omega
    rw [e1] at ih
    refine ⟨fun j hj => ?_, fun i hi => ?_⟩
    · cases j with
      | zero =>
        show (ems (em c a) L).2 c.1.toNat = a
        rw [ih.2 c.1.toNat (Nat.lt_succ_self _), em_s q]
        exact lf_up_y rfl
      | succ j =>
        have hj2 : j < L.length := Nat.lt_of_succ_lt_succ hj
        show (ems (em c a) L).2 (c.1.toNat + (j + 1)) = L.getD j 0
        rw [← ih.1 j hj2, show c.1.toNat + (j + 1) = c.1.toNat + 1 + j from by omega]
    · show (ems (em c a) L).2 i = c.2 i
      rw [ih.2 i (by omega), em_s q]
      exact lf_up_o (by omega)
theorem sp_nb_b {g : Nat → Int} {n p q : Nat} {ws : List (List Int)} {lo hi : Int} (h : (sp_nb g n ws lo hi p).2 = .inr q) : lo ≤ (sp_nb g n ws lo hi p).1 ∧ (sp_nb g n ws lo hi p).1 ≤ hi := by
  unfold sp_nb at h ⊢
  cases e : sp_w g n ws p with
  | inl r =>
    rw [e] at h
    cases h
  | inr p2 =>
    rw [e] at h
    exact ⟨sp_num_lo, sp_num_hi h⟩
theorem sbv_e {s : ST} {f : Nat → Int × ST} {d : Int} {q : Nat} (h : (sbv s f d).2 = .inr q) : ∃ p, s = .inr p ∧ (f p).2 = .inr q ∧ (sbv s f d).1 = (f p).1 := by
  cases s with
  | inl r => cases h
  | inr p => exact ⟨p, rfl, h, rfl⟩
theorem fi_lt (w : List Int) : ∀ (L : List (List Int)) (i : Nat), fi w L i < (i : Int) + (L.length : Int) + 1 ∧ (fi w L i = -1 ∨ fi w L i < (i : Int) + (L.length : Int))
  | [], i => ⟨by show (-1 : Int) < (i : Int) + ((0 : Nat) : Int) + 1; omega, Or.inl rfl⟩
  | x :: L, i => by
    have ih := fi_lt w L (i + 1)
    show (if x = w then (i : Int) else fi w L (i + 1)) < (i : Int) + ((L.length + 1 : Nat) : Int) + 1 ∧ ((if x = w then (i : Int) else fi w L (i + 1)) = -1 ∨ (if x = w then (i : Int) else fi w L (i + 1)) < (i : Int) + ((L.length + 1 : Nat) : Int))
    by_cases q : x = w
    · rw [if_pos q]
      exact ⟨by omega, Or.inr (by omega)⟩
    · rw [if_neg q]
      refine ⟨by omega, ?_⟩
      rcases ih.2 with r | r
      · exact Or.inl r
      · exact Or.inr (by omega)
theorem sp_kn_b {g : Nat → Int} {n p q : Nat} {Ks : List (List Int)} (h : (sp_kn g n Ks p).2 = .inr q) : 0 ≤ (sp_kn g n Ks p).1 ∧ (sp_kn g n Ks p).1 < (Ks.length : Int) := by
  unfold sp_kn at h ⊢
  by_cases k : isNm g n p = true
  · rw [if_pos k] at h ⊢
    by_cases k2 : fi (wd g n p) Ks 0 = -1
    · rw [if_pos k2] at h
      cases h
    · rw [if_neg k2]
      show 0 ≤ fi (wd g n p) Ks 0 ∧ fi (wd g n p) Ks 0 < (Ks.length : Int)
      have h1 := fi_ge (wd g n p) Ks 0
      have h2 := (fi_lt (wd g n p) Ks 0).2
      omega
  · rw [if_neg k] at h
    cases h
theorem k3_b {g : Nat → Int} {n p q : Nat} {Ks Ws : List (List Int)} (h : (sp_k3 g n Ks Ws p).2 = .inr q) : (0 ≤ (sp_k1 g n Ks Ws p).1 ∧ (sp_k1 g n Ks Ws p).1 ≤ 99) ∧ (1 ≤ (sp_k2 g n Ks Ws p).1 ∧ (sp_k2 g n Ks Ws p).1 ≤ 20) ∧ (0 ≤ (sp_k3 g n Ks Ws p).1 ∧ (sp_k3 g n Ks Ws p).1 ≤ 9) := by
  obtain ⟨p2, e2, f2, v3⟩ := sbv_e h
  obtain ⟨p1, e1, f1, v2⟩ := sbv_e e2
  obtain ⟨p0, e0, f0, v1⟩ := sbv_e e1
  have a1 : (sp_k1 g n Ks Ws p).1 = (sp_nb g n ws_7 0 99 p0).1 := v1
  have a2 : (sp_k2 g n Ks Ws p).1 = (sp_nb g n ws_8 1 20 p1).1 := v2
  have a3 : (sp_k3 g n Ks Ws p).1 = (sp_nb g n ws_9 0 9 p2).1 := v3
  rw [a1, a2, a3]
  exact ⟨sp_nb_b f0, sp_nb_b f1, sp_nb_b f2⟩
theorem c3_b {g : Nat → Int} {n p q : Nat} {Ks Ws : List (List Int)} (h : (sp_c3 g n Ks Ws p).2 = .inr q) : (0 ≤ (sp_c2 g n Ks Ws p).1 ∧ (sp_c2 g n Ks Ws p).1 < (Ks.length : Int)) ∧ (0 ≤ (sp_c3 g n Ks Ws p).1 ∧ (sp_c3 g n Ks Ws p).1 < 200) := by
  obtain ⟨p2, e2, f2, v3⟩ := sbv_e h
  obtain ⟨p1, e1, f1, v2⟩ := sbv_e e2
  have a2 : (sp_c2 g n Ks Ws p).1 = (sp_kn g n Ks p1).1 := v2
  have a3 : (sp_c3 g n Ks Ws p).1 = (sp_nb g n ws_11 0 199 p2).1 := v3
  have b3 := sp_nb_b f2
  rw [a2, a3]
  exact ⟨sp_kn_b f1, by omega⟩
/-- codes that were written -/
theorem cod_M {g : Nat → Int} {n p q : Nat} {i al : Int} {c : CD} (hn : n ≤ 1600) (hp : 1 ≤ p) (hp2 : p ≤ n) (hc : 0 ≤ c.1) (hc2 : c.1 ≤ (p : Int)) (e : (cod g n i al p c).1 = .inr q) : ∃ L, codM g n i al p = .inr (q, L) ∧ q ≤ n ∧ 0 < L.length ∧ c.1 + (L.length : Int) ≤ (q : Int) ∧ (cod g n i al p c).2.1 = c.1 + (L.length : Int) ∧ (∀ j, j < L.length → (cod g n i al p c).2.2 (c.1.toNat + j) = toC (L.getD j 0)) ∧ ∀ j, j < c.1.toNat → (cod g n i al p c).2.2 j = c.2 j := by
  have hr : ∀ c : CD, rlC (cod g n i al p c) (codM g n i al p) c := by
    intro c
    unfold cod codM
    by_cases x : i = 4
    · rw [if_pos x, if_pos x]
      exact sum_r 6 p c hp2
    · rw [if_neg x, if_neg x]
      exact test_r 6 p c hp2
  have hqn : q ≤ n := sv_le (cod_ok (i := i) (al := al) p c hp2).1 e
  have h0 := hr (0, c.2)
  have h1 := hr c
  cases em9 : codM g n i al p with
  | inl r =>
    rw [em9] at h1
    have h1' : (cod g n i al p c).1 = .inl r := h1
    rw [h1'] at e
    cases e
  | inr z =>
    rw [em9] at h0 h1
    obtain ⟨q2, L⟩ := z
    have h1' : cod g n i al p c = (.inr q2, ems c (L.map toC)) := h1
    have h0' : cod g n i al p (0, c.2) = (.inr q2, ems (0, c.2) (L.map toC)) := h0
    have eq2 : q2 = q := by
      rw [h1'] at e
      cases e
      rfl
    subst eq2
    have hG0 := cod_G (i := i) (al := al) hn p (0, c.2) hp2 (Int.le_refl 0) (by show (0 : Int) ≤ (p : Int); omega) q2 (by rw [h0'])
    rw [h0'] at hG0
    have hl0 := ems_n (L.map toC) (0, c.2) (by show (0 : Int) ≤ 1600; decide)
    rw [List.length_map] at hl0
    have hG0' : (0 : Int) < (ems (0, c.2) (L.map toC)).1 ∧ (ems (0, c.2) (L.map toC)).1 ≤ 0 + ((q2 : Int) - (p : Int)) := hG0
    have hl0' : (ems (0, c.2) (L.map toC)).1 = min ((0 : Int) + (L.length : Int)) 1600 := hl0
    have hlen : (L.length : Int) ≤ (q2 : Int) - (p : Int) := by omega
    have hlen0 : 0 < L.length := by omega
    have hat := ems_at (L.map toC) c hc (by rw [List.length_map]; omega)
    rw [List.length_map] at hat
    have hn2 := ems_n (L.map toC) c (by omega)
    rw [List.length_map] at hn2
    refine ⟨L, rfl, hqn, hlen0, by omega, ?_, fun j hj => ?_, fun j hj => ?_⟩
    · rw [h1', hn2]
      omega
    · rw [h1']
      show (ems c (L.map toC)).2 (c.1.toNat + j) = _
      rw [hat.1 j hj, gd_mp L j hj]
    · rw [h1']
      exact hat.2 j hj
theorem codM_gT {g : Nat → Int} {n p : Nat} {i al : Int} {z : Nat × List Int} (x : ¬ i = 4) (h : codM g n i al p = .inr z) : cdG true al (some z.2) := by
  unfold codM at h
  rw [if_neg x] at h
  exact ⟨3 * 6 + 6, by decide, gd_mTest 6 p z.1 z.2 h⟩
theorem codM_gS {g : Nat → Int} {n p : Nat} {i al : Int} {z : Nat × List Int} (x : i = 4) (h : codM g n i al p = .inr z) : cdG false al (some z.2) := by
  unfold codM at h
  rw [if_pos x] at h
  exact ⟨3 * 6 + 3, by decide, gd_mSum 6 p z.1 z.2 h⟩
/-- a record within its bounds -/
def prI (pr : PR) (nk nw : Nat) : Prop := (pr.1.length = nk ∧ pr.2.1.length = nw ∧ nk ≤ 6 ∧ nw ≤ 12) ∧ (∀ j, j < nk → (0 ≤ (pr.1.getD j (0, 0, 0)).1 ∧ (pr.1.getD j (0, 0, 0)).1 ≤ 99) ∧ (1 ≤ (pr.1.getD j (0, 0, 0)).2.1 ∧ (pr.1.getD j (0, 0, 0)).2.1 ≤ 20) ∧ (0 ≤ (pr.1.getD j (0, 0, 0)).2.2 ∧ (pr.1.getD j (0, 0, 0)).2.2 ≤ 9)) ∧ (∀ w, w < nw → (0 ≤ (pr.2.1.getD w (0, 0)).1 ∧ (pr.2.1.getD w (0, 0)).1 < (nk : Int)) ∧ (0 ≤ (pr.2.1.getD w (0, 0)).2 ∧ (pr.2.1.getD w (0, 0)).2 < 200)) ∧ (cdG true 7 pr.2.2.1 ∧ cdG true 507 pr.2.2.2.1 ∧ cdG false 123 pr.2.2.2.2.1) ∧ (0 ≤ pr.2.2.2.2.2 ∧ pr.2.2.2.2.2 ≤ 100)
def cdS (code spans : Nat → Int) (size : Int) (k : Nat) (o : Option (List Int)) : Prop := match o with
  | none => spans (k + 1) ≤ spans k
  | some L => ∃ i : Nat, spans k = (i : Int) ∧ spans (k + 1) = (i : Int) + (L.length : Int) ∧ (i : Int) + (L.length : Int) ≤ size ∧ ∀ j, j < L.length → code (i + j) = toC (L.getD j 0)
theorem cdS_X {code spans : Nat → Int} {size : Int} {k : Nat} {o : Option (List Int)} (h : cdS code spans size k o) (hs : size ≤ 1600) : cdX code spans k o := by
  cases o with
  | none => exact h
  | some L =>
    obtain ⟨i, h1, h2, h3, h4⟩ := h
    exact ⟨i, h1, h2, by omega, h4⟩
theorem cdS_w {code code2 spans spans2 : Nat → Int} {size size2 : Int} {k : Nat} {o : Option (List Int)} (h : cdS code spans size k o) (hs : size ≤ size2) (h0 : 0 ≤ size) (h1 : spans2 k = spans k) (h2 : spans2 (k + 1) = spans (k + 1)) (hc : ∀ j, j < size.toNat → code2 j = code j) : cdS code2 spans2 size2 k o := by
  cases o with
  | none =>
    show spans2 (k + 1) ≤ spans2 k
    rw [h1, h2]
    exact h
  | some L =>
    obtain ⟨i, a1, a2, a3, a4⟩ := h
    refine ⟨i, by rw [h1, a1], by rw [h2, a2], by omega, fun j hj => ?_⟩
    rw [hc (i + j) (by omega)]
    exact a4 j hj
/-- the class's rows hold it -/
def prX (pr : PR) (comers spans calm pace trusts kindOf comesAt code : Nat → Int) (size away : Int) : Prop := (∀ j, j < pr.1.length → calm j = (pr.1.getD j (0, 0, 0)).1 ∧ pace j = (pr.1.getD j (0, 0, 0)).2.1 ∧ trusts j = (pr.1.getD j (0, 0, 0)).2.2) ∧ (∀ w, w < pr.2.1.length → kindOf w = (pr.2.1.getD w (0, 0)).1 ∧ comesAt w = (pr.2.1.getD w (0, 0)).2) ∧ cmB pr.2.1.length (fun w => (pr.2.1.getD w (0, 0)).2) comers ∧ (cdS code spans size 0 pr.2.2.1 ∧ cdS code spans size 2 pr.2.2.2.1 ∧ cdS code spans size 4 pr.2.2.2.2.1) ∧ away = pr.2.2.2.2.2 ∧ 0 ≤ size
section PX
variable {pr : PR} {nk nw : Nat} {A2 A3 A6 A7 A8 A9 A10 cd : Nat → Int} {sz aw : Int}
theorem px_k {a b c : Int} (hI : prI pr nk nw) (hX : prX pr A2 A3 A6 A7 A8 A9 A10 cd sz aw) (hl : nk < 6) (hb : (0 ≤ a ∧ a ≤ 99) ∧ (1 ≤ b ∧ b ≤ 20) ∧ (0 ≤ c ∧ c ≤ 9)) : prI (pr.1 ++ [(a, b, c)], pr.2) (nk + 1) nw ∧ prX (pr.1 ++ [(a, b, c)], pr.2) A2 A3 (lf_up A6 (nk : Int) a) (lf_up A7 (nk : Int) b) (lf_up A8 (nk : Int) c) A9 A10 cd sz aw := by
  obtain ⟨⟨i1, i2, i3, i4⟩, i5, i6, i7⟩ := hI
  obtain ⟨x1, x2⟩ := hX
  have el : (pr.1 ++ [(a, b, c)]).length = nk + 1 := by
    rw [List.length_append, i1]
    rfl
  refine ⟨⟨⟨el, i2, by omega, i4⟩, fun j hj => ?_, fun w hw => ?_, i7⟩, fun j hj => ?_, x2⟩
  · show (0 ≤ ((pr.1 ++ [(a, b, c)]).getD j (0, 0, 0)).1 ∧ _) ∧ _
    rw [gd_ap, i1]
    by_cases q : j < nk
    · rw [if_pos q]
      exact i5 j q
    · rw [if_neg q, if_pos (show j = nk from by omega)]
      exact hb
  · have := i6 w hw
    exact ⟨⟨this.1.1, Int.lt_of_lt_of_le this.1.2 (show (nk : Int) ≤ ((nk + 1 : Nat) : Int) from by omega)⟩, this.2⟩
  · have hj' : j < nk + 1 := by
      rw [← el]
      exact hj
    show _ = ((pr.1 ++ [(a, b, c)]).getD j (0, 0, 0)).1 ∧ _ = ((pr.1 ++ [(a, b, c)]).getD j (0, 0, 0)).2.1 ∧ _ = ((pr.1 ++ [(a, b, c)]).getD j (0, 0, 0)).2.2
    rw [gd_ap, i1]
    by_cases q : j < nk
    · rw [if_pos q, lf_up_o (by omega), lf_up_o (by omega), lf_up_o (by omega)]
      exact x1 j (by omega)
    · rw [if_neg q, if_pos (show j = nk from by omega), lf_up_y (by omega), lf_up_y (by omega), lf_up_y (by omega)]
      exact ⟨rfl, rfl, rfl⟩
theorem px_c {a b : Int} (hI : prI pr nk nw) (hX : prX pr A2 A3 A6 A7 A8 A9 A10 cd sz aw) (hl : nw < 12) (hb : (0 ≤ a ∧ a < (nk : Int)) ∧ (0 ≤ b ∧ b < 200)) : prI (pr.1, pr.2.1 ++ [(a, b)], pr.2.2) nk (nw + 1) ∧ prX (pr.1, pr.2.1 ++ [(a, b)], pr.2.2) (lf_up A2 b (lf_o lf_ior (A2 (Int.toNat b)) (lf_o lf_ishl (1 : Int) (nw : Int)))) A3 A6 A7 A8 (lf_up A9 (nw : Int) a) (lf_up A10 (nw : Int) b) cd sz aw := by
  obtain ⟨⟨i1, i2, i3, i4⟩, i5, i6, i7⟩ := hI
  obtain ⟨x1, x2, x3, x4⟩ := hX
  have el : (pr.2.1 ++ [(a, b)]).length = nw + 1 := by
    rw [List.length_append, i2]
    rfl
  have hbt : ∀ w, (pr.2.1 ++ [(a, b)]).getD w (0, 0) = if w < nw then pr.2.1.getD w (0, 0) else if w = nw then (a, b) else (0, 0) := by
    intro w
    rw [gd_ap, i2]
  refine ⟨⟨⟨i1, el, i3, by omega⟩, i5, fun w hw => ?_, i7⟩, x1, fun w hw => ?_, fun s => ?_, x4⟩
  · show (0 ≤ ((pr.2.1 ++ [(a, b)]).getD w (0, 0)).1 ∧ _) ∧ _
    rw [hbt]
    by_cases q : w < nw
    · rw [if_pos q]
      exact i6 w q
    · rw [if_neg q, if_pos (show w = nw from by omega)]
      exact hb
  · have hw' : w < nw + 1 := by
      rw [← el]
      exact hw
    show _ = ((pr.2.1 ++ [(a, b)]).getD w (0, 0)).1 ∧ _ = ((pr.2.1 ++ [(a, b)]).getD w (0, 0)).2
    rw [hbt]
    by_cases q : w < nw
    · rw [if_pos q, lf_up_o (by omega), lf_up_o (by omega)]
      exact x2 w (by omega)
    · rw [if_neg q, if_pos (show w = nw from by omega), lf_up_y (by omega), lf_up_y (by omega)]
      exact ⟨rfl, rfl⟩
  · have hx := x3 s
    rw [i2] at hx
    show rg _ ∧ ∀ w, w < 12 → bt _ w = (decide (w < (pr.2.1 ++ [(a, b)]).length) && decide (((pr.2.1 ++ [(a, b)]).getD w (0, 0)).2 = (s : Int)))
    rw [el]
    unfold F_X4_comersIn F_X4_comersIn_20 at hx ⊢
    rw [if_neg (show ¬ (s : Int) < 0 from by omega)] at hx ⊢
    by_cases q : (200 : Int) ≤ (s : Int)
    · rw [if_pos q] at hx ⊢
      refine ⟨rg_0, fun w hw => ?_⟩
      rw [bt_0, hbt]
      by_cases q2 : w < nw
      · have := (i6 w q2).2
        rw [if_pos q2, decide_eq_false (show ¬ (pr.2.1.getD w (0, 0)).2 = (s : Int) from by omega), Bool.and_false]
      · rw [if_neg q2]
        by_cases q3 : w = nw
        · rw [if_pos q3, decide_eq_false (show ¬ b = (s : Int) from by omega), Bool.and_false]
        · rw [decide_eq_false (show ¬ w < nw + 1 from by omega), Bool.false_and]
    · rw [if_neg q] at hx ⊢
      rw [Int.toNat_natCast] at hx ⊢
      have hsh := rg_sh (w := nw) (by omega)
      by_cases q4 : b = (s : Int)
      · rw [lf_up_y (show s = b.toNat from by omega), show b.toNat = s from by omega]
        have hor := rg_or hx.1 hsh.1
        refine ⟨hor.1, fun w hw => ?_⟩
        rw [hor.2, hx.2 w hw, hsh.2, hbt]
        by_cases q2 : w < nw
        · rw [if_pos q2, decide_eq_true q2, decide_eq_true (show w < nw + 1 from by omega), decide_eq_false (show ¬ nw = w from by omega), Bool.or_false]
        · rw [if_neg q2, decide_eq_false q2, Bool.false_and, Bool.false_or]
          by_cases q3 : w = nw
          · rw [if_pos q3, decide_eq_true q3.symm, decide_eq_true (show w < nw + 1 from by omega), decide_eq_true q4]
            rfl
          · rw [decide_eq_false (show ¬ nw = w from fun r => q3 r.symm), decide_eq_false (show ¬ w < nw + 1 from by omega), Bool.false_and]
      · rw [lf_up_o (show ¬ s = b.toNat from by omega)]
        refine ⟨hx.1, fun w hw => ?_⟩
        rw [hx.2 w hw, hbt]
        by_cases q2 : w < nw
        · rw [if_pos q2, decide_eq_true q2, decide_eq_true (show w < nw + 1 from by omega)]
        · rw [if_neg q2, decide_eq_false q2, Bool.false_and]
          by_cases q3 : w = nw
          · rw [if_pos q3, decide_eq_false q4, Bool.and_false]
          · rw [decide_eq_false (show ¬ w < nw + 1 from by omega), Bool.false_and]
theorem px_5 {v : Int} (hI : prI pr nk nw) (hX : prX pr A2 A3 A6 A7 A8 A9 A10 cd sz aw) (hb : 0 ≤ v ∧ v ≤ 100) : prI (pr.1, pr.2.1, pr.2.2.1, pr.2.2.2.1, pr.2.2.2.2.1, v) nk nw ∧ prX (pr.1, pr.2.1, pr.2.2.1, pr.2.2.2.1, pr.2.2.2.2.1, v) A2 A3 A6 A7 A8 A9 A10 cd sz v := by
  obtain ⟨i1, i2, i3, i4, i5⟩ := hI
  obtain ⟨x1, x2, x3, x4, x5, x6⟩ := hX
  exact ⟨⟨i1, i2, i3, i4, hb⟩, x1, x2, x3, x4, rfl, x6⟩
theorem cdS_n {cd2 : Nat → Int} {L : List Int} {k : Nat} (hs : 0 ≤ sz) (hc : ∀ j, j < L.length → cd2 (sz.toNat + j) = toC (L.getD j 0)) : cdS cd2 (lf_up (lf_up A3 (k : Int) sz) ((k : Int) + 1) (sz + (L.length : Int))) (sz + (L.length : Int)) k (some L) := by
  refine ⟨sz.toNat, ?_, ?_, by omega, hc⟩
  · rw [lf_up_o (by omega), lf_up_y (by omega)]
    omega
  · rw [lf_up_y (by omega)]
    omega
theorem px_0 {cd2 : Nat → Int} {L : List Int} (hI : prI pr nk nw) (hX : prX pr A2 A3 A6 A7 A8 A9 A10 cd sz aw) (hg : cdG true 7 (some L)) (hc : ∀ j, j < L.length → cd2 (sz.toNat + j) = toC (L.getD j 0)) (hc2 : ∀ j, j < sz.toNat → cd2 j = cd j) : prI (pr.1, pr.2.1, some L, pr.2.2.2) nk nw ∧ prX (pr.1, pr.2.1, some L, pr.2.2.2) A2 (lf_up (lf_up A3 0 sz) (0 + 1) (sz + (L.length : Int))) A6 A7 A8 A9 A10 cd2 (sz + (L.length : Int)) aw := by
  obtain ⟨i1, i2, i3, i4, i5⟩ := hI
  obtain ⟨x1, x2, x3, x4, x5, x6⟩ := hX
  exact ⟨⟨i1, i2, i3, ⟨hg, i4.2⟩, i5⟩, x1, x2, x3, ⟨cdS_n (k := 0) x6 hc, cdS_w x4.2.1 (by omega) x6 rfl rfl hc2, cdS_w x4.2.2 (by omega) x6 rfl rfl hc2⟩, x5, by show 0 ≤ sz + (L.length : Int); omega⟩
theorem px_2 {cd2 : Nat → Int} {L : List Int} (hI : prI pr nk nw) (hX : prX pr A2 A3 A6 A7 A8 A9 A10 cd sz aw) (hg : cdG true 507 (some L)) (hc : ∀ j, j < L.length → cd2 (sz.toNat + j) = toC (L.getD j 0)) (hc2 : ∀ j, j < sz.toNat → cd2 j = cd j) : prI (pr.1, pr.2.1, pr.2.2.1, some L, pr.2.2.2.2) nk nw ∧ prX (pr.1, pr.2.1, pr.2.2.1, some L, pr.2.2.2.2) A2 (lf_up (lf_up A3 2 sz) (2 + 1) (sz + (L.length : Int))) A6 A7 A8 A9 A10 cd2 (sz + (L.length : Int)) aw := by
  obtain ⟨i1, i2, i3, i4, i5⟩ := hI
  obtain ⟨x1, x2, x3, x4, x5, x6⟩ := hX
  exact ⟨⟨i1, i2, i3, ⟨i4.1, hg, i4.2.2⟩, i5⟩, x1, x2, x3, ⟨cdS_w x4.1 (by omega) x6 rfl rfl hc2, cdS_n (k := 2) x6 hc, cdS_w x4.2.2 (by omega) x6 rfl rfl hc2⟩, x5, by show 0 ≤ sz + (L.length : Int); omega⟩
theorem px_4 {cd2 : Nat → Int} {L : List Int} (hI : prI pr nk nw) (hX : prX pr A2 A3 A6 A7 A8 A9 A10 cd sz aw) (hg : cdG false 123 (some L)) (hc : ∀ j, j < L.length → cd2 (sz.toNat + j) = toC (L.getD j 0)) (hc2 : ∀ j, j < sz.toNat → cd2 j = cd j) : prI (pr.1, pr.2.1, pr.2.2.1, pr.2.2.2.1, some L, pr.2.2.2.2.2) nk nw ∧ prX (pr.1, pr.2.1, pr.2.2.1, pr.2.2.2.1, some L, pr.2.2.2.2.2) A2 (lf_up (lf_up A3 4 sz) (4 + 1) (sz + (L.length : Int))) A6 A7 A8 A9 A10 cd2 (sz + (L.length : Int)) aw := by
  obtain ⟨i1, i2, i3, i4, i5⟩ := hI
  obtain ⟨x1, x2, x3, x4, x5, x6⟩ := hX
  exact ⟨⟨i1, i2, i3, ⟨i4.1, i4.2.1, hg⟩, i5⟩, x1, x2, x3, ⟨cdS_w x4.1 (by omega) x6 rfl rfl hc2, cdS_w x4.2.1 (by omega) x6 rfl rfl hc2, cdS_n (k := 4) x6 hc⟩, x5, by show 0 ≤ sz + (L.length : Int); omega⟩
end PX
/-- what the output holds -/
def tellP (o : RO) (r : Sum (Int × Int) (Nat × PL)) (pr : PR) : Prop := match r with
  | .inl _ => True
  | .inr x => prI pr x.2.1.length x.2.2.1.length ∧ prX pr o.2.2.2.2.2.2.2.2.2.2.2.2.2.2.2.2.1 o.2.2.2.2.2.2.2.2.2.2.2.2.2.2.2.2.2.1 o.2.2.2.2.2.2.2.2.2.2.2.2.2.2.2.2.2.2.2.1 o.2.2.2.2.2.2.2.2.2.2.2.2.2.2.2.2.2.2.2.2.1 o.2.2.2.2.2.2.2.2.2.2.2.2.2.2.2.2.2.2.2.2.2.1 o.2.2.2.2.2.2.2.2.2.2.2.2.2.2.2.2.2.2.2.2.2.2.1 o.2.2.2.2.2.2.2.2.2.2.2.2.2.2.2.2.2.2.2.2.2.2.2.1 o.2.2.2.2.2.2.2.2.2.2.2.2.2.2.2.2.2.2.2.2.2.2.2.2 o.2.2.2.2.2.2.2.2.2.2.2.2.2.2.2.1 o.2.2.2.2.2.2.2.2.2.2.2.1 ∧ o.2.2.2.2.2.2.2.2.2.2.2.2.2.2.2.1 ≤ 1600
theorem rp_loop {g : Nat → Int} {n : Nat} {cy gr ru le : Int} (hn : n ≤ 1600) : ∀ (f k p : Nat) (st : PL) (pr : PR) (al aw : Int) (A2 A3 A5 A6 A7 A8 A9 A10 : Nat → Int), p ≤ n → k ≤ 80 → 81 ≤ k + f → nms A5 st.1 st.2.1 → tf A3 st.2.2.1 st.2.2.2.1 st.2.2.2.2.1 → 0 ≤ st.2.2.2.2.2.1 → st.2.2.2.2.2.1 ≤ (p : Int) → prI pr st.1.length st.2.1.length → prX pr A2 A3 A6 A7 A8 A9 A10 st.2.2.2.2.2.2 st.2.2.2.2.2.1 aw → tellP (F_X5_readCrossing_18 g f (n : Int) (tx_a g n p : Int) (tx_e g n p : Int) (tx_k g n p : Int) (0 : Int) (-1 : Int) cy gr ru le A2 A3 (k : Int) al aw (st.1.length : Int) (st.2.1.length : Int) st.2.2.2.2.2.1 A5 A6 A7 A8 A9 A10 st.2.2.2.2.2.2) (rcL g n f k p st) (rcP g n f k p st pr) := by
  intro f
  induction f with
  | zero => intro k p st pr al aw A2 A3 A5 A6 A7 A8 A9 A10 h1 h2 h3; omega
  | succ f ih =>
    intro k p st pr al aw A2 A3 A5 A6 A7 A8 A9 A10 h1 h2 h3 h4 h5 h6 h7 hI hX
    show tellP (F_X5_readCrossing_18b g (F_X5_readCrossing_18 g f) (n : Int) (tx_a g n p : Int) (tx_e g n p : Int) (tx_k g n p : Int) (0 : Int) (-1 : Int) cy gr ru le A2 A3 (k : Int) al aw (st.1.length : Int) (st.2.1.length : Int) st.2.2.2.2.2.1 A5 A6 A7 A8 A9 A10 st.2.2.2.2.2.2) _ _
    unfold F_X5_readCrossing_18b rcL rcP
    by_cases k0 : tx_k g n p = 0
    · rw [if_pos (by omega), if_pos k0, if_pos k0]
      unfold F_X5_readCrossing_158 F_X5_readCrossing_174
      rw [if_pos (by omega)]
      exact ⟨hI, hX, by show st.2.2.2.2.2.1 ≤ 1600; omega⟩
    · rw [if_neg (by omega), if_neg k0, if_neg k0]
      by_cases k1 : 80 ≤ k
      · rw [if_pos (by omega), if_pos k1, if_pos k1]
        unfold F_X5_readCrossing_158 F_X5_readCrossing_174
        rw [if_neg (by omega), cl_fail0, lf_p_e]
        exact True.intro
      · rw [if_neg (by omega), if_neg k1, if_neg k1, lf_b_e, cl_w_0, wl_c]
        have hlt : p < tx_e g n p := tx_e_gt' k0
        have hle := tx_e_le (f := g) h1
        have key : ∀ (s : ST) (st2 : PL) (pr2 : PR) (ki wa : Int) (d : CD) (al2 aw2 : Int) (B2 B3 B5 B6 B7 B8 B9 B10 : Nat → Int), sv n s → (∀ q, s = .inr q → p ≤ q ∧ ki = (st2.1.length : Int) ∧ wa = (st2.2.1.length : Int) ∧ d = st2.2.2.2.2.2 ∧ nms B5 st2.1 st2.2.1 ∧ tf B3 st2.2.2.1 st2.2.2.2.1 st2.2.2.2.2.1 ∧ 0 ≤ d.1 ∧ d.1 ≤ (q : Int) ∧ prI pr2 st2.1.length st2.2.1.length ∧ prX pr2 B2 B3 B6 B7 B8 B9 B10 d.2 d.1 aw2) → tellP (F_X5_readCrossing_146 g (n : Int) cy gr ru le (k : Int) (F_X5_readCrossing_18 g f) (cst g n s).1 (cst g n s).2.1 (cst g n s).2.2.1 (cst g n s).2.2.2.1 (cst g n s).2.2.2.2 ki B5 B6 B7 B8 wa B2 B9 B10 al2 d.1 B3 d.2 aw2) (match sb s (sp_need g n 59) with
            | .inl q => .inl q
            | .inr p2 => rcL g n f (k + 1) p2 st2) (match sb s (sp_need g n 59) with
            | .inl _ => pr
            | .inr p2 => rcP g n f (k + 1) p2 st2 pr2) := by
          intro s st2 pr2 ki wa d al2 aw2 B2 B3 B5 B6 B7 B8 B9 B10 hv hx
          rw [rc_146 hn hv]
          have hv2 : sv n (sb s (sp_need g n 59)) := sp_need_sv hv
          cases e : sb s (sp_need g n 59) with
          | inl q => exact True.intro
          | inr p2 =>
            rw [e] at hv2
            obtain ⟨p1, es, e2⟩ := sb_in e
            obtain ⟨x1, x2, x3, x4, x5, x6, x7, x8, y9, y10⟩ := hx p1 es
            have x9 := sp_need_gt e2
            subst x2
            subst x3
            subst x4
            have := ih (k + 1) p2 st2 pr2 al2 aw2 B2 B3 B5 B6 B7 B8 B9 B10 hv2 (by omega) (by omega) x5 x6 x7 (by omega) y9 y10
            rw [show ((k + 1 : Nat) : Int) = (k : Int) + 1 from by omega] at this
            exact this
        obtain ⟨Ks, Ws, t0, t1, t2, c⟩ := st
        have h4 : nms A5 Ks Ws := h4
        have h5 : tf A3 t0 t1 t2 := h5
        have h6 : 0 ≤ c.1 := h6
        have h7 : c.1 ≤ (p : Int) := h7
        have hI : prI pr Ks.length Ws.length := hI
        have hX : prX pr A2 A3 A6 A7 A8 A9 A10 c.2 c.1 aw := hX
        show tellP _ (match sb (sp_st g n p (Ks, Ws, t0, t1, t2, c)).1 (sp_need g n 59) with
            | .inl q => .inl q
            | .inr p2 => rcL g n f (k + 1) p2 (sp_st g n p (Ks, Ws, t0, t1, t2, c)).2) (match sb (sp_st g n p (Ks, Ws, t0, t1, t2, c)).1 (sp_need g n 59) with
            | .inl _ => pr
            | .inr p2 => rcP g n f (k + 1) p2 (sp_st g n p (Ks, Ws, t0, t1, t2, c)).2 (sp_px g n p (Ks, Ws, t0, t1, t2, c) pr))
        by_cases w0 : wl g n ws_0 p = 0
        · rw [if_pos w0]
          by_cases l0 : Ks.length < 6
          · have e9 : sp_st g n p (Ks, Ws, t0, t1, t2, c) = ((sp_k3 g n Ks Ws p).2, (Ks ++ [wd g n (tx_e g n p)], Ws, t0, t1, t2, c)) := by
              unfold sp_st
              rw [if_pos w0]
              exact if_pos l0
            rw [e9]
            show tellP (lf_p (F_X5_kindStatement g (n : Int) (tx_a g n p : Int) (tx_e g n p : Int) (Ks.length : Int) A6 A7 A8 (Ws.length : Int) A5 (0 : Int) (-1 : Int)) _) _ _
            rw [cl_kind hn h1 h4 l0, lf_pa, lf_p_e, lf_p_e, lf_p_e, lf_p_e, lf_p_e, lf_p_e, lf_p_e, lf_p_e]
            refine key (sp_k3 g n Ks Ws p).2 (Ks ++ [wd g n (tx_e g n p)], Ws, t0, t1, t2, c) _ _ _ c _ _ _ _ _ _ _ _ _ _ (sp_k3_v Ks Ws h1) (fun q e => ?_)
            obtain ⟨y1, y2, p1, y3⟩ := sp_k3_gt e
            have ex : sp_px g n p (Ks, Ws, t0, t1, t2, c) pr = (pr.1 ++ [((sp_k1 g n Ks Ws p).1, (sp_k2 g n Ks Ws p).1, (sp_k3 g n Ks Ws p).1)], pr.2) := by
              unfold sp_px
              exact if_pos w0
            have hpx := px_k hI hX l0 (k3_b e)
            refine ⟨by omega, ?_, rfl, rfl, ?_, h5, h6, by omega, by rw [ex]; show prI _ (Ks ++ [_]).length _ ∧ _; rw [List.length_append]; exact hpx⟩
            · show (Ks.length : Int) + 1 = ((Ks ++ [wd g n (tx_e g n p)]).length : Int)
              rw [List.length_append]
              show (Ks.length : Int) + 1 = ((Ks.length + 1 : Nat) : Int)
              omega
            · show nms (nN A5 Ks.length (wd g n (tx_e g n p)) (sp_k0 g n Ks Ws p)) (Ks ++ [wd g n (tx_e g n p)]) Ws
              rw [y3]
              exact nms_k1 (isNm_W y2).2 h4 l0
          · have e9 : sp_st g n p (Ks, Ws, t0, t1, t2, c) = (.inl (5, (tx_a g n p : Int)), (Ks, Ws, t0, t1, t2, c)) := by
              unfold sp_st
              rw [if_pos w0]
              exact if_neg l0
            have e8 : (Ks.length : Int) = 6 := by have := h4.2.2.2.2.1; omega
            rw [e9]
            show tellP (lf_p (F_X5_kindStatement g (n : Int) (tx_a g n p : Int) (tx_e g n p : Int) (Ks.length : Int) A6 A7 A8 (Ws.length : Int) A5 (0 : Int) (-1 : Int)) _) _ _
            rw [e8, cl_kind5, lf_pa, lf_p_e, lf_p_e, lf_p_e, lf_p_e, lf_p_e, lf_p_e, lf_p_e, lf_p_e]
            exact key (.inl (5, (tx_a g n p : Int))) (Ks, Ws, t0, t1, t2, c) pr _ _ c _ _ _ _ _ _ _ _ _ _ (sv_l (by decide)) (fun q e => by cases e)
        · rw [if_neg w0]
          by_cases w1 : wl g n ws_0 p = 1
          · rw [if_pos w1]
            by_cases l0 : Ws.length < 12
            · have e9 : sp_st g n p (Ks, Ws, t0, t1, t2, c) = ((sp_c3 g n Ks Ws p).2, (Ks, Ws ++ [wd g n (tx_e g n p)], t0, t1, t2, c)) := by
                unfold sp_st
                rw [if_neg w0, if_pos w1]
                exact if_pos l0
              rw [e9]
              show tellP (lf_p (F_X5_comesStatement g (n : Int) (tx_a g n p : Int) (tx_e g n p : Int) (Ks.length : Int) (Ws.length : Int) A9 A10 A2 A5 (0 : Int) (-1 : Int)) _) _ _
              rw [cl_comes hn h1 h4 l0, lf_pa, lf_p_e, lf_p_e, lf_p_e, lf_p_e, lf_p_e, lf_p_e, lf_p_e, lf_p_e]
              refine key (sp_c3 g n Ks Ws p).2 (Ks, Ws ++ [wd g n (tx_e g n p)], t0, t1, t2, c) _ _ _ c _ _ _ _ _ _ _ _ _ _ (sp_c3_v Ks Ws h1) (fun q e => ?_)
              obtain ⟨y1, y2, p1, y3⟩ := sp_c3_gt e
              have ex : sp_px g n p (Ks, Ws, t0, t1, t2, c) pr = (pr.1, pr.2.1 ++ [((sp_c2 g n Ks Ws p).1, (sp_c3 g n Ks Ws p).1)], pr.2.2) := by
                unfold sp_px
                rw [if_neg w0]
                exact if_pos w1
              have hpx := px_c hI hX l0 (c3_b e)
              refine ⟨by omega, rfl, ?_, rfl, ?_, h5, h6, by omega, by rw [ex]; show prI _ _ (Ws ++ [_]).length ∧ _; rw [List.length_append]; exact hpx⟩
              · show (Ws.length : Int) + 1 = ((Ws ++ [wd g n (tx_e g n p)]).length : Int)
                rw [List.length_append]
                show (Ws.length : Int) + 1 = ((Ws.length + 1 : Nat) : Int)
                omega
              · show nms (nN A5 (6 + Ws.length) (wd g n (tx_e g n p)) (sp_k0 g n Ks Ws p)) Ks (Ws ++ [wd g n (tx_e g n p)])
                rw [y3]
                exact nms_w1 (isNm_W y2).2 h4 l0
            · have e9 : sp_st g n p (Ks, Ws, t0, t1, t2, c) = (.inl (5, (tx_a g n p : Int)), (Ks, Ws, t0, t1, t2, c)) := by
                unfold sp_st
                rw [if_neg w0, if_pos w1]
                exact if_neg l0
              have e8 : (Ws.length : Int) = 12 := by have := h4.2.2.2.2.2; omega
              rw [e9]
              show tellP (lf_p (F_X5_comesStatement g (n : Int) (tx_a g n p : Int) (tx_e g n p : Int) (Ks.length : Int) (Ws.length : Int) A9 A10 A2 A5 (0 : Int) (-1 : Int)) _) _ _
              rw [e8, cl_comes5, lf_pa, lf_p_e, lf_p_e, lf_p_e, lf_p_e, lf_p_e, lf_p_e, lf_p_e, lf_p_e]
              exact key (.inl (5, (tx_a g n p : Int))) (Ks, Ws, t0, t1, t2, c) pr _ _ c _ _ _ _ _ _ _ _ _ _ (sv_l (by decide)) (fun q e => by cases e)
          · rw [if_neg w1]
            by_cases w2 : wl g n ws_0 p = 2
            · rw [if_pos w2]
              cases hb : t0 with
              | true =>
                rw [hb] at h5
                have e9 : sp_st g n p (Ks, Ws, true, t1, t2, c) = (.inl (5, (tx_a g n p : Int)), (Ks, Ws, true, t1, t2, c)) := by
                  unfold sp_st
                  rw [if_neg w0, if_neg w1, if_pos w2]
                  exact if_pos rfl
                rw [e9]
                show tellP (lf_p (F_X5_codeStatement g (n : Int) (tx_a g n p : Int) (tx_e g n p : Int) al c.2 c.1 A3 (0 : Int) (-1 : Int) (0 : Int) (7 : Int)) _) _ _
                rw [cl_code5 (h5.1.mp rfl), lf_p9, lf_p_e, lf_p_e, lf_p_e, lf_p_e, lf_p_e, lf_p_e, lf_p_e]
                exact key (.inl (5, (tx_a g n p : Int))) (Ks, Ws, true, t1, t2, c) pr _ _ c _ _ _ _ _ _ _ _ _ _ (sv_l (by decide)) (fun q e => by cases e)
              | false =>
                rw [hb] at h5
                have e9 : sp_st g n p (Ks, Ws, false, t1, t2, c) = ((cod g n 0 7 (tx_e g n p) c).1, (Ks, Ws, true, t1, t2, (cod g n 0 7 (tx_e g n p) c).2)) := by
                  unfold sp_st
                  rw [if_neg w0, if_neg w1, if_pos w2]
                  exact if_neg (fun r => Bool.noConfusion r)
                rw [e9]
                have hs : A3 (Int.toNat ((0 : Int) + 1)) ≤ A3 (Int.toNat (0 : Int)) := Classical.byContradiction (fun r => Bool.noConfusion (h5.1.mpr r))
                obtain ⟨d, e1, e2⟩ := cl_code1 (g := g) (c := c) (al0 := al) (al := 7) (i := 0) hn h1 hs
                show tellP (lf_p (F_X5_codeStatement g (n : Int) (tx_a g n p : Int) (tx_e g n p : Int) al c.2 c.1 A3 (0 : Int) (-1 : Int) (0 : Int) (7 : Int)) _) _ _
                rw [e1, lf_p9, lf_p_e, lf_p_e, lf_p_e, lf_p_e, lf_p_e, lf_p_e, lf_p_e]
                refine key (cod g n 0 7 (tx_e g n p) c).1 (Ks, Ws, true, t1, t2, (cod g n 0 7 (tx_e g n p) c).2) _ _ _ d _ _ _ _ _ _ _ _ _ _ (cod_ok _ c hle).1 (fun q e => ?_)
                have y1 := (cod_ok _ c hle).2 q e
                have y2 := cod_G hn _ c hle h6 (by omega) q e
                have y3 := e2 q e
                obtain ⟨L, m1, m2, m3, m4, m5, m6, m7⟩ := cod_M (i := 0) (al := 7) hn (by omega) hle h6 (by omega) e
                have ex : sp_px g n p (Ks, Ws, false, t1, t2, c) pr = (pr.1, pr.2.1, some L, pr.2.2.2) := by
                  have e7 : lstM (codM g n 0 7 (tx_e g n p)) = L := by
                    rw [m1]
                    rfl
                  unfold sp_px
                  rw [if_neg w0, if_neg w1, if_pos w2, e7]
                have hpx := px_0 hI hX (codM_gT (by decide) m1) m6 m7
                refine ⟨by omega, rfl, rfl, y3, h4, tf_0 h5 ?_, ?_, ?_, ?_⟩
                · rw [y3]; exact y2.1
                · rw [y3]; omega
                · rw [y3]; omega
                · rw [ex, y3, m5]; exact hpx
            · rw [if_neg w2]
              by_cases w3 : wl g n ws_0 p = 3
              · rw [if_pos w3]
                cases hb : t1 with
                | true =>
                  rw [hb] at h5
                  have e9 : sp_st g n p (Ks, Ws, t0, true, t2, c) = (.inl (5, (tx_a g n p : Int)), (Ks, Ws, t0, true, t2, c)) := by
                    unfold sp_st
                    rw [if_neg w0, if_neg w1, if_neg w2, if_pos w3]
                    exact if_pos rfl
                  rw [e9]
                  show tellP (lf_p (F_X5_codeStatement g (n : Int) (tx_a g n p : Int) (tx_e g n p : Int) al c.2 c.1 A3 (0 : Int) (-1 : Int) (2 : Int) (507 : Int)) _) _ _
                  rw [cl_code5 (h5.2.1.mp rfl), lf_p9, lf_p_e, lf_p_e, lf_p_e, lf_p_e, lf_p_e, lf_p_e, lf_p_e]
                  exact key (.inl (5, (tx_a g n p : Int))) (Ks, Ws, t0, true, t2, c) pr _ _ c _ _ _ _ _ _ _ _ _ _ (sv_l (by decide)) (fun q e => by cases e)
                | false =>
                  rw [hb] at h5
                  have e9 : sp_st g n p (Ks, Ws, t0, false, t2, c) = ((cod g n 2 507 (tx_e g n p) c).1, (Ks, Ws, t0, true, t2, (cod g n 2 507 (tx_e g n p) c).2)) := by
                    unfold sp_st
                    rw [if_neg w0, if_neg w1, if_neg w2, if_pos w3]
                    exact if_neg (fun r => Bool.noConfusion r)
                  rw [e9]
                  have hs : A3 (Int.toNat ((2 : Int) + 1)) ≤ A3 (Int.toNat (2 : Int)) := Classical.byContradiction (fun r => Bool.noConfusion (h5.2.1.mpr r))
                  obtain ⟨d, e1, e2⟩ := cl_code1 (g := g) (c := c) (al0 := al) (al := 507) (i := 2) hn h1 hs
                  show tellP (lf_p (F_X5_codeStatement g (n : Int) (tx_a g n p : Int) (tx_e g n p : Int) al c.2 c.1 A3 (0 : Int) (-1 : Int) (2 : Int) (507 : Int)) _) _ _
                  rw [e1, lf_p9, lf_p_e, lf_p_e, lf_p_e, lf_p_e, lf_p_e, lf_p_e, lf_p_e]
                  refine key (cod g n 2 507 (tx_e g n p) c).1 (Ks, Ws, t0, true, t2, (cod g n 2 507 (tx_e g n p) c).2) _ _ _ d _ _ _ _ _ _ _ _ _ _ (cod_ok _ c hle).1 (fun q e => ?_)
                  have y1 := (cod_ok _ c hle).2 q e
                  have y2 := cod_G hn _ c hle h6 (by omega) q e
                  have y3 := e2 q e
                  obtain ⟨L, m1, m2, m3, m4, m5, m6, m7⟩ := cod_M (i := 2) (al := 507) hn (by omega) hle h6 (by omega) e
                  have ex : sp_px g n p (Ks, Ws, t0, false, t2, c) pr = (pr.1, pr.2.1, pr.2.2.1, some L, pr.2.2.2.2) := by
                    have e7 : lstM (codM g n 2 507 (tx_e g n p)) = L := by
                      rw [m1]
                      rfl
                    unfold sp_px
                    rw [if_neg w0, if_neg w1, if_neg w2, if_pos w3, e7]
                  have hpx := px_2 hI hX (codM_gT (by decide) m1) m6 m7
                  refine ⟨by omega, rfl, rfl, y3, h4, tf_1 h5 ?_, ?_, ?_, ?_⟩
                  · rw [y3]; exact y2.1
                  · rw [y3]; omega
                  · rw [y3]; omega
                  · rw [ex, y3, m5]; exact hpx
              · rw [if_neg w3]
                by_cases w4 : wl g n ws_0 p = 4
                · rw [if_pos w4]
                  cases hb : t2 with
                  | true =>
                    rw [hb] at h5
                    have e9 : sp_st g n p (Ks, Ws, t0, t1, true, c) = (.inl (5, (tx_a g n p : Int)), (Ks, Ws, t0, t1, true, c)) := by
                      unfold sp_st
                      rw [if_neg w0, if_neg w1, if_neg w2, if_neg w3, if_pos w4]
                      exact if_pos rfl
                    rw [e9]
                    show tellP (lf_p (F_X5_codeStatement g (n : Int) (tx_a g n p : Int) (tx_e g n p : Int) al c.2 c.1 A3 (0 : Int) (-1 : Int) (4 : Int) (123 : Int)) _) _ _
                    rw [cl_code5 (h5.2.2.mp rfl), lf_p9, lf_p_e, lf_p_e, lf_p_e, lf_p_e, lf_p_e, lf_p_e, lf_p_e]
                    exact key (.inl (5, (tx_a g n p : Int))) (Ks, Ws, t0, t1, true, c) pr _ _ c _ _ _ _ _ _ _ _ _ _ (sv_l (by decide)) (fun q e => by cases e)
                  | false =>
                    rw [hb] at h5
                    have e9 : sp_st g n p (Ks, Ws, t0, t1, false, c) = ((cod g n 4 123 (tx_e g n p) c).1, (Ks, Ws, t0, t1, true, (cod g n 4 123 (tx_e g n p) c).2)) := by
                      unfold sp_st
                      rw [if_neg w0, if_neg w1, if_neg w2, if_neg w3, if_pos w4]
                      exact if_neg (fun r => Bool.noConfusion r)
                    rw [e9]
                    have hs : A3 (Int.toNat ((4 : Int) + 1)) ≤ A3 (Int.toNat (4 : Int)) := Classical.byContradiction (fun r => Bool.noConfusion (h5.2.2.mpr r))
                    obtain ⟨d, e1, e2⟩ := cl_code1 (g := g) (c := c) (al0 := al) (al := 123) (i := 4) hn h1 hs
                    show tellP (lf_p (F_X5_codeStatement g (n : Int) (tx_a g n p : Int) (tx_e g n p : Int) al c.2 c.1 A3 (0 : Int) (-1 : Int) (4 : Int) (123 : Int)) _) _ _
                    rw [e1, lf_p9, lf_p_e, lf_p_e, lf_p_e, lf_p_e, lf_p_e, lf_p_e, lf_p_e]
                    refine key (cod g n 4 123 (tx_e g n p) c).1 (Ks, Ws, t0, t1, true, (cod g n 4 123 (tx_e g n p) c).2) _ _ _ d _ _ _ _ _ _ _ _ _ _ (cod_ok _ c hle).1 (fun q e => ?_)
                    have y1 := (cod_ok _ c hle).2 q e
                    have y2 := cod_G hn _ c hle h6 (by omega) q e
                    have y3 := e2 q e
                    obtain ⟨L, m1, m2, m3, m4, m5, m6, m7⟩ := cod_M (i := 4) (al := 123) hn (by omega) hle h6 (by omega) e
                    have ex : sp_px g n p (Ks, Ws, t0, t1, false, c) pr = (pr.1, pr.2.1, pr.2.2.1, pr.2.2.2.1, some L, pr.2.2.2.2.2) := by
                      have e7 : lstM (codM g n 4 123 (tx_e g n p)) = L := by
                        rw [m1]
                        rfl
                      unfold sp_px
                      rw [if_neg w0, if_neg w1, if_neg w2, if_neg w3, if_pos w4, e7]
                    have hpx := px_4 hI hX (codM_gS rfl m1) m6 m7
                    refine ⟨by omega, rfl, rfl, y3, h4, tf_2 h5 ?_, ?_, ?_, ?_⟩
                    · rw [y3]; exact y2.1
                    · rw [y3]; omega
                    · rw [y3]; omega
                    · rw [ex, y3, m5]; exact hpx
                · rw [if_neg w4]
                  by_cases w5 : wl g n ws_0 p = 5
                  · rw [if_pos w5]
                    have e9 : sp_st g n p (Ks, Ws, t0, t1, t2, c) = ((sp_nb g n ws_1 0 100 p).2, (Ks, Ws, t0, t1, t2, c)) := by
                      unfold sp_st
                      rw [if_neg w0, if_neg w1, if_neg w2, if_neg w3, if_neg w4]
                      exact if_pos w5
                    rw [e9, F_X5_numberBehind_a1_0_a2_100_s1_1 hn h1, lf_p_e, lf_pc]
                    repeat rw [lf_p2]
                    refine key (sp_nb g n ws_1 0 100 p).2 (Ks, Ws, t0, t1, t2, c) _ _ _ c _ _ _ _ _ _ _ _ _ _ (sp_nb_v ws_1 0 100 h1) (fun q e => ?_)
                    have y1 := sp_nb_gt e
                    have ex : sp_px g n p (Ks, Ws, t0, t1, t2, c) pr = (pr.1, pr.2.1, pr.2.2.1, pr.2.2.2.1, pr.2.2.2.2.1, (sp_nb g n ws_1 0 100 p).1) := by
                      unfold sp_px
                      rw [if_neg w0, if_neg w1, if_neg w2, if_neg w3, if_neg w4]
                      exact if_pos w5
                    exact ⟨by omega, rfl, rfl, rfl, h4, h5, h6, by omega, by rw [ex]; exact px_5 hI hX (sp_nb_b e)⟩
                  · rw [if_neg w5]
                    have e9 : sp_st g n p (Ks, Ws, t0, t1, t2, c) = (.inl (1, (tx_a g n p : Int)), (Ks, Ws, t0, t1, t2, c)) := by
                      unfold sp_st
                      rw [if_neg w0, if_neg w1, if_neg w2, if_neg w3, if_neg w4]
                      exact if_neg w5
                    rw [e9, cl_fail0, lf_p_e]
                    exact key (.inl (1, (tx_a g n p : Int))) (Ks, Ws, t0, t1, t2, c) pr _ _ c _ _ _ _ _ _ _ _ _ _ (sv_l (by decide)) (fun q e => by cases e)
def pr0 : PR := ([], [], none, none, none, 0)
def rpT (g : Nat → Int) (n : Nat) (cd : Nat → Int) : PR := match sb (sp_1d g n (.inr 0)).2 (sp_need g n 59) with
  | .inl _ => pr0
  | .inr p => rcP g n 81 1 p ([], [], false, false, false, (0, cd)) pr0
theorem prI_0 : prI pr0 0 0 := ⟨⟨rfl, rfl, by decide, by decide⟩, fun j hj => absurd hj (Nat.not_lt_zero j), fun j hj => absurd hj (Nat.not_lt_zero j), ⟨True.intro, True.intro, True.intro⟩, ⟨by decide, by decide⟩⟩
theorem prX_0 {comers spans A6 A7 A8 A9 A10 cd : Nat → Int} : prX pr0 (lf_fl comers 200 0) (lf_fl spans 6 0) A6 A7 A8 A9 A10 cd 0 0 := by
  refine ⟨fun j hj => absurd hj (Nat.not_lt_zero j), fun j hj => absurd hj (Nat.not_lt_zero j), fun s => ?_, ⟨Int.le_refl 0, Int.le_refl 0, Int.le_refl 0⟩, rfl, Int.le_refl 0⟩
  have e : F_X4_comersIn (lf_fl comers 200 0) (s : Int) = 0 := by
    unfold F_X4_comersIn F_X4_comersIn_20
    rw [if_neg (show ¬ (s : Int) < 0 from by omega)]
    by_cases q : (200 : Int) ≤ (s : Int)
    · rw [if_pos q]
    · rw [if_neg q, Int.toNat_natCast]
      exact if_pos (show s < 200 from by omega)
  rw [e]
  refine ⟨rg_0, fun w hw => ?_⟩
  rw [bt_0]
  show false = (decide (w < 0) && _)
  rw [decide_eq_false (Nat.not_lt_zero w), Bool.false_and]
theorem rp_start {g code : Nat → Int} {n p : Nat} {cy gr ru le : Int} (hn : n ≤ 1600) (hp : p ≤ n) (al : Int) (A2 A3 A5 A6 A7 A8 A9 A10 : Nat → Int) : tellP (F_X5_readCrossing_18 g 81 (n : Int) (tx_a g n p : Int) (tx_e g n p : Int) (tx_k g n p : Int) (0 : Int) (-1 : Int) cy gr ru le (lf_fl A2 200 0) (lf_fl A3 6 0) (1 : Int) al (0 : Int) (0 : Int) (0 : Int) (0 : Int) A5 A6 A7 A8 A9 A10 code) (rcL g n 81 1 p ([], [], false, false, false, (0, code))) (rcP g n 81 1 p ([], [], false, false, false, (0, code)) pr0) := by
  have h := rp_loop (g := g) (cy := cy) (gr := gr) (ru := ru) (le := le) hn 81 1 p ([], [], false, false, false, (0, code)) pr0 al 0 (lf_fl A2 200 0) (lf_fl A3 6 0) A5 A6 A7 A8 A9 A10 hp (by omega) (by omega) (nms_0 _) (tf_fl _) (Int.le_refl 0) (by show (0 : Int) ≤ _; omega) prI_0 prX_0
  have e1 : ((1 : Nat) : Int) = (1 : Int) := rfl
  have e2 : (((([], [], false, false, false, (0, code)) : PL).1.length : Nat) : Int) = (0 : Int) := rfl
  have e4 : (([], [], false, false, false, (0, code)) : PL).2.2.2.2.2.1 = (0 : Int) := rfl
  have e5 : (([], [], false, false, false, (0, code)) : PL).2.2.2.2.2.2 = code := rfl
  rw [e1, e2, e4, e5] at h
  exact h
theorem cl_rp {g calm pace trusts kindOf comesAt comers names code spans : Nat → Int} {n : Nat} {al : Int} (hn : n ≤ 1600) : tellP (F_X5_readCrossing g al calm pace trusts kindOf comesAt comers names code spans (n : Int)) (rcT g n code) (rpT g n code) := by
  have hv : sv n (.inr 0) := Nat.zero_le n
  have hv1 : sv n (sp_1d g n (.inr 0)).2 := sp_1d_v hv
  rw [cl_rc1 hn (cl_first (s := .inr 0) hn hv) hv1]
  unfold rcT rpT
  have hv2 : sv n (sb (sp_1d g n (.inr 0)).2 (sp_need g n 59)) := sp_need_sv hv1
  generalize (sp_1a g n (.inr 0)).1 = cy
  generalize (sp_1b g n (.inr 0)).1 = gr
  generalize (sp_1c g n (.inr 0)).1 = ru
  generalize (sp_1d g n (.inr 0)).1 = le
  generalize sb (sp_1d g n (.inr 0)).2 (sp_need g n 59) = s2 at hv2
  cases s2 with
  | inl q => exact True.intro
  | inr p => exact rp_start hn hv2 _ _ _ _ _ _ _ _ _
end
section
/-! 8q -/
/-! the model: what kinds, walkers and codes write -/
theorem kt_2 {g M N kd tr : Nat → Int} {n p : Nat} {xa xe np bg : Int} {Ks Ws : List (List Int)} {w1 w2 w3 w4 w5 w6 w7 w8 w9 w10 w11 w12 w13 w14 w15 w16 w17 w18 w19 w20 w21 w22 w23 w24 w25 w26 w27 w28 w29 w30 : Nat → Int} (hn : n ≤ 1600) (hm : mw w1 w2 w3 w4 w5 w6 w7 w8 w9 w10 w11 w12 w13 w14 w15 w16 w17 w18 w19 w20 w21 w22 w23 w24 w25 w26 w27 w28 w29 w30) (hp : p ≤ n) (h : mp g n (tx_e g n p) xa xe) (hN : mnm M N Ks Ws) (hl : Ks.length < 6) : (∀ j, 12 ≤ j → (F_X10_kindTold xa (n : Int) xe (0 : Int) (-1 : Int) np g w1 w2 w3 w4 w5 w6 w7 w8 w9 w10 w11 w12 w13 w14 w15 w16 w17 w18 w19 w20 w21 w22 w23 w24 w25 w26 w27 w28 w29 w30 M N kd tr bg).2.2.2.2.2.2.2.1 j = kd j) ∧ ∀ q, (sp_k3 g n Ks Ws p).2 = .inr q → (F_X10_kindTold xa (n : Int) xe (0 : Int) (-1 : Int) np g w1 w2 w3 w4 w5 w6 w7 w8 w9 w10 w11 w12 w13 w14 w15 w16 w17 w18 w19 w20 w21 w22 w23 w24 w25 w26 w27 w28 w29 w30 M N kd tr bg).2.2.2.2.2.2.2.1 = lf_up (lf_up kd ((2 : Int) * (Ks.length : Int)) (sp_k1 g n Ks Ws p).1) (((2 : Int) * (Ks.length : Int)) + (1 : Int)) (sp_k2 g n Ks Ws p).1 ∧ (F_X10_kindTold xa (n : Int) xe (0 : Int) (-1 : Int) np g w1 w2 w3 w4 w5 w6 w7 w8 w9 w10 w11 w12 w13 w14 w15 w16 w17 w18 w19 w20 w21 w22 w23 w24 w25 w26 w27 w28 w29 w30 M N kd tr bg).2.2.2.2.2.2.2.2 = lf_up tr (Ks.length : Int) (sp_k3 g n Ks Ws p).1 := by
  unfold F_X10_kindTold F_X10_isFull_a0_0_a1_6
  rw [if_pos rfl, if_neg (show ¬ M 0 = 6 from by have := hN.1; omega), lf_p_e, lf_p_e, if_pos rfl]
  have hv0 : sv n (sp_k0 g n Ks Ws p) := sp_k0_v Ks Ws hp
  have r0 := nw_1 (np := np) hn hm h hN
  generalize F_X10_newName xa (n : Int) xe (0 : Int) (-1 : Int) np g w1 w2 w3 w4 w5 w6 w7 w8 w9 w10 w11 w12 w13 w14 w15 w16 w17 w18 w19 w20 w21 w22 w23 w24 w25 w26 w27 w28 w29 w30 M N = o1 at r0 ⊢
  obtain ⟨y1, xa1, xe1, xb1, xp1, n1⟩ := o1
  have y1h : ∀ q, sp_k0 g n Ks Ws p = .inr q → y1 = v27 (wd g n (tx_e g n p)) := r0.2
  have r1 : rm g n (sp_k0 g n Ks Ws p) xa1 xe1 xb1 xp1 := r0.1
  rw [lf_p_e, lf_p_e, lf_p_e, lf_p_e, lf_p_e]
  have r2 := F_X10_asks_r4_s hn (W := W_calm) rfl hm.2.2.2.2.2.1 hv0 r1
  have v2 : sv n (sb (sp_k0 g n Ks Ws p) (sp_w g n [W_calm])) := sv_sb hv0 (fun _ hp => sp_w_v _ hp)
  generalize F_X10_asks_r4 xa1 (n : Int) xe1 xb1 xp1 g w6 = o2 at r2 ⊢
  obtain ⟨xa2, xe2, xb2, xp2⟩ := o2
  have r2 : rm g n (sb (sp_k0 g n Ks Ws p) (sp_w g n [W_calm])) xa2 xe2 xb2 xp2 := r2
  rw [lf_p_e, lf_p_e, lf_p_e]
  have r3 := gM_s hn v2 r2 0 99 0
  rw [F_X10_number_a0_0_a1_99_g]
  generalize gM xa2 (n : Int) xe2 xb2 xp2 g 0 99 = o3 at r3 ⊢
  obtain ⟨y3, xa3, xe3, xb3, xp3⟩ := o3
  rw [sbv_nb] at r3
  have r3 : rm5 g n (sp_k1 g n Ks Ws p) (y3, xa3, xe3, xb3, xp3) := r3
  have y3h : ∀ p77, (sp_k1 g n Ks Ws p).2 = .inr p77 → y3 = (sp_k1 g n Ks Ws p).1 := r3.2
  have r3 : rm g n (sp_k1 g n Ks Ws p).2 xa3 xe3 xb3 xp3 := r3.1
  rw [lf_p_e, lf_p_e, lf_p_e, lf_p_e]
  have r4 := F_X10_asks_r4_s hn (W := W_pace) rfl hm.2.2.2.2.2.2.1 (sp_k1_v Ks Ws hp) r3
  have v4 : sv n (sb (sp_k1 g n Ks Ws p).2 (sp_w g n [W_pace])) := sv_sb (sp_k1_v Ks Ws hp) (fun _ hp => sp_w_v _ hp)
  generalize F_X10_asks_r4 xa3 (n : Int) xe3 xb3 xp3 g w7 = o4 at r4 ⊢
  obtain ⟨xa4, xe4, xb4, xp4⟩ := o4
  have r4 : rm g n (sb (sp_k1 g n Ks Ws p).2 (sp_w g n [W_pace])) xa4 xe4 xb4 xp4 := r4
  rw [lf_p_e, lf_p_e, lf_p_e]
  have r5 := gM_s hn v4 r4 1 20 1
  rw [F_X10_number_a0_1_a1_20_g]
  generalize gM xa4 (n : Int) xe4 xb4 xp4 g 1 20 = o5 at r5 ⊢
  obtain ⟨y5, xa5, xe5, xb5, xp5⟩ := o5
  rw [sbv_nb] at r5
  have r5 : rm5 g n (sp_k2 g n Ks Ws p) (y5, xa5, xe5, xb5, xp5) := r5
  have y5h : ∀ p77, (sp_k2 g n Ks Ws p).2 = .inr p77 → y5 = (sp_k2 g n Ks Ws p).1 := r5.2
  have r5 : rm g n (sp_k2 g n Ks Ws p).2 xa5 xe5 xb5 xp5 := r5.1
  rw [lf_p_e, lf_p_e, lf_p_e, lf_p_e]
  have r6 := F_X10_asks_r6_s hn (W := W_trusts) rfl hm.2.2.2.2.2.2.2.1 (sp_k2_v Ks Ws hp) r5
  have v6 : sv n (sb (sp_k2 g n Ks Ws p).2 (sp_w g n [W_trusts])) := sv_sb (sp_k2_v Ks Ws hp) (fun _ hp => sp_w_v _ hp)
  generalize F_X10_asks_r6 xa5 (n : Int) xe5 xb5 xp5 g w8 = o6 at r6 ⊢
  obtain ⟨xa6, xe6, xb6, xp6⟩ := o6
  have r6 : rm g n (sb (sp_k2 g n Ks Ws p).2 (sp_w g n [W_trusts])) xa6 xe6 xb6 xp6 := r6
  rw [lf_p_e, lf_p_e, lf_p_e]
  have r7 := gM_s hn v6 r6 0 9 0
  rw [F_X10_number_a0_0_a1_9_g]
  generalize gM xa6 (n : Int) xe6 xb6 xp6 g 0 9 = o7 at r7 ⊢
  obtain ⟨y7, xa7, xe7, xb7, xp7⟩ := o7
  rw [sbv_nb] at r7
  have r7 : rm5 g n (sp_k3 g n Ks Ws p) (y7, xa7, xe7, xb7, xp7) := r7
  have y7h : ∀ p77, (sp_k3 g n Ks Ws p).2 = .inr p77 → y7 = (sp_k3 g n Ks Ws p).1 := r7.2
  have r7 : rm g n (sp_k3 g n Ks Ws p).2 xa7 xe7 xb7 xp7 := r7.1
  rw [lf_p_e, lf_p_e, lf_p_e, lf_p_e]
  have hv9 := sp_k3_v (g := g) Ks Ws hp
  cases e : (sp_k3 g n Ks Ws p).2 with
  | inl x =>
    rw [e] at r7 hv9
    have hb : ¬ xb7 = 0 := fun r => hv9 (r7.1.symm.trans r)
    rw [if_neg hb]
    exact ⟨fun j _ => rfl, fun q r => by cases r⟩
  | inr q9 =>
    have e9 := e
    rw [e] at r7
    rw [if_pos r7.1]
    obtain ⟨u2, f2, _⟩ := sbv_e e9
    have f2 : (sp_k2 g n Ks Ws p).2 = .inr u2 := f2
    obtain ⟨u1, f1, _⟩ := sbv_e f2
    have f1 : (sp_k1 g n Ks Ws p).2 = .inr u1 := f1
    have hm0 : M 0 = (Ks.length : Int) := hN.1
    refine ⟨fun j hj => ?_, fun q r => ?_⟩
    · show lf_up (lf_up kd ((2 : Int) * M 0) y3) (((2 : Int) * M 0) + (1 : Int)) y5 j = kd j
      rw [lf_up_o (by omega), lf_up_o (by omega)]
    · rw [y3h u1 f1, y5h u2 f2, y7h q9 e9, hm0]
      exact ⟨rfl, rfl⟩
theorem wt_2 {g M N wk : Nat → Int} {n p : Nat} {xa xe np bg : Int} {Ks Ws : List (List Int)} {w1 w2 w3 w4 w5 w6 w7 w8 w9 w10 w11 w12 w13 w14 w15 w16 w17 w18 w19 w20 w21 w22 w23 w24 w25 w26 w27 w28 w29 w30 : Nat → Int} (hn : n ≤ 1600) (hm : mw w1 w2 w3 w4 w5 w6 w7 w8 w9 w10 w11 w12 w13 w14 w15 w16 w17 w18 w19 w20 w21 w22 w23 w24 w25 w26 w27 w28 w29 w30) (hp : p ≤ n) (h : mp g n (tx_e g n p) xa xe) (hN : mnm M N Ks Ws) (hl : Ws.length < 12) : (∀ j, 24 ≤ j → (F_X10_walkerTold xa (n : Int) xe (0 : Int) (-1 : Int) np g w1 w2 w3 w4 w5 w6 w7 w8 w9 w10 w11 w12 w13 w14 w15 w16 w17 w18 w19 w20 w21 w22 w23 w24 w25 w26 w27 w28 w29 w30 M N wk bg).2.2.2.2.2.2.2 j = wk j) ∧ ∀ q, (sp_c3 g n Ks Ws p).2 = .inr q → (F_X10_walkerTold xa (n : Int) xe (0 : Int) (-1 : Int) np g w1 w2 w3 w4 w5 w6 w7 w8 w9 w10 w11 w12 w13 w14 w15 w16 w17 w18 w19 w20 w21 w22 w23 w24 w25 w26 w27 w28 w29 w30 M N wk bg).2.2.2.2.2.2.2 = lf_up (lf_up wk ((2 : Int) * (Ws.length : Int)) (sp_c2 g n Ks Ws p).1) (((2 : Int) * (Ws.length : Int)) + (1 : Int)) (sp_c3 g n Ks Ws p).1 := by
  unfold F_X10_walkerTold F_X10_isFull_a0_1_a1_12
  rw [if_pos rfl, if_neg (show ¬ M 1 = 12 from by have := hN.2.1; omega), lf_p_e, lf_p_e, if_pos rfl]
  have hv0 : sv n (sp_k0 g n Ks Ws p) := sp_k0_v Ks Ws hp
  have r0 := nw_1 (np := np) hn hm h hN
  generalize F_X10_newName xa (n : Int) xe (0 : Int) (-1 : Int) np g w1 w2 w3 w4 w5 w6 w7 w8 w9 w10 w11 w12 w13 w14 w15 w16 w17 w18 w19 w20 w21 w22 w23 w24 w25 w26 w27 w28 w29 w30 M N = o1 at r0 ⊢
  obtain ⟨y1, xa1, xe1, xb1, xp1, n1⟩ := o1
  have y1h : ∀ q, sp_k0 g n Ks Ws p = .inr q → y1 = v27 (wd g n (tx_e g n p)) := r0.2
  have r1 : rm g n (sp_k0 g n Ks Ws p) xa1 xe1 xb1 xp1 := r0.1
  rw [lf_p_e, lf_p_e, lf_p_e, lf_p_e, lf_p_e]
  have r2 := F_X10_asks_r2_s hn (W := W_is) rfl hm.2.2.2.2.2.2.2.2.2.1 hv0 r1
  have v2 : sv n (sp_c1 g n Ks Ws p) := sp_c1_v Ks Ws hp
  generalize F_X10_asks_r2 xa1 (n : Int) xe1 xb1 xp1 g w10 = o2 at r2 ⊢
  obtain ⟨xa2, xe2, xb2, xp2⟩ := o2
  have r2 : rm g n (sp_c1 g n Ks Ws p) xa2 xe2 xb2 xp2 := r2
  rw [lf_p_e, lf_p_e, lf_p_e]
  have r3 := nm_s (np := n1) hn hm v2 r2
  generalize F_X10_name xa2 (n : Int) xe2 xb2 xp2 n1 g w1 w2 w3 w4 w5 w6 w7 w8 w9 w10 w11 w12 w13 w14 w15 w16 w17 w18 w19 w20 w21 w22 w23 w24 w25 w26 w27 w28 w29 w30 = o3 at r3 ⊢
  obtain ⟨y3, xa3, xe3, xb3, xp3, n3⟩ := o3
  obtain ⟨r4, y3h⟩ := r3
  rw [lf_p_e, lf_p_e, lf_p_e, lf_p_e, lf_p_e, lf_b_e]
  cases ec : sp_c1 g n Ks Ws p with
  | inl x =>
    rw [ec] at r4 v2
    have r4 : xb3 = x.1 ∧ xp3 = x.2 := r4
    have hb : ¬ xb3 = 0 := fun r => v2 (r4.1.symm.trans r)
    have e3 : (sp_c3 g n Ks Ws p).2 = .inl x := by
      unfold sp_c3 sp_c2
      rw [ec]
      rfl
    rw [if_neg hb, ask2_0 hb, lf_p_e, lf_p_e, lf_p_e, F_X10_number_a0_0_a1_199_g, gM_0 hb, lf_p_e, lf_p_e, lf_p_e, lf_p_e, e3]
    exact ⟨fun j _ => rfl, fun q r => by cases r⟩
  | inr p2 =>
    rw [ec] at r4 v2
    have hp2 : p2 ≤ n := v2
    by_cases c : isNm g n p2 = true
    · have y4 := y3h p2 ec c
      have e5 : sp_nm g n p2 = .inr (tx_e g n p2) := by
        unfold sp_nm
        exact if_pos c
      have r5 : rm6 g n (sp_nm g n p2) (y3, xa3, xe3, xb3, xp3, n3) := r4
      rw [e5] at r5
      obtain ⟨z1, z2, z3⟩ := r5
      have z1 : xb3 = 0 := z1
      have z2 : xp3 = -1 := z2
      have z3 : mp g n (tx_e g n p2) xa3 xe3 := z3
      have z4 : y3 = v27 (wd g n p2) := y4.1
      have z5 : n3 = (tx_a g n p2 : Int) := y4.2
      subst z1
      subst z2
      subst z4
      subst z5
      rw [if_pos rfl, no_0 (isNm_W c).2 hN]
      by_cases q1 : fi (wd g n p2) Ks 0 = -1
      · have hb : ¬ (3 : Int) = 0 := by decide
        have e3 : (sp_c3 g n Ks Ws p).2 = .inl (3, (tx_a g n p2 : Int)) := by
          unfold sp_c3 sp_c2
          rw [ec]
          show (sbv (sp_kn g n Ks p2).2 (sp_nb g n ws_11 0 199) 0).2 = _
          unfold sp_kn
          rw [if_pos c, if_pos q1]
          rfl
        rw [if_pos q1, ask2_0 hb, lf_p_e, lf_p_e, lf_p_e, F_X10_number_a0_0_a1_199_g, gM_0 hb, lf_p_e, lf_p_e, lf_p_e, lf_p_e, e3]
        exact ⟨fun j _ => rfl, fun q r => by cases r⟩
      · rw [if_neg q1]
        have e3 : sp_c3 g n Ks Ws p = sbv (.inr (tx_e g n p2)) (sp_nb g n ws_11 0 199) 0 := by
          unfold sp_c3 sp_c2
          rw [ec]
          show sbv (sp_kn g n Ks p2).2 (sp_nb g n ws_11 0 199) 0 = _
          unfold sp_kn
          rw [if_pos c, if_neg q1]
        have v4 : sv n (.inr (tx_e g n p2)) := tx_e_le hp2
        have r6 := F_X10_asks_r2_s (s := .inr (tx_e g n p2)) hn (W := W_at) rfl hm.2.2.2.2.2.2.2.2.2.2.1 v4 ⟨rfl, rfl, z3⟩
        generalize F_X10_asks_r2 xa3 (n : Int) xe3 (0 : Int) (-1 : Int) g w11 = o6 at r6 ⊢
        obtain ⟨xa6, xe6, xb6, xp6⟩ := o6
        have r6 : rm g n (sb (.inr (tx_e g n p2)) (sp_w g n [W_at])) xa6 xe6 xb6 xp6 := r6
        rw [lf_p_e, lf_p_e, lf_p_e]
        have v6 : sv n (sb (.inr (tx_e g n p2)) (sp_w g n [W_at])) := sv_sb v4 (fun _ hp => sp_w_v _ hp)
        have r7 := gM_s hn v6 r6 0 199 0
        rw [F_X10_number_a0_0_a1_199_g]
        generalize gM xa6 (n : Int) xe6 xb6 xp6 g 0 199 = o7 at r7 ⊢
        obtain ⟨y7, xa7, xe7, xb7, xp7⟩ := o7
        rw [sbv_nb] at r7
        have y7h : ∀ p77, (sbv (.inr (tx_e g n p2)) (sp_nb g n ws_11 0 199) 0).2 = .inr p77 → y7 = (sbv (.inr (tx_e g n p2)) (sp_nb g n ws_11 0 199) 0).1 := r7.2
        have r7 : rm g n (sbv (.inr (tx_e g n p2)) (sp_nb g n ws_11 0 199) 0).2 xa7 xe7 xb7 xp7 := r7.1
        rw [← e3] at r7 y7h
        rw [lf_p_e, lf_p_e, lf_p_e, lf_p_e]
        have hv9 := sp_c3_v (g := g) Ks Ws hp
        cases e : (sp_c3 g n Ks Ws p).2 with
        | inl x =>
          rw [e] at r7 hv9
          have hb : ¬ xb7 = 0 := fun r => hv9 (r7.1.symm.trans r)
          rw [if_neg hb]
          exact ⟨fun j _ => rfl, fun q r => by cases r⟩
        | inr q9 =>
          have e9 := e
          rw [e] at r7
          rw [if_pos r7.1]
          have hm1 : M 1 = (Ws.length : Int) := hN.2.1
          have ec2 : (sp_c2 g n Ks Ws p).1 = fi (wd g n p2) Ks 0 := by
            unfold sp_c2
            rw [ec]
            show (sp_kn g n Ks p2).1 = _
            unfold sp_kn
            rw [if_pos c, if_neg q1]
          refine ⟨fun j hj => ?_, fun q r => ?_⟩
          · show lf_up (lf_up wk ((2 : Int) * M 1) (fi (wd g n p2) Ks 0)) (((2 : Int) * M 1) + (1 : Int)) y7 j = wk j
            rw [lf_up_o (by omega), lf_up_o (by omega)]
          · rw [y7h q9 e9, ec2, hm1]
    · have e5 : sp_nm g n p2 = .inl (1, wrN g n p2) := by
        unfold sp_nm
        exact if_neg c
      have r5 : rm6 g n (sp_nm g n p2) (y3, xa3, xe3, xb3, xp3, n3) := r4
      rw [e5] at r5
      obtain ⟨z1, z2⟩ := r5
      have z1 : xb3 = 1 := z1
      have z2 : xp3 = wrN g n p2 := z2
      have hb : ¬ xb3 = 0 := by rw [z1]; decide
      have e3 : (sp_c3 g n Ks Ws p).2 = .inl (1, wrN g n p2) := by
        unfold sp_c3 sp_c2
        rw [ec]
        show (sbv (sp_kn g n Ks p2).2 (sp_nb g n ws_11 0 199) 0).2 = _
        unfold sp_kn
        rw [if_neg c]
        rfl
      rw [if_neg hb, ask2_0 hb, lf_p_e, lf_p_e, lf_p_e, F_X10_number_a0_0_a1_199_g, gM_0 hb, lf_p_e, lf_p_e, lf_p_e, lf_p_e, e3]
      exact ⟨fun j _ => rfl, fun q r => by cases r⟩
theorem kc_0l {ce A1 A17 A19 : Nat → Int} {xa xe xb xp qn m o : Int} : ∀ (f : Nat) (l x : Int) (A21 : Nat → Int), 0 ≤ x → 0 ≤ l → l ≤ qn → qn - l < (f : Int) → ∃ cd, F_X10_codesTold_a0_0_92 ce f xa xe xb xp qn m o A1 A17 A19 l x A21 = (xa, xe, xb, xp, x + (qn - l), (0 : Int), qn, m, o, (0 : Int), A1, A17, A19, lf_up ce (0 : Int) (x + (qn - l)), cd) ∧ (∀ j : Nat, (j : Int) < qn - l → cd (x.toNat + j) = A19 (l.toNat + j)) ∧ ∀ j : Nat, (j : Int) < x ∨ x + (qn - l) ≤ (j : Int) → cd j = A21 j := by
  intro f
  induction f with
  | zero => intro l x A21 hx h0 h1 h2; omega
  | succ f ih =>
    intro l x A21 hx h0 h1 h2
    show ∃ cd, F_X10_codesTold_a0_0_92b ce (F_X10_codesTold_a0_0_92 ce f) xa xe xb xp qn m o A1 A17 A19 l x A21 = (xa, xe, xb, xp, x + (qn - l), (0 : Int), qn, m, o, (0 : Int), A1, A17, A19, lf_up ce (0 : Int) (x + (qn - l)), cd) ∧ (∀ j : Nat, (j : Int) < qn - l → cd (x.toNat + j) = A19 (l.toNat + j)) ∧ ∀ j : Nat, (j : Int) < x ∨ x + (qn - l) ≤ (j : Int) → cd j = A21 j
    unfold F_X10_codesTold_a0_0_92b
    by_cases q : qn ≤ l
    · rw [if_pos q, show x + (qn - l) = x from by omega]
      exact ⟨A21, rfl, fun j hj => absurd hj (by omega), fun j _ => rfl⟩
    · rw [if_neg q]
      obtain ⟨cd, e, e3, e4⟩ := ih (l + 1) (x + 1) (lf_up A21 x (A19 (Int.toNat l))) (by omega) (by omega) (by omega) (by omega)
      rw [show x + 1 + (qn - (l + 1)) = x + (qn - l) from by omega] at e
      refine ⟨cd, e, fun j hj => ?_, fun j hj => ?_⟩
      · cases j with
        | zero =>
          rw [e4 (x.toNat + 0) (by omega), lf_up_y (by omega)]
          rfl
        | succ j =>
          have := e3 j (by omega)
          rw [show (x + 1).toNat + j = x.toNat + (j + 1) from by omega, show (l + 1).toNat + j = l.toNat + (j + 1) from by omega] at this
          exact this
      · rw [e4 j (by omega)]
        exact lf_up_o (by omega)
theorem kc_0 {g : Nat → Int} {n p : Nat} {vnot vand vor vall vmin vmax v1 v2 v3 v4 v5 v6 v7 v8 v9 v10 v11 v12 v13 cf ce cs qc qwt : Nat → Int} {xa xe cod0 x1 x2 x3 x4 x5 bg : Int} (hn : n ≤ 1600) (hq : qw v1 v2 v3 v4 v5 v6 v7 v8 v9 v10 v11 v12 v13) (hnot : wa vnot W_not) (hand : wa vand W_and) (hor : wa vor W_or) (hall : wa vall W_all) (hmin : wa vmin W_min) (hmax : wa vmax W_max) (h : mp g n p xa xe) (hc : 0 ≤ cod0) (hf : cf 0 = -1) (hc16 : cod0 ≤ (p : Int)) : ((∀ j, 3 ≤ j → (F_X10_codesTold_a0_0 xa (n : Int) xe (0 : Int) (-1 : Int) cod0 x1 x2 x3 x4 x5 g cf ce cs vnot vand vor vall vmin vmax v1 v2 v3 v4 v5 v6 v7 v8 v9 v10 v11 v12 v13 qc qwt bg).2.2.2.2.2.2.2.2.2.2.1 j = cf j) ∧ (∀ j, 3 ≤ j → (F_X10_codesTold_a0_0 xa (n : Int) xe (0 : Int) (-1 : Int) cod0 x1 x2 x3 x4 x5 g cf ce cs vnot vand vor vall vmin vmax v1 v2 v3 v4 v5 v6 v7 v8 v9 v10 v11 v12 v13 qc qwt bg).2.2.2.2.2.2.2.2.2.2.2.2.2.1 j = ce j) ∧ ∀ j, 1600 ≤ j → (F_X10_codesTold_a0_0 xa (n : Int) xe (0 : Int) (-1 : Int) cod0 x1 x2 x3 x4 x5 g cf ce cs vnot vand vor vall vmin vmax v1 v2 v3 v4 v5 v6 v7 v8 v9 v10 v11 v12 v13 qc qwt bg).2.2.2.2.2.2.2.2.2.2.2.2.2.2 j = cs j) ∧ ∀ q L, codM g n 0 7 p = .inr (q, L) → (F_X10_codesTold_a0_0 xa (n : Int) xe (0 : Int) (-1 : Int) cod0 x1 x2 x3 x4 x5 g cf ce cs vnot vand vor vall vmin vmax v1 v2 v3 v4 v5 v6 v7 v8 v9 v10 v11 v12 v13 qc qwt bg).2.2.2.2.2.2.2.2.2.2.1 = lf_up cf (0 : Int) cod0 ∧ (F_X10_codesTold_a0_0 xa (n : Int) xe (0 : Int) (-1 : Int) cod0 x1 x2 x3 x4 x5 g cf ce cs vnot vand vor vall vmin vmax v1 v2 v3 v4 v5 v6 v7 v8 v9 v10 v11 v12 v13 qc qwt bg).2.2.2.2.2.2.2.2.2.2.2.2.2.1 = lf_up ce (0 : Int) (cod0 + (L.length : Int)) ∧ (F_X10_codesTold_a0_0 xa (n : Int) xe (0 : Int) (-1 : Int) cod0 x1 x2 x3 x4 x5 g cf ce cs vnot vand vor vall vmin vmax v1 v2 v3 v4 v5 v6 v7 v8 v9 v10 v11 v12 v13 qc qwt bg).2.2.2.2.1 = cod0 + (L.length : Int) ∧ (∀ j, j < L.length → (F_X10_codesTold_a0_0 xa (n : Int) xe (0 : Int) (-1 : Int) cod0 x1 x2 x3 x4 x5 g cf ce cs vnot vand vor vall vmin vmax v1 v2 v3 v4 v5 v6 v7 v8 v9 v10 v11 v12 v13 qc qwt bg).2.2.2.2.2.2.2.2.2.2.2.2.2.2 (cod0.toNat + j) = L.getD j 0) ∧ ∀ j, j < cod0.toNat → (F_X10_codesTold_a0_0 xa (n : Int) xe (0 : Int) (-1 : Int) cod0 x1 x2 x3 x4 x5 g cf ce cs vnot vand vor vall vmin vmax v1 v2 v3 v4 v5 v6 v7 v8 v9 v10 v11 v12 v13 qc qwt bg).2.2.2.2.2.2.2.2.2.2.2.2.2.2 j = cs j := by
  have hpn := h.1
  have e0 : TC g n 7 true [] [] 0 p = bL (mTest g n 7 6 p) (fun q L => .inr (q, [] ++ L)) := testC_eq (g := g) (al := 7) hn 6 (Nat.le_refl _) p [] h.1
  have eM : codM g n 0 7 p = mTest g n 7 6 p := if_neg (by decide)
  unfold F_X10_codesTold_a0_0
  rw [if_pos rfl, if_pos hf]
  have hu := qc_test (al := 7) (tk := 0) hn hq hnot hand hor hall hmin hmax (Or.inl ⟨rfl, rfl⟩) (cd := qc) (w := qwt) h (Nat.le_refl p)
  have hu' : qUC g n [] 0 p (TC g n 7 true [] [] 0 p) p (F_X10_qTest xa (n : Int) xe (0 : Int) (-1 : Int) (0 : Int) (0 : Int) (0 : Int) (0 : Int) g vnot vand vor vall vmin vmax v1 v2 v3 v4 v5 v6 v7 v8 v9 v10 v11 v12 v13 qc qwt) := hu
  generalize F_X10_qTest xa (n : Int) xe (0 : Int) (-1 : Int) (0 : Int) (0 : Int) (0 : Int) (0 : Int) g vnot vand vor vall vmin vmax v1 v2 v3 v4 v5 v6 v7 v8 v9 v10 v11 v12 v13 qc qwt = R at hu' ⊢
  obtain ⟨y1, y2, y3, y4, y5, y6, y7, y8, y9⟩ := R
  rw [lf_p_e, lf_p_e, lf_p_e, lf_p_e, lf_p_e, lf_p_e, lf_p_e, lf_p_e]
  rw [e0] at hu'
  rw [eM]
  rcases hu' with ⟨q, e, q1, q2, q3⟩ | ⟨p1, K2, e, hlt, hs⟩
  · have q2' : y3 = q.1 := q2
    rw [if_neg (show ¬ y3 = 0 from fun r => q1 (q2'.symm.trans r))]
    refine ⟨⟨fun j _ => rfl, fun j _ => rfl, fun j _ => rfl⟩, fun q5 L r => ?_⟩
    rw [r] at e
    have e9 : (Sum.inr (q5, [] ++ L) : SL) = .inl q := e
    cases e9
  · have hs' : qSC g n [] 0 p [] K2 0 p1 y1 y2 y3 y4 y5 y6 y7 y8 y9 := hs
    obtain ⟨⟨s1, s2, s3, s4, s5, s6, s7, s8, s9, s10, s11, s12⟩, s13, s14⟩ := hs'
    subst s8
    have s5' : y5 + (p : Int) + ((0 : Nat) : Int) ≤ (p1 : Int) := s5
    have hp1 := s7.1
    obtain ⟨cd, e2, e3, e4⟩ := kc_0l (ce := ce) (A1 := lf_up cf (0 : Int) cod0) (A17 := y8) (A19 := y9) (xa := y1) (xe := y2) (xb := (0 : Int)) (xp := y4) (qn := y5) (m := y6) (o := y7) 1602 0 cod0 cs hc (Int.le_refl _) s6 (by omega)
    rw [if_pos rfl, e2]
    refine ⟨⟨fun j hj => lf_up_o (by omega), fun j hj => lf_up_o (by omega), fun j hj => e4 j (by omega)⟩, fun q L r => ?_⟩
    rw [r] at e
    have e9 : (Sum.inr (q, [] ++ L) : SL) = .inr (p1, K2) := e
    have eK : K2 = L := by
      cases e9
      rfl
    rw [eK] at s13 s14
    have e5 : y5 - 0 = (L.length : Int) := by omega
    rw [e5]
    refine ⟨rfl, rfl, rfl, fun j hj => ?_, fun j hj => e4 j (by omega)⟩
    show cd (cod0.toNat + j) = _
    rw [e3 j (by omega)]
    show y9 ((0 : Int).toNat + j) = _
    rw [show (0 : Int).toNat + j = j from by omega]
    exact s14 j hj
theorem kc_1l {ce A1 A17 A19 : Nat → Int} {xa xe xb xp qn m o : Int} : ∀ (f : Nat) (l x : Int) (A21 : Nat → Int), 0 ≤ x → 0 ≤ l → l ≤ qn → qn - l < (f : Int) → ∃ cd, F_X10_codesTold_a0_1_92 ce f xa xe xb xp qn m o A1 A17 A19 l x A21 = (xa, xe, xb, xp, x + (qn - l), (1 : Int), qn, m, o, (0 : Int), A1, A17, A19, lf_up ce (1 : Int) (x + (qn - l)), cd) ∧ (∀ j : Nat, (j : Int) < qn - l → cd (x.toNat + j) = A19 (l.toNat + j)) ∧ ∀ j : Nat, (j : Int) < x ∨ x + (qn - l) ≤ (j : Int) → cd j = A21 j := by
  intro f
  induction f with
  | zero => intro l x A21 hx h0 h1 h2; omega
  | succ f ih =>
    intro l x A21 hx h0 h1 h2
    show ∃ cd, F_X10_codesTold_a0_1_92b ce (F_X10_codesTold_a0_1_92 ce f) xa xe xb xp qn m o A1 A17 A19 l x A21 = (xa, xe, xb, xp, x + (qn - l), (1 : Int), qn, m, o, (0 : Int), A1, A17, A19, lf_up ce (1 : Int) (x + (qn - l)), cd) ∧ (∀ j : Nat, (j : Int) < qn - l → cd (x.toNat + j) = A19 (l.toNat + j)) ∧ ∀ j : Nat, (j : Int) < x ∨ x + (qn - l) ≤ (j : Int) → cd j = A21 j
    unfold F_X10_codesTold_a0_1_92b
    by_cases q : qn ≤ l
    · rw [if_pos q, show x + (qn - l) = x from by omega]
      exact ⟨A21, rfl, fun j hj => absurd hj (by omega), fun j _ => rfl⟩
    · rw [if_neg q]
      obtain ⟨cd, e, e3, e4⟩ := ih (l + 1) (x + 1) (lf_up A21 x (A19 (Int.toNat l))) (by omega) (by omega) (by omega) (by omega)
      rw [show x + 1 + (qn - (l + 1)) = x + (qn - l) from by omega] at e
      refine ⟨cd, e, fun j hj => ?_, fun j hj => ?_⟩
      · cases j with
        | zero =>
          rw [e4 (x.toNat + 0) (by omega), lf_up_y (by omega)]
          rfl
        | succ j =>
          have := e3 j (by omega)
          rw [show (x + 1).toNat + j = x.toNat + (j + 1) from by omega, show (l + 1).toNat + j = l.toNat + (j + 1) from by omega] at this
          exact this
      · rw [e4 j (by omega)]
        exact lf_up_o (by omega)
theorem kc_1 {g : Nat → Int} {n p : Nat} {vnot vand vor vall vmin vmax v1 v2 v3 v4 v5 v6 v7 v8 v9 v10 v11 v12 v13 cf ce cs qc qwt : Nat → Int} {xa xe cod0 x1 x2 x3 x4 x5 bg : Int} (hn : n ≤ 1600) (hq : qw v1 v2 v3 v4 v5 v6 v7 v8 v9 v10 v11 v12 v13) (hnot : wa vnot W_not) (hand : wa vand W_and) (hor : wa vor W_or) (hall : wa vall W_all) (hmin : wa vmin W_min) (hmax : wa vmax W_max) (h : mp g n p xa xe) (hc : 0 ≤ cod0) (hf : cf 1 = -1) (hc16 : cod0 ≤ (p : Int)) : ((∀ j, 3 ≤ j → (F_X10_codesTold_a0_1 xa (n : Int) xe (0 : Int) (-1 : Int) cod0 x1 x2 x3 x4 x5 g cf ce cs vnot vand vor vall vmin vmax v1 v2 v3 v4 v5 v6 v7 v8 v9 v10 v11 v12 v13 qc qwt bg).2.2.2.2.2.2.2.2.2.2.1 j = cf j) ∧ (∀ j, 3 ≤ j → (F_X10_codesTold_a0_1 xa (n : Int) xe (0 : Int) (-1 : Int) cod0 x1 x2 x3 x4 x5 g cf ce cs vnot vand vor vall vmin vmax v1 v2 v3 v4 v5 v6 v7 v8 v9 v10 v11 v12 v13 qc qwt bg).2.2.2.2.2.2.2.2.2.2.2.2.2.1 j = ce j) ∧ ∀ j, 1600 ≤ j → (F_X10_codesTold_a0_1 xa (n : Int) xe (0 : Int) (-1 : Int) cod0 x1 x2 x3 x4 x5 g cf ce cs vnot vand vor vall vmin vmax v1 v2 v3 v4 v5 v6 v7 v8 v9 v10 v11 v12 v13 qc qwt bg).2.2.2.2.2.2.2.2.2.2.2.2.2.2 j = cs j) ∧ ∀ q L, codM g n 2 507 p = .inr (q, L) → (F_X10_codesTold_a0_1 xa (n : Int) xe (0 : Int) (-1 : Int) cod0 x1 x2 x3 x4 x5 g cf ce cs vnot vand vor vall vmin vmax v1 v2 v3 v4 v5 v6 v7 v8 v9 v10 v11 v12 v13 qc qwt bg).2.2.2.2.2.2.2.2.2.2.1 = lf_up cf (1 : Int) cod0 ∧ (F_X10_codesTold_a0_1 xa (n : Int) xe (0 : Int) (-1 : Int) cod0 x1 x2 x3 x4 x5 g cf ce cs vnot vand vor vall vmin vmax v1 v2 v3 v4 v5 v6 v7 v8 v9 v10 v11 v12 v13 qc qwt bg).2.2.2.2.2.2.2.2.2.2.2.2.2.1 = lf_up ce (1 : Int) (cod0 + (L.length : Int)) ∧ (F_X10_codesTold_a0_1 xa (n : Int) xe (0 : Int) (-1 : Int) cod0 x1 x2 x3 x4 x5 g cf ce cs vnot vand vor vall vmin vmax v1 v2 v3 v4 v5 v6 v7 v8 v9 v10 v11 v12 v13 qc qwt bg).2.2.2.2.1 = cod0 + (L.length : Int) ∧ (∀ j, j < L.length → (F_X10_codesTold_a0_1 xa (n : Int) xe (0 : Int) (-1 : Int) cod0 x1 x2 x3 x4 x5 g cf ce cs vnot vand vor vall vmin vmax v1 v2 v3 v4 v5 v6 v7 v8 v9 v10 v11 v12 v13 qc qwt bg).2.2.2.2.2.2.2.2.2.2.2.2.2.2 (cod0.toNat + j) = L.getD j 0) ∧ ∀ j, j < cod0.toNat → (F_X10_codesTold_a0_1 xa (n : Int) xe (0 : Int) (-1 : Int) cod0 x1 x2 x3 x4 x5 g cf ce cs vnot vand vor vall vmin vmax v1 v2 v3 v4 v5 v6 v7 v8 v9 v10 v11 v12 v13 qc qwt bg).2.2.2.2.2.2.2.2.2.2.2.2.2.2 j = cs j := by
  have hpn := h.1
  have e0 : TC g n 507 true [] [] 0 p = bL (mTest g n 507 6 p) (fun q L => .inr (q, [] ++ L)) := testC_eq (g := g) (al := 507) hn 6 (Nat.le_refl _) p [] h.1
  have eM : codM g n 2 507 p = mTest g n 507 6 p := if_neg (by decide)
  unfold F_X10_codesTold_a0_1
  rw [if_pos rfl, if_pos hf]
  have hu := qc_test (al := 507) (tk := 1) hn hq hnot hand hor hall hmin hmax (Or.inr (Or.inl ⟨rfl, rfl⟩)) (cd := qc) (w := qwt) h (Nat.le_refl p)
  have hu' : qUC g n [] 0 p (TC g n 507 true [] [] 0 p) p (F_X10_qTest xa (n : Int) xe (0 : Int) (-1 : Int) (1 : Int) (0 : Int) (0 : Int) (0 : Int) g vnot vand vor vall vmin vmax v1 v2 v3 v4 v5 v6 v7 v8 v9 v10 v11 v12 v13 qc qwt) := hu
  generalize F_X10_qTest xa (n : Int) xe (0 : Int) (-1 : Int) (1 : Int) (0 : Int) (0 : Int) (0 : Int) g vnot vand vor vall vmin vmax v1 v2 v3 v4 v5 v6 v7 v8 v9 v10 v11 v12 v13 qc qwt = R at hu' ⊢
  obtain ⟨y1, y2, y3, y4, y5, y6, y7, y8, y9⟩ := R
  rw [lf_p_e, lf_p_e, lf_p_e, lf_p_e, lf_p_e, lf_p_e, lf_p_e, lf_p_e]
  rw [e0] at hu'
  rw [eM]
  rcases hu' with ⟨q, e, q1, q2, q3⟩ | ⟨p1, K2, e, hlt, hs⟩
  · have q2' : y3 = q.1 := q2
    rw [if_neg (show ¬ y3 = 0 from fun r => q1 (q2'.symm.trans r))]
    refine ⟨⟨fun j _ => rfl, fun j _ => rfl, fun j _ => rfl⟩, fun q5 L r => ?_⟩
    rw [r] at e
    have e9 : (Sum.inr (q5, [] ++ L) : SL) = .inl q := e
    cases e9
  · have hs' : qSC g n [] 0 p [] K2 0 p1 y1 y2 y3 y4 y5 y6 y7 y8 y9 := hs
    obtain ⟨⟨s1, s2, s3, s4, s5, s6, s7, s8, s9, s10, s11, s12⟩, s13, s14⟩ := hs'
    subst s8
    have s5' : y5 + (p : Int) + ((0 : Nat) : Int) ≤ (p1 : Int) := s5
    have hp1 := s7.1
    obtain ⟨cd, e2, e3, e4⟩ := kc_1l (ce := ce) (A1 := lf_up cf (1 : Int) cod0) (A17 := y8) (A19 := y9) (xa := y1) (xe := y2) (xb := (0 : Int)) (xp := y4) (qn := y5) (m := y6) (o := y7) 1602 0 cod0 cs hc (Int.le_refl _) s6 (by omega)
    rw [if_pos rfl, e2]
    refine ⟨⟨fun j hj => lf_up_o (by omega), fun j hj => lf_up_o (by omega), fun j hj => e4 j (by omega)⟩, fun q L r => ?_⟩
    rw [r] at e
    have e9 : (Sum.inr (q, [] ++ L) : SL) = .inr (p1, K2) := e
    have eK : K2 = L := by
      cases e9
      rfl
    rw [eK] at s13 s14
    have e5 : y5 - 0 = (L.length : Int) := by omega
    rw [e5]
    refine ⟨rfl, rfl, rfl, fun j hj => ?_, fun j hj => e4 j (by omega)⟩
    show cd (cod0.toNat + j) = _
    rw [e3 j (by omega)]
    show y9 ((0 : Int).toNat + j) = _
    rw [show (0 : Int).toNat + j = j from by omega]
    exact s14 j hj
theorem kc_2l {ce A1 A17 A19 : Nat → Int} {xa xe xb xp qn m o : Int} : ∀ (f : Nat) (l x : Int) (A21 : Nat → Int), 0 ≤ x → 0 ≤ l → l ≤ qn → qn - l < (f : Int) → ∃ cd, F_X10_codesTold_a0_2_92 ce f xa xe xb xp qn m o A1 A17 A19 l x A21 = (xa, xe, xb, xp, x + (qn - l), (2 : Int), qn, m, o, (0 : Int), A1, A17, A19, lf_up ce (2 : Int) (x + (qn - l)), cd) ∧ (∀ j : Nat, (j : Int) < qn - l → cd (x.toNat + j) = A19 (l.toNat + j)) ∧ ∀ j : Nat, (j : Int) < x ∨ x + (qn - l) ≤ (j : Int) → cd j = A21 j := by
  intro f
  induction f with
  | zero => intro l x A21 hx h0 h1 h2; omega
  | succ f ih =>
    intro l x A21 hx h0 h1 h2
    show ∃ cd, F_X10_codesTold_a0_2_92b ce (F_X10_codesTold_a0_2_92 ce f) xa xe xb xp qn m o A1 A17 A19 l x A21 = (xa, xe, xb, xp, x + (qn - l), (2 : Int), qn, m, o, (0 : Int), A1, A17, A19, lf_up ce (2 : Int) (x + (qn - l)), cd) ∧ (∀ j : Nat, (j : Int) < qn - l → cd (x.toNat + j) = A19 (l.toNat + j)) ∧ ∀ j : Nat, (j : Int) < x ∨ x + (qn - l) ≤ (j : Int) → cd j = A21 j
    unfold F_X10_codesTold_a0_2_92b
    by_cases q : qn ≤ l
    · rw [if_pos q, show x + (qn - l) = x from by omega]
      exact ⟨A21, rfl, fun j hj => absurd hj (by omega), fun j _ => rfl⟩
    · rw [if_neg q]
      obtain ⟨cd, e, e3, e4⟩ := ih (l + 1) (x + 1) (lf_up A21 x (A19 (Int.toNat l))) (by omega) (by omega) (by omega) (by omega)
      rw [show x + 1 + (qn - (l + 1)) = x + (qn - l) from by omega] at e
      refine ⟨cd, e, fun j hj => ?_, fun j hj => ?_⟩
      · cases j with
        | zero =>
          rw [e4 (x.toNat + 0) (by omega), lf_up_y (by omega)]
          rfl
        | succ j =>
          have := e3 j (by omega)
          rw [show (x + 1).toNat + j = x.toNat + (j + 1) from by omega, show (l + 1).toNat + j = l.toNat + (j + 1) from by omega] at this
          exact this
      · rw [e4 j (by omega)]
        exact lf_up_o (by omega)
theorem kc_2 {g : Nat → Int} {n p : Nat} {vmin vmax v1 v2 v3 v4 v5 v6 v7 v8 v9 v10 v11 v12 v13 cf ce cs qc qwt : Nat → Int} {xa xe cod0 x1 x2 x3 x4 x5 bg : Int} (hn : n ≤ 1600) (hq : qw v1 v2 v3 v4 v5 v6 v7 v8 v9 v10 v11 v12 v13) (hmin : wa vmin W_min) (hmax : wa vmax W_max) (h : mp g n p xa xe) (hc : 0 ≤ cod0) (hf : cf 2 = -1) (hc16 : cod0 ≤ (p : Int)) : ((∀ j, 3 ≤ j → (F_X10_codesTold_a0_2 xa (n : Int) xe (0 : Int) (-1 : Int) cod0 x1 x2 x3 x4 x5 g cf ce cs vmin vmax v1 v2 v3 v4 v5 v6 v7 v8 v9 v10 v11 v12 v13 qc qwt bg).2.2.2.2.2.2.2.2.2.2.1 j = cf j) ∧ (∀ j, 3 ≤ j → (F_X10_codesTold_a0_2 xa (n : Int) xe (0 : Int) (-1 : Int) cod0 x1 x2 x3 x4 x5 g cf ce cs vmin vmax v1 v2 v3 v4 v5 v6 v7 v8 v9 v10 v11 v12 v13 qc qwt bg).2.2.2.2.2.2.2.2.2.2.2.2.2.1 j = ce j) ∧ ∀ j, 1600 ≤ j → (F_X10_codesTold_a0_2 xa (n : Int) xe (0 : Int) (-1 : Int) cod0 x1 x2 x3 x4 x5 g cf ce cs vmin vmax v1 v2 v3 v4 v5 v6 v7 v8 v9 v10 v11 v12 v13 qc qwt bg).2.2.2.2.2.2.2.2.2.2.2.2.2.2 j = cs j) ∧ ∀ q L, codM g n 4 123 p = .inr (q, L) → (F_X10_codesTold_a0_2 xa (n : Int) xe (0 : Int) (-1 : Int) cod0 x1 x2 x3 x4 x5 g cf ce cs vmin vmax v1 v2 v3 v4 v5 v6 v7 v8 v9 v10 v11 v12 v13 qc qwt bg).2.2.2.2.2.2.2.2.2.2.1 = lf_up cf (2 : Int) cod0 ∧ (F_X10_codesTold_a0_2 xa (n : Int) xe (0 : Int) (-1 : Int) cod0 x1 x2 x3 x4 x5 g cf ce cs vmin vmax v1 v2 v3 v4 v5 v6 v7 v8 v9 v10 v11 v12 v13 qc qwt bg).2.2.2.2.2.2.2.2.2.2.2.2.2.1 = lf_up ce (2 : Int) (cod0 + (L.length : Int)) ∧ (F_X10_codesTold_a0_2 xa (n : Int) xe (0 : Int) (-1 : Int) cod0 x1 x2 x3 x4 x5 g cf ce cs vmin vmax v1 v2 v3 v4 v5 v6 v7 v8 v9 v10 v11 v12 v13 qc qwt bg).2.2.2.2.1 = cod0 + (L.length : Int) ∧ (∀ j, j < L.length → (F_X10_codesTold_a0_2 xa (n : Int) xe (0 : Int) (-1 : Int) cod0 x1 x2 x3 x4 x5 g cf ce cs vmin vmax v1 v2 v3 v4 v5 v6 v7 v8 v9 v10 v11 v12 v13 qc qwt bg).2.2.2.2.2.2.2.2.2.2.2.2.2.2 (cod0.toNat + j) = L.getD j 0) ∧ ∀ j, j < cod0.toNat → (F_X10_codesTold_a0_2 xa (n : Int) xe (0 : Int) (-1 : Int) cod0 x1 x2 x3 x4 x5 g cf ce cs vmin vmax v1 v2 v3 v4 v5 v6 v7 v8 v9 v10 v11 v12 v13 qc qwt bg).2.2.2.2.2.2.2.2.2.2.2.2.2.2 j = cs j := by
  have hpn := h.1
  have e0 : RC g n 123 true [] [] 0 p = bL (mSum g n 123 6 p) (fun q L => .inr (q, [] ++ L)) := sumC_eq (g := g) (al := 123) hn 6 (Nat.le_refl _) p [] h.1
  have eM : codM g n 4 123 p = mSum g n 123 6 p := if_pos rfl
  unfold F_X10_codesTold_a0_2
  rw [if_pos rfl, if_pos hf]
  have hu := qc_sums (K := []) (B := []) (o0 := 0) (d := p) (al := 123) (tk := 2) hn (show ¬ (1 ≤ (0 : Int) ∧ (0 : Int) ≤ 4) from by decide) hq hmin hmax (Or.inr (Or.inr (Or.inl ⟨rfl, rfl⟩))) (p := p) (cd := qc) (w := qwt) ⟨True.intro, rfl, Int.le_refl _, (by decide), (by show (0 : Int) + (p : Int) + ((0 : Nat) : Int) ≤ _; omega), Int.le_refl _, h, rfl, rfl, rfl, rfl, True.intro⟩ (pcl_0 qc)
  have hu' : qUC g n [] 0 p (RC g n 123 true [] [] 0 p) p (F_X10_qSums xa (n : Int) xe (0 : Int) (-1 : Int) (2 : Int) (0 : Int) (0 : Int) (0 : Int) g vmin vmax v1 v2 v3 v4 v5 v6 v7 v8 v9 v10 v11 v12 v13 qc qwt) := hu
  generalize F_X10_qSums xa (n : Int) xe (0 : Int) (-1 : Int) (2 : Int) (0 : Int) (0 : Int) (0 : Int) g vmin vmax v1 v2 v3 v4 v5 v6 v7 v8 v9 v10 v11 v12 v13 qc qwt = R at hu' ⊢
  obtain ⟨y1, y2, y3, y4, y5, y6, y7, y8, y9⟩ := R
  rw [lf_p_e, lf_p_e, lf_p_e, lf_p_e, lf_p_e, lf_p_e, lf_p_e, lf_p_e]
  rw [e0] at hu'
  rw [eM]
  rcases hu' with ⟨q, e, q1, q2, q3⟩ | ⟨p1, K2, e, hlt, hs⟩
  · have q2' : y3 = q.1 := q2
    rw [if_neg (show ¬ y3 = 0 from fun r => q1 (q2'.symm.trans r))]
    refine ⟨⟨fun j _ => rfl, fun j _ => rfl, fun j _ => rfl⟩, fun q5 L r => ?_⟩
    rw [r] at e
    have e9 : (Sum.inr (q5, [] ++ L) : SL) = .inl q := e
    cases e9
  · have hs' : qSC g n [] 0 p [] K2 0 p1 y1 y2 y3 y4 y5 y6 y7 y8 y9 := hs
    obtain ⟨⟨s1, s2, s3, s4, s5, s6, s7, s8, s9, s10, s11, s12⟩, s13, s14⟩ := hs'
    subst s8
    have s5' : y5 + (p : Int) + ((0 : Nat) : Int) ≤ (p1 : Int) := s5
    have hp1 := s7.1
    obtain ⟨cd, e2, e3, e4⟩ := kc_2l (ce := ce) (A1 := lf_up cf (2 : Int) cod0) (A17 := y8) (A19 := y9) (xa := y1) (xe := y2) (xb := (0 : Int)) (xp := y4) (qn := y5) (m := y6) (o := y7) 1602 0 cod0 cs hc (Int.le_refl _) s6 (by omega)
    rw [if_pos rfl, e2]
    refine ⟨⟨fun j hj => lf_up_o (by omega), fun j hj => lf_up_o (by omega), fun j hj => e4 j (by omega)⟩, fun q L r => ?_⟩
    rw [r] at e
    have e9 : (Sum.inr (q, [] ++ L) : SL) = .inr (p1, K2) := e
    have eK : K2 = L := by
      cases e9
      rfl
    rw [eK] at s13 s14
    have e5 : y5 - 0 = (L.length : Int) := by omega
    rw [e5]
    refine ⟨rfl, rfl, rfl, fun j hj => ?_, fun j hj => e4 j (by omega)⟩
    show cd (cod0.toNat + j) = _
    rw [e3 j (by omega)]
    show y9 ((0 : Int).toNat + j) = _
    rw [show (0 : Int).toNat + j = j from by omega]
    exact s14 j hj
end
