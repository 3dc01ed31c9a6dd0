/-! the model: a DAY gone through is the one described -/
def cin (nW : Nat) (z : wzT) (j : Nat) : Bool := (List.range nW).any (fun w => decide (z.1 w = (j : Int)) && decide (z.2.1 w = 1))
def wtd (cA : Nat → Int) (ab : Nat → Bool) (s : Nat) (b : Bool) (z : wzT) (w : Nat) : Int := if ab w = true ∨ (s : Int) < cA w then 0 else if z.1 w = -1 then (s : Int) - cA w + b2 b else z.1 w - cA w
def mrS (nW : Nat) (cA : Nat → Int) (ab : Nat → Bool) (s k : Nat) (z : wzT) (a1 a2 a3 a4 a5 a7 : Nat → Int) : Prop := (∀ w, w < nW → a1 w = b2 (here cA ab s w z) ∧ a2 w = z.1 w ∧ a3 w = wtd cA ab s (decide (w < k)) z w ∧ a4 w = b2 (decide (2 ≤ z.2.1 w)) ∧ a5 w = b2 (decide (z.2.1 w = 3))) ∧ ∀ j, j ≤ s → a7 j = b2 (cin nW z j)
theorem cin_i {nW j : Nat} {z : wzT} : cin nW z j = true ↔ ∃ w, w < nW ∧ z.1 w = (j : Int) ∧ z.2.1 w = 1 := by
  unfold cin
  rw [List.any_eq_true]
  constructor
  · intro ⟨w, h1, h2⟩
    rw [Bool.and_eq_true] at h2
    exact ⟨w, List.mem_range.mp h1, of_decide_eq_true h2.1, of_decide_eq_true h2.2⟩
  · intro ⟨w, h1, h2, h3⟩
    refine ⟨w, List.mem_range.mpr h1, ?_⟩
    rw [decide_eq_true h2, decide_eq_true h3]
    rfl
theorem bo_eq {a b : Bool} (h : a = true ↔ b = true) : a = b := by
  cases a <;> cases b
  · rfl
  · exact h.mpr rfl
  · exact (h.mp rfl).symm
  · rfl
/-- held ones never go -/
noncomputable def gHd (H : Int) (G : Nat → Nat → Int → Bool) : Nat → Nat → Int → Bool := fun w s r => !bt H w && G w s r
section MD
variable {nW nK : Nat} {cy ls d : Int} {oC oR oL : Option (List Int)} {kO cA clmK pcK many bar kinds walkers cf ce codes now gaps tr : Nat → Int} {ab : Nat → Bool} {lf : Nat → Int}
/-- what stands for a DAY of the model -/
def mdH (nW nK : Nat) (cy ls d : Int) (oC oR oL : Option (List Int)) (kO cA clmK pcK many bar kinds walkers cf ce codes now gaps tr : Nat → Int) : Prop := pmH nW nK cy ls oC oR oL kO cA clmK pcK many bar kinds walkers cf ce codes ∧ nW ≤ 12 ∧ nK ≤ 6 ∧ (10 ≤ cy ∧ cy ≤ 120) ∧ (∀ w, w < nW → (0 ≤ kO w ∧ kO w < (nK : Int)) ∧ (0 ≤ cA w ∧ cA w < 200)) ∧ (∀ k, k < nK → (0 ≤ clmK k ∧ clmK k ≤ 99) ∧ (1 ≤ pcK k ∧ pcK k ≤ 20)) ∧ cdG true 7 oC ∧ cdG true 507 oR ∧ (0 ≤ d ∧ d ≤ 999) ∧ now 0 = d ∧ (∀ k, k < nK → now (3 + k) = tr k ∧ 0 ≤ tr k ∧ tr k ≤ 9) ∧ ∀ s, s < 300 → gaps s = gpS oC d cy s
theorem md_wk (h : mdH nW nK cy ls d oC oR oL kO cA clmK pcK many bar kinds walkers cf ce codes now gaps tr) : wkB nW cA (fun w => clmK (kO w).toNat) (fun w => pcK (kO w).toNat) (twf nW kO tr) := by
  obtain ⟨hP, h1, h2, h3, h4, h5, h6, h7, h8, h9, h10, h11⟩ := h
  intro w hw
  obtain ⟨a1, a2⟩ := h4 w hw
  have hk : (kO w).toNat < nK := by omega
  obtain ⟨b1, b2⟩ := h5 _ hk
  refine ⟨a2, b1, b2, ?_⟩
  unfold twf
  rw [if_pos hw]
  exact (h10 _ hk).2
theorem md_kind (h : mdH nW nK cy ls d oC oR oL kO cA clmK pcK many bar kinds walkers cf ce codes now gaps tr) {w : Nat} (hw : w < nW) : F_X10_kindOf walkers (w : Int) = kO w ∧ F_X10_secondOf walkers (w : Int) = cA w ∧ F_X10_paceOf kinds walkers (w : Int) = pcK (kO w).toNat ∧ kinds (12 + 2 * (kO w).toNat) = clmK (kO w).toNat ∧ F_X10_trustsOf now (kO w) = twf nW kO tr w := by
  obtain ⟨hP, h1, h2, h3, h4, h5, h6, h7, h8, h9, h10, h11⟩ := h
  obtain ⟨p1, p2, p3, p4, p5, p6, p7, p8, p9⟩ := hP
  obtain ⟨w1, w2⟩ := p5 w hw
  obtain ⟨a1, a2⟩ := h4 w hw
  have hk : (kO w).toNat < nK := by omega
  have e1 : F_X10_kindOf walkers (w : Int) = kO w := by
    unfold F_X10_kindOf
    rw [show Int.toNat ((24 : Int) + ((2 : Int) * (w : Int))) = 24 + 2 * w from by omega, w1]
  refine ⟨e1, ?_, ?_, (p6 _ hk).1, ?_⟩
  · unfold F_X10_secondOf
    rw [show Int.toNat ((25 : Int) + ((2 : Int) * (w : Int))) = 25 + 2 * w from by omega, w2]
  · unfold F_X10_paceOf
    rw [lf_b_e, e1, show Int.toNat ((13 : Int) + ((2 : Int) * kO w)) = 13 + 2 * (kO w).toNat from by omega]
    exact (p6 _ hk).2
  · unfold F_X10_trustsOf twf
    rw [if_pos hw, show Int.toNat ((3 : Int) + kO w) = 3 + (kO w).toNat from by omega]
    exact (h10 _ hk).1
theorem md_part (h : mdH nW nK cy ls d oC oR oL kO cA clmK pcK many bar kinds walkers cf ce codes now gaps tr) {w s : Nat} {red : Int} {waits goes harms : Nat → Int} (hw : w < nW) (hs : s < 300) (hwt : waits w = (s : Int) - cA w) (j : Int) (h0 : 0 ≤ j) (h1 : j < 12) (ha : alB 507 j = true) : F_X10_qPartOf (1 : Int) (s : Int) red bar kinds walkers now gaps waits goes harms j (w : Int) = rhoR d cA (fun w => clmK (kO w).toNat) (fun w => pcK (kO w).toNat) (twf nW kO tr) (gpS oC d cy) w s red j := by
  obtain ⟨e1, e2, e3, e4, e5⟩ := md_kind h hw
  obtain ⟨hP, g1, g2, g3, g4, g5, g6, g7, g8, g9, g10, g11⟩ := h
  have hk := (g4 w hw).1
  rcases al507 h0 h1 ha with x | x | x | x | x | x | x | x
  · subst x
    rfl
  · subst x
    exact g9
  · subst x
    exact hwt
  · subst x
    show lf_b (F_X10_kindOf walkers (w : Int)) (fun r25 => kinds (Int.toNat ((12 : Int) + ((2 : Int) * r25)))) = clmK (kO w).toNat
    rw [lf_b_e, e1, show Int.toNat ((12 : Int) + ((2 : Int) * kO w)) = 12 + 2 * (kO w).toNat from by omega, e4]
  · subst x
    show lf_b (F_X10_paceOf kinds walkers (w : Int)) (fun r38 => r38) = pcK (kO w).toNat
    rw [lf_b_e, e3]
  · subst x
    show lf_b (F_X10_kindOf walkers (w : Int)) (fun r42 => lf_b (F_X10_trustsOf now r42) (fun r46 => r46)) = twf nW kO tr w
    rw [lf_b_e, e1, lf_b_e, e5]
  · subst x
    show gaps (Int.toNat (s : Int)) = gpS oC d cy s
    rw [Int.toNat_natCast]
    exact g11 s hs
  · subst x
    rfl
theorem MR_up {s w : Nat} {z : wzT} {v y : Int} {a1 a2 a3 a4 a5 a7 b4 b5 b7 : Nat → Int} (hR : mrS nW cA ab s w z a1 a2 a3 a4 a5 a7) (hI : spI nW cA ab (s + 1) z) (hw : w < nW) (hh : here cA ab s w z = true) (h4 : b4 = if 2 ≤ v then lf_up a4 (w : Int) (1 : Int) else a4) (h5 : ∀ u, b5 u = if u = w then b2 (decide (v = 3)) else a5 u) (h7 : b7 = if v = 1 then lf_up a7 (s : Int) (1 : Int) else a7) (hv : 1 ≤ v ∧ v ≤ 3) : mrS nW cA ab s (w + 1) (upn z.1 w (s : Int), upn z.2.1 w v, y) (lf_up a1 (w : Int) (0 : Int)) (lf_up a2 (w : Int) (s : Int)) a3 b4 b5 b7 := by
  unfold here at hh
  rw [Bool.and_eq_true, Bool.and_eq_true] at hh
  have x1 := of_decide_eq_true hh.1.1
  have x2 : ab w = false := by
    have := hh.1.2
    cases c : ab w
    · rfl
    · rw [c] at this
      exact Bool.noConfusion this
  have x3 := of_decide_eq_true hh.2
  have x30 := ((hI.1 w).1).mp x3
  refine ⟨fun u hu => ?_, fun j hj => ?_⟩
  · obtain ⟨r1, r2, r3, r4, r5⟩ := hR.1 u hu
    by_cases q : u = w
    · subst q
      refine ⟨?_, ?_, ?_, ?_, ?_⟩
      · rw [lf_up_y (by omega), here_up, decide_eq_true (show u = u from rfl), Bool.not_true, Bool.and_false]
        rfl
      · rw [lf_up_y (by omega)]
        exact (upn_y z.1 u (s : Int)).symm
      · rw [r3]
        unfold wtd
        have hcn : ¬ (ab u = true ∨ (s : Int) < cA u) := fun r => r.elim (fun r => Bool.noConfusion (x2.symm.trans r)) (fun r => by omega)
        rw [if_neg hcn, if_neg hcn, if_pos x3]
        show _ = if upn z.1 u (s : Int) u = -1 then _ else upn z.1 u (s : Int) u - cA u
        rw [upn_y, if_neg (by omega), decide_eq_false (Nat.lt_irrefl u)]
        show (s : Int) - cA u + 0 = _
        omega
      · show b4 u = b2 (decide (2 ≤ upn z.2.1 u v u))
        rw [upn_y, h4]
        by_cases x : 2 ≤ v
        · rw [if_pos x, lf_up_y (by omega), decide_eq_true x]
          rfl
        · rw [if_neg x, r4, decide_eq_false x, x30]
          rfl
      · show b5 u = b2 (decide (upn z.2.1 u v u = 3))
        rw [upn_y, h5, if_pos rfl]
    · refine ⟨?_, ?_, ?_, ?_, ?_⟩
      · rw [lf_up_o (by omega), here_up, decide_eq_false (show ¬ w = u from fun r => q r.symm), Bool.not_false, Bool.and_true]
        exact r1
      · rw [lf_up_o (by omega)]
        exact r2.trans (upn_o q).symm
      · rw [r3]
        unfold wtd
        show _ = if ab u = true ∨ (s : Int) < cA u then 0 else if upn z.1 w (s : Int) u = -1 then (s : Int) - cA u + b2 (decide (u < w + 1)) else upn z.1 w (s : Int) u - cA u
        rw [upn_o q]
        by_cases y1 : u < w
        · rw [decide_eq_true y1, decide_eq_true (show u < w + 1 from by omega)]
        · rw [decide_eq_false y1, decide_eq_false (show ¬ u < w + 1 from by omega)]
      · show b4 u = b2 (decide (2 ≤ upn z.2.1 w v u))
        rw [upn_o q, h4]
        by_cases x : 2 ≤ v
        · rw [if_pos x, lf_up_o (by omega)]
          exact r4
        · rw [if_neg x]
          exact r4
      · show b5 u = b2 (decide (upn z.2.1 w v u = 3))
        rw [upn_o q, h5, if_neg q]
        exact r5
  · have r7 := hR.2 j hj
    have key : cin nW (upn z.1 w (s : Int), upn z.2.1 w v, y) j = (cin nW z j || (decide (j = s) && decide (v = 1))) := by
      refine bo_eq ?_
      rw [cin_i, Bool.or_eq_true, cin_i, Bool.and_eq_true]
      constructor
      · intro ⟨u, h1, h2, h3⟩
        have h2' : upn z.1 w (s : Int) u = (j : Int) := h2
        have h3' : upn z.2.1 w v u = 1 := h3
        by_cases q : u = w
        · rw [q, upn_y] at h2' h3'
          exact Or.inr ⟨decide_eq_true (by omega), decide_eq_true h3'⟩
        · rw [upn_o q] at h2' h3'
          exact Or.inl ⟨u, h1, h2', h3'⟩
      · intro h
        rcases h with ⟨u, h1, h2, h3⟩ | ⟨h1, h2⟩
        · have q : ¬ u = w := fun r => by
            rw [r] at h2
            omega
          exact ⟨u, h1, (upn_o q).trans h2, (upn_o q).trans h3⟩
        · have e1 := of_decide_eq_true h1
          have e2 := of_decide_eq_true h2
          refine ⟨w, hw, ?_, ?_⟩
          · show upn z.1 w (s : Int) w = (j : Int)
            rw [upn_y, e1]
          · show upn z.2.1 w v w = 1
            rw [upn_y, e2]
    rw [key, h7]
    by_cases x : v = 1
    · rw [if_pos x, decide_eq_true x, Bool.and_true]
      by_cases x2 : j = s
      · rw [lf_up_y (by omega), decide_eq_true x2, Bool.or_true]
        rfl
      · rw [lf_up_o (by omega), decide_eq_false x2, Bool.or_false]
        exact r7
    · rw [if_neg x, decide_eq_false x, Bool.and_false, Bool.or_false]
      exact r7
theorem MR_no {s w : Nat} {z : wzT} {a1 a2 a3 a4 a5 a7 b3 : Nat → Int} (hR : mrS nW cA ab s w z a1 a2 a3 a4 a5 a7) (h3 : ∀ u, u < nW → b3 u = if u = w ∧ here cA ab s w z = true then a3 u + 1 else a3 u) : mrS nW cA ab s (w + 1) z a1 a2 b3 a4 a5 a7 := by
  refine ⟨fun u hu => ?_, hR.2⟩
  obtain ⟨r1, r2, r3, r4, r5⟩ := hR.1 u hu
  refine ⟨r1, r2, ?_, r4, r5⟩
  rw [h3 u hu, r3]
  unfold wtd
  by_cases q : u = w
  · subst q
    by_cases c : ab u = true ∨ (s : Int) < cA u
    · have hf : ¬ here cA ab s u z = true := by
        intro hh
        unfold here at hh
        rw [Bool.and_eq_true, Bool.and_eq_true] at hh
        rcases c with c | c
        · rw [c] at hh
          exact Bool.noConfusion hh.1.2
        · have := of_decide_eq_true hh.1.1
          omega
      rw [if_neg (fun r => hf r.2), if_pos c, if_pos c]
    · rw [if_neg c, if_neg c]
      by_cases c2 : z.1 u = -1
      · have hf : here cA ab s u z = true := by
          unfold here
          have ha : ab u = false := by
            cases e : ab u
            · rfl
            · exact absurd (Or.inl e) c
          rw [decide_eq_true (show cA u ≤ (s : Int) from by omega), ha, decide_eq_true c2]
          rfl
        rw [if_pos ⟨rfl, hf⟩, if_pos c2, if_pos c2, decide_eq_false (Nat.lt_irrefl u), decide_eq_true (Nat.lt_succ_self u)]
        show (s : Int) - cA u + 0 + 1 = (s : Int) - cA u + 1
        omega
      · have hf : ¬ here cA ab s u z = true := by
          intro hh
          unfold here at hh
          rw [Bool.and_eq_true] at hh
          exact c2 (of_decide_eq_true hh.2)
        rw [if_neg (fun r => hf r.2), if_neg c2, if_neg c2]
  · rw [if_neg (fun r => q r.1)]
    by_cases y1 : u < w
    · rw [decide_eq_true y1, decide_eq_true (show u < w + 1 from by omega)]
    · rw [decide_eq_false y1, decide_eq_false (show ¬ u < w + 1 from by omega)]
end MD
