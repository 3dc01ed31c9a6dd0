/-- ahead of a second, the model's rows -/
def wte (cA : Nat → Int) (ab : Nat → Bool) (s : Nat) (z : wzT) (w : Nat) : Int := if ab w = true ∨ (s : Int) ≤ cA w then 0 else if z.1 w = -1 then (s : Int) - cA w else z.1 w - cA w
def mqS (nW : Nat) (cA tw : Nat → Int) (ab : Nat → Bool) (cy ls ru gr : Int) (s : Nat) (z : wzT) (a1 a2 a3 a4 a5 a6 a7 a11 : Nat → Int) : Prop := (∀ w, w < nW → a1 w = b2 (decide (cA w < (s : Int)) && !ab w && decide (z.1 w = -1)) ∧ a2 w = z.1 w ∧ a3 w = wte cA ab s z w ∧ a4 w = b2 (decide (2 ≤ z.2.1 w)) ∧ a5 w = b2 (decide (z.2.1 w = 3)) ∧ a6 w = b2 (prS nW cA tw ab cy ls ru gr w && decide (cA w < (s : Int)))) ∧ ∀ j, j < s → a7 j = b2 (cin nW z j) ∧ a11 j = b2 (decide (0 < lef nW cA tw ab cy ls ru gr j))
section DY
variable {nW nK : Nat} {cy ls d ru gr A H : Int} {oC oR oL : Option (List Int)} {kO cA clmK pcK many bar kinds walkers cf ce codes now gaps tr : Nat → Int}
/-- the DAY that the model goes through -/
noncomputable def wkM (oC oR : Option (List Int)) (nW : Nat) (cy ls : Int) (kO cA clmK pcK : Nat → Int) (d : Int) (tr : Nat → Int) (ru gr A H : Int) (s : Nat) : wzT := wzS nW cA (fun w => pcK (kO w).toNat) (abf A) (leS nW cy ls kO cA tr ru gr A) (gpS oC d cy) (gM2 oC oR cy nW kO cA clmK pcK d tr H) s
theorem day_run (h : mdH nW nK cy ls d oC oR oL kO cA clmK pcK many bar kinds walkers cf ce codes now gaps tr) (hA : rg A) (hH : rg H) (hg0 : 1 ≤ gr) (hg1 : gr ≤ 60) (hr : 0 ≤ ru ∧ ru ≤ 2) : ∀ (f s : Nat) (a1 a2 a3 a4 a5 a6 a7 a11 a16 : Nat → Int) (c70 c71 c72 c73 c74 c55 c58 c117 : Int), s ≤ 300 → 300 - s < f → mlS ru s (lzS nW cA (twf nW kO tr) (abf A) cy ls ru gr s) c70 c71 c72 c73 → mqS nW cA (twf nW kO tr) (abf A) cy ls ru gr s (wkM oC oR nW cy ls kO cA clmK pcK d tr ru gr A H s) a1 a2 a3 a4 a5 a6 a7 a11 → (∀ w, ¬ w < nW → w < 12 → a6 w = 0) → ∃ b1 b2' b3 b4 b5 b6 b7 b11 b16 e70 e71 e72 e73 e74 e55 e58 e117, F_X10_dayBy_92 many bar kinds walkers cf ce codes now gaps ru gr A H f a1 a2 a3 a4 a5 a6 (s : Int) c70 c71 c72 c73 c74 a7 a11 c55 c58 (wkM oC oR nW cy ls kO cA clmK pcK d tr ru gr A H s).2.2 c117 a16 = (e55, e58, (wkM oC oR nW cy ls kO cA clmK pcK d tr ru gr A H 300).2.2, e70, e71, e72, e73, e74, e117, b1, b2', b3, b4, b5, b6, b7, b11, b16) ∧ mqS nW cA (twf nW kO tr) (abf A) cy ls ru gr 300 (wkM oC oR nW cy ls kO cA clmK pcK d tr ru gr A H 300) b1 b2' b3 b4 b5 b6 b7 b11 := by
  intro f
  induction f with
  | zero => intro s a1 a2 a3 a4 a5 a6 a7 a11 a16 c70 c71 c72 c73 c74 c55 c58 c117 h1 h2; omega
  | succ f ih =>
    intro s a1 a2 a3 a4 a5 a6 a7 a11 a16 c70 c71 c72 c73 c74 c55 c58 c117 h1 h2 hL hQ h6
    have hn : nW ≤ 12 := h.2.1
    have hcy := h.2.2.2.1
    have hm : many 3 = (nW : Int) := h.1.1
    have hb4 : bar 4 = cy := h.1.2.2.1
    have hb7 : bar 7 = ls := h.1.2.2.2.1
    show ∃ b1 b2' b3 b4 b5 b6 b7 b11 b16 e70 e71 e72 e73 e74 e55 e58 e117, F_X10_dayBy_92b many bar kinds walkers cf ce codes now gaps ru gr A H (F_X10_dayBy_92 many bar kinds walkers cf ce codes now gaps ru gr A H f) a1 a2 a3 a4 a5 a6 (s : Int) c70 c71 c72 c73 c74 a7 a11 c55 c58 (wkM oC oR nW cy ls kO cA clmK pcK d tr ru gr A H s).2.2 c117 a16 = _ ∧ _
    unfold F_X10_dayBy_92b
    by_cases q : s = 300
    · subst q
      rw [if_pos (by decide)]
      exact ⟨a1, a2, a3, a4, a5, a6, a7, a11, a16, c70, c71, c72, c73, c74, c55, c58, c117, rfl, hQ⟩
    · have hs : s < 300 := by omega
      rw [if_neg (by omega)]
      have hlb := lef_b (nW := nW) (cA := cA) (tw := twf nW kO tr) (ab := abf A) (ls := ls) (ru := ru) (by omega : 0 ≤ gr) hg1 (by omega : 1 ≤ cy) s
      have hbf : (lzS nW cA (twf nW kO tr) (abf A) cy ls ru gr s).2.2.2 = 0 ↔ (s = 0 ∨ a11 (s - 1) = 0) := by
        cases s with
        | zero => exact ⟨fun _ => Or.inl rfl, fun _ => rfl⟩
        | succ s =>
          have e := (hQ.2 s (Nat.lt_succ_self s)).2
          have e2 : (lzS nW cA (twf nW kO tr) (abf A) cy ls ru gr (s + 1)).2.2.2 = lef nW cA (twf nW kO tr) (abf A) cy ls ru gr s := rfl
          rw [e2] at hlb ⊢
          rw [show s + 1 - 1 = s from rfl, e]
          by_cases x : 0 < lef nW cA (twf nW kO tr) (abf A) cy ls ru gr s
          · rw [decide_eq_true x]
            exact ⟨fun r => by omega, fun r => r.elim (fun r => absurd r (Nat.succ_ne_zero s)) (fun r => absurd r (by decide))⟩
          · rw [decide_eq_false x]
            exact ⟨fun _ => Or.inr rfl, fun _ => by omega⟩
      obtain ⟨k70, k1, k6, ea, ea0, eak⟩ := ar_run (kO := kO) (isG := a11) (A := A) (bf := (lzS nW cA (twf nW kO tr) (abf A) cy ls ru gr s).2.2.2) (s := s) (c0 := c70) (h0 := a1) (p0 := a6) (tw := twf nW kO tr) (ab := abf A) hn hm (fun w hw => (h.1.2.2.2.2.1 w hw)) (fun w hw => (h.2.2.2.2.1 w hw).1.1) (fun w hw => by
        have hk := (h.2.2.2.2.1 w hw).1
        have ht := h.2.2.2.2.2.2.2.2.2.2.1 (kO w).toNat (by omega)
        unfold twf
        rw [if_pos hw]
        exact ⟨ht.1, ht.2.1⟩) hA (fun w _ => rfl) hbf 14 0 c70 a1 a6 (Nat.zero_le _) (by omega) (by
        have : pr 0 cA (twf nW kO tr) (abf A) (s : Int) (lzS nW cA (twf nW kO tr) (abf A) cy ls ru gr s).2.2.2 = false := rfl
        rw [this, if_neg (fun r => Bool.noConfusion r)]) (fun w hw => ⟨by rw [if_neg (fun r => Nat.not_lt_zero w r.1)], by rw [if_neg (fun r => Nat.not_lt_zero w r.1)]⟩)
      have ea' : F_X10_arrive c70 many walkers now a11 a1 a6 (s : Int) A = (k70, k1, k6) := ea
      rw [ea', lf_p_e, lf_p_e]
      obtain ⟨lit, d70, d71, d72, d73, d74, el, el1, el2, el3⟩ := li_x (nW := nW) (cA := cA) (tw := twf nW kO tr) (ab := abf A) (ru := ru) (gr := gr) (c70 := c70) (c71 := c71) (c72 := c72) (c73 := c73) hs hb4 hb7 (by omega : 1 ≤ cy) hcy.2 hg0 hg1 hr (fun r => by rw [r]; rfl) hL
      rw [← ea0] at el
      rw [el, lf_p_e, lf_p_e, lf_p_e, lf_p_e, lf_p_e]
      have hI := spI_S (nW := nW) (cA := cA) (pcw := fun w => pcK (kO w).toNat) (ab := abf A) (lf := leS nW cy ls kO cA tr ru gr A) (gp := gpS oC d cy) (G := gM2 oC oR cy nW kO cA clmK pcK d tr H) s
      have hIz : ∀ w, ¬ (wkM oC oR nW cy ls kO cA clmK pcK d tr ru gr A H s).1 w = -1 → cA w < (s : Int) ∧ (wkM oC oR nW cy ls kO cA clmK pcK d tr ru gr A H s).1 w < (s : Int) := fun w hw => by
        have := (hI.1 w).2.2 hw
        have e : (wkM oC oR nW cy ls kO cA clmK pcK d tr ru gr A H s).1 w = (wzS nW cA (fun w => pcK (kO w).toNat) (abf A) (leS nW cy ls kO cA tr ru gr A) (gpS oC d cy) (gM2 oC oR cy nW kO cA clmK pcK d tr H) s).1 w := rfl
        omega
      have hR0 : mrS nW cA (abf A) s 0 (wkM oC oR nW cy ls kO cA clmK pcK d tr ru gr A H s) k1 a2 a3 a4 a5 (lf_up a7 (s : Int) (0 : Int)) := by
        refine ⟨fun w hw => ?_, fun j hj => ?_⟩
        · obtain ⟨q1, q2, q3, q4, q5, q6⟩ := hQ.1 w hw
          refine ⟨?_, q2, ?_, q4, q5⟩
          · rw [(eak w (by omega)).1]
            unfold here
            by_cases x : cA w = (s : Int)
            · cases hab : abf A w with
              | false =>
                have hz : (wkM oC oR nW cy ls kO cA clmK pcK d tr ru gr A H s).1 w = -1 := by
                  rcases Decidable.em ((wkM oC oR nW cy ls kO cA clmK pcK d tr ru gr A H s).1 w = -1) with r | r
                  · exact r
                  · have := hIz w r
                    omega
                rw [if_pos ⟨hw, x, rfl⟩, decide_eq_true (show cA w ≤ (s : Int) from by omega), decide_eq_true hz]
                rfl
              | true =>
                rw [if_neg (fun r => Bool.noConfusion r.2.2), q1, hab, Bool.not_true, Bool.and_false, Bool.and_false]
            · rw [if_neg (fun r => x r.2.1), q1]
              by_cases y : cA w < (s : Int)
              · rw [decide_eq_true y, decide_eq_true (show cA w ≤ (s : Int) from by omega)]
              · rw [decide_eq_false y, decide_eq_false (show ¬ cA w ≤ (s : Int) from by omega)]
          · rw [q3]
            unfold wte wtd
            rw [decide_eq_false (Nat.not_lt_zero w)]
            by_cases x : abf A w = true ∨ (s : Int) < cA w
            · rw [if_pos (x.elim Or.inl (fun r => Or.inr (by omega))), if_pos x]
            · rw [if_neg x]
              by_cases y : (s : Int) = cA w
              · have hz : (wkM oC oR nW cy ls kO cA clmK pcK d tr ru gr A H s).1 w = -1 := by
                  rcases Decidable.em ((wkM oC oR nW cy ls kO cA clmK pcK d tr ru gr A H s).1 w = -1) with r | r
                  · exact r
                  · have := hIz w r
                    omega
                rw [if_pos (Or.inr (by omega)), if_pos hz]
                show (0 : Int) = (s : Int) - cA w + 0
                omega
              · rw [if_neg (fun r => r.elim (fun r => x (Or.inl r)) (fun r => x (Or.inr (by omega))))]
                by_cases y2 : (wkM oC oR nW cy ls kO cA clmK pcK d tr ru gr A H s).1 w = -1
                · rw [if_pos y2, if_pos y2]
                  show _ = (s : Int) - cA w + 0
                  omega
                · rw [if_neg y2, if_neg y2]
        · by_cases x : j = s
          · rw [lf_up_y (by omega), x]
            have e : cin nW (wkM oC oR nW cy ls kO cA clmK pcK d tr ru gr A H s) s = false := by
              cases c : cin nW (wkM oC oR nW cy ls kO cA clmK pcK d tr ru gr A H s) s
              · rfl
              · obtain ⟨w, w1, w2, w3⟩ := cin_i.mp c
                have := hIz w (by omega)
                omega
            rw [e]
            rfl
          · rw [lf_up_o (by omega)]
            exact (hQ.2 j (by omega)).1
      have hlf : leS nW cy ls kO cA tr ru gr A s = (lst nW cA (twf nW kO tr) (abf A) cy ls ru gr s (lzS nW cA (twf nW kO tr) (abf A) cy ls ru gr s)).2.2.2 := rfl
      obtain ⟨a1', a2', a3', a4', a5', a7', a16', c55', c58', c117', er, er1⟩ := da_row (K92 := F_X10_dayBy_92 many bar kinds walkers cf ce codes now gaps ru gr A H f) (c70 := d70) (c71 := d71) (c72 := d72) (c73 := d73) (c74 := d74) (a6 := k6) (a11 := lf_up a11 (s : Int) lit) (lf := leS nW cy ls kO cA tr ru gr A) (ab := abf A) (s := s) (z := wkM oC oR nW cy ls kO cA clmK pcK d tr ru gr A H s) h hH hs (spI_w hI) (by rw [lf_up_y (by omega), el1, hlf]) (fun r => by rw [hlf] at r ⊢; exact el2 r) 14 0 k1 a2 a3 a4 a5 (lf_up a7 (s : Int) (0 : Int)) a16 c55 c58 c117 (Nat.zero_le _) (by omega) hR0
      have er' : F_X10_dayBy_133 many bar kinds walkers cf ce codes now gaps H (s : Int) (F_X10_dayBy_92 many bar kinds walkers cf ce codes now gaps ru gr A H f) 14 d70 d71 d72 d73 d74 k1 k6 (lf_up a7 (s : Int) (0 : Int)) (lf_up a11 (s : Int) lit) (0 : Int) c55 c58 (wkM oC oR nW cy ls kO cA clmK pcK d tr ru gr A H s).2.2 c117 a2 a3 a4 a5 a16 = _ := er
      rw [er']
      have hzs : wrow cA (fun w => pcK (kO w).toNat) (abf A) (leS nW cy ls kO cA tr ru gr A) (gpS oC d cy) (gM2 oC oR cy nW kO cA clmK pcK d tr H) s nW (wkM oC oR nW cy ls kO cA clmK pcK d tr ru gr A H s) = wkM oC oR nW cy ls kO cA clmK pcK d tr ru gr A H (s + 1) := rfl
      rw [hzs] at er1 ⊢
      refine ih (s + 1) a1' a2' a3' a4' a5' k6 a7' (lf_up a11 (s : Int) lit) a16' d70 d71 d72 d73 d74 c55' c58' c117' (by omega) (by omega) el3 ⟨fun w hw => ?_, fun j hj => ?_⟩ (fun w hw hw2 => ?_)
      · obtain ⟨q1, q2, q3, q4, q5⟩ := er1.1 w hw
        refine ⟨?_, q2, ?_, q4, q5, ?_⟩
        · rw [q1]
          unfold here
          by_cases y : cA w ≤ (s : Int)
          · rw [decide_eq_true y, decide_eq_true (show cA w < ((s + 1 : Nat) : Int) from by omega)]
          · rw [decide_eq_false y, decide_eq_false (show ¬ cA w < ((s + 1 : Nat) : Int) from by omega)]
        · rw [q3]
          unfold wte wtd
          rw [decide_eq_true hw]
          by_cases x : abf A w = true ∨ (s : Int) < cA w
          · rw [if_pos x, if_pos (x.elim Or.inl (fun r => Or.inr (by omega)))]
          · rw [if_neg x, if_neg (show ¬ (abf A w = true ∨ ((s + 1 : Nat) : Int) ≤ cA w) from fun r => r.elim (fun r => x (Or.inl r)) (fun r => x (Or.inr (by omega))))]
            by_cases y2 : (wkM oC oR nW cy ls kO cA clmK pcK d tr ru gr A H (s + 1)).1 w = -1
            · rw [if_pos y2, if_pos y2]
              show (s : Int) - cA w + 1 = ((s + 1 : Nat) : Int) - cA w
              omega
            · rw [if_neg y2, if_neg y2]
        · rw [(eak w (by omega)).2, (hQ.1 w hw).2.2.2.2.2]
          unfold ndB prS
          rw [decide_eq_true hw, Bool.true_and]
          by_cases x : cA w = (s : Int)
          · have e4 : (cA w).toNat = s := by omega
            rw [e4, decide_eq_true x, Bool.true_and, decide_eq_true (show cA w < ((s + 1 : Nat) : Int) from by omega), decide_eq_false (show ¬ cA w < (s : Int) from by omega), Bool.and_false, Bool.and_true]
            cases (!abf A w && decide (0 < twf nW kO tr w) && decide ((lzS nW cA (twf nW kO tr) (abf A) cy ls ru gr s).2.2.2 = 0))
            · rw [if_neg (fun r => Bool.noConfusion r.2)]
            · rw [if_pos ⟨hw, rfl⟩]
              rfl
          · rw [decide_eq_false x, Bool.false_and, Bool.false_and, Bool.false_and, if_neg (fun r => Bool.noConfusion r.2)]
            by_cases y : cA w < (s : Int)
            · rw [decide_eq_true y, decide_eq_true (show cA w < ((s + 1 : Nat) : Int) from by omega)]
            · rw [decide_eq_false y, decide_eq_false (show ¬ cA w < ((s + 1 : Nat) : Int) from by omega)]
      · refine ⟨er1.2 j (by omega), ?_⟩
        by_cases x : j = s
        · rw [lf_up_y (by omega), el1, x]
          rfl
        · rw [lf_up_o (by omega)]
          exact (hQ.2 j (by omega)).2
      · rw [(eak w hw2).2, if_neg (fun r => hw r.1)]
        exact h6 w hw hw2
/-- what a DAY gone through leaves in the model -/
def dF (nW : Nat) (cA tw : Nat → Int) (ab : Nat → Bool) (cy ls ru gr : Int) (z : wzT) (isH cr wt go hm pr2 ci isG : Nat → Int) : Prop := (∀ w, w < nW → isH w = b2 (!ab w && decide (z.1 w = -1)) ∧ cr w = z.1 w ∧ wt w = (if ab w = true then 0 else if z.1 w = -1 then 300 - cA w else z.1 w - cA w) ∧ go w = b2 (decide (2 ≤ z.2.1 w)) ∧ hm w = b2 (decide (z.2.1 w = 3)) ∧ pr2 w = b2 (prS nW cA tw ab cy ls ru gr w)) ∧ ∀ j, j < 300 → ci j = b2 (cin nW z j) ∧ isG j = b2 (decide (0 < lef nW cA tw ab cy ls ru gr j))
theorem day_in {tk ask sg qp : Int} {isG ci pile : Nat → Int} {K : Int × Int × Int × Int × Int × Int × Int × Int × Int × (Nat → Int) × (Nat → Int) × (Nat → Int) × (Nat → Int) × (Nat → Int) × (Nat → Int) × (Nat → Int) × (Nat → Int) × (Nat → Int) → Prop} (hK : ∀ a1 a2 a3 a4 a5 a6 : Nat → Int, (∀ w, w < 12 → a1 w = 0 ∧ a2 w = -1 ∧ a3 w = 0 ∧ a4 w = 0 ∧ a5 w = 0 ∧ a6 w = 0) → K (F_X10_dayBy_92 many bar kinds walkers cf ce codes now gaps ru gr A H 302 a1 a2 a3 a4 a5 a6 (0 : Int) (0 : Int) (-1 : Int) (-1 : Int) (0 : Int) sg ci isG tk ask (0 : Int) qp pile)) : ∀ (f w : Nat) (a1 a2 a3 a4 a5 a6 : Nat → Int), w ≤ 12 → 12 - w < f → (∀ u, u < w → a1 u = 0 ∧ a2 u = -1 ∧ a3 u = 0 ∧ a4 u = 0 ∧ a5 u = 0 ∧ a6 u = 0) → K (F_X10_dayBy_3 tk ask sg qp many bar kinds walkers cf ce codes now gaps isG ci pile ru gr A H f (w : Int) a1 a2 a3 a4 a5 a6) := by
  intro f
  induction f with
  | zero => intro w a1 a2 a3 a4 a5 a6 h1 h2; omega
  | succ f ih =>
    intro w a1 a2 a3 a4 a5 a6 h1 h2 h3
    show K (F_X10_dayBy_3b tk ask sg qp many bar kinds walkers cf ce codes now gaps isG ci pile ru gr A H (F_X10_dayBy_3 tk ask sg qp many bar kinds walkers cf ce codes now gaps isG ci pile ru gr A H f) (w : Int) a1 a2 a3 a4 a5 a6)
    unfold F_X10_dayBy_3b
    by_cases q : w = 12
    · subst q
      rw [if_pos (by decide)]
      exact hK a1 a2 a3 a4 a5 a6 h3
    · rw [if_neg (by omega)]
      refine ih (w + 1) _ _ _ _ _ _ (by omega) (by omega) (fun u hu => ?_)
      by_cases x : u = w
      · rw [lf_up_y (by omega), lf_up_y (by omega), lf_up_y (by omega), lf_up_y (by omega), lf_up_y (by omega), lf_up_y (by omega)]
        exact ⟨rfl, rfl, rfl, rfl, rfl, rfl⟩
      · rw [lf_up_o (by omega), lf_up_o (by omega), lf_up_o (by omega), lf_up_o (by omega), lf_up_o (by omega), lf_up_o (by omega)]
        exact h3 u (by omega)
/-- dayBy -/
theorem day_x {tk ask sg qp : Int} {isG isH cr wt go hm pr2 ci pile : Nat → Int} (h : mdH nW nK cy ls d oC oR oL kO cA clmK pcK many bar kinds walkers cf ce codes now gaps tr) (hA : rg A) (hH : rg H) (hg0 : 1 ≤ gr) (hg1 : gr ≤ 60) (hr : 0 ≤ ru ∧ ru ≤ 2) : ∃ b1 b2' b3 b4 b5 b6 b7 b11 b16 e70 e71 e72 e73 e74 e55 e58 e59 e117, F_X10_dayBy tk ask sg qp many bar kinds walkers cf ce codes now gaps isG isH cr wt go hm pr2 ci pile ru gr A H = (e55, e58, e59, e70, e71, e72, e73, e74, e117, b1, b2', b3, b4, b5, b6, b7, b11, b16) ∧ dF nW cA (twf nW kO tr) (abf A) cy ls ru gr (wkM oC oR nW cy ls kO cA clmK pcK d tr ru gr A H 300) b1 b2' b3 b4 b5 b6 b7 b11 := by
  refine day_in (K := fun R => ∃ b1 b2' b3 b4 b5 b6 b7 b11 b16 e70 e71 e72 e73 e74 e55 e58 e59 e117, R = (e55, e58, e59, e70, e71, e72, e73, e74, e117, b1, b2', b3, b4, b5, b6, b7, b11, b16) ∧ dF nW cA (twf nW kO tr) (abf A) cy ls ru gr (wkM oC oR nW cy ls kO cA clmK pcK d tr ru gr A H 300) b1 b2' b3 b4 b5 b6 b7 b11) ?_ 14 0 isH cr wt go hm pr2 (Nat.zero_le _) (by decide) (fun u hu => absurd hu (Nat.not_lt_zero u))
  intro a1 a2 a3 a4 a5 a6 h0
  have hn : nW ≤ 12 := h.2.1
  have hcA : ∀ w, w < nW → 0 ≤ cA w ∧ cA w < 200 := fun w hw => (h.2.2.2.2.1 w hw).2
  obtain ⟨b1, b2', b3, b4, b5, b6, b7, b11, b16, e70, e71, e72, e73, e74, e55, e58, e117, e, e1⟩ := day_run (H := H) (ls := ls) h hA hH hg0 hg1 hr 302 0 a1 a2 a3 a4 a5 a6 ci isG pile 0 (-1) (-1) 0 sg tk ask qp (Nat.zero_le _) (by decide) ⟨fun _ => ⟨rfl, rfl, ⟨by show (-1 : Int) ≤ -1; decide, by show (-1 : Int) < ((0 : Nat) : Int); decide⟩, ⟨by decide, by decide⟩, fun _ => rfl, fun r => absurd r (Nat.lt_irrefl 0)⟩, fun _ => ⟨rfl, rfl⟩, fun _ => Or.inl rfl⟩ ⟨fun w hw => by
    obtain ⟨x1, x2, x3, x4, x5, x6⟩ := h0 w (by omega)
    have hc := hcA w hw
    have hlt : decide (cA w < ((0 : Nat) : Int)) = false := decide_eq_false (by omega)
    refine ⟨?_, x2, ?_, x4, x5, ?_⟩
    · rw [x1, hlt, Bool.false_and, Bool.false_and]
      rfl
    · rw [x3]
      unfold wte
      rw [if_pos (Or.inr (by omega))]
    · rw [x6, hlt, Bool.and_false]
      rfl, fun j hj => absurd hj (Nat.not_lt_zero j)⟩ (fun w _ hw2 => (h0 w hw2).2.2.2.2.2)
  refine ⟨b1, b2', b3, b4, b5, b6, b7, b11, b16, e70, e71, e72, e73, e74, e55, e58, _, e117, e, ⟨fun w hw => ?_, fun j hj => e1.2 j hj⟩⟩
  obtain ⟨x1, x2, x3, x4, x5, x6⟩ := e1.1 w hw
  have hc := hcA w hw
  have hlt : decide (cA w < ((300 : Nat) : Int)) = true := decide_eq_true (by omega)
  refine ⟨?_, x2, ?_, x4, x5, ?_⟩
  · rw [x1, hlt, Bool.true_and]
  · rw [x3]
    unfold wte
    by_cases y : abf A w = true
    · rw [if_pos (Or.inl y), if_pos y]
    · rw [if_neg (fun r => r.elim y (fun r => by omega)), if_neg y]
      rfl
  · rw [x6, hlt, Bool.and_true]
end DY
