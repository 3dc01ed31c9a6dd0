/-! a DAY that is lived, on both sides -/
section LV
variable {nW nK : Nat} {cy ls d ru gr ar A : Int} {oC oR oL : Option (List Int)} {kO cA clmK pcK comers code spans many bar kinds walkers cf ce codes now tr : Nat → Int}
theorem sf_l {sd : Int} {str cars gaps known left leaves : Nat → Int} {pressed crossed went harmed : Int} (h : sfH oC oR nW nK cy ls kO cA clmK pcK sd str ru gr A cars gaps known left leaves pressed crossed went harmed) (h0 : 0 ≤ sd) (h1 : 0 ≤ ru) : SFd oC sd cy cars gaps ∧ SFl oC oR nW cy ls kO cA clmK pcK sd str ru gr A left leaves pressed crossed went harmed := by
  rcases h with r | ⟨_, _, h3, _, r | h5⟩
  · omega
  · omega
  · exact ⟨h3, h5⟩
theorem we_z (hP : plH nW nK cy ls oC oR kO cA clmK pcK comers code spans ar) : zOK nW cA (weS oC oR nW cy ls kO cA clmK pcK d tr ru gr A) := zOK_S (fun w hw => (hP.2.2.2.1 w hw).2)
/-- what the class tells of the DAY that is laid out -/
theorem tc_x {left leaves : Nat → Int} {pressed crossed went harmed what : Int} (hP : plH nW nK cy ls oC oR kO cA clmK pcK comers code spans ar) (hS : SFl oC oR nW cy ls kO cA clmK pcK d tr ru gr A left leaves pressed crossed went harmed) (hA : rg A) (hg0 : 0 ≤ gr) (hg1 : gr ≤ 60) (hw : 0 ≤ what ∧ what ≤ 5) : F_X7_told (nW : Int) cA A left leaves pressed crossed went harmed what = tdS nW cA (twf nW kO tr) (abf A) cy ls ru gr (weS oC oR nW cy ls kO cA clmK pcK d tr ru gr A) what := by
  obtain ⟨s1, s2, s3, s4, s5, s6⟩ := hS
  refine td_c (we_z hP) hP.1 hA (fun _ _ => rfl) (fun j hj => ⟨s1 j hj, ?_⟩) s2 s3 s4 s5 s6 hw
  rw [s1 j hj]
  exact (lef_b hg0 hg1 (by have := hP.2.2.1; omega) (j + 1)).1
theorem tc_0 {left leaves : Nat → Int} {pressed crossed went harmed : Int} (hP : plH nW nK cy ls oC oR kO cA clmK pcK comers code spans ar) (hS : SFl oC oR nW cy ls kO cA clmK pcK d tr ru gr A left leaves pressed crossed went harmed) (hA : rg A) : F_X7_told_a0_0 (nW : Int) cA A leaves = tdS nW cA (twf nW kO tr) (abf A) cy ls ru gr (weS oC oR nW cy ls kO cA clmK pcK d tr ru gr A) 0 := td_c0 (we_z hP) hP.1 hA (fun _ _ => rfl) hS.2.2.2.2.2
theorem ln_B (hP : plH nW nK cy ls oC oR kO cA clmK pcK comers code spans ar) (hd : 0 ≤ d ∧ d ≤ 999) (ht : ∀ k, k < nK → 0 ≤ tr k ∧ tr k ≤ 9) : lnB nW nK d kO cA clmK pcK (wt0 cA (abf A) (weS oC oR nW cy ls kO cA clmK pcK d tr ru gr A)) tr := ⟨hP.1, hP.2.1, hd, fun w hw => ⟨(hP.2.2.2.1 w hw).1, (hP.2.2.2.1 w hw).2, wt0_b (we_z hP) w hw⟩, hP.2.2.2.2.1, ht⟩
theorem lnS_cg {tr2 wt : Nat → Int} {ab : Nat → Bool} (hk : ∀ w, w < nW → 0 ≤ kO w ∧ kO w < (nK : Int)) (h : ∀ k, k < nK → tr k = tr2 k) : ∀ n, n ≤ nW → ∀ k, k < nK → lnS oL d cA clmK pcK kO wt ab tr n k = lnS oL d cA clmK pcK kO wt ab tr2 n k
  | 0, _, k, hk2 => h k hk2
  | n + 1, hn, k, hk2 => by
    have ih := lnS_cg (tr2 := tr2) (wt := wt) (ab := ab) hk h n (by omega)
    rw [lnS_s, lnS_s]
    by_cases a : ab n = true
    · rw [if_pos a, if_pos a]
      exact ih k hk2
    · rw [if_neg a, if_neg a]
      have hh := hk n (by omega)
      have e := ih (kO n).toNat (by omega)
      by_cases q : k = (kO n).toNat
      · rw [q, upn_y, upn_y, e]
      · rw [upn_o q, upn_o q]
        exact ih k hk2
/-- laid, told, passed: the class's -/
theorem lv_c {facts stack cars gaps known str left leaves tX : Nat → Int} {d1 ru1 gr1 A1 pressed crossed went harmed : Int} (hP : plH nW nK cy ls oC oR kO cA clmK pcK comers code spans ar) (hL : cdX code spans 4 oL ∧ cdG false 123 oL) (hS : sfH oC oR nW nK cy ls kO cA clmK pcK d1 str ru1 gr1 A1 cars gaps known left leaves pressed crossed went harmed) (hB : stB nK d ru gr tr) (hX : ∀ k, k < nK → tX k = tr k) (hA : rg A) : ∃ f2 s2 c2 g2 t2 k2 l2 v2 pr2 cr2 we2 ha2 t3 f3 s3, F_X7_lay facts stack cy ls (nK : Int) clmK pcK (nW : Int) kO cA comers code spans d1 str ru1 gr1 A1 ar cars gaps known left leaves pressed crossed went harmed d tX ru gr A = (d, ru, gr, A, pr2, cr2, we2, ha2, f2, s2, c2, g2, t2, k2, l2, v2) ∧ sfH oC oR nW nK cy ls kO cA clmK pcK d t2 ru gr A c2 g2 k2 l2 v2 pr2 cr2 we2 ha2 ∧ SFd oC d cy c2 g2 ∧ SFl oC oR nW cy ls kO cA clmK pcK d tr ru gr A l2 v2 pr2 cr2 we2 ha2 ∧ F_X7_pass f2 s2 clmK pcK (nW : Int) kO cA code spans d A v2 d tX = (d + 1, t3, f3, s3) ∧ ∀ k, k < nK → t3 k = lnS oL d cA clmK pcK kO (wt0 cA (abf A) (weS oC oR nW cy ls kO cA clmK pcK d tr ru gr A)) (abf A) tr nW k := by
  obtain ⟨b1, b2', b3, b4⟩ := hB
  have htX : ∀ k, k < nK → 0 ≤ tX k ∧ tX k ≤ 9 := fun k hk => by
    rw [hX k hk]
    exact b4 k hk
  obtain ⟨f2, s2, c2, g2, t2, k2, l2, v2, pr2, cr2, we2, ha2, e, e1, hsf, q2, q1⟩ := ly_x (facts := facts) (stack := stack) hP hS b1 htX b2'.1 (show 0 ≤ gr ∧ gr ≤ 60 from ⟨by omega, b3.2⟩) hA
  have ecg : twf nW kO tX = twf nW kO tr := twf_cg (fun w hw => (hP.2.2.2.1 w hw).1) hX
  have q3 := SFl_cg ecg q2
  have hLB := ln_B (d := d) (tr := tr) (ru := ru) (gr := gr) (A := A) hP b1 b4
  have hLX : lnB nW nK d kO cA clmK pcK (wt0 cA (abf A) (weS oC oR nW cy ls kO cA clmK pcK d tr ru gr A)) tX := ⟨hLB.1, hLB.2.1, hLB.2.2.1, hLB.2.2.2.1, hLB.2.2.2.2.1, htX⟩
  obtain ⟨t3, f3, s3, p1, p2⟩ := ps_x (facts := f2) (stack := s2) (leaves := v2) (A := A) (day := d) (ab := abf A) (oL := oL) (code := code) (spans := spans) hLX hA (fun _ _ => rfl) hL.1 hL.2 (fun w hw ha => wb_c (we_z hP) q3.2.2.2.2.2 hP.1 hw ha) b1
  exact ⟨f2, s2, c2, g2, t2, k2, l2, v2, pr2, cr2, we2, ha2, t3, f3, s3, e, hsf, q1, q3, p1, fun k hk => (p2 k hk).trans (lnS_cg (fun w hw => (hP.2.2.2.1 w hw).1) hX nW (Nat.le_refl _) k hk)⟩
/-- the model's -/
theorem lv_m {tk ask red sg qp : Int} {isCar gaps isG isH cr wt go hm pr2 ci pile : Nat → Int} (hP : plH nW nK cy ls oC oR kO cA clmK pcK comers code spans ar) (hM : pmH nW nK cy ls oC oR oL kO cA clmK pcK many bar kinds walkers cf ce codes) (hG : cdG false 123 oL) (hB : stB nK d ru gr tr) (hn : ndH nK d ru gr tr now) (hA : rg A) : ∃ v43 v17 v18 v19 v20 v21 v22 v23 v44 f46 now2 f27 f7 f28 f29 f8 f25 f26 f30 f31 f32, F_X10_dayGoes tk ask red sg qp many bar kinds walkers cf ce codes now isCar gaps isG isH cr wt go hm pr2 ci pile A = (tdS nW cA (twf nW kO tr) (abf A) cy ls ru gr (weS oC oR nW cy ls kO cA clmK pcK d tr ru gr A) 0, v43, v17, v18, v19, v20, v21, v22, v23, v44, f46, now2, f27, f7, f28, f29, f8, f25, f26, f30, f31, f32) ∧ ndH nK (d + 1) ru gr (lnS oL d cA clmK pcK kO (wt0 cA (abf A) (weS oC oR nW cy ls kO cA clmK pcK d tr ru gr A)) (abf A) tr nW) now2 := by
  obtain ⟨b1, b2', b3, b4⟩ := hB
  obtain ⟨t, q, r, p, g, i, e1, e2, e3⟩ := mc_x (tk := tk) (ask := ask) (red := red) (qp := qp) (kinds := kinds) (walkers := walkers) (isCar := isCar) (gaps := gaps) (waits := wt) (goes := go) (harms := hm) (pile := pile) b1 (by have := hP.2.2.1; omega) hP.2.2.1.2 hM.2.2.1 hn.1 hM.2.2.2.2.2.2.1 hP.2.2.2.2.2.2.1.2
  unfold F_X10_dayGoes
  rw [e1, lf_p_e, lf_p_e, lf_p_e, lf_p_e, lf_p_e, show now (Int.toNat (1 : Int)) = ru from hn.2.1, show now (Int.toNat (2 : Int)) = gr from hn.2.2.1]
  obtain ⟨c1, c2, c3, c4, c5, c6, c7, c11, c16, e70, e71, e72, e73, e74, e55, e58, e59, e117, e, h⟩ := day_x (tk := t) (ask := q) (sg := sg) (qp := r) (isG := isG) (isH := isH) (cr := cr) (wt := wt) (go := go) (hm := hm) (pr2 := pr2) (ci := ci) (pile := p) (A := A) (H := 0) (md_of hP hM b1 hn e3) hA rg_0 b3.1 b3.2 b2'
  rw [wkM_0] at h
  rw [e, lf_p_e, lf_p_e, lf_p_e, lf_p_e, lf_p_e, lf_p_e, lf_p_e, lf_p_e, lf_p_e, lf_p_e, lf_p_e, lf_p_e, lf_p_e, lf_p_e, lf_p_e, lf_p_e, lf_p_e, lf_b_e, td_m0 h (we_z hP) hM.1 hP.1]
  have hLB := ln_B (d := d) (tr := tr) (ru := ru) (gr := gr) (A := A) hP b1 b4
  obtain ⟨x1, x2, x3, x4, y1, y2, y3⟩ := lr_x (tk := e55) (ask := e58) (red := e59) (qp := e117) (A := A) (ab := abf A) (bar := bar) (gaps := g) (waits := c3) (go := c4) (hm := c5) (pile := c16) hLB hA (fun _ _ => rfl) hM.2.2.2.2.2.2.2.2 hG hM.1 hM.2.2.2.2.1 hM.2.2.2.2.2.1 (fun w hw => (h.1 w hw).2.2.1) hn.1 (fun k hk => (hn.2.2.2 k hk).1)
  have z0 : x3 0 = d := (y3 0 (by omega)).trans hn.1
  rw [y1, lf_p_e, lf_p_e, lf_p_e]
  refine ⟨_, _, _, _, _, _, _, _, _, _, _, _, _, _, _, _, _, _, _, _, _, rfl, ?_, ?_, ?_, fun k hk => ?_⟩
  · rw [lf_up_y (show 0 = Int.toNat (0 : Int) from rfl), show x3 (Int.toNat (0 : Int)) = d from z0, lo_add (by omega) (by omega) (by omega) (by omega) (by omega) (by omega)]
  · rw [lf_up_o (by decide)]
    exact (y3 1 (by omega)).trans hn.2.1
  · rw [lf_up_o (by decide)]
    exact (y3 2 (by omega)).trans hn.2.2.1
  · rw [lf_up_o (by omega), y2 k hk]
    exact ⟨rfl, lnS_b hLB nW k hk⟩
end LV
