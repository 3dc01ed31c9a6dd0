/-! the model's DAY of today, and the DAY that is lived -/
def ndH (nK : Nat) (d ru gr : Int) (tr now : Nat → Int) : Prop := now 0 = d ∧ now 1 = ru ∧ now 2 = gr ∧ ∀ k, k < nK → now (3 + k) = tr k ∧ 0 ≤ tr k ∧ tr k ≤ 9
theorem gM2_0 {oC oR : Option (List Int)} {cy : Int} {nW : Nat} {kO cA clmK pcK : Nat → Int} {d : Int} {tr : Nat → Int} : gM2 oC oR cy nW kO cA clmK pcK d tr 0 = gR oC oR cy nW kO cA clmK pcK d tr := by
  funext w s r
  show (!bt 0 w && gR oC oR cy nW kO cA clmK pcK d tr w s r) = _
  rw [bt_0]
  rfl
theorem wkM_0 {oC oR : Option (List Int)} {nW : Nat} {cy ls : Int} {kO cA clmK pcK : Nat → Int} {d : Int} {tr : Nat → Int} {ru gr A : Int} : wkM oC oR nW cy ls kO cA clmK pcK d tr ru gr A 0 300 = weS oC oR nW cy ls kO cA clmK pcK d tr ru gr A := by
  unfold wkM weS
  rw [gM2_0]
section DN
variable {nW nK : Nat} {cy ls d ru gr ar : Int} {oC oR oL : Option (List Int)} {kO cA clmK pcK comers code spans many bar kinds walkers cf ce codes now tr : Nat → Int}
theorem md_of {gaps : Nat → Int} (hP : plH nW nK cy ls oC oR kO cA clmK pcK comers code spans ar) (hM : pmH nW nK cy ls oC oR oL kO cA clmK pcK many bar kinds walkers cf ce codes) (hd : 0 ≤ d ∧ d ≤ 999) (hn : ndH nK d ru gr tr now) (hg : ∀ s, s < 300 → gaps s = gpS oC d cy s) : mdH nW nK cy ls d oC oR oL kO cA clmK pcK many bar kinds walkers cf ce codes now gaps tr := ⟨hM, hP.1, hP.2.1, hP.2.2.1, hP.2.2.2.1, hP.2.2.2.2.1, hP.2.2.2.2.2.2.1.2, hP.2.2.2.2.2.2.2.1.2, hd, hn.1, hn.2.2.2, hg⟩
/-- a DAY that is laid by cars and walked -/
def dnO (nW : Nat) (cy ls : Int) (oC oR : Option (List Int)) (kO cA clmK pcK : Nat → Int) (d : Int) (tr : Nat → Int) (ru gr A H : Int) (isCar gaps isH cr wt go hm pr2 ci isG : Nat → Int) : Prop := dF nW cA (twf nW kO tr) (abf A) cy ls ru gr (wkM oC oR nW cy ls kO cA clmK pcK d tr ru gr A H 300) isH cr wt go hm pr2 ci isG ∧ (∀ j, j < 320 → isCar j = b2 (decide (carV oC d cy j = 1))) ∧ ∀ j, j < 300 → gaps j = gpS oC d cy j
theorem dn_x {tk ask red sg qp : Int} {isCar gaps isG isH cr wt go hm pr2 ci pile : Nat → Int} (hP : plH nW nK cy ls oC oR kO cA clmK pcK comers code spans ar) (hM : pmH nW nK cy ls oC oR oL kO cA clmK pcK many bar kinds walkers cf ce codes) (hd : 0 ≤ d ∧ d ≤ 999) (hn : ndH nK d ru gr tr now) (hg0 : 1 ≤ gr) (hg1 : gr ≤ 60) (hr : 0 ≤ ru ∧ ru ≤ 2) : ∃ v16 v17 v18 v19 v20 v21 v22 v23 v24 f33 f27 f7 f28 f29 f8 f25 f26 f30 f31 f32, F_X10_dayNow tk ask red sg qp many bar kinds walkers cf ce codes now isCar gaps isG isH cr wt go hm pr2 ci pile = (v16, v17, v18, v19, v20, v21, v22, v23, v24, f33, f27, f7, f28, f29, f8, f25, f26, f30, f31, f32) ∧ dnO nW cy ls oC oR kO cA clmK pcK d tr ru gr 0 0 f8 f7 f25 f26 f27 f28 f29 f30 f31 f32 := by
  obtain ⟨t, q, r, p, g, i, e1, e2, e3⟩ := mc_x (tk := tk) (ask := ask) (red := red) (qp := qp) (kinds := kinds) (walkers := walkers) (isCar := isCar) (gaps := gaps) (waits := wt) (goes := go) (harms := hm) (pile := pile) hd (by have := hP.2.2.1; omega) hP.2.2.1.2 hM.2.2.1 hn.1 hM.2.2.2.2.2.2.1 hP.2.2.2.2.2.2.1.2
  unfold F_X10_dayNow
  rw [e1, lf_p_e, lf_p_e, lf_p_e, lf_p_e, lf_p_e, show now (Int.toNat (1 : Int)) = ru from hn.2.1, show now (Int.toNat (2 : Int)) = gr from hn.2.2.1]
  obtain ⟨b1, b2', b3, b4, b5, b6, b7, b11, b16, e70, e71, e72, e73, e74, e55, e58, e59, e117, e, h⟩ := day_x (tk := t) (ask := q) (sg := sg) (qp := r) (isG := isG) (isH := isH) (cr := cr) (wt := wt) (go := go) (hm := hm) (pr2 := pr2) (ci := ci) (pile := p) (A := 0) (H := 0) (md_of hP hM hd hn e3) rg_0 rg_0 hg0 hg1 hr
  rw [e, lf_p_e, lf_p_e, lf_p_e, lf_p_e, lf_p_e, lf_p_e, lf_p_e, lf_p_e, lf_p_e, lf_p_e, lf_p_e, lf_p_e, lf_p_e, lf_p_e, lf_p_e, lf_p_e, lf_p_e]
  exact ⟨_, _, _, _, _, _, _, _, _, _, _, _, _, _, _, _, _, _, _, _, rfl, h, e2, e3⟩
end DN
