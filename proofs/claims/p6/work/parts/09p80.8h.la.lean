/-! a street's DAY laid out: what stands of it -/
def twf (nW : Nat) (kO tr : Nat → Int) (w : Nat) : Int := if w < nW then tr (kO w).toNat else 0
theorem twf_cg {nW nK : Nat} {kO tr tr2 : Nat → Int} (hk : ∀ w, w < nW → 0 ≤ kO w ∧ kO w < (nK : Int)) (h : ∀ k, k < nK → tr k = tr2 k) : twf nW kO tr = twf nW kO tr2 := by
  funext w
  unfold twf
  by_cases q : w < nW
  · rw [if_pos q, if_pos q, h (kO w).toNat (by have := hk w q; omega)]
  · rw [if_neg q, if_neg q]
def abf (A : Int) (w : Nat) : Bool := bt A w
/-- a crossing as both sides have it -/
def plH (nW nK : Nat) (cy ls : Int) (oC oR : Option (List Int)) (kO cA clmK pcK comers code spans : Nat → Int) (ar : Int) : Prop := nW ≤ 12 ∧ nK ≤ 6 ∧ (10 ≤ cy ∧ cy ≤ 120) ∧ (∀ w, w < nW → (0 ≤ kO w ∧ kO w < (nK : Int)) ∧ (0 ≤ cA w ∧ cA w < 200)) ∧ (∀ k, k < nK → (0 ≤ clmK k ∧ clmK k ≤ 99) ∧ (1 ≤ pcK k ∧ pcK k ≤ 20)) ∧ cmB nW cA comers ∧ (cdX code spans 0 oC ∧ cdG true 7 oC) ∧ (cdX code spans 2 oR ∧ cdG true 507 oR) ∧ (ar = 0 → no48 oR)
noncomputable def gR (oC oR : Option (List Int)) (cy : Int) (nW : Nat) (kO cA clmK pcK : Nat → Int) (d : Int) (tr : Nat → Int) : Nat → Nat → Int → Bool := gvS oR d cA (fun w => clmK (kO w).toNat) (fun w => pcK (kO w).toNat) (twf nW kO tr) (gpS oC d cy)
noncomputable def leS (nW : Nat) (cy ls : Int) (kO cA : Nat → Int) (tr : Nat → Int) (ru gr A : Int) : Nat → Int := lef nW cA (twf nW kO tr) (abf A) cy ls ru gr
noncomputable def weS (oC oR : Option (List Int)) (nW : Nat) (cy ls : Int) (kO cA clmK pcK : Nat → Int) (d : Int) (tr : Nat → Int) (ru gr A : Int) : wzT := wzS nW cA (fun w => pcK (kO w).toNat) (abf A) (leS nW cy ls kO cA tr ru gr A) (gpS oC d cy) (gR oC oR cy nW kO cA clmK pcK d tr) 300
/-- the row of seconds, who presses, crosses, goes, is harmed -/
def SFl (oC oR : Option (List Int)) (nW : Nat) (cy ls : Int) (kO cA clmK pcK : Nat → Int) (d : Int) (tr : Nat → Int) (ru gr A : Int) (left leaves : Nat → Int) (pressed crossed went harmed : Int) : Prop := (∀ j, j < 300 → left j = leS nW cy ls kO cA tr ru gr A j) ∧ (rg pressed ∧ ∀ w, w < 12 → bt pressed w = prS nW cA (twf nW kO tr) (abf A) cy ls ru gr w) ∧ (rg crossed ∧ ∀ w, w < 12 → bt crossed w = decide ((weS oC oR nW cy ls kO cA clmK pcK d tr ru gr A).2.1 w = 1)) ∧ (rg went ∧ ∀ w, w < 12 → bt went w = decide (2 ≤ (weS oC oR nW cy ls kO cA clmK pcK d tr ru gr A).2.1 w)) ∧ (rg harmed ∧ ∀ w, w < 12 → bt harmed w = decide ((weS oC oR nW cy ls kO cA clmK pcK d tr ru gr A).2.1 w = 3)) ∧ ∀ w, w < 12 → leaves w = (weS oC oR nW cy ls kO cA clmK pcK d tr ru gr A).1 w
/-- what stands of a street, whatever is asked of it -/
def sfH (oC oR : Option (List Int)) (nW nK : Nat) (cy ls : Int) (kO cA clmK pcK : Nat → Int) (sd : Int) (str : Nat → Int) (ru gr A : Int) (cars gaps known left leaves : Nat → Int) (pressed crossed went harmed : Int) : Prop := sd = -1 ∨ ((0 ≤ sd ∧ sd ≤ 999) ∧ (∀ k, k < nK → 0 ≤ str k ∧ str k ≤ 9) ∧ SFd oC sd cy cars gaps ∧ kOK nW (gR oC oR cy nW kO cA clmK pcK sd str) known ∧ (ru = -1 ∨ SFl oC oR nW cy ls kO cA clmK pcK sd str ru gr A left leaves pressed crossed went harmed))
section LA
variable {oC oR : Option (List Int)} {nW nK : Nat} {cy ls : Int} {kO cA clmK pcK comers code spans : Nat → Int} {ar : Int}
theorem PL_wkB {tr : Nat → Int} (h : plH nW nK cy ls oC oR kO cA clmK pcK comers code spans ar) (ht : ∀ k, k < nK → 0 ≤ tr k ∧ tr k ≤ 9) : wkB nW cA (fun w => clmK (kO w).toNat) (fun w => pcK (kO w).toNat) (twf nW kO tr) := by
  obtain ⟨h1, h2, h3, h4, h5, h6⟩ := h
  intro w hw
  obtain ⟨a1, a2⟩ := h4 w hw
  have hk : (kO w).toNat < nK := by omega
  obtain ⟨b1, b2⟩ := h5 _ hk
  refine ⟨a2, b1, b2, ?_⟩
  unfold twf
  rw [if_pos hw]
  exact ht _ hk
theorem gp_b {o : Option (List Int)} {d c : Int} {s : Nat} : 0 ≤ gpS o d c s ∧ gpS o d c s ≤ 20 := cgap_b _ 20 s
theorem gR_cg {d : Int} {tr tr2 : Nat → Int} (h : twf nW kO tr = twf nW kO tr2) : gR oC oR cy nW kO cA clmK pcK d tr = gR oC oR cy nW kO cA clmK pcK d tr2 := by
  unfold gR
  rw [h]
theorem SFl_cg {d : Int} {tr tr2 : Nat → Int} {ru gr A : Int} {left leaves : Nat → Int} {pressed crossed went harmed : Int} (h : twf nW kO tr = twf nW kO tr2) (hl : SFl oC oR nW cy ls kO cA clmK pcK d tr ru gr A left leaves pressed crossed went harmed) : SFl oC oR nW cy ls kO cA clmK pcK d tr2 ru gr A left leaves pressed crossed went harmed := by
  unfold SFl weS leS at *
  rw [gR_cg h, h] at hl
  exact hl
/-- what prepare leaves -/
theorem pp_x {facts stack cars gaps known str tr0 left leaves : Nat → Int} {d1 d0 ru gr A pressed crossed went harmed : Int} (hP : plH nW nK cy ls oC oR kO cA clmK pcK comers code spans ar) (hS : sfH oC oR nW nK cy ls kO cA clmK pcK d1 str ru gr A cars gaps known left leaves pressed crossed went harmed) (hd : 0 ≤ d0 ∧ d0 ≤ 999) (ht : ∀ k, k < nK → 0 ≤ tr0 k ∧ tr0 k ≤ 9) : ∃ ru2 f2 s2 c2 g2 t2 k2, F_X7_prepare facts stack cy (nK : Int) code spans d1 str ru cars gaps known d0 tr0 = (d0, ru2, f2, s2, c2, g2, t2, k2) ∧ (∀ k, k < nK → t2 k = tr0 k) ∧ sfH oC oR nW nK cy ls kO cA clmK pcK d0 t2 ru2 gr A c2 g2 k2 left leaves pressed crossed went harmed ∧ (ru2 = ru ∨ ru2 = -1) := by
  have hP0 := hP
  obtain ⟨h1, h2, h3, h4, h5, h6, h7, h8, h9⟩ := hP
  have hkn : ∀ w, w < nW → 0 ≤ kO w ∧ kO w < (nK : Int) := fun w hw => (h4 w hw).1
  have main : ∀ sd : Int, (sd = 0 ∨ (sd = 1 ∧ d1 = d0)) → ∃ ru2 f2 s2 c2 g2 t2 k2, F_X7_prepare_16 facts stack cy (nK : Int) code spans d1 str ru cars gaps known d0 tr0 sd = (d0, ru2, f2, s2, c2, g2, t2, k2) ∧ (∀ k, k < nK → t2 k = tr0 k) ∧ sfH oC oR nW nK cy ls kO cA clmK pcK d0 t2 ru2 gr A c2 g2 k2 left leaves pressed crossed went harmed ∧ (ru2 = ru ∨ ru2 = -1) := by
    intro sd hsd
    obtain ⟨l3, a, e, ea, el⟩ := pp_run (facts := facts) (stack := stack) (cars := cars) (gaps := gaps) (known := known) (tr0 := tr0) (code := code) (spans := spans) (cy := cy) (d0 := d0) (sd := sd) (d1 := d1) (rule := ru) (nK := nK) 8 0 sd str (Nat.zero_le _) (by omega) (by omega)
    have e' : F_X7_prepare_16 facts stack cy (nK : Int) code spans d1 str ru cars gaps known d0 tr0 sd = _ := e
    rw [e']
    have ha : ∀ k, k < nK → a k = tr0 k := fun k hk => by rw [ea k, if_pos ⟨Nat.zero_le k, hk⟩]
    have hat : ∀ k, k < nK → 0 ≤ a k ∧ a k ≤ 9 := fun k hk => by rw [ha k hk]; exact ht k hk
    have hz : kOK nW (gR oC oR cy nW kO cA clmK pcK d0 a) (lf_fl known 3600 (0 : Int)) := kOK_0 (fun j hj => if_pos hj) h1
    by_cases q : sd = 0
    · rw [if_pos q]
      obtain ⟨f2, s2, c2, g2, e1, e2⟩ := dr_x (facts := facts) (stack := stack) (cars := cars) (gaps := gaps) (code := code) (spans := spans) hd (by omega : 1 ≤ cy) h3.2 h7.1 h7.2
      have hl3 : l3 = 0 := by
        rcases el with r | r
        · exact r
        · have := r.2.1
          omega
      unfold F_X7_prepare_97
      rw [e1, lf_p_e, lf_p_e, lf_p_e, if_pos hl3]
      exact ⟨-1, f2, s2, c2, g2, a, _, rfl, ha, Or.inr ⟨hd, hat, e2, hz, Or.inl rfl⟩, Or.inr rfl⟩
    · rw [if_neg q]
      have hdd : d1 = d0 := by
        rcases hsd with r | r
        · exact absurd r q
        · exact r.2
      subst hdd
      unfold F_X7_prepare_97
      have hS2 : (∀ k, k < nK → 0 ≤ str k ∧ str k ≤ 9) ∧ SFd oC d1 cy cars gaps ∧ kOK nW (gR oC oR cy nW kO cA clmK pcK d1 str) known ∧ (ru = -1 ∨ SFl oC oR nW cy ls kO cA clmK pcK d1 str ru gr A left leaves pressed crossed went harmed) := by
        rcases hS with r | r
        · omega
        · exact r.2
      by_cases q2 : l3 = 0
      · rw [if_pos q2]
        exact ⟨-1, facts, stack, cars, gaps, a, _, rfl, ha, Or.inr ⟨hd, hat, hS2.2.1, hz, Or.inl rfl⟩, Or.inr rfl⟩
      · rw [if_neg q2]
        have hst : ∀ k, k < nK → str k = a k := by
          rcases el with r | ⟨r1, r2, r3⟩
          · exact absurd r q2
          · intro k hk
            rw [ha k hk]
            exact r3 k (Nat.zero_le k) hk
        have htw := twf_cg hkn hst
        refine ⟨ru, facts, stack, cars, gaps, a, known, rfl, ha, Or.inr ⟨hd, hat, hS2.2.1, ?_, ?_⟩, Or.inl rfl⟩
        · rw [← gR_cg (cA := cA) (clmK := clmK) (pcK := pcK) (oC := oC) (oR := oR) (cy := cy) htw]
          exact hS2.2.2.1
        · rcases hS2.2.2.2 with r | r
          · exact Or.inl r
          · exact Or.inr (SFl_cg htw r)
  unfold F_X7_prepare
  by_cases q : d1 = d0
  · rw [if_pos q]
    exact main 1 (Or.inr ⟨rfl, q⟩)
  · rw [if_neg q]
    exact main 0 (Or.inl rfl)
/-- lay -/
theorem ly_x {facts stack cars gaps known str tr0 left leaves : Nat → Int} {d1 d0 ru gr A pressed crossed went harmed p1 p2 p3 : Int} (hP : plH nW nK cy ls oC oR kO cA clmK pcK comers code spans ar) (hS : sfH oC oR nW nK cy ls kO cA clmK pcK d1 str ru gr A cars gaps known left leaves pressed crossed went harmed) (hd : 0 ≤ d0 ∧ d0 ≤ 999) (ht : ∀ k, k < nK → 0 ≤ tr0 k ∧ tr0 k ≤ 9) (hp1 : 0 ≤ p1) (hp2 : 0 ≤ p2 ∧ p2 ≤ 60) (hp3 : rg p3) : ∃ f2 s2 c2 g2 t2 k2 l2 v2 pr2 cr2 we2 ha2, F_X7_lay facts stack cy ls (nK : Int) clmK pcK (nW : Int) kO cA comers code spans d1 str ru gr A ar cars gaps known left leaves pressed crossed went harmed d0 tr0 p1 p2 p3 = (d0, p1, p2, p3, pr2, cr2, we2, ha2, f2, s2, c2, g2, t2, k2, l2, v2) ∧ (∀ k, k < nK → t2 k = tr0 k) ∧ sfH oC oR nW nK cy ls kO cA clmK pcK d0 t2 p1 p2 p3 c2 g2 k2 l2 v2 pr2 cr2 we2 ha2 ∧ SFl oC oR nW cy ls kO cA clmK pcK d0 tr0 p1 p2 p3 l2 v2 pr2 cr2 we2 ha2 ∧ SFd oC d0 cy c2 g2 := by
  have hP0 := hP
  obtain ⟨h1, h2, h3, h4, h5, h6, h7, h8, h9⟩ := hP
  have hkn : ∀ w, w < nW → 0 ≤ kO w ∧ kO w < (nK : Int) := fun w hw => (h4 w hw).1
  obtain ⟨ru2, f2, s2, c2, g2, t2, k2, e, e1, e2, e3⟩ := pp_x (facts := facts) (stack := stack) (comers := comers) (code := code) (spans := spans) (ar := ar) hP0 hS hd ht
  have htw : twf nW kO t2 = twf nW kO tr0 := twf_cg hkn e1
  have hE : (∀ k, k < nK → 0 ≤ t2 k ∧ t2 k ≤ 9) ∧ SFd oC d0 cy c2 g2 ∧ kOK nW (gR oC oR cy nW kO cA clmK pcK d0 t2) k2 ∧ (ru2 = -1 ∨ SFl oC oR nW cy ls kO cA clmK pcK d0 t2 ru2 gr A left leaves pressed crossed went harmed) := by
    rcases e2 with r | r
    · omega
    · exact r.2
  unfold F_X7_lay
  rw [if_pos (by omega), e, lf_p_e, lf_p_e, lf_p_e, lf_p_e, lf_p_e, lf_p_e, lf_p_e]
  have anew : ∃ f2' s2' c2' g2' t2' k2' l2 v2 pr2 cr2 we2 ha2, F_X7_lay_42 cy ls clmK pcK (nW : Int) kO cA comers code spans ar left leaves p1 p2 p3 d0 ru2 f2 s2 c2 g2 t2 k2 = (d0, p1, p2, p3, pr2, cr2, we2, ha2, f2', s2', c2', g2', t2', k2', l2, v2) ∧ (∀ k, k < nK → t2' k = tr0 k) ∧ sfH oC oR nW nK cy ls kO cA clmK pcK d0 t2' p1 p2 p3 c2' g2' k2' l2 v2 pr2 cr2 we2 ha2 ∧ SFl oC oR nW cy ls kO cA clmK pcK d0 tr0 p1 p2 p3 l2 v2 pr2 cr2 we2 ha2 ∧ SFd oC d0 cy c2' g2' := by
    unfold F_X7_lay_42
    obtain ⟨c, a, x1, x2, x3, x4⟩ := sh_x (ls := ls) (ru := p1) (gr := p2) (kO := kO) (tr := t2) (A := p3) (a5 := left) (tw := twf nW kO t2) (ab := abf p3) h6 h1 hp3 (fun w hw => rfl) (fun w hw => (if_pos hw).symm) (fun w hw => (h4 w hw).2) (by omega : 1 ≤ cy) h3.2 hp2.1 hp2.2
    rw [x1, lf_p_e]
    have hW : wkH nW oR d0 cA (fun w => clmK (kO w).toNat) (fun w => pcK (kO w).toNat) (twf nW kO t2) (leS nW cy ls kO cA t2 p1 p2 p3) (gpS oC d0 cy) clmK pcK kO code spans t2 g2 a ar := ⟨PL_wkB hP0 hE.1, h1, hd, fun s hs => ⟨gp_b, hE.2.1.2 s hs, x2 s hs⟩, fun w hw => ⟨rfl, rfl, (if_pos hw).symm⟩, h8.1, h8.2, h9⟩
    obtain ⟨c14, c15, c16, a1, a7, a10, a16, y1, y2, y3⟩ := wk_x (lf := leS nW cy ls kO cA t2 p1 p2 p3) (ab := abf p3) (comers := comers) (kn := k2) (facts := f2) (stack := s2) (leaves := leaves) (A := p3) hW h6 hp3 (fun w hw => rfl) hE.2.2.1
    rw [y1, lf_p_e, lf_p_e, lf_p_e, lf_p_e, lf_p_e, lf_p_e]
    have hl : SFl oC oR nW cy ls kO cA clmK pcK d0 t2 p1 p2 p3 a a1 c c14 c15 c16 := ⟨x2, ⟨x3, x4⟩, y2.1, y2.2.1, y2.2.2.1, y2.2.2.2⟩
    exact ⟨a10, a16, c2, g2, t2, a7, a, a1, c, c14, c15, c16, rfl, e1, Or.inr ⟨hd, hE.1, hE.2.1, y3, Or.inr hl⟩, SFl_cg htw hl, hE.2.1⟩
  by_cases q1 : ru2 = p1
  · rw [if_pos q1]
    by_cases q2 : gr = p2
    · rw [if_pos q2]
      by_cases q3 : A = p3
      · rw [if_pos q3]
        have hl : SFl oC oR nW cy ls kO cA clmK pcK d0 t2 p1 p2 p3 left leaves pressed crossed went harmed := by
          rcases hE.2.2.2 with r | r
          · omega
          · rw [q1, q2, q3] at r
            exact r
        refine ⟨f2, s2, c2, g2, t2, k2, left, leaves, pressed, crossed, went, harmed, ?_, e1, ?_, SFl_cg htw hl, hE.2.1⟩
        · rw [q1, q2, q3]
        · exact Or.inr ⟨hd, hE.1, hE.2.1, hE.2.2.1, Or.inr hl⟩
      · rw [if_neg q3]
        exact anew
    · rw [if_neg q2]
      exact anew
  · rw [if_neg q1]
    exact anew
end LA
