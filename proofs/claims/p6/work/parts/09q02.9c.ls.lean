/-! least, on both sides; who goes by himself -/
def fst1 (G : Nat → Bool) : Nat → Nat → Int
  | 0, _ => -1
  | f + 1, g => if G g = true then (g : Int) else fst1 G f (g + 1)
theorem cnf_0 {f : Nat → Bool} : ∀ n, cnf f n = 0 ↔ ∀ w, w < n → f w = false
  | 0 => ⟨fun _ w hw => absurd hw (Nat.not_lt_zero w), fun _ => rfl⟩
  | n + 1 => by
    have ih := cnf_0 (f := f) n
    have hb := (cnf_le f n).1
    have e : cnf f (n + 1) = cnf f n + b2 (f n) := rfl
    rw [e]
    constructor
    · intro h w hw
      cases hf : f n with
      | true =>
        rw [hf] at h
        have : b2 true = 1 := rfl
        omega
      | false =>
        rw [hf] at h
        have h2 : b2 false = 0 := rfl
        by_cases q : w = n
        · rw [q, hf]
        · exact ih.mp (by omega) w (by omega)
    · intro h
      rw [h n (Nat.lt_succ_self n), ih.mpr (fun w hw => h w (by omega))]
      rfl
section LS
variable {nW nK : Nat} {oC oR oL : Option (List Int)} {s cy ls aw stm d ru gr hnx hct sd sru sgr sA ar pr cr we ha tkn ad aru agr akn rws cmp fnd frl fgr chs chl occ dwn fa pl sM awM isc und nwst rmM moc sdd tk ask red io lg gt icg sg qp ftm ftr ftg mf mp0 p0 p1 p2 p3 p4 : Int} {g clmK pcK kO cA comers code spans nmX tr rD rR rG facts stack str cars gaps known left leaves tab atr atd ats sw ss sec oct refu gM many bar kinds walkers cf ce codes now kept mrw mo refM asd isCar gapM isG isH crM wtM goM hmM prM ciM pile whn : Nat → Int} {rF : Nat → Nat → Int}
noncomputable def acS (oC oR : Option (List Int)) (nW : Nat) (cy ls : Int) (kO cA clmK pcK : Nat → Int) (d : Int) (tr : Nat → Int) (ru : Int) (g : Nat) : Bool := (List.range nW).all (fun w => decide ((weS oC oR nW cy ls kO cA clmK pcK d tr ru (g : Int) 0).2.1 w = 1))
theorem acS_i {g : Nat} : acS oC oR nW cy ls kO cA clmK pcK d tr ru g = true ↔ ∀ w, w < nW → (weS oC oR nW cy ls kO cA clmK pcK d tr ru (g : Int) 0).2.1 w = 1 := by
  unfold acS
  rw [List.all_eq_true]
  exact ⟨fun h w hw => of_decide_eq_true (h w (List.mem_range.mpr hw)), fun h w hw => decide_eq_true (h w (List.mem_range.mp hw))⟩
theorem ac_x {g : Nat} (hP : plH nW nK cy ls oC oR kO cA clmK pcK comers code spans ar) (h : SFl oC oR nW cy ls kO cA clmK pcK d tr ru (g : Int) 0 left leaves pr cr we ha) : F_X7_allCross (nW : Int) cr = b2 (acS oC oR nW cy ls kO cA clmK pcK d tr ru g) := by
  have hn : nW ≤ 12 := hP.1
  have hz := we_z (d := d) (tr := tr) (ru := ru) (gr := (g : Int)) (A := 0) hP
  obtain ⟨e1, e2⟩ := rg_all hn
  have key : cr = F_X4_everyone (nW : Int) ↔ acS oC oR nW cy ls kO cA clmK pcK d tr ru g = true := by
    rw [acS_i]
    constructor
    · intro h1 w hw
      have b := h.2.2.1.2 w (by omega)
      rw [h1, e2, decide_eq_true hw] at b
      exact of_decide_eq_true b.symm
    · intro h1
      refine bt_ext h.2.2.1.1 e1 (fun w hw => ?_)
      rw [h.2.2.1.2 w hw, e2]
      by_cases q : w < nW
      · rw [h1 w q, decide_eq_true q]
        rfl
      · rw [(hz.2 w).2.2 (by omega), decide_eq_false q]
        rfl
  unfold F_X7_allCross
  rw [lf_b_e]
  cases hh : acS oC oR nW cy ls kO cA clmK pcK d tr ru g with
  | true =>
    rw [if_pos (key.mpr hh)]
    rfl
  | false =>
    rw [if_neg (fun r => Bool.noConfusion (hh.symm.trans (key.mp r)))]
    rfl
theorem ls_run {m : Nat} (hP : plH nW nK cy ls oC oR kO cA clmK pcK comers code spans ar) (hd : 0 ≤ d ∧ d ≤ 999) (ht : ∀ k, k < nK → 0 ≤ tr k ∧ tr k ≤ 9) (hru : 0 ≤ ru) (hm : m ≤ 60) : ∀ (f g : Nat) (sd sru sgr sA pr cr we ha : Int) (facts stack cars gaps str known left leaves : Nat → Int), g ≤ m + 1 → m + 1 - g < f → sfH oC oR nW nK cy ls kO cA clmK pcK sd str sru sgr sA cars gaps known left leaves pr cr we ha → (F_X1_leastGreen_12 cy ls (nK : Int) clmK pcK (nW : Int) kO cA comers code spans ar d ru tr f (m : Int) (g : Int) sd sru sgr sA pr cr we ha facts stack cars gaps str known left leaves).1 = fst1 (acS oC oR nW cy ls kO cA clmK pcK d tr ru) (m + 1 - g) g ∧ sfS oC oR nW nK cy ls kO cA clmK pcK (F_X1_leastGreen_12 cy ls (nK : Int) clmK pcK (nW : Int) kO cA comers code spans ar d ru tr f (m : Int) (g : Int) sd sru sgr sA pr cr we ha facts stack cars gaps str known left leaves).2 := by
  intro f
  induction f with
  | zero => intro g sd sru sgr sA pr cr we ha facts stack cars gaps str known left leaves h1 h2; omega
  | succ f ih =>
    intro g sd sru sgr sA pr cr we ha facts stack cars gaps str known left leaves h1 h2 hS
    have e0 : F_X1_leastGreen_12 cy ls (nK : Int) clmK pcK (nW : Int) kO cA comers code spans ar d ru tr (f + 1) (m : Int) (g : Int) sd sru sgr sA pr cr we ha facts stack cars gaps str known left leaves = F_X1_leastGreen_12b cy ls (nK : Int) clmK pcK (nW : Int) kO cA comers code spans ar d ru tr (F_X1_leastGreen_12 cy ls (nK : Int) clmK pcK (nW : Int) kO cA comers code spans ar d ru tr f) (m : Int) (g : Int) sd sru sgr sA pr cr we ha facts stack cars gaps str known left leaves := rfl
    rw [e0]
    unfold F_X1_leastGreen_12b
    by_cases q : g = m + 1
    · rw [if_pos (by omega), show m + 1 - g = 0 from by omega]
      exact ⟨rfl, hS⟩
    · obtain ⟨f2, s2, c2, g2, t2, k2, l2, v2, pr2, cr2, we2, ha2, e, e1, hsf, q2, q1⟩ := ly_x (facts := facts) (stack := stack) (p1 := ru) (p2 := (g : Int)) (p3 := 0) hP hS hd ht hru (show 0 ≤ (g : Int) ∧ (g : Int) ≤ 60 from ⟨by omega, by omega⟩) rg_0
      rw [if_neg (by omega), e, lf_p_e, lf_p_e, lf_p_e, lf_p_e, lf_p_e, lf_p_e, lf_p_e, lf_p_e, lf_p_e, lf_p_e, lf_p_e, lf_p_e, lf_p_e, lf_p_e, lf_p_e, lf_b_e, ac_x hP q2, show m + 1 - g = (m + 1 - (g + 1)) + 1 from by omega]
      have eF : fst1 (acS oC oR nW cy ls kO cA clmK pcK d tr ru) ((m + 1 - (g + 1)) + 1) g = if acS oC oR nW cy ls kO cA clmK pcK d tr ru g = true then (g : Int) else fst1 (acS oC oR nW cy ls kO cA clmK pcK d tr ru) (m + 1 - (g + 1)) (g + 1) := rfl
      rw [eF]
      cases hh : acS oC oR nW cy ls kO cA clmK pcK d tr ru g with
      | true =>
        rw [if_neg (show ¬ b2 true = 0 from by decide), if_pos rfl]
        exact ⟨rfl, hsf⟩
      | false =>
        rw [if_pos (show b2 false = 0 from rfl), if_neg (fun r => Bool.noConfusion r)]
        exact ih (g + 1) d ru (g : Int) 0 pr2 cr2 we2 ha2 f2 s2 c2 g2 t2 k2 l2 v2 (by omega) (by omega) hsf
theorem gu_60 (h : 10 ≤ cy ∧ cy ≤ 120) : ∃ m : Nat, F_X7_greensUpTo_a0_60 cy = (m : Int) ∧ m ≤ 60 ∧ 1 ≤ m ∧ ∀ g : Nat, 1 ≤ g → ((1 ≤ (g : Int) ∧ (g : Int) ≤ 60 ∧ (g : Int) < cy) ↔ g ≤ m) := by
  refine ⟨(min 60 (cy - 1)).toNat, ?_, by omega, by omega, fun g hg => by omega⟩
  show min 60 (cy - 1) = _
  omega
noncomputable def leG (oC oR : Option (List Int)) (nW : Nat) (cy ls : Int) (kO cA clmK pcK : Nat → Int) (d : Int) (tr : Nat → Int) (ru : Int) : Int := fst1 (acS oC oR nW cy ls kO cA clmK pcK d tr ru) (min 60 (cy - 1)).toNat 1
theorem ls_c (hP : plH nW nK cy ls oC oR kO cA clmK pcK comers code spans ar) (hS : sfH oC oR nW nK cy ls kO cA clmK pcK sd str sru sgr sA cars gaps known left leaves pr cr we ha) (hB : stB nK d ru gr tr) : (F_X9_least cy ls (nK : Int) clmK pcK (nW : Int) kO cA comers code spans d ru tr facts stack sd str sru sgr sA ar cars gaps known left leaves pr cr we ha).1 = leG oC oR nW cy ls kO cA clmK pcK d tr ru ∧ sfS oC oR nW nK cy ls kO cA clmK pcK (F_X9_least cy ls (nK : Int) clmK pcK (nW : Int) kO cA comers code spans d ru tr facts stack sd str sru sgr sA ar cars gaps known left leaves pr cr we ha).2 := by
  obtain ⟨m, e, h1, h2, h3⟩ := gu_60 hP.2.2.1
  have em : (min 60 (cy - 1)).toNat = m := by
    have e' : min 60 (cy - 1) = (m : Int) := e
    omega
  unfold F_X9_least F_X1_leastGreen leG
  rw [st_1x hP.2.2.1.1, lf_b_e, if_neg (show ¬ (1 : Int) = 0 from by decide), lf_b_e, e, em]
  have hx := ls_run (m := m) hP hB.1 hB.2.2.2 hB.2.1.1 h1 62 1 sd sru sgr sA pr cr we ha facts stack cars gaps str known left leaves (by omega) (by omega) hS
  rw [show m + 1 - 1 = m from by omega] at hx
  have e1 : ((1 : Nat) : Int) = 1 := rfl
  rw [e1] at hx
  generalize F_X1_leastGreen_12 cy ls (nK : Int) clmK pcK (nW : Int) kO cA comers code spans ar d ru tr 62 (m : Int) (1 : Int) sd sru sgr sA pr cr we ha facts stack cars gaps str known left leaves = R at hx ⊢
  exact hx
/-- the model's -/
theorem ac_m (hP : plH nW nK cy ls oC oR kO cA clmK pcK comers code spans ar) {g : Nat} : acS oC oR nW cy ls kO cA clmK pcK d tr ru g = true ↔ (cnf (fun w => decide (2 ≤ (weS oC oR nW cy ls kO cA clmK pcK d tr ru (g : Int) 0).2.1 w)) nW = 0 ∧ cnf (fun w => !abf 0 w && decide ((weS oC oR nW cy ls kO cA clmK pcK d tr ru (g : Int) 0).1 w = -1)) nW = 0) := by
  have hz := we_z (d := d) (tr := tr) (ru := ru) (gr := (g : Int)) (A := 0) hP
  rw [acS_i, cnf_0, cnf_0]
  constructor
  · intro h
    refine ⟨fun w hw => ?_, fun w hw => ?_⟩
    · rw [h w hw]
      rfl
    · have h2 : ¬ (weS oC oR nW cy ls kO cA clmK pcK d tr ru (g : Int) 0).1 w = -1 := fun r => by
        have := ((hz.2 w).1).mp r
        have := h w hw
        omega
      rw [decide_eq_false h2, Bool.and_false]
  · intro h w hw
    have h1 := of_decide_eq_false (h.1 w hw)
    have h2 := h.2 w hw
    have ha0 : abf 0 w = false := bt_0 w
    rw [ha0, Bool.not_false, Bool.true_and] at h2
    have h3 := of_decide_eq_false h2
    have h4 := (hz.2 w).2.1
    have h5 : ¬ (weS oC oR nW cy ls kO cA clmK pcK d tr ru (g : Int) 0).2.1 w = 0 := fun r => h3 (((hz.2 w).1).mpr r)
    omega
theorem lm_run {m : Nat} (hP : plH nW nK cy ls oC oR kO cA clmK pcK comers code spans ar) (h : mdH nW nK cy ls d oC oR oL kO cA clmK pcK many bar kinds walkers cf ce codes now gapM tr) (hru : 0 ≤ ru ∧ ru ≤ 2) (hn1 : now 1 = ru) (hm3 : ∀ g : Nat, 1 ≤ g → ((1 ≤ (g : Int) ∧ (g : Int) ≤ 60 ∧ (g : Int) < cy) ↔ g ≤ m)) : ∀ (f g : Nat) (c55 c58 c117 c59 c70 c71 c72 c73 c74 : Int) (a3 a13 a8 a11 a12 a14 a15 a16 a17 a19 : Nat → Int), 1 ≤ g → g ≤ m + 1 → m + 1 - g < f → (F_X10_least_15 many bar kinds walkers cf ce codes now f c55 c58 c117 a3 gapM a13 (g : Int) c59 c70 c71 c72 c73 c74 a8 a11 a12 a14 a15 a16 a17 a19).1 = fst1 (acS oC oR nW cy ls kO cA clmK pcK d tr ru) (m + 1 - g) g := by
  intro f
  induction f with
  | zero => intro g c55 c58 c117 c59 c70 c71 c72 c73 c74 a3 a13 a8 a11 a12 a14 a15 a16 a17 a19 h0 h1 h2; omega
  | succ f ih =>
    intro g c55 c58 c117 c59 c70 c71 c72 c73 c74 a3 a13 a8 a11 a12 a14 a15 a16 a17 a19 h0 h1 h2
    have e0 : F_X10_least_15 many bar kinds walkers cf ce codes now (f + 1) c55 c58 c117 a3 gapM a13 (g : Int) c59 c70 c71 c72 c73 c74 a8 a11 a12 a14 a15 a16 a17 a19 = F_X10_least_15b many bar kinds walkers cf ce codes now (F_X10_least_15 many bar kinds walkers cf ce codes now f) c55 c58 c117 a3 gapM a13 (g : Int) c59 c70 c71 c72 c73 c74 a8 a11 a12 a14 a15 a16 a17 a19 := rfl
    rw [e0]
    unfold F_X10_least_15b
    have hb4 : bar 4 = cy := h.1.2.2.1
    have hg := hm3 g h0
    rw [gl_1, lf_b_e, hb4]
    by_cases q : g = m + 1
    · rw [decide_eq_false (fun r => by have := hg.mp r; omega), if_pos (show b2 false = 0 from rfl), show m + 1 - g = 0 from by omega]
      rfl
    · have hg2 := hg.mpr (by omega)
      obtain ⟨b1, b2', b3, b4, b5, b6, b7, b11, b16, e70, e71, e72, e73, e74, e55, e58, e59, e117, e, hF⟩ := day_x (tk := c55) (ask := c58) (sg := c74) (qp := c117) (isG := a19) (isH := a14) (cr := a15) (wt := a8) (go := a11) (hm := a12) (pr2 := a16) (ci := a17) (pile := a3) (A := 0) (H := 0) (ru := ru) (gr := (g : Int)) h rg_0 rg_0 hg2.1 hg2.2.1 hru
      rw [wkM_0] at hF
      rw [decide_eq_true hg2, if_neg (show ¬ b2 true = 0 from by decide), show now (Int.toNat (1 : Int)) = ru from hn1, e, lf_p_e, lf_p_e, lf_p_e, lf_p_e, lf_p_e, lf_p_e, lf_p_e, lf_p_e, lf_p_e, lf_p_e, lf_p_e, lf_p_e, lf_p_e, lf_p_e, lf_p_e, lf_p_e, lf_p_e, lf_b_e]
      have hW : nW ≤ 12 := h.2.1
      have hm3' : many 3 = (nW : Int) := h.1.1
      have x1 : F_X10_toldOfDay_a0_1 many b4 = cnf (fun w => decide (2 ≤ (weS oC oR nW cy ls kO cA clmK pcK d tr ru (g : Int) 0).2.1 w)) nW := by
        unfold F_X10_toldOfDay_a0_1
        rw [lf_b_e, lf_b_e, hm3']
        exact ct_m hW (fun w hw => (hF.1 w hw).2.2.2.1)
      have x3 : F_X10_toldOfDay_a0_3 many b1 = cnf (fun w => !abf 0 w && decide ((weS oC oR nW cy ls kO cA clmK pcK d tr ru (g : Int) 0).1 w = -1)) nW := by
        unfold F_X10_toldOfDay_a0_3
        rw [lf_b_e]
        exact nc_m hm3' hW (fun w hw => (hF.1 w hw).1)
      have hk := ac_m (d := d) (tr := tr) (ru := ru) hP (g := g)
      have go : fst1 (acS oC oR nW cy ls kO cA clmK pcK d tr ru) (m + 1 - g) g = if acS oC oR nW cy ls kO cA clmK pcK d tr ru g = true then (g : Int) else fst1 (acS oC oR nW cy ls kO cA clmK pcK d tr ru) (m + 1 - (g + 1)) (g + 1) := by
        rw [show m + 1 - g = (m + 1 - (g + 1)) + 1 from by omega]
        rfl
      rw [x1, go]
      by_cases y1 : cnf (fun w => decide (2 ≤ (weS oC oR nW cy ls kO cA clmK pcK d tr ru (g : Int) 0).2.1 w)) nW = 0
      · rw [if_pos y1, lf_b_e, x3]
        by_cases y3 : cnf (fun w => !abf 0 w && decide ((weS oC oR nW cy ls kO cA clmK pcK d tr ru (g : Int) 0).1 w = -1)) nW = 0
        · rw [if_pos y3, if_pos (hk.mpr ⟨y1, y3⟩)]
        · rw [if_neg y3, if_neg (fun r => y3 (hk.mp r).2)]
          exact ih (g + 1) _ _ _ _ _ _ _ _ _ _ _ _ _ _ _ _ _ _ _ (by omega) (by omega) (by omega)
      · rw [if_neg y1, if_neg (fun r => y1 (hk.mp r).1)]
        exact ih (g + 1) _ _ _ _ _ _ _ _ _ _ _ _ _ _ _ _ _ _ _ (by omega) (by omega) (by omega)
theorem ls_mm (hP : plH nW nK cy ls oC oR kO cA clmK pcK comers code spans ar) (hM : pmH nW nK cy ls oC oR oL kO cA clmK pcK many bar kinds walkers cf ce codes) (hB : stB nK d ru gr tr) (hn : ndH nK d ru gr tr now) (hi : isc = 1) : (F_X10_least isc tk ask red io lg gt icg sg qp many bar kinds walkers cf ce codes now isCar gapM isG isH crM wtM goM hmM prM ciM pile).1 = leG oC oR nW cy ls kO cA clmK pcK d tr ru := by
  obtain ⟨t, q, r, p, g2, i2, e, h1, h2⟩ := mc_x (tk := tk) (ask := ask) (red := red) (qp := qp) (kinds := kinds) (walkers := walkers) (isCar := isCar) (gaps := gapM) (waits := wtM) (goes := goM) (harms := hmM) (pile := pile) hB.1 (show 1 ≤ cy from by have := hP.2.2.1.1; omega) hP.2.2.1.2 hM.2.2.1 hn.1 hM.2.2.2.2.2.2.1 hP.2.2.2.2.2.2.1.2
  obtain ⟨m, em, g1, g3, g4⟩ := gu_60 hP.2.2.1
  have em' : (min 60 (cy - 1)).toNat = m := by
    have e' : min 60 (cy - 1) = (m : Int) := em
    omega
  unfold F_X10_least leG
  rw [if_neg (show ¬ isc = 0 from by omega), e, lf_p_e, lf_p_e, lf_p_e, lf_p_e, lf_p_e, em']
  have hx := lm_run (d := d) (tr := tr) (ru := ru) hP (md_of hP hM hB.1 hn h2) hB.2.1 hn.2.1 g4 62 1 t q r red io lg gt icg sg p i2 wtM goM hmM isH crM prM ciM isG (Nat.le_refl 1) (by omega) (by omega)
  rw [show m + 1 - 1 = m from by omega] at hx
  exact hx
/-- who goes by himself: the class's -/
def goF (pc : Int) (lf : Nat → Int) (G : Nat → Bool) : Nat → Nat → Bool
  | 0, _ => false
  | f + 1, s => if 300 ≤ s then false else if pc ≤ lf s then false else if G s = true then true else goF pc lf G f (s + 1)
noncomputable def goW (oC oR : Option (List Int)) (nW : Nat) (cy ls : Int) (kO cA clmK pcK : Nat → Int) (d : Int) (tr : Nat → Int) (ru gr : Int) (w : Nat) : Bool := goF (pcK (kO w).toNat) (leS nW cy ls kO cA tr ru gr 0) (fun s => gR oC oR cy nW kO cA clmK pcK d tr w s 0) 302 (cA w).toNat
theorem gb_in {K4 : Int → Int → (Nat → Int) → (Nat → Int) → (Nat → Int) → Int × (Nat → Int) × (Nat → Int) × (Nat → Int)} {l1 : Int} {w : Nat} {tX : Nat → Int} (hP : plH nW nK cy ls oC oR kO cA clmK pcK comers code spans ar) (hd : 0 ≤ d ∧ d ≤ 999) (ht : ∀ k, k < nK → 0 ≤ tX k ∧ tX k ≤ 9) (hcg : twf nW kO tX = twf nW kO tr) (hD : SFd oC d cy cars gaps) (hl : ∀ j, j < 300 → left j = leS nW cy ls kO cA tr ru gr 0 j) (hw : w < nW) : ∀ (f s : Nat) (known facts stack : Nat → Int), s ≤ 300 → 300 - s < f → kOK nW (gR oC oR cy nW kO cA clmK pcK d tr) known → ∃ k2 f2 s2, F_X7_goersByThemselves_44 clmK pcK kO cA code spans d tX ar gaps left l1 (w : Int) K4 f (pcK (kO w).toNat) (s : Int) known facts stack = K4 (if goF (pcK (kO w).toNat) (leS nW cy ls kO cA tr ru gr 0) (fun s => gR oC oR cy nW kO cA clmK pcK d tr w s 0) f s = true then lf_o lf_ior l1 (lf_o lf_ishl (1 : Int) (w : Int)) else l1) ((w : Int) + (1 : Int)) k2 f2 s2 ∧ kOK nW (gR oC oR cy nW kO cA clmK pcK d tr) k2 := by
  intro f
  induction f with
  | zero => intro s known facts stack h1 h2; omega
  | succ f ih =>
    intro s known facts stack h1 h2 hk
    have e0 : F_X7_goersByThemselves_44 clmK pcK kO cA code spans d tX ar gaps left l1 (w : Int) K4 (f + 1) (pcK (kO w).toNat) (s : Int) known facts stack = F_X7_goersByThemselves_44b clmK pcK kO cA code spans d tX ar gaps left l1 (w : Int) K4 (F_X7_goersByThemselves_44 clmK pcK kO cA code spans d tX ar gaps left l1 (w : Int) K4 f) (pcK (kO w).toNat) (s : Int) known facts stack := rfl
    have eG : goF (pcK (kO w).toNat) (leS nW cy ls kO cA tr ru gr 0) (fun s => gR oC oR cy nW kO cA clmK pcK d tr w s 0) (f + 1) s = if 300 ≤ s then false else if pcK (kO w).toNat ≤ leS nW cy ls kO cA tr ru gr 0 s then false else if gR oC oR cy nW kO cA clmK pcK d tr w s 0 = true then true else goF (pcK (kO w).toNat) (leS nW cy ls kO cA tr ru gr 0) (fun s => gR oC oR cy nW kO cA clmK pcK d tr w s 0) f (s + 1) := rfl
    rw [e0, eG]
    unfold F_X7_goersByThemselves_44b F_X7_goersByThemselves_89
    by_cases q : 300 ≤ s
    · rw [if_pos (by omega), if_pos q, if_neg (fun r => Bool.noConfusion r)]
      exact ⟨known, facts, stack, rfl, hk⟩
    rw [if_neg (by omega), if_neg q, Int.toNat_natCast, hl s (by omega)]
    by_cases q2 : pcK (kO w).toNat ≤ leS nW cy ls kO cA tr ru gr 0 s
    · rw [if_pos q2, if_pos q2, if_neg (fun r => Bool.noConfusion r)]
      exact ⟨known, facts, stack, rfl, hk⟩
    rw [if_neg q2, if_neg q2]
    have hB := PL_wkB (tr := tX) hP ht
    have hkX : kOK nW (gvS oR d cA (fun w => clmK (kO w).toNat) (fun w => pcK (kO w).toNat) (twf nW kO tX) (gpS oC d cy)) known := by
      rw [hcg]
      exact hk
    have hw2 := hw
    obtain ⟨kn2, f2, s2, e, hk2⟩ := go_x (facts := facts) (stack := stack) (clmK := clmK) (pcK := pcK) (kO := kO) (tr := tX) (gaps := gaps) (w := w) (s := s) (r := 0) hB hP.1 hw (show s < 300 from by omega) (by decide) hd gp_b (hD.2 s (by omega)) rfl rfl (by unfold twf; rw [if_pos hw2]) hP.2.2.2.2.2.2.2.1.1 hP.2.2.2.2.2.2.2.1.2 hP.2.2.2.2.2.2.2.2 hkX
    have e' : F_X7_goes facts stack clmK pcK kO cA code spans d tX ar gaps known (w : Int) (s : Int) (0 : Int) = (b2 (gR oC oR cy nW kO cA clmK pcK d tr w s 0), kn2, f2, s2) := by
      rw [← gR_cg hcg]
      exact e
    have hk2' : kOK nW (gR oC oR cy nW kO cA clmK pcK d tr) kn2 := by
      rw [← gR_cg hcg]
      exact hk2
    rw [e', lf_p_e, lf_p_e, lf_p_e]
    cases hg : gR oC oR cy nW kO cA clmK pcK d tr w s 0 with
    | true =>
      rw [if_neg (show ¬ b2 true = 0 from by decide), if_pos rfl, if_pos rfl]
      exact ⟨kn2, f2, s2, rfl, hk2'⟩
    | false =>
      rw [if_pos (show b2 false = 0 from rfl), if_neg (show ¬ false = true from fun r => Bool.noConfusion r)]
      exact ih (s + 1) kn2 f2 s2 (by omega) (by omega) hk2'
theorem gb_run {tX : Nat → Int} (hP : plH nW nK cy ls oC oR kO cA clmK pcK comers code spans ar) (hd : 0 ≤ d ∧ d ≤ 999) (ht : ∀ k, k < nK → 0 ≤ tX k ∧ tX k ≤ 9) (hcg : twf nW kO tX = twf nW kO tr) (hD : SFd oC d cy cars gaps) (hl : ∀ j, j < 300 → left j = leS nW cy ls kO cA tr ru gr 0 j) : ∀ (f k : Nat) (l1 : Int) (known facts stack : Nat → Int), k ≤ nW → nW - k < f → rg l1 → (∀ w, w < 12 → bt l1 w = (decide (w < k) && goW oC oR nW cy ls kO cA clmK pcK d tr ru gr w)) → kOK nW (gR oC oR cy nW kO cA clmK pcK d tr) known → ∃ l2 k2 f2 s2, F_X7_goersByThemselves_4 clmK pcK (nW : Int) kO cA code spans d tX ar gaps left f l1 (k : Int) known facts stack = (l2, k2, f2, s2) ∧ rg l2 ∧ (∀ w, w < 12 → bt l2 w = (decide (w < nW) && goW oC oR nW cy ls kO cA clmK pcK d tr ru gr w)) ∧ kOK nW (gR oC oR cy nW kO cA clmK pcK d tr) k2 := by
  intro f
  induction f with
  | zero => intro k l1 known facts stack h1 h2; omega
  | succ f ih =>
    intro k l1 known facts stack h1 h2 h3 h4 hk
    have hn : nW ≤ 12 := hP.1
    have e0 : F_X7_goersByThemselves_4 clmK pcK (nW : Int) kO cA code spans d tX ar gaps left (f + 1) l1 (k : Int) known facts stack = F_X7_goersByThemselves_4b clmK pcK (nW : Int) kO cA code spans d tX ar gaps left (F_X7_goersByThemselves_4 clmK pcK (nW : Int) kO cA code spans d tX ar gaps left f) l1 (k : Int) known facts stack := rfl
    rw [e0]
    unfold F_X7_goersByThemselves_4b
    by_cases q : k = nW
    · rw [if_pos (by omega)]
      subst q
      exact ⟨l1, known, facts, stack, rfl, h3, h4, hk⟩
    · have hc := (hP.2.2.2.1 k (by omega)).2
      rw [if_neg (by omega), Int.toNat_natCast]
      obtain ⟨k2, f2, s2, e, hk2⟩ := gb_in (K4 := F_X7_goersByThemselves_4 clmK pcK (nW : Int) kO cA code spans d tX ar gaps left f) (l1 := l1) (w := k) hP hd ht hcg hD hl (by omega) 302 (cA k).toNat known facts stack (by omega) (by omega) hk
      rw [show (((cA k).toNat : Nat) : Int) = cA k from by omega] at e
      rw [e]
      have ha := bt_add (w := k) h3 (by omega)
      have eW : goF (pcK (kO k).toNat) (leS nW cy ls kO cA tr ru gr 0) (fun s => gR oC oR cy nW kO cA clmK pcK d tr k s 0) 302 (cA k).toNat = goW oC oR nW cy ls kO cA clmK pcK d tr ru gr k := rfl
      rw [eW]
      cases hg : goW oC oR nW cy ls kO cA clmK pcK d tr ru gr k with
      | true =>
        rw [if_pos rfl]
        refine ih (k + 1) _ k2 f2 s2 (by omega) (by omega) ha.1 (fun w hw => ?_) hk2
        rw [ha.2, h4 w hw]
        by_cases z : k = w
        · rw [← z, hg, decide_eq_true (show k = k from rfl), decide_eq_true (show k < k + 1 from by omega), Bool.or_true]
          rfl
        · rw [decide_eq_false z, Bool.or_false]
          by_cases z2 : w < k
          · rw [decide_eq_true z2, decide_eq_true (show w < k + 1 from by omega)]
          · rw [decide_eq_false z2, decide_eq_false (show ¬ w < k + 1 from by omega)]
      | false =>
        rw [if_neg (fun r => Bool.noConfusion r)]
        refine ih (k + 1) _ k2 f2 s2 (by omega) (by omega) h3 (fun w hw => ?_) hk2
        rw [h4 w hw]
        by_cases z : w = k
        · rw [z, hg, Bool.and_false, Bool.and_false]
        · by_cases z2 : w < k
          · rw [decide_eq_true z2, decide_eq_true (show w < k + 1 from by omega)]
          · rw [decide_eq_false z2, decide_eq_false (show ¬ w < k + 1 from by omega)]
theorem hd_c (hP : plH nW nK cy ls oC oR kO cA clmK pcK comers code spans ar) (hS : sfH oC oR nW nK cy ls kO cA clmK pcK sd str sru sgr sA cars gaps known left leaves pr cr we ha) (hB : stB nK d ru gr tr) : (∃ b : Int, rg b ∧ (∀ w, w < 12 → bt b w = (decide (w < nW) && goW oC oR nW cy ls kO cA clmK pcK d tr ru gr w)) ∧ (F_X9_hold cy ls (nK : Int) clmK pcK (nW : Int) kO cA comers code spans d ru gr tr facts stack sd str sru sgr sA ar cars gaps known left leaves pr cr we ha).1 = if 3 < F_J6_bitCount_0f7a4 b then -1 else b) ∧ sfS oC oR nW nK cy ls kO cA clmK pcK (F_X9_hold cy ls (nK : Int) clmK pcK (nW : Int) kO cA comers code spans d ru gr tr facts stack sd str sru sgr sA ar cars gaps known left leaves pr cr we ha).2 := by
  obtain ⟨pr2, cr2, we2, ha2, f2, s2, c2, g2, t2, k2, l2, v2, e, h1, h2, h3, h4⟩ := lt_y (facts := facts) (stack := stack) hP hS hB
  have hcg : twf nW kO t2 = twf nW kO tr := twf_cg (fun w hw => (hP.2.2.2.1 w hw).1) h4
  rcases h1 with r | ⟨x1, x2, x3, x4, r | x5⟩
  · exfalso
    have := hB.1.1
    omega
  · exfalso
    have := hB.2.1.1
    omega
  have x4' : kOK nW (gR oC oR cy nW kO cA clmK pcK d tr) k2 := by
    rw [← gR_cg hcg]
    exact x4
  obtain ⟨b, k3, f3, s3, e2, r1, r2, r3⟩ := gb_run (tX := t2) (tr := tr) (ru := ru) (gr := gr) hP x1 x2 hcg x3 h3.1 14 0 0 k2 f2 s2 (Nat.zero_le _) (by have := hP.1; omega) rg_0 (fun w _ => by
    rw [bt_0, decide_eq_false (Nat.not_lt_zero w), Bool.false_and]) x4'
  have r3' : kOK nW (gR oC oR cy nW kO cA clmK pcK d t2) k3 := by
    rw [gR_cg hcg]
    exact r3
  have e2' : F_X7_goersByThemselves_4 clmK pcK (nW : Int) kO cA code spans d t2 ar g2 l2 14 (0 : Int) (0 : Int) k2 f2 s2 = (b, k3, f3, s3) := e2
  have hfin : sfH oC oR nW nK cy ls kO cA clmK pcK d t2 ru gr 0 c2 g2 k3 l2 v2 pr2 cr2 we2 ha2 := Or.inr ⟨x1, x2, x3, r3', Or.inr x5⟩
  have e3 : F_X1_holders f2 s2 clmK pcK (nW : Int) kO cA code spans d t2 ar g2 k2 l2 = (if 3 < F_J6_bitCount_0f7a4 b then -1 else b, k3, f3, s3) := by
    unfold F_X1_holders F_X7_goersByThemselves
    rw [e2', lf_p_e, lf_p_e, lf_p_e, lf_b_e]
    by_cases q : 3 < F_J6_bitCount_0f7a4 b
    · rw [if_pos q, if_pos q]
    · rw [if_neg q, if_neg q]
  unfold F_X9_hold
  rw [st_1x hP.2.2.1.1, lf_b_e, if_neg (show ¬ (1 : Int) = 0 from by decide), e, lf_p_e, lf_p_e, lf_p_e, lf_p_e, lf_p_e, lf_p_e, lf_p_e, lf_p_e, lf_p_e, lf_p_e, lf_p_e, lf_p_e, lf_p_e, lf_p_e, lf_p_e, e3, lf_p_e, lf_p_e, lf_p_e]
  exact ⟨⟨b, r1, r2, rfl⟩, hfin⟩
end LS
