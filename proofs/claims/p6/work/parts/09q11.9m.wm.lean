/-! fits, watched: the model's side -/
section WM
variable {nW nK : Nat} {oC oR oL : Option (List Int)} {s cy ls aw stm d ru gr hnx hct sd sru sgr sA ar pr cr we ha tkn ad aru agr akn rws cmp fnd frl fgr chs chl occ dwn fa pl sM awM isc und nwst rmM moc sdd tk ask red io lg gt icg sg qp ftm ftr ftg mf mp0 p0 p1 p2 p3 p4 : Int} {g clmK pcK kO cA comers code spans nmX tr rD rR rG facts stack str cars gaps known left leaves tab atr atd ats sw ss sec oct refu gM many bar kinds walkers cf ce codes now kept mrw mo refM asd isCar gapM isG isH crM wtM goM hmM prM ciM pile whn : Nat → Int} {rF : Nat → Nat → Int}
abbrev M24 : Type := Int × Int × Int × Int × Int × Int × Int × Int × Int × Int × Int × Int × (Nat → Int) × (Nat → Int) × (Nat → Int) × (Nat → Int) × (Nat → Int) × (Nat → Int) × (Nat → Int) × (Nat → Int) × (Nat → Int) × (Nat → Int) × (Nat → Int) × (Nat → Int)
abbrev KM33 : Type := Int → Int → Int → Int → Int → Int → Int → Int → Int → Int → Int → Int → Int → (Nat → Int) → (Nat → Int) → (Nat → Int) → (Nat → Int) → (Nat → Int) → (Nat → Int) → (Nat → Int) → (Nat → Int) → (Nat → Int) → (Nat → Int) → M24
theorem gl_20 {x : Int} : F_X10_isGreenLong_a1_20 bar x = b2 (decide (1 ≤ x ∧ x ≤ 20 ∧ x < bar 4)) := by
  unfold F_X10_isGreenLong_a1_20 F_X10_isGreenLong_a1_20_25 lf_isin
  by_cases q : 1 ≤ x ∧ x ≤ 20 ∧ x < bar 4
  · rw [if_pos (show 1 ≤ x ∧ x ≤ 20 from ⟨q.1, q.2.1⟩), if_neg (show ¬ (1 : Int) = 0 from by decide), if_neg (by omega), decide_eq_true q]
    rfl
  · rw [decide_eq_false q]
    by_cases q1 : 1 ≤ x ∧ x ≤ 20
    · rw [if_pos q1, if_neg (show ¬ (1 : Int) = 0 from by decide), if_pos (by omega)]
      rfl
    · rw [if_neg q1, if_pos rfl]
      rfl
theorem lf_58 {K33 : KM33} {g r c79 c80 : Int} {n : Nat} {c55 c58 c59 c70 c71 c72 c73 c74 c117 : Int} {a3 a8 a11 a12 a14 a15 a16 a17 a19 : Nat → Int} : ∀ (f l : Nat) (a21 : Nat → Int), l ≤ 12 → 12 - l < f → ∃ b, F_X10_laysFits_58 g r (n : Int) c79 c80 K33 f c55 c58 c59 c70 c71 c72 c73 c74 c117 a3 a8 a11 a12 a14 a15 a16 a17 a19 (l : Int) a21 = K33 (r + (1 : Int)) c55 c58 c59 c70 c71 c72 c73 c74 ((n : Int) + (1 : Int)) (lf_o lf_ior c79 (lf_o lf_ishl (1 : Int) r)) (if c80 = -1 then g else c80) c117 a3 a8 a11 a12 a14 a15 a16 a17 a19 b ∧ (∀ w, l ≤ w → w < 12 → b (12 * n + w) = a15 w) ∧ ∀ i, i < 12 * n + l → b i = a21 i := by
  intro f
  induction f with
  | zero => intro l a21 h1 h2; omega
  | succ f ih =>
    intro l a21 h1 h2
    have e0 : F_X10_laysFits_58 g r (n : Int) c79 c80 K33 (f + 1) c55 c58 c59 c70 c71 c72 c73 c74 c117 a3 a8 a11 a12 a14 a15 a16 a17 a19 (l : Int) a21 = F_X10_laysFits_58b g r (n : Int) c79 c80 K33 (F_X10_laysFits_58 g r (n : Int) c79 c80 K33 f) c55 c58 c59 c70 c71 c72 c73 c74 c117 a3 a8 a11 a12 a14 a15 a16 a17 a19 (l : Int) a21 := rfl
    rw [e0]
    unfold F_X10_laysFits_58b F_X10_laysFits_125
    by_cases q : l = 12
    · rw [if_pos (by omega)]
      by_cases c : c80 = -1
      · rw [if_pos c, if_pos c]
        exact ⟨a21, rfl, fun w h3 h4 => absurd h4 (by omega), fun _ _ => rfl⟩
      · rw [if_neg c, if_neg c]
        exact ⟨a21, rfl, fun w h3 h4 => absurd h4 (by omega), fun _ _ => rfl⟩
    · rw [if_neg (by omega), Int.toNat_natCast]
      obtain ⟨b, e, b1, b2'⟩ := ih (l + 1) (lf_up a21 (((12 : Int) * (n : Int)) + (l : Int)) (a15 l)) (by omega) (by omega)
      refine ⟨b, e, fun w h3 h4 => ?_, fun i hi => ?_⟩
      · by_cases y : w = l
        · rw [y, b2' (12 * n + l) (by omega), lf_up_y (by omega)]
        · exact b1 w (by omega) h4
      · rw [b2' i (by omega), lf_up_o (by omega)]
theorem lw_33 {g : Nat} {t0 : FT} {C : M24 → Prop} {a10 a13 : Nat → Int} {K21 : Int → Int → Int → (Nat → Int) → (Nat → Int) → (Nat → Int) → Int → Int → Int → Int → Int → Int → Int → Int → Int → Int → (Nat → Int) → (Nat → Int) → (Nat → Int) → (Nat → Int) → (Nat → Int) → (Nat → Int) → (Nat → Int) → (Nat → Int) → (Nat → Int) → M24} (hP : plH nW nK cy ls oC oR kO cA clmK pcK comers code spans ar) (h : mdH nW nK cy ls d oC oR oL kO cA clmK pcK many bar kinds walkers cf ce codes now a10 tr) (hR : rwH nW rws sw ss rmM mrw) (hg : 1 ≤ g ∧ g ≤ 60) (hK : ∀ (t : FT) (c55 c58 c117 c59 c70 c71 c72 c73 c74 : Int) (a3 a8 a11 a12 a14 a15 a16 a17 a19 a21 : Nat → Int), t = fitR (lvZ oC oR nW cy ls kO cA clmK pcK d tr) (fun L => soR sw ss L rws.toNat 0) g 3 t0 → seO nW a21 t → C (K21 c55 c58 c117 a3 a10 a13 ((g : Int) + (1 : Int)) c59 c70 c71 c72 c73 c74 (t.1 : Int) t.2.1 t.2.2.1 a8 a11 a12 a14 a15 a16 a17 a19 a21)) : ∀ (f r : Nat) (t : FT) (c55 c58 c59 c70 c71 c72 c73 c74 c117 : Int) (a3 a8 a11 a12 a14 a15 a16 a17 a19 a21 : Nat → Int), r ≤ 3 → 3 - r < f → t = fitR (lvZ oC oR nW cy ls kO cA clmK pcK d tr) (fun L => soR sw ss L rws.toNat 0) g r t0 → seO nW a21 t → C (F_X10_laysFits_33 rmM many bar kinds walkers cf ce codes now mrw a10 a13 (g : Int) K21 f (r : Int) c55 c58 c59 c70 c71 c72 c73 c74 (t.1 : Int) t.2.1 t.2.2.1 c117 a3 a8 a11 a12 a14 a15 a16 a17 a19 a21) := by
  intro f
  induction f with
  | zero => intro r t c55 c58 c59 c70 c71 c72 c73 c74 c117 a3 a8 a11 a12 a14 a15 a16 a17 a19 a21 h1 h2; omega
  | succ f ih =>
    intro r t c55 c58 c59 c70 c71 c72 c73 c74 c117 a3 a8 a11 a12 a14 a15 a16 a17 a19 a21 h1 h2 hT hQ
    show C (F_X10_laysFits_33b rmM many bar kinds walkers cf ce codes now mrw a10 a13 (g : Int) K21 (F_X10_laysFits_33 rmM many bar kinds walkers cf ce codes now mrw a10 a13 (g : Int) K21 f) (r : Int) c55 c58 c59 c70 c71 c72 c73 c74 (t.1 : Int) t.2.1 t.2.2.1 c117 a3 a8 a11 a12 a14 a15 a16 a17 a19 a21)
    unfold F_X10_laysFits_33b F_X10_laysFits_125
    have hW : nW ≤ 12 := h.2.1
    by_cases q : r = 3
    · rw [if_pos (by omega)]
      subst q
      exact hK t _ _ _ _ _ _ _ _ _ _ _ _ _ _ _ _ _ _ _ hT hQ
    · obtain ⟨b1, b2', b3, b4, b5, b6, b7, b11, b16, e70, e71, e72, e73, e74, e55, e58, e59, e117, e, hF⟩ := day_x (tk := c55) (ask := c58) (sg := c74) (qp := c117) (isG := a19) (isH := a14) (cr := a15) (wt := a8) (go := a11) (hm := a12) (pr2 := a16) (ci := a17) (pile := a3) (A := 0) (H := 0) (ru := (r : Int)) (gr := (g : Int)) h rg_0 rg_0 (by omega) (by omega) ⟨by omega, by omega⟩
      rw [wkM_0] at hF
      have hv : ∀ w, w < nW → b2' w = lvZ oC oR nW cy ls kO cA clmK pcK d tr r g w := fun w hw => (hF.1 w hw).2.1
      have hso : F_X10_isAsSeen rmM b2' mrw = b2 (soR sw ss (lvZ oC oR nW cy ls kO cA clmK pcK d tr r g) rws.toNat 0) := is_m (n := rws.toNat) (by have := hR.2.1; have := hR.1; omega) (fun k hk => hR.2.2 k (by omega)) hv rws.toNat 0 18 (by omega) (by have := hR.2.1; omega)
      have eT : fitR (lvZ oC oR nW cy ls kO cA clmK pcK d tr) (fun L => soR sw ss L rws.toNat 0) g (r + 1) t0 = ftt (lvZ oC oR nW cy ls kO cA clmK pcK d tr) (fun L => soR sw ss L rws.toNat 0) r g t := by
        rw [hT]
        rfl
      rw [if_neg (by omega), e, lf_p_e, lf_p_e, lf_p_e, lf_p_e, lf_p_e, lf_p_e, lf_p_e, lf_p_e, lf_p_e, lf_p_e, lf_p_e, lf_p_e, lf_p_e, lf_p_e, lf_p_e, lf_p_e, lf_p_e, lf_b_e, hso]
      cases hb : soR sw ss (lvZ oC oR nW cy ls kO cA clmK pcK d tr r g) rws.toNat 0 with
      | false =>
        rw [if_pos (show b2 false = 0 from rfl)]
        refine ih (r + 1) t _ _ _ _ _ _ _ _ _ _ _ _ _ _ _ _ _ _ _ (by omega) (by omega) ?_ hQ
        rw [eT]
        unfold ftt
        rw [if_neg (fun z => Bool.noConfusion (hb.symm.trans z))]
      | true =>
        rw [if_neg (show ¬ b2 true = 0 from by decide)]
        have eT2 : ftt (lvZ oC oR nW cy ls kO cA clmK pcK d tr) (fun L => soR sw ss L rws.toNat 0) r g t = (t.1 + 1, lf_o lf_ior t.2.1 (lf_o lf_ishl (1 : Int) (r : Int)), (if t.2.2.1 = -1 then (g : Int) else t.2.2.1), fun k => if k = t.1 then lvZ oC oR nW cy ls kO cA clmK pcK d tr r g else t.2.2.2 k) := if_pos hb
        obtain ⟨b, e5, q1, q2⟩ := lf_58 (K33 := F_X10_laysFits_33 rmM many bar kinds walkers cf ce codes now mrw a10 a13 (g : Int) K21 f) (g := (g : Int)) (r := (r : Int)) (n := t.1) (c79 := t.2.1) (c80 := t.2.2.1) (c55 := e55) (c58 := e58) (c59 := e59) (c70 := e70) (c71 := e71) (c72 := e72) (c73 := e73) (c74 := e74) (c117 := e117) (a3 := b16) (a8 := b3) (a11 := b4) (a12 := b5) (a14 := b1) (a15 := b2') (a16 := b6) (a17 := b7) (a19 := b11) 14 0 a21 (Nat.zero_le _) (by decide)
        have e5' : F_X10_laysFits_58 (g : Int) (r : Int) (t.1 : Int) t.2.1 t.2.2.1 (F_X10_laysFits_33 rmM many bar kinds walkers cf ce codes now mrw a10 a13 (g : Int) K21 f) 14 e55 e58 e59 e70 e71 e72 e73 e74 e117 b16 b3 b4 b5 b1 b2' b6 b7 b11 (0 : Int) a21 = _ := e5
        rw [e5']
        refine ih (r + 1) (t.1 + 1, lf_o lf_ior t.2.1 (lf_o lf_ishl (1 : Int) (r : Int)), (if t.2.2.1 = -1 then (g : Int) else t.2.2.1), fun k => if k = t.1 then lvZ oC oR nW cy ls kO cA clmK pcK d tr r g else t.2.2.2 k) _ _ _ _ _ _ _ _ _ _ _ _ _ _ _ _ _ _ _ (by omega) (by omega) (by rw [eT, eT2]) ?_
        intro k hk w hw
        have hk' : k < t.1 + 1 := hk
        dsimp only
        by_cases y : k = t.1
        · rw [if_pos y, y, q1 w (Nat.zero_le _) (by omega)]
          exact hv w hw
        · rw [if_neg y, q2 _ (by omega)]
          exact hQ k (by omega) w hw
theorem lw_21 {m : Nat} {a10 a13 : Nat → Int} (hP : plH nW nK cy ls oC oR kO cA clmK pcK comers code spans ar) (h : mdH nW nK cy ls d oC oR oL kO cA clmK pcK many bar kinds walkers cf ce codes now a10 tr) (hR : rwH nW rws sw ss rmM mrw) (hm : (m : Int) = min 20 (cy - 1)) : ∀ (f g : Nat) (t : FT) (c55 c58 c117 c59 c70 c71 c72 c73 c74 : Int) (a3 a8 a11 a12 a14 a15 a16 a17 a19 a21 : Nat → Int), g ≤ m → m - g < f → t = ftG (lvZ oC oR nW cy ls kO cA clmK pcK d tr) (fun L => soR sw ss L rws.toNat 0) g → seO nW a21 t → ∃ O : M24, O = F_X10_laysFits_21 rmM many bar kinds walkers cf ce codes now mrw f c55 c58 c117 a3 a10 a13 ((g + 1 : Nat) : Int) c59 c70 c71 c72 c73 c74 (t.1 : Int) t.2.1 t.2.2.1 a8 a11 a12 a14 a15 a16 a17 a19 a21 ∧ O.2.2.2.2.2.2.2.2.1 = ((ftG (lvZ oC oR nW cy ls kO cA clmK pcK d tr) (fun L => soR sw ss L rws.toNat 0) m).1 : Int) ∧ O.2.2.2.2.2.2.2.2.2.1 = (ftG (lvZ oC oR nW cy ls kO cA clmK pcK d tr) (fun L => soR sw ss L rws.toNat 0) m).2.1 ∧ O.2.2.2.2.2.2.2.2.2.2.1 = (ftG (lvZ oC oR nW cy ls kO cA clmK pcK d tr) (fun L => soR sw ss L rws.toNat 0) m).2.2.1 ∧ seO nW O.2.2.2.2.2.2.2.2.2.2.2.2.2.2.2.2.2.2.2.2.2.2.2 (ftG (lvZ oC oR nW cy ls kO cA clmK pcK d tr) (fun L => soR sw ss L rws.toNat 0) m) := by
  intro f
  induction f with
  | zero => intro g t c55 c58 c117 c59 c70 c71 c72 c73 c74 a3 a8 a11 a12 a14 a15 a16 a17 a19 a21 h1 h2; omega
  | succ f ih =>
    intro g t c55 c58 c117 c59 c70 c71 c72 c73 c74 a3 a8 a11 a12 a14 a15 a16 a17 a19 a21 h1 h2 hT hQ
    have e0 : F_X10_laysFits_21 rmM many bar kinds walkers cf ce codes now mrw (f + 1) c55 c58 c117 a3 a10 a13 ((g + 1 : Nat) : Int) c59 c70 c71 c72 c73 c74 (t.1 : Int) t.2.1 t.2.2.1 a8 a11 a12 a14 a15 a16 a17 a19 a21 = F_X10_laysFits_21b rmM many bar kinds walkers cf ce codes now mrw (F_X10_laysFits_21 rmM many bar kinds walkers cf ce codes now mrw f) c55 c58 c117 a3 a10 a13 ((g + 1 : Nat) : Int) c59 c70 c71 c72 c73 c74 (t.1 : Int) t.2.1 t.2.2.1 a8 a11 a12 a14 a15 a16 a17 a19 a21 := rfl
    rw [e0]
    unfold F_X10_laysFits_21b
    have hb4 : bar 4 = cy := h.1.2.2.1
    rw [gl_20, lf_b_e, hb4]
    by_cases q : g = m
    · rw [decide_eq_false (by omega), if_pos (show b2 false = 0 from rfl), ← q, ← hT]
      exact ⟨_, rfl, rfl, rfl, rfl, hQ⟩
    · rw [decide_eq_true (by omega), if_neg (show ¬ b2 true = 0 from by decide)]
      exact lw_33 (C := fun P => ∃ O : M24, O = P ∧ O.2.2.2.2.2.2.2.2.1 = ((ftG (lvZ oC oR nW cy ls kO cA clmK pcK d tr) (fun L => soR sw ss L rws.toNat 0) m).1 : Int) ∧ O.2.2.2.2.2.2.2.2.2.1 = (ftG (lvZ oC oR nW cy ls kO cA clmK pcK d tr) (fun L => soR sw ss L rws.toNat 0) m).2.1 ∧ O.2.2.2.2.2.2.2.2.2.2.1 = (ftG (lvZ oC oR nW cy ls kO cA clmK pcK d tr) (fun L => soR sw ss L rws.toNat 0) m).2.2.1 ∧ seO nW O.2.2.2.2.2.2.2.2.2.2.2.2.2.2.2.2.2.2.2.2.2.2.2 (ftG (lvZ oC oR nW cy ls kO cA clmK pcK d tr) (fun L => soR sw ss L rws.toNat 0) m)) (g := g + 1) (t0 := t) (K21 := F_X10_laysFits_21 rmM many bar kinds walkers cf ce codes now mrw f) hP h hR ⟨by omega, by omega⟩ (fun t2 c55 c58 c117 c59 c70 c71 c72 c73 c74 a3 a8 a11 a12 a14 a15 a16 a17 a19 a21 hT2 hQ2 => ih (g + 1) t2 c55 c58 c117 c59 c70 c71 c72 c73 c74 a3 a8 a11 a12 a14 a15 a16 a17 a19 a21 (by omega) (by omega) (by rw [hT2, hT]; rfl) hQ2) 5 0 t _ _ _ _ _ _ _ _ _ _ _ _ _ _ _ _ _ _ _ (by decide) (by decide) rfl hQ
theorem lw_x (hP : plH nW nK cy ls oC oR kO cA clmK pcK comers code spans ar) (hM : pmH nW nK cy ls oC oR oL kO cA clmK pcK many bar kinds walkers cf ce codes) (hB : stB nK d ru gr tr) (hn : ndH nK d ru gr tr now) (hR : rwH nW rws sw ss rmM mrw) : ∃ O : M24, O = F_X10_laysFits tk ask red io lg gt icg sg rmM qp many bar kinds walkers cf ce codes now isCar gapM isG isH crM wtM goM hmM prM ciM mrw whn pile ∧ O.2.2.2.2.2.2.2.2.1 = ((ftX oC oR nW cy ls kO cA clmK pcK d tr rws sw ss).1 : Int) ∧ O.2.2.2.2.2.2.2.2.2.1 = (ftX oC oR nW cy ls kO cA clmK pcK d tr rws sw ss).2.1 ∧ O.2.2.2.2.2.2.2.2.2.2.1 = (ftX oC oR nW cy ls kO cA clmK pcK d tr rws sw ss).2.2.1 ∧ seO nW O.2.2.2.2.2.2.2.2.2.2.2.2.2.2.2.2.2.2.2.2.2.2.2 (ftX oC oR nW cy ls kO cA clmK pcK d tr rws sw ss) := by
  have hcy := hP.2.2.1
  obtain ⟨t, q, r, p, g2, i2, e, h1, h2⟩ := mc_x (tk := tk) (ask := ask) (red := red) (qp := qp) (kinds := kinds) (walkers := walkers) (isCar := isCar) (gaps := gapM) (waits := wtM) (goes := goM) (harms := hmM) (pile := pile) hB.1 (show 1 ≤ cy from by omega) hP.2.2.1.2 hM.2.2.1 hn.1 hM.2.2.2.2.2.2.1 hP.2.2.2.2.2.2.1.2
  unfold F_X10_laysFits
  rw [e, lf_p_e, lf_p_e, lf_p_e, lf_p_e, lf_p_e]
  exact lw_21 (m := (min 20 (cy - 1)).toNat) hP (md_of hP hM hB.1 hn h2) hR (by omega) 22 0 (0, 0, -1, fun _ _ => 0) t q r red io lg gt icg sg p wtM goM hmM isH crM prM ciM isG whn (Nat.zero_le _) (by omega) rfl (fun k hk => absurd hk (Nat.not_lt_zero k))
theorem fi_mx (hP : plH nW nK cy ls oC oR kO cA clmK pcK comers code spans ar) (hM : pmH nW nK cy ls oC oR oL kO cA clmK pcK many bar kinds walkers cf ce codes) (hB : stB nK d ru gr tr) (hn : ndH nK d ru gr tr now) (hi : isc = 1) (hR : rwH nW rws sw ss rmM mrw) : (F_X10_fits isc tk ask red io lg gt icg sg rmM ftm ftr ftg qp many bar kinds walkers cf ce codes now isCar gapM isG isH crM wtM goM hmM prM ciM mrw whn pile p0).1 = fiA (ftX oC oR nW cy ls kO cA clmK pcK d tr rws sw ss) p0 := by
  obtain ⟨O, e, e1, e2, e3, e4⟩ := lw_x (tk := tk) (ask := ask) (red := red) (io := io) (lg := lg) (gt := gt) (icg := icg) (sg := sg) (qp := qp) (isCar := isCar) (gapM := gapM) (isG := isG) (isH := isH) (crM := crM) (wtM := wtM) (goM := goM) (hmM := hmM) (prM := prM) (ciM := ciM) (whn := whn) (pile := pile) hP hM hB hn hR
  unfold F_X10_fits F_X10_fits_19 fiA lf_isin
  rw [if_neg (show ¬ isc = 0 from by omega)]
  by_cases c : 0 ≤ p0 ∧ p0 ≤ 2
  · rw [if_pos c, if_neg (show ¬ (1 : Int) = 0 from by decide), ← e]
    obtain ⟨r1, r2, r3, r4, r5, r6, r7, r8, r9, r10, r11, r12, r13, r14, r15, r16, r17, r18, r19, r20, r21, r22, r23, r24⟩ := O
    rw [lf_p_e, lf_p_e, lf_p_e, lf_p_e, lf_p_e, lf_p_e, lf_p_e, lf_p_e, lf_p_e, lf_p_e, lf_p_e, lf_p_e, lf_p_e, lf_p_e, lf_p_e, lf_p_e, lf_p_e, lf_p_e, lf_p_e, lf_p_e, lf_p_e, lf_p_e, lf_p_e]
    by_cases c0 : p0 = 0
    · rw [if_pos c0, if_pos c0]
      exact e1
    rw [if_neg c0, if_neg c0]
    by_cases c1 : p0 = 1
    · rw [if_pos c1, if_pos c1]
      exact e2
    rw [if_neg c1, if_neg c1, if_pos (show p0 = 2 from by omega)]
    exact e3
  · rw [if_neg c, if_pos rfl, if_neg (by omega), if_neg (by omega), if_neg (by omega)]
theorem mm_i {S : Nat → Nat → Int} {n : Nat} {K4 : Int → Int → Int} {w a : Nat} {l2 : Int} (hn : n ≤ 60) (hw : w < nW) (hW : nW ≤ 12) (ha : a < n) (hs : ∀ k, k < n → ∀ w, w < nW → whn (12 * k + w) = S k w) : ∀ (f b : Nat) (l4 : Int), b ≤ n → n - b < f → l4 = cnf (fun b => decide (S b w = S a w)) b → F_X10_mostAlike_18 (n : Int) whn (w : Int) l2 (a : Int) K4 f l4 (b : Int) = K4 (max l2 (cnf (fun b => decide (S b w = S a w)) n)) ((a : Int) + (1 : Int)) := by
  intro f
  induction f with
  | zero => intro b l4 h1 h2; omega
  | succ f ih =>
    intro b l4 h1 h2 h3
    have e0 : F_X10_mostAlike_18 (n : Int) whn (w : Int) l2 (a : Int) K4 (f + 1) l4 (b : Int) = F_X10_mostAlike_18b (n : Int) whn (w : Int) l2 (a : Int) K4 (F_X10_mostAlike_18 (n : Int) whn (w : Int) l2 (a : Int) K4 f) l4 (b : Int) := rfl
    rw [e0]
    unfold F_X10_mostAlike_18b F_X10_mostAlike_56 F_X10_mostAlike_71
    by_cases q : b = n
    · rw [if_pos (by omega)]
      have e9 : l4 = cnf (fun b => decide (S b w = S a w)) n := by rw [h3, q]
      rw [← e9]
      by_cases c : l4 ≤ l2
      · rw [if_pos c, show max l2 l4 = l2 from by omega]
      · rw [if_neg c, show max l2 l4 = l4 from by omega]
    · have hb := cnf_le (fun b => decide (S b w = S a w)) b
      have eS : cnf (fun b => decide (S b w = S a w)) (b + 1) = cnf (fun b => decide (S b w = S a w)) b + b2 (decide (S b w = S a w)) := rfl
      rw [if_neg (by omega), show Int.toNat (((12 : Int) * (a : Int)) + (w : Int)) = 12 * a + w from by omega, show Int.toNat (((12 : Int) * (b : Int)) + (w : Int)) = 12 * b + w from by omega, hs b (by omega) w hw, hs a ha w hw]
      by_cases c : S a w = S b w
      · rw [if_pos c]
        refine ih (b + 1) _ (by omega) (by omega) ?_
        rw [eS, decide_eq_true c.symm, h3, lo_add (by omega) (by omega) (by omega) (by omega) (by omega) (by omega)]
        rfl
      · rw [if_neg c]
        refine ih (b + 1) _ (by omega) (by omega) ?_
        rw [eS, decide_eq_false (fun r => c r.symm), h3]
        exact (Int.add_zero _).symm
theorem mm_o {S : Nat → Nat → Int} {n : Nat} {w : Nat} (hn : n ≤ 60) (hw : w < nW) (hW : nW ≤ 12) (hs : ∀ k, k < n → ∀ w, w < nW → whn (12 * k + w) = S k w) : ∀ (f a : Nat), a ≤ n → n - a < f → F_X10_mostAlike_4 (n : Int) whn (w : Int) f (mlX S n w a) (a : Int) = mlX S n w n := by
  intro f
  induction f with
  | zero => intro a h1 h2; omega
  | succ f ih =>
    intro a h1 h2
    have e0 : F_X10_mostAlike_4 (n : Int) whn (w : Int) (f + 1) (mlX S n w a) (a : Int) = F_X10_mostAlike_4b (n : Int) whn (w : Int) (F_X10_mostAlike_4 (n : Int) whn (w : Int) f) (mlX S n w a) (a : Int) := rfl
    rw [e0]
    unfold F_X10_mostAlike_4b
    by_cases q : a = n
    · rw [if_pos (by omega), q]
    · have e := mm_i (K4 := F_X10_mostAlike_4 (n : Int) whn (w : Int) f) (l2 := mlX S n w a) hn hw hW (show a < n from by omega) hs 62 0 0 (Nat.zero_le _) (by omega) rfl
      have e' : F_X10_mostAlike_18 (n : Int) whn (w : Int) (mlX S n w a) (a : Int) (F_X10_mostAlike_4 (n : Int) whn (w : Int) f) 62 (0 : Int) (0 : Int) = _ := e
      rw [if_neg (by omega), e']
      exact ih (a + 1) (by omega) (by omega)
theorem wm_run {t : FT} {c55 c58 c59 c70 c71 c72 c73 c74 c79 c80 c117 : Int} {a3 a8 a10 a11 a12 a13 a14 a15 a16 a17 a19 : Nat → Int} (hn : t.1 ≤ 60) (hW : nW ≤ 12) (hm3 : many 3 = (nW : Int)) (hs : seO nW whn t) (hp : 0 ≤ p0 ∧ p0 ≤ 1) : ∀ (f w : Nat) (l2 l3 : Int), w ≤ nW → nW - w < f → (t.1 = 0 → w = 0) → l2 = (wcS (fun w => mlX t.2.2.2 t.1 w t.1) w).1 → (¬ l2 = -1 → l3 = (wcS (fun w => mlX t.2.2.2 t.1 w t.1) w).2) → (F_X10_watched_30 many p0 f c55 c58 c59 c70 c71 c72 c73 c74 (t.1 : Int) c79 c80 c117 a3 a8 a10 a11 a12 a13 a14 a15 a16 a17 a19 whn l2 l3 (w : Int)).1 = wdA nW t p0 := by
  intro f
  induction f with
  | zero => intro w l2 l3 h1 h2; omega
  | succ f ih =>
    intro w l2 l3 h1 h2 h0 h3 h4
    have e0 : F_X10_watched_30 many p0 (f + 1) c55 c58 c59 c70 c71 c72 c73 c74 (t.1 : Int) c79 c80 c117 a3 a8 a10 a11 a12 a13 a14 a15 a16 a17 a19 whn l2 l3 (w : Int) = F_X10_watched_30b many p0 (F_X10_watched_30 many p0 f) c55 c58 c59 c70 c71 c72 c73 c74 (t.1 : Int) c79 c80 c117 a3 a8 a10 a11 a12 a13 a14 a15 a16 a17 a19 whn l2 l3 (w : Int) := rfl
    rw [e0]
    unfold F_X10_watched_30b F_X10_watched_68 F_X10_watched_74
    have fin : ∀ nV, (if t.1 = 0 then 0 else nW) = nV → w = nV → (F_X10_watched_80 p0 c55 c58 c59 c70 c71 c72 c73 c74 (t.1 : Int) c79 c80 c117 a3 a8 a10 a11 a12 a13 a14 a15 a16 a17 a19 whn l2 l3 (w : Int)).1 = wdA nW t p0 := by
      intro nV hV hw
      unfold F_X10_watched_80 wdA wcF
      rw [hV, ← hw]
      have hx := wcS_n (ML := fun w => mlX t.2.2.2 t.1 w t.1) w
      by_cases c : l2 = -1
      · rw [if_pos c]
        by_cases d0 : p0 = 0
        · rw [if_pos d0]
          exact (c.symm.trans h3)
        · rw [if_neg d0, if_pos (show p0 = 1 from by omega)]
          show (-1 : Int) = _
          omega
      · rw [if_neg c]
        by_cases d0 : p0 = 0
        · rw [if_pos d0, if_pos d0]
          exact h3
        · rw [if_neg d0, if_neg d0, if_pos (show p0 = 1 from by omega)]
          exact h4 c
    rw [lf_b_e, hm3]
    by_cases q : w = nW
    · rw [if_pos (by omega)]
      by_cases z : t.1 = 0
      · exact fin 0 (if_pos z) (h0 z)
      · exact fin nW (if_neg z) q
    · rw [if_neg (by omega)]
      by_cases z : t.1 = 0
      · rw [if_pos (by omega)]
        exact fin 0 (if_pos z) (h0 z)
      · rw [if_neg (by omega)]
        have e : F_X10_mostAlike (t.1 : Int) whn (w : Int) = mlX t.2.2.2 t.1 w t.1 := mm_o hn (show w < nW from by omega) hW hs 62 0 (Nat.zero_le _) (by omega)
        have eS : wcS (fun w => mlX t.2.2.2 t.1 w t.1) (w + 1) = if (wcS (fun w => mlX t.2.2.2 t.1 w t.1) w).1 = -1 ∨ mlX t.2.2.2 t.1 w t.1 < (wcS (fun w => mlX t.2.2.2 t.1 w t.1) w).2 then ((w : Int), mlX t.2.2.2 t.1 w t.1) else wcS (fun w => mlX t.2.2.2 t.1 w t.1) w := rfl
        rw [e, lf_b_e]
        by_cases c1 : l2 = -1
        · rw [if_pos c1]
          refine ih (w + 1) _ _ (by omega) (by omega) (fun r => absurd r z) ?_ (fun _ => ?_)
          · rw [eS, if_pos (Or.inl (h3.symm.trans c1))]
          · rw [eS, if_pos (Or.inl (h3.symm.trans c1))]
        · rw [if_neg c1]
          by_cases c2 : mlX t.2.2.2 t.1 w t.1 < l3
          · rw [if_pos c2]
            refine ih (w + 1) _ _ (by omega) (by omega) (fun r => absurd r z) ?_ (fun _ => ?_)
            · rw [eS, if_pos (Or.inr (by rw [← h4 c1]; exact c2))]
            · rw [eS, if_pos (Or.inr (by rw [← h4 c1]; exact c2))]
          · rw [if_neg c2]
            have nn : ¬ ((wcS (fun w => mlX t.2.2.2 t.1 w t.1) w).1 = -1 ∨ mlX t.2.2.2 t.1 w t.1 < (wcS (fun w => mlX t.2.2.2 t.1 w t.1) w).2) := fun r => r.elim (fun r => c1 (h3.trans r)) (fun r => c2 (by rw [h4 c1]; exact r))
            refine ih (w + 1) _ _ (by omega) (by omega) (fun r => absurd r z) ?_ (fun hc => ?_)
            · rw [eS, if_neg nn]
              exact h3
            · rw [eS, if_neg nn]
              exact h4 hc
theorem wd_mx (hP : plH nW nK cy ls oC oR kO cA clmK pcK comers code spans ar) (hM : pmH nW nK cy ls oC oR oL kO cA clmK pcK many bar kinds walkers cf ce codes) (hB : stB nK d ru gr tr) (hn : ndH nK d ru gr tr now) (hi : isc = 1) (hR : rwH nW rws sw ss rmM mrw) : (F_X10_watched isc tk ask red io lg gt icg sg rmM ftm ftr ftg qp many bar kinds walkers cf ce codes now isCar gapM isG isH crM wtM goM hmM prM ciM mrw whn pile p0).1 = wdA nW (ftX oC oR nW cy ls kO cA clmK pcK d tr rws sw ss) p0 := by
  obtain ⟨O, e, e1, e2, e3, e4⟩ := lw_x (tk := tk) (ask := ask) (red := red) (io := io) (lg := lg) (gt := gt) (icg := icg) (sg := sg) (qp := qp) (isCar := isCar) (gapM := gapM) (isG := isG) (isH := isH) (crM := crM) (wtM := wtM) (goM := goM) (hmM := hmM) (prM := prM) (ciM := ciM) (whn := whn) (pile := pile) hP hM hB hn hR
  have hW : nW ≤ 12 := hP.1
  have hc : (ftX oC oR nW cy ls kO cA clmK pcK d tr rws sw ss).1 ≤ 60 := by
    have := ftG_n (Z := lvZ oC oR nW cy ls kO cA clmK pcK d tr) (B := fun L => soR sw ss L rws.toNat 0) (min 20 (cy - 1)).toNat
    unfold ftX
    omega
  unfold F_X10_watched F_X10_watched_17 lf_isin
  rw [if_neg (show ¬ isc = 0 from by omega)]
  by_cases c : 0 ≤ p0 ∧ p0 ≤ 1
  · rw [if_pos c, if_neg (show ¬ (1 : Int) = 0 from by decide), ← e]
    obtain ⟨r1, r2, r3, r4, r5, r6, r7, r8, r9, r10, r11, r12, r13, r14, r15, r16, r17, r18, r19, r20, r21, r22, r23, r24⟩ := O
    have e1' : r9 = ((ftX oC oR nW cy ls kO cA clmK pcK d tr rws sw ss).1 : Int) := e1
    subst e1'
    rw [lf_p_e, lf_p_e, lf_p_e, lf_p_e, lf_p_e, lf_p_e, lf_p_e, lf_p_e, lf_p_e, lf_p_e, lf_p_e, lf_p_e, lf_p_e, lf_p_e, lf_p_e, lf_p_e, lf_p_e, lf_p_e, lf_p_e, lf_p_e, lf_p_e, lf_p_e, lf_p_e]
    exact wm_run (t := ftX oC oR nW cy ls kO cA clmK pcK d tr rws sw ss) hc hW hM.1 e4 c 14 0 (-1) 0 (Nat.zero_le _) (by omega) (fun _ => rfl) rfl (fun r => absurd rfl r)
  · rw [if_neg c, if_pos rfl]
    unfold wdA
    rw [if_neg (by omega), if_neg (by omega)]
end WM
