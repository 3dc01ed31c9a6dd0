/-! what stands of the street behind best, fits, watched -/
section WA
variable {nW nK : Nat} {oC oR oL : Option (List Int)} {s cy ls aw stm d ru gr hnx hct sd sru sgr sA ar pr cr we ha tkn ad aru agr akn rws cmp fnd frl fgr chs chl occ dwn fa pl sM awM isc und nwst rmM moc sdd tk ask red io lg gt icg sg qp ftm ftr ftg mf mp0 p0 p1 p2 p3 p4 : Int} {g clmK pcK kO cA comers code spans nmX tr rD rR rG facts stack str cars gaps known left leaves tab atr atd ats sw ss sec oct refu gM many bar kinds walkers cf ce codes now kept mrw mo refM asd isCar gapM isG isH crM wtM goM hmM prM ciM pile whn : Nat → Int} {rF : Nat → Nat → Int}
abbrev A23 : Type := Int × Int × Int × Int × Int × Int × Int × Int × Int × Int × Int × Int × Int × Int × (Nat → Int) × (Nat → Int) × (Nat → Int) × (Nat → Int) × (Nat → Int) × (Nat → Int) × (Nat → Int) × (Nat → Int) × (Nat → Int)
def q23 (oC oR : Option (List Int)) (nW nK : Nat) (cy ls : Int) (kO cA clmK pcK : Nat → Int) (O : A23) : Prop := sfH oC oR nW nK cy ls kO cA clmK pcK O.2.2.2.2.2.2.1 O.2.2.2.2.2.2.2.2.2.2.2.2.2.2.2.2.2.2.2.1 O.2.2.2.2.2.2.2.1 O.2.2.2.2.2.2.2.2.1 O.2.2.2.2.2.2.2.2.2.1 O.2.2.2.2.2.2.2.2.2.2.2.2.2.2.2.2.2.1 O.2.2.2.2.2.2.2.2.2.2.2.2.2.2.2.2.2.2.1 O.2.2.2.2.2.2.2.2.2.2.2.2.2.2.2.2.2.2.2.2.1 O.2.2.2.2.2.2.2.2.2.2.2.2.2.2.2.2.2.2.2.2.2.1 O.2.2.2.2.2.2.2.2.2.2.2.2.2.2.2.2.2.2.2.2.2.2 O.2.2.2.2.2.2.2.2.2.2.1 O.2.2.2.2.2.2.2.2.2.2.2.1 O.2.2.2.2.2.2.2.2.2.2.2.2.1 O.2.2.2.2.2.2.2.2.2.2.2.2.2.1
theorem co_48 {l2 : Int} {g : Nat} {K40 : Int → Int → Int → Int → Int → Int → Int → Int → Int → Int → Int → Int → Int → (Nat → Int) → (Nat → Int) → (Nat → Int) → (Nat → Int) → (Nat → Int) → (Nat → Int) → (Nat → Int) → (Nat → Int) → (Nat → Int) → A23} (hP : plH nW nK cy ls oC oR kO cA clmK pcK comers code spans ar) (hd : 0 ≤ d ∧ d ≤ 999) (ht : ∀ k, k < nK → 0 ≤ tr k ∧ tr k ≤ 9) (hg : g ≤ 60) (hK : ∀ (c6 c7 c8 sd sru sgr sA pr cr we ha : Int) (a3 facts stack cars gaps str known left leaves : Nat → Int), sfH oC oR nW nK cy ls kO cA clmK pcK sd str sru sgr sA cars gaps known left leaves pr cr we ha → q23 oC oR nW nK cy ls kO cA clmK pcK (K40 l2 ((g : Int) + (1 : Int)) c6 c7 c8 sd sru sgr sA pr cr we ha a3 facts stack cars gaps str known left leaves)) : ∀ (f r : Nat) (c6 c7 c8 sd sru sgr sA pr cr we ha : Int) (a3 facts stack cars gaps str known left leaves : Nat → Int), r ≤ 3 → 3 - r < f → sfH oC oR nW nK cy ls kO cA clmK pcK sd str sru sgr sA cars gaps known left leaves pr cr we ha → q23 oC oR nW nK cy ls kO cA clmK pcK (F_X8_compare_48 cy ls (nK : Int) clmK pcK (nW : Int) kO cA comers code spans ar sw ss rws d tr l2 (g : Int) K40 f (r : Int) c6 c7 c8 sd sru sgr sA pr cr we ha a3 facts stack cars gaps str known left leaves) := by
  intro f
  induction f with
  | zero => intro r c6 c7 c8 sd sru sgr sA pr cr we ha a3 facts stack cars gaps str known left leaves h1 h2; omega
  | succ f ih =>
    intro r c6 c7 c8 sd sru sgr sA pr cr we ha a3 facts stack cars gaps str known left leaves h1 h2 hS
    show q23 oC oR nW nK cy ls kO cA clmK pcK (F_X8_compare_48b cy ls (nK : Int) clmK pcK (nW : Int) kO cA comers code spans ar sw ss rws d tr l2 (g : Int) K40 (F_X8_compare_48 cy ls (nK : Int) clmK pcK (nW : Int) kO cA comers code spans ar sw ss rws d tr l2 (g : Int) K40 f) (r : Int) c6 c7 c8 sd sru sgr sA pr cr we ha a3 facts stack cars gaps str known left leaves)
    unfold F_X8_compare_48b F_X8_compare_137 F_X8_compare_140
    by_cases q : r = 3
    · rw [if_pos (by omega)]
      exact hK _ _ _ _ _ _ _ _ _ _ _ _ _ _ _ _ _ _ _ _ hS
    · obtain ⟨f2, s2, c2, g2, t2, k2, l2', v2, pr2, cr2, we2, ha2, e, e1, hsf, q2, q1⟩ := ly_x (facts := facts) (stack := stack) (p1 := (r : Int)) (p2 := (g : Int)) (p3 := 0) hP hS hd ht (by omega) (show 0 ≤ (g : Int) ∧ (g : Int) ≤ 60 from ⟨by omega, by omega⟩) rg_0
      rw [if_neg (by omega), e, lf_p_e, lf_p_e, lf_p_e, lf_p_e, lf_p_e, lf_p_e, lf_p_e, lf_p_e, lf_p_e, lf_p_e, lf_p_e, lf_p_e, lf_p_e, lf_p_e, lf_p_e, lf_b_e]
      by_cases y1 : F_X8_isSo v2 sw ss rws = 0
      · rw [if_pos y1]
        exact ih (r + 1) _ _ _ _ _ _ _ _ _ _ _ _ _ _ _ _ _ _ _ _ (by omega) (by omega) hsf
      · rw [if_neg y1]
        by_cases y2 : c8 = -1
        · rw [if_pos y2]
          exact ih (r + 1) _ _ _ _ _ _ _ _ _ _ _ _ _ _ _ _ _ _ _ _ (by omega) (by omega) hsf
        · rw [if_neg y2]
          exact ih (r + 1) _ _ _ _ _ _ _ _ _ _ _ _ _ _ _ _ _ _ _ _ (by omega) (by omega) hsf
theorem co_40 {m : Nat} (hP : plH nW nK cy ls oC oR kO cA clmK pcK comers code spans ar) (hd : 0 ≤ d ∧ d ≤ 999) (ht : ∀ k, k < nK → 0 ≤ tr k ∧ tr k ≤ 9) (hm : m ≤ 60) : ∀ (f g : Nat) (c6 c7 c8 sd sru sgr sA pr cr we ha : Int) (a3 facts stack cars gaps str known left leaves : Nat → Int), g ≤ m + 1 → m + 1 - g < f → sfH oC oR nW nK cy ls kO cA clmK pcK sd str sru sgr sA cars gaps known left leaves pr cr we ha → q23 oC oR nW nK cy ls kO cA clmK pcK (F_X8_compare_40 cy ls (nK : Int) clmK pcK (nW : Int) kO cA comers code spans ar sw ss rws d tr f (m : Int) (g : Int) c6 c7 c8 sd sru sgr sA pr cr we ha a3 facts stack cars gaps str known left leaves) := by
  intro f
  induction f with
  | zero => intro g c6 c7 c8 sd sru sgr sA pr cr we ha a3 facts stack cars gaps str known left leaves h1 h2; omega
  | succ f ih =>
    intro g c6 c7 c8 sd sru sgr sA pr cr we ha a3 facts stack cars gaps str known left leaves h1 h2 hS
    show q23 oC oR nW nK cy ls kO cA clmK pcK (F_X8_compare_40b cy ls (nK : Int) clmK pcK (nW : Int) kO cA comers code spans ar sw ss rws d tr (F_X8_compare_40 cy ls (nK : Int) clmK pcK (nW : Int) kO cA comers code spans ar sw ss rws d tr f) (m : Int) (g : Int) c6 c7 c8 sd sru sgr sA pr cr we ha a3 facts stack cars gaps str known left leaves)
    unfold F_X8_compare_40b
    by_cases q : g = m + 1
    · rw [if_pos (by omega)]
      generalize F_X8_choose (nW : Int) a3 c6 = R
      obtain ⟨r1, r2⟩ := R
      rw [lf_p_e]
      exact hS
    · rw [if_neg (by omega)]
      exact co_48 (K40 := F_X8_compare_40 cy ls (nK : Int) clmK pcK (nW : Int) kO cA comers code spans ar sw ss rws d tr f) hP hd ht (by omega) (fun c6 c7 c8 sd sru sgr sA pr cr we ha a3 facts stack cars gaps str known left leaves hS2 => ih (g + 1) c6 c7 c8 sd sru sgr sA pr cr we ha a3 facts stack cars gaps str known left leaves (by omega) (by omega) hS2) 5 0 _ _ _ _ _ _ _ _ _ _ _ _ _ _ _ _ _ _ _ _ (by decide) (by decide) hS
theorem co_x (hP : plH nW nK cy ls oC oR kO cA clmK pcK comers code spans ar) (hS : sfH oC oR nW nK cy ls kO cA clmK pcK sd str sru sgr sA cars gaps known left leaves pr cr we ha) (hB : stB nK d ru gr tr) : q23 oC oR nW nK cy ls kO cA clmK pcK (F_X8_compare facts stack cy ls (nK : Int) clmK pcK (nW : Int) kO cA comers code spans sd str sru sgr sA ar cars gaps known left leaves pr cr we ha sw ss rws cmp sec fnd frl fgr chs chl d tr) := by
  have hcy := hP.2.2.1
  unfold F_X8_compare
  by_cases q : cmp = 0
  · rw [if_pos q, lf_b_e]
    have hx := co_40 (sw := sw) (ss := ss) (rws := rws) (m := (min 20 (cy - 1)).toNat) hP hB.1 hB.2.2.2 (by omega) 22 1 0 0 (-1) sd sru sgr sA pr cr we ha sec facts stack cars gaps str known left leaves (by omega) (by omega) hS
    have em : F_X7_greensUpTo_a0_20 cy = (((min 20 (cy - 1)).toNat : Nat) : Int) := by
      show min 20 (cy - 1) = _
      omega
    rw [em]
    exact hx
  · rw [if_neg q]
    exact hS
theorem fi_c (hP : plH nW nK cy ls oC oR kO cA clmK pcK comers code spans ar) (hS : sfH oC oR nW nK cy ls kO cA clmK pcK sd str sru sgr sA cars gaps known left leaves pr cr we ha) (hB : stB nK d ru gr tr) : q23 oC oR nW nK cy ls kO cA clmK pcK (F_X9_fits cy ls (nK : Int) clmK pcK (nW : Int) kO cA comers code spans d tr facts stack sd str sru sgr sA ar cars gaps known left leaves pr cr we ha sw ss rws cmp sec fnd frl fgr chs chl p0).2 := by
  have hx := co_x (facts := facts) (stack := stack) (sw := sw) (ss := ss) (rws := rws) (cmp := cmp) (sec := sec) (fnd := fnd) (frl := frl) (fgr := fgr) (chs := chs) (chl := chl) hP hS hB
  unfold F_X9_fits
  rw [st_1x hP.2.2.1.1, lf_b_e, if_neg (show ¬ (1 : Int) = 0 from by decide)]
  generalize F_X8_compare facts stack cy ls (nK : Int) clmK pcK (nW : Int) kO cA comers code spans sd str sru sgr sA ar cars gaps known left leaves pr cr we ha sw ss rws cmp sec fnd frl fgr chs chl d tr = R at hx ⊢
  obtain ⟨r1, r2, r3, r4, r5, r6, r7, r8, r9, r10, r11, r12, r13, r14, r15, r16, r17, r18, r19, r20, r21, r22, r23⟩ := R
  rw [lf_p_e, lf_p_e, lf_p_e, lf_p_e, lf_p_e, lf_p_e, lf_p_e, lf_p_e, lf_p_e, lf_p_e, lf_p_e, lf_p_e, lf_p_e, lf_p_e, lf_p_e, lf_p_e, lf_p_e, lf_p_e, lf_p_e, lf_p_e, lf_p_e, lf_p_e]
  by_cases c0 : p0 = 0
  · rw [if_pos c0]
    exact hx
  rw [if_neg c0]
  by_cases c1 : p0 = 1
  · rw [if_pos c1]
    exact hx
  rw [if_neg c1]
  by_cases c2 : p0 = 2
  · rw [if_pos c2]
    exact hx
  rw [if_neg c2]
  exact hx
theorem wd_c (hP : plH nW nK cy ls oC oR kO cA clmK pcK comers code spans ar) (hS : sfH oC oR nW nK cy ls kO cA clmK pcK sd str sru sgr sA cars gaps known left leaves pr cr we ha) (hB : stB nK d ru gr tr) : q23 oC oR nW nK cy ls kO cA clmK pcK (F_X9_watched cy ls (nK : Int) clmK pcK (nW : Int) kO cA comers code spans d tr facts stack sd str sru sgr sA ar cars gaps known left leaves pr cr we ha sw ss rws cmp sec fnd frl fgr chs chl p0).2 := by
  have hx := co_x (facts := facts) (stack := stack) (sw := sw) (ss := ss) (rws := rws) (cmp := cmp) (sec := sec) (fnd := fnd) (frl := frl) (fgr := fgr) (chs := chs) (chl := chl) hP hS hB
  unfold F_X9_watched
  rw [st_1x hP.2.2.1.1, lf_b_e, if_neg (show ¬ (1 : Int) = 0 from by decide)]
  generalize F_X8_compare facts stack cy ls (nK : Int) clmK pcK (nW : Int) kO cA comers code spans sd str sru sgr sA ar cars gaps known left leaves pr cr we ha sw ss rws cmp sec fnd frl fgr chs chl d tr = R at hx ⊢
  obtain ⟨r1, r2, r3, r4, r5, r6, r7, r8, r9, r10, r11, r12, r13, r14, r15, r16, r17, r18, r19, r20, r21, r22, r23⟩ := R
  rw [lf_p_e, lf_p_e, lf_p_e, lf_p_e, lf_p_e, lf_p_e, lf_p_e, lf_p_e, lf_p_e, lf_p_e, lf_p_e, lf_p_e, lf_p_e, lf_p_e, lf_p_e, lf_p_e, lf_p_e, lf_p_e, lf_p_e, lf_p_e, lf_p_e, lf_p_e]
  by_cases c0 : p0 = 0
  · rw [if_pos c0]
    exact hx
  rw [if_neg c0]
  by_cases c1 : p0 = 1
  · rw [if_pos c1]
    exact hx
  rw [if_neg c1]
  exact hx
/-- best -/
abbrev B19 : Type := Int × Int × (Nat → Int) × S16
theorem be_39 {l4 : Int} {g : Nat} {K29 : Int → (Nat → Int) → Int → Int → Int → Int → Int → Int → Int → Int → Int → (Nat → Int) → (Nat → Int) → (Nat → Int) → (Nat → Int) → (Nat → Int) → (Nat → Int) → (Nat → Int) → (Nat → Int) → B19} (hP : plH nW nK cy ls oC oR kO cA clmK pcK comers code spans ar) (hd : 0 ≤ d ∧ d ≤ 999) (ht : ∀ k, k < nK → 0 ≤ tr k ∧ tr k ≤ 9) (hg : g ≤ 60) (hK : ∀ (sd sru sgr sA pr cr we ha : Int) (a1 facts stack cars gaps str known left leaves : Nat → Int), sfH oC oR nW nK cy ls kO cA clmK pcK sd str sru sgr sA cars gaps known left leaves pr cr we ha → sfS oC oR nW nK cy ls kO cA clmK pcK (K29 l4 a1 ((g : Int) + (1 : Int)) sd sru sgr sA pr cr we ha facts stack cars gaps str known left leaves).2.2.2) : ∀ (f r : Nat) (sd sru sgr sA pr cr we ha : Int) (a1 facts stack cars gaps str known left leaves : Nat → Int), r ≤ 3 → 3 - r < f → sfH oC oR nW nK cy ls kO cA clmK pcK sd str sru sgr sA cars gaps known left leaves pr cr we ha → sfS oC oR nW nK cy ls kO cA clmK pcK (F_X1_bestOf_39 cy ls (nK : Int) clmK pcK (nW : Int) kO cA comers code spans ar d tr l4 (g : Int) K29 f (r : Int) sd sru sgr sA pr cr we ha a1 facts stack cars gaps str known left leaves).2.2.2 := by
  intro f
  induction f with
  | zero => intro r sd sru sgr sA pr cr we ha a1 facts stack cars gaps str known left leaves h1 h2; omega
  | succ f ih =>
    intro r sd sru sgr sA pr cr we ha a1 facts stack cars gaps str known left leaves h1 h2 hS
    show sfS oC oR nW nK cy ls kO cA clmK pcK (F_X1_bestOf_39b cy ls (nK : Int) clmK pcK (nW : Int) kO cA comers code spans ar d tr l4 (g : Int) K29 (F_X1_bestOf_39 cy ls (nK : Int) clmK pcK (nW : Int) kO cA comers code spans ar d tr l4 (g : Int) K29 f) (r : Int) sd sru sgr sA pr cr we ha a1 facts stack cars gaps str known left leaves).2.2.2
    unfold F_X1_bestOf_39b
    by_cases q : r = 3
    · rw [if_pos (by omega)]
      exact hK _ _ _ _ _ _ _ _ _ _ _ _ _ _ _ _ _ hS
    · obtain ⟨f2, s2, c2, g2, t2, k2, l2', v2, pr2, cr2, we2, ha2, e, e1, hsf, q2, q1⟩ := ly_x (facts := facts) (stack := stack) (p1 := (r : Int)) (p2 := (g : Int)) (p3 := 0) hP hS hd ht (by omega) (show 0 ≤ (g : Int) ∧ (g : Int) ≤ 60 from ⟨by omega, by omega⟩) rg_0
      rw [if_neg (by omega), e, lf_p_e, lf_p_e, lf_p_e, lf_p_e, lf_p_e, lf_p_e, lf_p_e, lf_p_e, lf_p_e, lf_p_e, lf_p_e, lf_p_e, lf_p_e, lf_p_e, lf_p_e, lf_b_e]
      exact ih (r + 1) _ _ _ _ _ _ _ _ _ _ _ _ _ _ _ _ _ (by omega) (by omega) hsf
theorem be_29 {m : Nat} (hP : plH nW nK cy ls oC oR kO cA clmK pcK comers code spans ar) (hd : 0 ≤ d ∧ d ≤ 999) (ht : ∀ k, k < nK → 0 ≤ tr k ∧ tr k ≤ 9) (hm : m ≤ 60) : ∀ (f g : Nat) (sd sru sgr sA pr cr we ha : Int) (a1 facts stack cars gaps str known left leaves : Nat → Int), g ≤ m + 1 → m + 1 - g < f → sfH oC oR nW nK cy ls kO cA clmK pcK sd str sru sgr sA cars gaps known left leaves pr cr we ha → sfS oC oR nW nK cy ls kO cA clmK pcK (F_X1_bestOf_29 cy ls (nK : Int) clmK pcK (nW : Int) kO cA comers code spans ar d tr p0 p1 f (m : Int) a1 (g : Int) sd sru sgr sA pr cr we ha facts stack cars gaps str known left leaves).2.2.2 := by
  intro f
  induction f with
  | zero => intro g sd sru sgr sA pr cr we ha a1 facts stack cars gaps str known left leaves h1 h2; omega
  | succ f ih =>
    intro g sd sru sgr sA pr cr we ha a1 facts stack cars gaps str known left leaves h1 h2 hS
    show sfS oC oR nW nK cy ls kO cA clmK pcK (F_X1_bestOf_29b cy ls (nK : Int) clmK pcK (nW : Int) kO cA comers code spans ar d tr p0 p1 (F_X1_bestOf_29 cy ls (nK : Int) clmK pcK (nW : Int) kO cA comers code spans ar d tr p0 p1 f) (m : Int) a1 (g : Int) sd sru sgr sA pr cr we ha facts stack cars gaps str known left leaves).2.2.2
    unfold F_X1_bestOf_29b F_X1_bestOf_83
    by_cases q : g = m + 1
    · rw [if_pos (by omega)]
      exact hS
    · rw [if_neg (by omega)]
      exact be_39 (K29 := F_X1_bestOf_29 cy ls (nK : Int) clmK pcK (nW : Int) kO cA comers code spans ar d tr p0 p1 f) hP hd ht (by omega) (fun sd sru sgr sA pr cr we ha a1 facts stack cars gaps str known left leaves hS2 => ih (g + 1) sd sru sgr sA pr cr we ha a1 facts stack cars gaps str known left leaves (by omega) (by omega) hS2) 5 0 _ _ _ _ _ _ _ _ _ _ _ _ _ _ _ _ _ (by decide) (by decide) hS
theorem be_c (hP : plH nW nK cy ls oC oR kO cA clmK pcK comers code spans ar) (hS : sfH oC oR nW nK cy ls kO cA clmK pcK sd str sru sgr sA cars gaps known left leaves pr cr we ha) (hB : stB nK d ru gr tr) : sfS oC oR nW nK cy ls kO cA clmK pcK (F_X9_best cy ls (nK : Int) clmK pcK (nW : Int) kO cA comers code spans d tr facts stack sd str sru sgr sA ar cars gaps known left leaves pr cr we ha tab tkn p0 p1).2.2.2 := by
  have hcy := hP.2.2.1
  have hx : sfS oC oR nW nK cy ls kO cA clmK pcK (F_X1_bestOf facts stack cy ls (nK : Int) clmK pcK (nW : Int) kO cA comers code spans sd str sru sgr sA ar cars gaps known left leaves pr cr we ha tab tkn d tr p0 p1).2.2.2 := by
    unfold F_X1_bestOf F_X1_bestOf_83
    by_cases q : tkn = 0
    · rw [if_pos q, lf_b_e]
      have hx := be_29 (p0 := p0) (p1 := p1) (m := (min 40 (cy - 1)).toNat) hP hB.1 hB.2.2.2 (by omega) 42 1 sd sru sgr sA pr cr we ha (lf_fl tab 39 (-1)) facts stack cars gaps str known left leaves (by omega) (by omega) hS
      have em : F_X7_greensUpTo_a0_40 cy = (((min 40 (cy - 1)).toNat : Nat) : Int) := by
        show min 40 (cy - 1) = _
        omega
      rw [em]
      exact hx
    · rw [if_neg q]
      exact hS
  unfold F_X9_best F_X9_best_26
  rw [st_1x hP.2.2.1.1, lf_b_e, if_neg (show ¬ (1 : Int) = 0 from by decide)]
  by_cases c0 : p0 < 0
  · rw [if_pos c0]
    exact hS
  rw [if_neg c0]
  by_cases c1 : 12 < p0
  · rw [if_pos c1]
    exact hS
  rw [if_neg c1]
  by_cases c2 : p1 < 0
  · rw [if_pos c2]
    exact hS
  rw [if_neg c2]
  by_cases c3 : ¬ p1 ≤ 2
  · rw [if_neg c3]
    exact hS
  rw [if_pos (Decidable.not_not.mp c3)]
  generalize F_X1_bestOf facts stack cy ls (nK : Int) clmK pcK (nW : Int) kO cA comers code spans sd str sru sgr sA ar cars gaps known left leaves pr cr we ha tab tkn d tr p0 p1 = R at hx ⊢
  exact hx
end WA
