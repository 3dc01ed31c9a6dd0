section
/-! 9k -/
/-! best, on both sides -/
def bst (W H : Nat → Nat → Int) (h : Int) (r g : Nat) (t : Int × Int × Int) : Int × Int × Int := if h < H r g then t else if t.1 = -1 ∨ W r g < t.2.2 then ((r : Int), (g : Int), W r g) else t
def bsR (W H : Nat → Nat → Int) (h : Int) (g : Nat) : Nat → Int × Int × Int → Int × Int × Int
  | 0, t => t
  | r + 1, t => bst W H h r g (bsR W H h g r t)
def bsG (W H : Nat → Nat → Int) (h : Int) : Nat → Int × Int × Int
  | 0 => (-1, -1, -1)
  | g + 1 => bsR W H h (g + 1) 3 (bsG W H h g)
/-- a row holds -/
def bsV (t : Int × Int × Int) : Prop := (t.1 = -1 ∧ t.2.2 = -1) ∨ (0 ≤ t.1 ∧ 0 ≤ t.2.2)
theorem bsV_st {W H : Nat → Nat → Int} {h : Int} {r g : Nat} {t : Int × Int × Int} (hW : 0 ≤ W r g) (ht : bsV t) : bsV (bst W H h r g t) := by
  unfold bst
  by_cases c : h < H r g
  · rw [if_pos c]
    exact ht
  · rw [if_neg c]
    by_cases c2 : t.1 = -1 ∨ W r g < t.2.2
    · rw [if_pos c2]
      exact Or.inr ⟨Int.natCast_nonneg r, hW⟩
    · rw [if_neg c2]
      exact ht
theorem bsV_R {W H : Nat → Nat → Int} {h : Int} {g : Nat} {t : Int × Int × Int} (hW : ∀ r g, 0 ≤ W r g) (ht : bsV t) : ∀ r, bsV (bsR W H h g r t)
  | 0 => ht
  | r + 1 => bsV_st (hW r g) (bsV_R hW ht r)
theorem bsV_G {W H : Nat → Nat → Int} {h : Int} (hW : ∀ r g, 0 ≤ W r g) : ∀ g, bsV (bsG W H h g)
  | 0 => Or.inl ⟨rfl, rfl⟩
  | g + 1 => bsV_R hW (bsV_G hW g) 3
section BE
variable {nW nK : Nat} {oC oR oL : Option (List Int)} {s cy ls aw stm d ru gr hnx hct sd sru sgr sA ar pr cr we ha tkn ad aru agr akn rws cmp fnd frl fgr chs chl occ dwn fa pl sM awM isc und nwst rmM moc sdd tk ask red io lg gt icg sg qp ftm ftr ftg mf mp0 p0 p1 p2 p3 p4 : Int} {g clmK pcK kO cA comers code spans nmX tr rD rR rG facts stack str cars gaps known left leaves tab atr atd ats sw ss sec oct refu gM many bar kinds walkers cf ce codes now kept mrw mo refM asd isCar gapM isG isH crM wtM goM hmM prM ciM pile whn : Nat → Int} {rF : Nat → Nat → Int}
noncomputable def tdD (oC oR : Option (List Int)) (nW : Nat) (cy ls : Int) (kO cA clmK pcK : Nat → Int) (d : Int) (tr : Nat → Int) (what : Int) (r g : Nat) : Int := tdS nW cA (twf nW kO tr) (abf 0) cy ls (r : Int) (g : Int) (weS oC oR nW cy ls kO cA clmK pcK d tr (r : Int) (g : Int) 0) what
/-- the table's rows -/
def tbO (tab : Nat → Int) (T : Nat → Int × Int × Int) : Prop := ∀ j : Nat, j ≤ 12 → tab (3 * j) = (T j).1 ∧ tab (3 * j + 1) = (T j).2.1 ∧ tab (3 * j + 2) = (T j).2.2
theorem td_0b (hP : plH nW nK cy ls oC oR kO cA clmK pcK comers code spans ar) (r g : Nat) : 0 ≤ tdD oC oR nW cy ls kO cA clmK pcK d tr 0 r g ∧ tdD oC oR nW cy ls kO cA clmK pcK d tr 0 r g ≤ 3600 := by
  have hW := hP.1
  have hz := we_z (d := d) (tr := tr) (ru := (r : Int)) (gr := (g : Int)) (A := 0) hP
  have hb := snm_b (f := wt0 cA (abf 0) (weS oC oR nW cy ls kO cA clmK pcK d tr (r : Int) (g : Int) 0)) nW (wt0_b hz)
  have e : tdD oC oR nW cy ls kO cA clmK pcK d tr 0 r g = snm (wt0 cA (abf 0) (weS oC oR nW cy ls kO cA clmK pcK d tr (r : Int) (g : Int) 0)) nW := by
    unfold tdD tdS
    rw [if_pos rfl]
  rw [e]
  omega
theorem td_2b (hP : plH nW nK cy ls oC oR kO cA clmK pcK comers code spans ar) (r g : Nat) : 0 ≤ tdD oC oR nW cy ls kO cA clmK pcK d tr 2 r g ∧ tdD oC oR nW cy ls kO cA clmK pcK d tr 2 r g ≤ 12 := by
  have hW := hP.1
  have hb := cnf_le (fun w => decide ((weS oC oR nW cy ls kO cA clmK pcK d tr (r : Int) (g : Int) 0).2.1 w = 3)) nW
  have e : tdD oC oR nW cy ls kO cA clmK pcK d tr 2 r g = cnf (fun w => decide ((weS oC oR nW cy ls kO cA clmK pcK d tr (r : Int) (g : Int) 0).2.1 w = 3)) nW := by
    unfold tdD tdS
    rw [if_neg (by decide), if_neg (by decide), if_pos rfl]
  rw [e]
  omega
theorem en_run {w : Int} {r g : Nat} : ∀ (f h : Nat) (a : Nat → Int) (T : Nat → Int × Int × Int), h ≤ 13 → 13 - h < f → tbO a T → tbO (F_X1_enter_19 (r : Int) (g : Int) f w (h : Int) a) (fun j => if h ≤ j then (if (T j).1 = -1 ∨ w < (T j).2.2 then ((r : Int), (g : Int), w) else T j) else T j) := by
  intro f
  induction f with
  | zero => intro h a T h1 h2; omega
  | succ f ih =>
    intro h a T h1 h2 h3
    show tbO (F_X1_enter_19b (r : Int) (g : Int) (F_X1_enter_19 (r : Int) (g : Int) f) w (h : Int) a) _
    unfold F_X1_enter_19b F_X1_enter_56 F_X1_enter_84
    by_cases q : h = 13
    · rw [if_pos (by omega)]
      intro j hj
      dsimp only
      rw [if_neg (show ¬ h ≤ j from by omega)]
      exact h3 j hj
    · obtain ⟨x1, x2, x3⟩ := h3 h (by omega)
      rw [if_neg (by omega), show Int.toNat ((h : Int) * (3 : Int)) = 3 * h from by omega, show Int.toNat (((h : Int) * (3 : Int)) + (2 : Int)) = 3 * h + 2 from by omega, x1, x3]
      have go : ∀ (b : Nat → Int) (t : Int × Int × Int), tbO b (fun j => if j = h then t else T j) → (if (T h).1 = -1 ∨ w < (T h).2.2 then ((r : Int), (g : Int), w) else T h) = t → tbO (F_X1_enter_19 (r : Int) (g : Int) f w ((h : Int) + (1 : Int)) b) (fun j => if h ≤ j then (if (T j).1 = -1 ∨ w < (T j).2.2 then ((r : Int), (g : Int), w) else T j) else T j) := by
        intro b t hb ht
        have hx := ih (h + 1) b _ (by omega) (by omega) hb
        intro j hj
        have hy := hx j hj
        dsimp only at hy ⊢
        by_cases y : j = h
        · rw [if_neg (show ¬ h + 1 ≤ j from by omega), if_pos y] at hy
          rw [if_pos (show h ≤ j from by omega), y, ht]
          rw [y] at hy
          exact hy
        · by_cases z : h + 1 ≤ j
          · rw [if_pos z, if_neg y] at hy
            rw [if_pos (show h ≤ j from by omega)]
            exact hy
          · rw [if_neg z, if_neg y] at hy
            rw [if_neg (show ¬ h ≤ j from by omega)]
            exact hy
      have up : tbO (lf_up (lf_up (lf_up a ((h : Int) * (3 : Int)) (r : Int)) (((h : Int) * (3 : Int)) + (1 : Int)) (g : Int)) (((h : Int) * (3 : Int)) + (2 : Int)) w) (fun j => if j = h then ((r : Int), (g : Int), w) else T j) := by
        intro j hj
        dsimp only
        by_cases y : j = h
        · rw [if_pos y, lf_up_o (by omega), lf_up_o (by omega), lf_up_y (by omega), lf_up_o (by omega), lf_up_y (by omega), lf_up_y (by omega)]
          exact ⟨rfl, rfl, rfl⟩
        · rw [if_neg y, lf_up_o (by omega), lf_up_o (by omega), lf_up_o (by omega), lf_up_o (by omega), lf_up_o (by omega), lf_up_o (by omega), lf_up_o (by omega), lf_up_o (by omega), lf_up_o (by omega)]
          exact h3 j hj
      have st : tbO a (fun j => if j = h then T h else T j) := by
        intro j hj
        dsimp only
        by_cases y : j = h
        · rw [if_pos y, y]
          exact h3 h (by omega)
        · rw [if_neg y]
          exact h3 j hj
      by_cases c1 : (T h).1 = -1
      · rw [if_pos c1]
        exact go _ _ up (if_pos (Or.inl c1))
      · rw [if_neg c1]
        by_cases c2 : (T h).2.2 ≤ w
        · rw [if_pos c2]
          exact go _ _ st (if_neg (fun z => z.elim c1 (fun z => by omega)))
        · rw [if_neg c2]
          exact go _ _ up (if_pos (Or.inr (by omega)))
theorem en_x {r g : Nat} {T : Nat → Int × Int × Int} (hP : plH nW nK cy ls oC oR kO cA clmK pcK comers code spans ar) (hS : SFl oC oR nW cy ls kO cA clmK pcK d tr (r : Int) (g : Int) 0 left leaves pr cr we ha) (hT : tbO tab T) : tbO (F_X1_enter (nW : Int) cA (0 : Int) leaves ha tab (r : Int) (g : Int)) (fun j => bst (tdD oC oR nW cy ls kO cA clmK pcK d tr 0) (tdD oC oR nW cy ls kO cA clmK pcK d tr 2) (j : Int) r g (T j)) := by
  unfold F_X1_enter
  have e0 : F_X7_told_a0_0 (nW : Int) cA (0 : Int) leaves = tdD oC oR nW cy ls kO cA clmK pcK d tr 0 r g := tc_0 hP hS rg_0
  have e2 : F_X7_told_a0_2 ha = tdD oC oR nW cy ls kO cA clmK pcK d tr 2 r g := td_c2 (we_z hP) hP.1 hS.2.2.2.2.1
  obtain ⟨b1, b2'⟩ := td_2b (d := d) (tr := tr) hP r g
  rw [lf_b_e, lf_b_e, e0, e2]
  obtain ⟨n, hn⟩ := Int.eq_ofNat_of_zero_le b1
  have hx := en_run (w := tdD oC oR nW cy ls kO cA clmK pcK d tr 0 r g) (r := r) (g := g) 65 n tab T (by omega) (by omega) hT
  rw [hn]
  intro j hj
  have hy := hx j hj
  dsimp only at hy ⊢
  unfold bst
  rw [hn]
  by_cases q : n ≤ j
  · rw [if_pos q] at hy
    rw [if_neg (show ¬ (j : Int) < (n : Int) from by omega)]
    exact hy
  · rw [if_neg q] at hy
    rw [if_pos (show (j : Int) < (n : Int) from by omega)]
    exact hy
/-- what is kept of best -/
def chH (oC oR : Option (List Int)) (nW : Nat) (cy ls : Int) (kO cA clmK pcK : Nat → Int) (d : Int) (tr : Nat → Int) (tkn : Int) (tab : Nat → Int) : Prop := tkn = 0 ∨ tbO tab (fun j => bsG (tdD oC oR nW cy ls kO cA clmK pcK d tr 0) (tdD oC oR nW cy ls kO cA clmK pcK d tr 2) (j : Int) (min 40 (cy - 1)).toNat)
theorem ch_0 : chH oC oR nW cy ls kO cA clmK pcK d tr 0 tab := Or.inl rfl
def b19 (oC oR : Option (List Int)) (nW nK : Nat) (cy ls : Int) (kO cA clmK pcK : Nat → Int) (d : Int) (tr : Nat → Int) (m : Nat) (p q : Int) (O : B19) : Prop := O.1 = O.2.2.1 (Int.toNat ((p * (3 : Int)) + q)) ∧ O.2.1 = 1 ∧ tbO O.2.2.1 (fun j => bsG (tdD oC oR nW cy ls kO cA clmK pcK d tr 0) (tdD oC oR nW cy ls kO cA clmK pcK d tr 2) (j : Int) m) ∧ sfS oC oR nW nK cy ls kO cA clmK pcK O.2.2.2
theorem bt_39 {l4 : Int} {g : Nat} {C : B19 → Prop} {K29 : Int → (Nat → Int) → Int → Int → Int → Int → Int → Int → Int → Int → Int → (Nat → Int) → (Nat → Int) → (Nat → Int) → (Nat → Int) → (Nat → Int) → (Nat → Int) → (Nat → Int) → (Nat → Int) → B19} {T : Nat → Int × Int × Int} (hP : plH nW nK cy ls oC oR kO cA clmK pcK comers code spans ar) (hd : 0 ≤ d ∧ d ≤ 999) (ht : ∀ k, k < nK → 0 ≤ tr k ∧ tr k ≤ 9) (hg : g ≤ 60) (hK : ∀ (sd sru sgr sA pr cr we ha : Int) (a1 facts stack cars gaps str known left leaves : Nat → Int), tbO a1 (fun j => bsR (tdD oC oR nW cy ls kO cA clmK pcK d tr 0) (tdD oC oR nW cy ls kO cA clmK pcK d tr 2) (j : Int) g 3 (T j)) → sfH oC oR nW nK cy ls kO cA clmK pcK sd str sru sgr sA cars gaps known left leaves pr cr we ha → C (K29 l4 a1 ((g : Int) + (1 : Int)) sd sru sgr sA pr cr we ha facts stack cars gaps str known left leaves)) : ∀ (f r : Nat) (sd sru sgr sA pr cr we ha : Int) (a1 facts stack cars gaps str known left leaves : Nat → Int), r ≤ 3 → 3 - r < f → tbO a1 (fun j => bsR (tdD oC oR nW cy ls kO cA clmK pcK d tr 0) (tdD oC oR nW cy ls kO cA clmK pcK d tr 2) (j : Int) g r (T j)) → sfH oC oR nW nK cy ls kO cA clmK pcK sd str sru sgr sA cars gaps known left leaves pr cr we ha → C (F_X1_bestOf_39 cy ls (nK : Int) clmK pcK (nW : Int) kO cA comers code spans ar d tr l4 (g : Int) K29 f (r : Int) sd sru sgr sA pr cr we ha a1 facts stack cars gaps str known left leaves) := by
  intro f
  induction f with
  | zero => intro r sd sru sgr sA pr cr we ha a1 facts stack cars gaps str known left leaves h1 h2; omega
  | succ f ih =>
    intro r sd sru sgr sA pr cr we ha a1 facts stack cars gaps str known left leaves h1 h2 hT hS
    show C (F_X1_bestOf_39b cy ls (nK : Int) clmK pcK (nW : Int) kO cA comers code spans ar d tr l4 (g : Int) K29 (F_X1_bestOf_39 cy ls (nK : Int) clmK pcK (nW : Int) kO cA comers code spans ar d tr l4 (g : Int) K29 f) (r : Int) sd sru sgr sA pr cr we ha a1 facts stack cars gaps str known left leaves)
    unfold F_X1_bestOf_39b
    by_cases q : r = 3
    · rw [if_pos (by omega)]
      subst q
      exact hK _ _ _ _ _ _ _ _ _ _ _ _ _ _ _ _ _ hT hS
    · obtain ⟨f2, s2, c2, g2, t2, k2, l2', v2, pr2, cr2, we2, ha2, e, e1, hsf, q2, q1⟩ := ly_x (facts := facts) (stack := stack) (p1 := (r : Int)) (p2 := (g : Int)) (p3 := 0) hP hS hd ht (by omega) (show 0 ≤ (g : Int) ∧ (g : Int) ≤ 60 from ⟨by omega, by omega⟩) rg_0
      rw [if_neg (by omega), e, lf_p_e, lf_p_e, lf_p_e, lf_p_e, lf_p_e, lf_p_e, lf_p_e, lf_p_e, lf_p_e, lf_p_e, lf_p_e, lf_p_e, lf_p_e, lf_p_e, lf_p_e, lf_b_e]
      exact ih (r + 1) _ _ _ _ _ _ _ _ _ _ _ _ _ _ _ _ _ (by omega) (by omega) (en_x hP q2 hT) hsf
theorem bt_29 {m : Nat} (hP : plH nW nK cy ls oC oR kO cA clmK pcK comers code spans ar) (hd : 0 ≤ d ∧ d ≤ 999) (ht : ∀ k, k < nK → 0 ≤ tr k ∧ tr k ≤ 9) (hm : m ≤ 60) : ∀ (f g : Nat) (sd sru sgr sA pr cr we ha : Int) (a1 facts stack cars gaps str known left leaves : Nat → Int), g ≤ m → m - g < f → tbO a1 (fun j => bsG (tdD oC oR nW cy ls kO cA clmK pcK d tr 0) (tdD oC oR nW cy ls kO cA clmK pcK d tr 2) (j : Int) g) → sfH oC oR nW nK cy ls kO cA clmK pcK sd str sru sgr sA cars gaps known left leaves pr cr we ha → b19 oC oR nW nK cy ls kO cA clmK pcK d tr m p0 p1 (F_X1_bestOf_29 cy ls (nK : Int) clmK pcK (nW : Int) kO cA comers code spans ar d tr p0 p1 f (m : Int) a1 ((g + 1 : Nat) : Int) sd sru sgr sA pr cr we ha facts stack cars gaps str known left leaves) := by
  intro f
  induction f with
  | zero => intro g sd sru sgr sA pr cr we ha a1 facts stack cars gaps str known left leaves h1 h2; omega
  | succ f ih =>
    intro g sd sru sgr sA pr cr we ha a1 facts stack cars gaps str known left leaves h1 h2 hT hS
    show b19 oC oR nW nK cy ls kO cA clmK pcK d tr m p0 p1 (F_X1_bestOf_29b cy ls (nK : Int) clmK pcK (nW : Int) kO cA comers code spans ar d tr p0 p1 (F_X1_bestOf_29 cy ls (nK : Int) clmK pcK (nW : Int) kO cA comers code spans ar d tr p0 p1 f) (m : Int) a1 ((g + 1 : Nat) : Int) sd sru sgr sA pr cr we ha facts stack cars gaps str known left leaves)
    unfold F_X1_bestOf_29b F_X1_bestOf_83
    by_cases q : g = m
    · rw [if_pos (by omega)]
      subst q
      exact ⟨rfl, rfl, hT, hS⟩
    · rw [if_neg (by omega)]
      exact bt_39 (C := b19 oC oR nW nK cy ls kO cA clmK pcK d tr m p0 p1) (g := g + 1) (T := fun j => bsG (tdD oC oR nW cy ls kO cA clmK pcK d tr 0) (tdD oC oR nW cy ls kO cA clmK pcK d tr 2) (j : Int) g) (K29 := F_X1_bestOf_29 cy ls (nK : Int) clmK pcK (nW : Int) kO cA comers code spans ar d tr p0 p1 f) hP hd ht (by omega) (fun sd sru sgr sA pr cr we ha a1 facts stack cars gaps str known left leaves hT2 hS2 => ih (g + 1) sd sru sgr sA pr cr we ha a1 facts stack cars gaps str known left leaves (by omega) (by omega) hT2 hS2) 5 0 _ _ _ _ _ _ _ _ _ _ _ _ _ _ _ _ _ (by decide) (by decide) hT hS
noncomputable def beA (oC oR : Option (List Int)) (nW : Nat) (cy ls : Int) (kO cA clmK pcK : Nat → Int) (d : Int) (tr : Nat → Int) (p q : Int) : Int := if (0 ≤ p ∧ p ≤ 12) ∧ 0 ≤ q ∧ q ≤ 2 then (if q = 0 then (bsG (tdD oC oR nW cy ls kO cA clmK pcK d tr 0) (tdD oC oR nW cy ls kO cA clmK pcK d tr 2) p (min 40 (cy - 1)).toNat).1 else if q = 1 then (bsG (tdD oC oR nW cy ls kO cA clmK pcK d tr 0) (tdD oC oR nW cy ls kO cA clmK pcK d tr 2) p (min 40 (cy - 1)).toNat).2.1 else (bsG (tdD oC oR nW cy ls kO cA clmK pcK d tr 0) (tdD oC oR nW cy ls kO cA clmK pcK d tr 2) p (min 40 (cy - 1)).toNat).2.2) else -1
theorem tb_at {tb : Nat → Int} {p q : Int} (h : tbO tb (fun j => bsG (tdD oC oR nW cy ls kO cA clmK pcK d tr 0) (tdD oC oR nW cy ls kO cA clmK pcK d tr 2) (j : Int) (min 40 (cy - 1)).toNat)) (hp : (0 ≤ p ∧ p ≤ 12) ∧ 0 ≤ q ∧ q ≤ 2) : tb (Int.toNat ((p * (3 : Int)) + q)) = beA oC oR nW cy ls kO cA clmK pcK d tr p q := by
  unfold beA
  rw [if_pos hp]
  obtain ⟨n, rfl⟩ := Int.eq_ofNat_of_zero_le hp.1.1
  obtain ⟨x1, x2, x3⟩ := h n (by omega)
  dsimp only at x1 x2 x3
  by_cases c0 : q = 0
  · rw [if_pos c0, show Int.toNat (((n : Int) * (3 : Int)) + q) = 3 * n from by omega, x1]
  rw [if_neg c0]
  by_cases c1 : q = 1
  · rw [if_pos c1, show Int.toNat (((n : Int) * (3 : Int)) + q) = 3 * n + 1 from by omega, x2]
  rw [if_neg c1, show Int.toNat (((n : Int) * (3 : Int)) + q) = 3 * n + 2 from by omega, x3]
theorem be_cx (hP : plH nW nK cy ls oC oR kO cA clmK pcK comers code spans ar) (hS : sfH oC oR nW nK cy ls kO cA clmK pcK sd str sru sgr sA cars gaps known left leaves pr cr we ha) (hB : stB nK d ru gr tr) (hC : chH oC oR nW cy ls kO cA clmK pcK d tr tkn tab) : (F_X9_best cy ls (nK : Int) clmK pcK (nW : Int) kO cA comers code spans d tr facts stack sd str sru sgr sA ar cars gaps known left leaves pr cr we ha tab tkn p0 p1).1 = beA oC oR nW cy ls kO cA clmK pcK d tr p0 p1 ∧ chH oC oR nW cy ls kO cA clmK pcK d tr (F_X9_best cy ls (nK : Int) clmK pcK (nW : Int) kO cA comers code spans d tr facts stack sd str sru sgr sA ar cars gaps known left leaves pr cr we ha tab tkn p0 p1).2.1 (F_X9_best cy ls (nK : Int) clmK pcK (nW : Int) kO cA comers code spans d tr facts stack sd str sru sgr sA ar cars gaps known left leaves pr cr we ha tab tkn p0 p1).2.2.1 ∧ sfS oC oR nW nK cy ls kO cA clmK pcK (F_X9_best cy ls (nK : Int) clmK pcK (nW : Int) kO cA comers code spans d tr facts stack sd str sru sgr sA ar cars gaps known left leaves pr cr we ha tab tkn p0 p1).2.2.2 := by
  have hcy := hP.2.2.1
  have hx : (F_X1_bestOf facts stack cy ls (nK : Int) clmK pcK (nW : Int) kO cA comers code spans sd str sru sgr sA ar cars gaps known left leaves pr cr we ha tab tkn d tr p0 p1).1 = (F_X1_bestOf facts stack cy ls (nK : Int) clmK pcK (nW : Int) kO cA comers code spans sd str sru sgr sA ar cars gaps known left leaves pr cr we ha tab tkn d tr p0 p1).2.2.1 (Int.toNat ((p0 * (3 : Int)) + p1)) ∧ tbO (F_X1_bestOf facts stack cy ls (nK : Int) clmK pcK (nW : Int) kO cA comers code spans sd str sru sgr sA ar cars gaps known left leaves pr cr we ha tab tkn d tr p0 p1).2.2.1 (fun j => bsG (tdD oC oR nW cy ls kO cA clmK pcK d tr 0) (tdD oC oR nW cy ls kO cA clmK pcK d tr 2) (j : Int) (min 40 (cy - 1)).toNat) ∧ sfS oC oR nW nK cy ls kO cA clmK pcK (F_X1_bestOf facts stack cy ls (nK : Int) clmK pcK (nW : Int) kO cA comers code spans sd str sru sgr sA ar cars gaps known left leaves pr cr we ha tab tkn d tr p0 p1).2.2.2 := by
    unfold F_X1_bestOf F_X1_bestOf_83
    by_cases q : tkn = 0
    · rw [if_pos q, lf_b_e]
      have hx := bt_29 (p0 := p0) (p1 := p1) (m := (min 40 (cy - 1)).toNat) hP hB.1 hB.2.2.2 (by omega) 42 0 sd sru sgr sA pr cr we ha (lf_fl tab 39 (-1)) facts stack cars gaps str known left leaves (Nat.zero_le _) (by omega) (fun j hj => by
        have key : ∀ i, i < 39 → lf_fl tab 39 (-1) i = -1 := fun i hi => if_pos hi
        rw [key _ (by omega), key _ (by omega), key _ (by omega)]
        exact ⟨rfl, rfl, rfl⟩) hS
      have em : F_X7_greensUpTo_a0_40 cy = (((min 40 (cy - 1)).toNat : Nat) : Int) := by
        show min 40 (cy - 1) = _
        omega
      rw [em]
      exact ⟨hx.1, hx.2.2.1, hx.2.2.2⟩
    · rw [if_neg q]
      rcases hC with r | r
      · exact absurd r q
      · exact ⟨rfl, r, hS⟩
  unfold F_X9_best F_X9_best_26
  rw [st_1x hP.2.2.1.1, lf_b_e, if_neg (show ¬ (1 : Int) = 0 from by decide)]
  by_cases c0 : p0 < 0
  · rw [if_pos c0]
    exact ⟨(if_neg (by omega)).symm, hC, hS⟩
  rw [if_neg c0]
  by_cases c1 : 12 < p0
  · rw [if_pos c1]
    exact ⟨(if_neg (by omega)).symm, hC, hS⟩
  rw [if_neg c1]
  by_cases c2 : p1 < 0
  · rw [if_pos c2]
    exact ⟨(if_neg (by omega)).symm, hC, hS⟩
  rw [if_neg c2]
  by_cases c3 : ¬ p1 ≤ 2
  · rw [if_neg c3]
    exact ⟨(if_neg (by omega)).symm, hC, hS⟩
  have c3' := Decidable.not_not.mp c3
  rw [if_pos c3']
  generalize F_X1_bestOf facts stack cy ls (nK : Int) clmK pcK (nW : Int) kO cA comers code spans sd str sru sgr sA ar cars gaps known left leaves pr cr we ha tab tkn d tr p0 p1 = R at hx ⊢
  obtain ⟨h1, h2, h3⟩ := hx
  exact ⟨h1.trans (tb_at h2 ⟨⟨by omega, by omega⟩, by omega, c3'⟩), Or.inr h2, h3⟩
/-- the model's -/
abbrev M21 : Type := Int × Int × Int × Int × Int × Int × Int × Int × Int × Int × (Nat → Int) × (Nat → Int) × (Nat → Int) × (Nat → Int) × (Nat → Int) × (Nat → Int) × (Nat → Int) × (Nat → Int) × (Nat → Int) × (Nat → Int) × (Nat → Int)
theorem gl_40 {x : Int} : F_X10_isGreenLong_a1_40 bar x = b2 (decide (1 ≤ x ∧ x ≤ 40 ∧ x < bar 4)) := by
  unfold F_X10_isGreenLong_a1_40 F_X10_isGreenLong_a1_40_25 lf_isin
  by_cases q : 1 ≤ x ∧ x ≤ 40 ∧ x < bar 4
  · rw [if_pos (show 1 ≤ x ∧ x ≤ 40 from ⟨q.1, q.2.1⟩), if_neg (show ¬ (1 : Int) = 0 from by decide), if_neg (by omega), decide_eq_true q]
    rfl
  · rw [decide_eq_false q]
    by_cases q1 : 1 ≤ x ∧ x ≤ 40
    · rw [if_pos q1, if_neg (show ¬ (1 : Int) = 0 from by decide), if_pos (by omega)]
      rfl
    · rw [if_neg q1, if_pos rfl]
      rfl
theorem bm_62 {C : M21 → Prop} {g : Nat} {t0 : Int × Int × Int} {a10 a13 : Nat → Int} {K48 : Int → Int → Int → (Nat → Int) → (Nat → Int) → (Nat → Int) → Int → Int → Int → Int → Int → Int → Int → Int → Int → Int → (Nat → Int) → (Nat → Int) → (Nat → Int) → (Nat → Int) → (Nat → Int) → (Nat → Int) → (Nat → Int) → (Nat → Int) → M21} (hP : plH nW nK cy ls oC oR kO cA clmK pcK comers code spans ar) (h : mdH nW nK cy ls d oC oR oL kO cA clmK pcK many bar kinds walkers cf ce codes now a10 tr) (hg : 1 ≤ g ∧ g ≤ 60) (ht0 : bsV t0) (hK : ∀ (c55 c58 c117 c59 c70 c71 c72 c73 c74 : Int) (a3 a8 a11 a12 a14 a15 a16 a17 a19 : Nat → Int), C (K48 c55 c58 c117 a3 a10 a13 (bsR (tdD oC oR nW cy ls kO cA clmK pcK d tr 0) (tdD oC oR nW cy ls kO cA clmK pcK d tr 2) p0 g 3 t0).1 (bsR (tdD oC oR nW cy ls kO cA clmK pcK d tr 0) (tdD oC oR nW cy ls kO cA clmK pcK d tr 2) p0 g 3 t0).2.1 (bsR (tdD oC oR nW cy ls kO cA clmK pcK d tr 0) (tdD oC oR nW cy ls kO cA clmK pcK d tr 2) p0 g 3 t0).2.2 ((g : Int) + (1 : Int)) c59 c70 c71 c72 c73 c74 a8 a11 a12 a14 a15 a16 a17 a19)) : ∀ (f r : Nat) (t : Int × Int × Int) (c55 c58 c59 c70 c71 c72 c73 c74 c117 : Int) (a3 a8 a11 a12 a14 a15 a16 a17 a19 : Nat → Int), r ≤ 3 → 3 - r < f → t = bsR (tdD oC oR nW cy ls kO cA clmK pcK d tr 0) (tdD oC oR nW cy ls kO cA clmK pcK d tr 2) p0 g r t0 → C (F_X10_best_62 many bar kinds walkers cf ce codes now p0 a10 a13 (g : Int) K48 f t.1 t.2.1 t.2.2 (r : Int) c55 c58 c59 c70 c71 c72 c73 c74 c117 a3 a8 a11 a12 a14 a15 a16 a17 a19) := by
  intro f
  induction f with
  | zero => intro r t c55 c58 c59 c70 c71 c72 c73 c74 c117 a3 a8 a11 a12 a14 a15 a16 a17 a19 h1 h2; omega
  | succ f ih =>
    intro r t c55 c58 c59 c70 c71 c72 c73 c74 c117 a3 a8 a11 a12 a14 a15 a16 a17 a19 h1 h2 ht
    show C (F_X10_best_62b many bar kinds walkers cf ce codes now p0 a10 a13 (g : Int) K48 (F_X10_best_62 many bar kinds walkers cf ce codes now p0 a10 a13 (g : Int) K48 f) t.1 t.2.1 t.2.2 (r : Int) c55 c58 c59 c70 c71 c72 c73 c74 c117 a3 a8 a11 a12 a14 a15 a16 a17 a19)
    unfold F_X10_best_62b F_X10_best_109 F_X10_best_120
    by_cases q : r = 3
    · rw [if_pos (by omega), ht, q]
      exact hK _ _ _ _ _ _ _ _ _ _ _ _ _ _ _ _ _ _
    · obtain ⟨b1, b2', b3, b4, b5, b6, b7, b11, b16, e70, e71, e72, e73, e74, e55, e58, e59, e117, e, hF⟩ := day_x (tk := c55) (ask := c58) (sg := c74) (qp := c117) (isG := a19) (isH := a14) (cr := a15) (wt := a8) (go := a11) (hm := a12) (pr2 := a16) (ci := a17) (pile := a3) (A := 0) (H := 0) (ru := (r : Int)) (gr := (g : Int)) h rg_0 rg_0 (by omega) (by omega) ⟨by omega, by omega⟩
      rw [wkM_0] at hF
      have hW : nW ≤ 12 := h.2.1
      have hm3 : many 3 = (nW : Int) := h.1.1
      have x0 : F_X10_waitedAll many b3 = tdD oC oR nW cy ls kO cA clmK pcK d tr 0 r g := td_m0 hF (we_z hP) hm3 hW
      have x2 : F_X10_toldOfDay_a0_2 many b5 = tdD oC oR nW cy ls kO cA clmK pcK d tr 2 r g := by
        unfold F_X10_toldOfDay_a0_2
        rw [lf_b_e, lf_b_e, hm3, ct_m hW (fun w hw => (hF.1 w hw).2.2.2.2.1)]
        unfold tdD tdS
        rw [if_neg (by decide), if_neg (by decide), if_pos rfl]
      have hV : bsV t := by
        rw [ht]
        exact bsV_R (fun r g => (td_0b hP r g).1) ht0 r
      have go : ∀ (u : Int × Int × Int) (c55 c58 c59 c70 c71 c72 c73 c74 c117 : Int) (a3 a8 a11 a12 a14 a15 a16 a17 a19 : Nat → Int), u = bst (tdD oC oR nW cy ls kO cA clmK pcK d tr 0) (tdD oC oR nW cy ls kO cA clmK pcK d tr 2) p0 r g t → C (F_X10_best_62 many bar kinds walkers cf ce codes now p0 a10 a13 (g : Int) K48 f u.1 u.2.1 u.2.2 ((r : Int) + (1 : Int)) c55 c58 c59 c70 c71 c72 c73 c74 c117 a3 a8 a11 a12 a14 a15 a16 a17 a19) := by
        intro u c55 c58 c59 c70 c71 c72 c73 c74 c117 a3 a8 a11 a12 a14 a15 a16 a17 a19 hu
        exact ih (r + 1) u _ _ _ _ _ _ _ _ _ _ _ _ _ _ _ _ _ _ (by omega) (by omega) (by rw [hu, ht]; rfl)
      rw [if_neg (by omega), e, lf_p_e, lf_p_e, lf_p_e, lf_p_e, lf_p_e, lf_p_e, lf_p_e, lf_p_e, lf_p_e, lf_p_e, lf_p_e, lf_p_e, lf_p_e, lf_p_e, lf_p_e, lf_p_e, lf_p_e, lf_b_e, lf_b_e, x0, x2]
      by_cases c1 : p0 < tdD oC oR nW cy ls kO cA clmK pcK d tr 2 r g
      · rw [if_pos c1]
        exact go t _ _ _ _ _ _ _ _ _ _ _ _ _ _ _ _ _ _ (by unfold bst; rw [if_pos c1])
      · rw [if_neg c1]
        by_cases c2 : t.2.2 = -1
        · rw [if_pos c2]
          refine go ((r : Int), (g : Int), tdD oC oR nW cy ls kO cA clmK pcK d tr 0 r g) _ _ _ _ _ _ _ _ _ _ _ _ _ _ _ _ _ _ ?_
          unfold bst
          rw [if_neg c1, if_pos (Or.inl (by rcases hV with v | v <;> omega))]
        · rw [if_neg c2]
          by_cases c3 : tdD oC oR nW cy ls kO cA clmK pcK d tr 0 r g < t.2.2
          · rw [if_pos c3]
            refine go ((r : Int), (g : Int), tdD oC oR nW cy ls kO cA clmK pcK d tr 0 r g) _ _ _ _ _ _ _ _ _ _ _ _ _ _ _ _ _ _ ?_
            unfold bst
            rw [if_neg c1, if_pos (Or.inr c3)]
          · rw [if_neg c3]
            refine go t _ _ _ _ _ _ _ _ _ _ _ _ _ _ _ _ _ _ ?_
            unfold bst
            rw [if_neg c1, if_neg (fun z => z.elim (fun z => by rcases hV with v | v <;> omega) c3)]
theorem bm_48 {m : Nat} {a10 a13 : Nat → Int} (hP : plH nW nK cy ls oC oR kO cA clmK pcK comers code spans ar) (h : mdH nW nK cy ls d oC oR oL kO cA clmK pcK many bar kinds walkers cf ce codes now a10 tr) (hm : (m : Int) = min 40 (cy - 1)) : ∀ (f g : Nat) (t : Int × Int × Int) (c55 c58 c117 c59 c70 c71 c72 c73 c74 : Int) (a3 a8 a11 a12 a14 a15 a16 a17 a19 : Nat → Int), g ≤ m → m - g < f → t = bsG (tdD oC oR nW cy ls kO cA clmK pcK d tr 0) (tdD oC oR nW cy ls kO cA clmK pcK d tr 2) p0 g → (F_X10_best_48 many bar kinds walkers cf ce codes now p0 p1 f c55 c58 c117 a3 a10 a13 t.1 t.2.1 t.2.2 ((g + 1 : Nat) : Int) c59 c70 c71 c72 c73 c74 a8 a11 a12 a14 a15 a16 a17 a19).1 = if p1 = 0 then (bsG (tdD oC oR nW cy ls kO cA clmK pcK d tr 0) (tdD oC oR nW cy ls kO cA clmK pcK d tr 2) p0 m).1 else if p1 = 1 then (bsG (tdD oC oR nW cy ls kO cA clmK pcK d tr 0) (tdD oC oR nW cy ls kO cA clmK pcK d tr 2) p0 m).2.1 else (bsG (tdD oC oR nW cy ls kO cA clmK pcK d tr 0) (tdD oC oR nW cy ls kO cA clmK pcK d tr 2) p0 m).2.2 := by
  intro f
  induction f with
  | zero => intro g t c55 c58 c117 c59 c70 c71 c72 c73 c74 a3 a8 a11 a12 a14 a15 a16 a17 a19 h1 h2; omega
  | succ f ih =>
    intro g t c55 c58 c117 c59 c70 c71 c72 c73 c74 a3 a8 a11 a12 a14 a15 a16 a17 a19 h1 h2 ht
    have e0 : F_X10_best_48 many bar kinds walkers cf ce codes now p0 p1 (f + 1) c55 c58 c117 a3 a10 a13 t.1 t.2.1 t.2.2 ((g + 1 : Nat) : Int) c59 c70 c71 c72 c73 c74 a8 a11 a12 a14 a15 a16 a17 a19 = F_X10_best_48b many bar kinds walkers cf ce codes now p0 p1 (F_X10_best_48 many bar kinds walkers cf ce codes now p0 p1 f) c55 c58 c117 a3 a10 a13 t.1 t.2.1 t.2.2 ((g + 1 : Nat) : Int) c59 c70 c71 c72 c73 c74 a8 a11 a12 a14 a15 a16 a17 a19 := rfl
    rw [e0]
    unfold F_X10_best_48b
    have hb4 : bar 4 = cy := h.1.2.2.1
    rw [gl_40, lf_b_e, hb4]
    by_cases q : g = m
    · subst q
      rw [decide_eq_false (by omega), if_pos (show b2 false = 0 from rfl), ht]
      by_cases c0 : p1 = 0
      · rw [if_pos c0, if_pos c0]
      rw [if_neg c0, if_neg c0]
      by_cases c1 : p1 = 1
      · rw [if_pos c1, if_pos c1]
      rw [if_neg c1, if_neg c1]
    · rw [decide_eq_true (by omega), if_neg (show ¬ b2 true = 0 from by decide)]
      refine bm_62 (C := fun O => O.1 = _) (g := g + 1) (t0 := t) (K48 := F_X10_best_48 many bar kinds walkers cf ce codes now p0 p1 f) hP h ⟨by omega, by omega⟩ (by rw [ht]; exact bsV_G (fun r g => (td_0b hP r g).1) g) (fun c55 c58 c117 c59 c70 c71 c72 c73 c74 a3 a8 a11 a12 a14 a15 a16 a17 a19 => ?_) 5 0 t _ _ _ _ _ _ _ _ _ _ _ _ _ _ _ _ _ _ (by decide) (by decide) rfl
      exact ih (g + 1) (bsR (tdD oC oR nW cy ls kO cA clmK pcK d tr 0) (tdD oC oR nW cy ls kO cA clmK pcK d tr 2) p0 (g + 1) 3 t) _ _ _ _ _ _ _ _ _ _ _ _ _ _ _ _ _ _ (by omega) (by omega) (by rw [ht]; rfl)
theorem be_mx (hP : plH nW nK cy ls oC oR kO cA clmK pcK comers code spans ar) (hM : pmH nW nK cy ls oC oR oL kO cA clmK pcK many bar kinds walkers cf ce codes) (hB : stB nK d ru gr tr) (hn : ndH nK d ru gr tr now) (hi : isc = 1) : (F_X10_best isc tk ask red io lg gt icg sg qp many bar kinds walkers cf ce codes now isCar gapM isG isH crM wtM goM hmM prM ciM pile p0 p1).1 = beA oC oR nW cy ls kO cA clmK pcK d tr p0 p1 := by
  have hcy := hP.2.2.1
  obtain ⟨t, q, r, p, g2, i2, e, h1, h2⟩ := mc_x (tk := tk) (ask := ask) (red := red) (qp := qp) (kinds := kinds) (walkers := walkers) (isCar := isCar) (gaps := gapM) (waits := wtM) (goes := goM) (harms := hmM) (pile := pile) hB.1 (show 1 ≤ cy from by omega) hP.2.2.1.2 hM.2.2.1 hn.1 hM.2.2.2.2.2.2.1 hP.2.2.2.2.2.2.1.2
  unfold F_X10_best F_X10_best_31 beA lf_isin
  rw [if_neg (show ¬ isc = 0 from by omega)]
  by_cases c0 : 0 ≤ p0 ∧ p0 ≤ 12
  · rw [if_pos c0, if_neg (show ¬ (1 : Int) = 0 from by decide)]
    by_cases c1 : 0 ≤ p1 ∧ p1 ≤ 2
    · rw [if_pos c1, if_neg (show ¬ (1 : Int) = 0 from by decide), e, lf_p_e, lf_p_e, lf_p_e, lf_p_e, lf_p_e, if_pos ⟨c0, c1⟩]
      exact bm_48 (p0 := p0) (p1 := p1) (m := (min 40 (cy - 1)).toNat) hP (md_of hP hM hB.1 hn h2) (by omega) 42 0 (-1, -1, -1) t q r red io lg gt icg sg p wtM goM hmM isH crM prM ciM isG (Nat.zero_le _) (by omega) rfl
    · rw [if_neg c1, if_pos rfl, if_neg (fun z => c1 z.2)]
  · rw [if_neg c0, if_pos rfl, if_neg (fun z => c0 z.1)]
end BE
end
section
/-! 9l -/
/-! fits, watched: on both sides -/
abbrev FT : Type := Nat × Int × Int × (Nat → Nat → Int)
def soR (sw ss L : Nat → Int) : Nat → Nat → Bool
  | 0, _ => true
  | m + 1, l => decide (L (sw l).toNat = ss l) && soR sw ss L m (l + 1)
def ftt (Z : Nat → Nat → Nat → Int) (B : (Nat → Int) → Bool) (r g : Nat) (t : FT) : FT := if B (Z r g) = true then (t.1 + 1, lf_o lf_ior t.2.1 (lf_o lf_ishl (1 : Int) (r : Int)), (if t.2.2.1 = -1 then (g : Int) else t.2.2.1), fun k => if k = t.1 then Z r g else t.2.2.2 k) else t
def fitR (Z : Nat → Nat → Nat → Int) (B : (Nat → Int) → Bool) (g : Nat) : Nat → FT → FT
  | 0, t => t
  | r + 1, t => ftt Z B r g (fitR Z B g r t)
def ftG (Z : Nat → Nat → Nat → Int) (B : (Nat → Int) → Bool) : Nat → FT
  | 0 => (0, 0, -1, fun _ _ => 0)
  | g + 1 => fitR Z B (g + 1) 3 (ftG Z B g)
theorem ftt_n {Z : Nat → Nat → Nat → Int} {B : (Nat → Int) → Bool} {r g : Nat} {t : FT} : (ftt Z B r g t).1 ≤ t.1 + 1 := by
  unfold ftt
  by_cases c : B (Z r g) = true
  · rw [if_pos c]
    exact Nat.le_refl _
  · rw [if_neg c]
    exact Nat.le_succ _
theorem ftR_n {Z : Nat → Nat → Nat → Int} {B : (Nat → Int) → Bool} {g : Nat} {t : FT} : ∀ r, (fitR Z B g r t).1 ≤ t.1 + r
  | 0 => Nat.le_refl _
  | r + 1 => by
    have ih := ftR_n (Z := Z) (B := B) (g := g) (t := t) r
    have h := ftt_n (Z := Z) (B := B) (r := r) (g := g) (t := fitR Z B g r t)
    show (ftt Z B r g (fitR Z B g r t)).1 ≤ _
    omega
theorem ftG_n {Z : Nat → Nat → Nat → Int} {B : (Nat → Int) → Bool} : ∀ g, (ftG Z B g).1 ≤ 3 * g
  | 0 => Nat.le_refl _
  | g + 1 => by
    have ih := ftG_n (Z := Z) (B := B) g
    have h := ftR_n (Z := Z) (B := B) (g := g + 1) (t := ftG Z B g) 3
    show (fitR Z B (g + 1) 3 (ftG Z B g)).1 ≤ _
    omega
/-- the most alike; the one to watch -/
def mlX (S : Nat → Nat → Int) (n w : Nat) : Nat → Int
  | 0 => 0
  | a + 1 => max (mlX S n w a) (cnf (fun b => decide (S b w = S a w)) n)
def wcS (ML : Nat → Int) : Nat → Int × Int
  | 0 => (-1, -1)
  | w + 1 => if (wcS ML w).1 = -1 ∨ ML w < (wcS ML w).2 then ((w : Int), ML w) else wcS ML w
theorem mlX_b {S : Nat → Nat → Int} {n w : Nat} : ∀ a, 0 ≤ mlX S n w a ∧ mlX S n w a ≤ (n : Int)
  | 0 => ⟨Int.le_refl _, Int.natCast_nonneg n⟩
  | a + 1 => by
    have ih := mlX_b (S := S) (n := n) (w := w) a
    have h := cnf_le (fun b => decide (S b w = S a w)) n
    show 0 ≤ max _ _ ∧ max _ _ ≤ _
    omega
theorem wcS_n {ML : Nat → Int} : ∀ w, ((wcS ML w).1 = -1 ∧ (wcS ML w).2 = -1) ∨ 0 ≤ (wcS ML w).1
  | 0 => Or.inl ⟨rfl, rfl⟩
  | w + 1 => by
    have ih := wcS_n (ML := ML) w
    show ((if (wcS ML w).1 = -1 ∨ ML w < (wcS ML w).2 then ((w : Int), ML w) else wcS ML w).1 = -1 ∧ (if (wcS ML w).1 = -1 ∨ ML w < (wcS ML w).2 then ((w : Int), ML w) else wcS ML w).2 = -1) ∨ 0 ≤ (if (wcS ML w).1 = -1 ∨ ML w < (wcS ML w).2 then ((w : Int), ML w) else wcS ML w).1
    by_cases c : (wcS ML w).1 = -1 ∨ ML w < (wcS ML w).2
    · rw [if_pos c]
      exact Or.inr (Int.natCast_nonneg w)
    · rw [if_neg c]
      exact ih
section WT
variable {nW nK : Nat} {oC oR oL : Option (List Int)} {s cy ls aw stm d ru gr hnx hct sd sru sgr sA ar pr cr we ha tkn ad aru agr akn rws cmp fnd frl fgr chs chl occ dwn fa pl sM awM isc und nwst rmM moc sdd tk ask red io lg gt icg sg qp ftm ftr ftg mf mp0 p0 p1 p2 p3 p4 : Int} {g clmK pcK kO cA comers code spans nmX tr rD rR rG facts stack str cars gaps known left leaves tab atr atd ats sw ss sec oct refu gM many bar kinds walkers cf ce codes now kept mrw mo refM asd isCar gapM isG isH crM wtM goM hmM prM ciM pile whn : Nat → Int} {rF : Nat → Nat → Int}
noncomputable def lvZ (oC oR : Option (List Int)) (nW : Nat) (cy ls : Int) (kO cA clmK pcK : Nat → Int) (d : Int) (tr : Nat → Int) (r g : Nat) : Nat → Int := (weS oC oR nW cy ls kO cA clmK pcK d tr (r : Int) (g : Int) 0).1
def seO (nW : Nat) (sec : Nat → Int) (t : FT) : Prop := ∀ k, k < t.1 → ∀ w, w < nW → sec (12 * k + w) = t.2.2.2 k w
theorem is_x {L : Nat → Int} {n : Nat} (hn : rws = (n : Int)) (hb : ∀ k, k < n → 0 ≤ sw k ∧ sw k < 12) (hl : ∀ w, w < 12 → leaves w = L w) : ∀ (m l f : Nat), l + m = n → m < f → F_X8_isSo_2 leaves sw ss rws f (l : Int) = b2 (soR sw ss L m l) := by
  intro m
  induction m with
  | zero =>
    intro l f h1 h2
    obtain ⟨k, rfl⟩ : ∃ k, f = k + 1 := ⟨f - 1, by omega⟩
    show F_X8_isSo_2b leaves sw ss rws (F_X8_isSo_2 leaves sw ss rws k) (l : Int) = b2 true
    unfold F_X8_isSo_2b
    rw [if_pos (by omega)]
    rfl
  | succ m ih =>
    intro l f h1 h2
    obtain ⟨k, rfl⟩ : ∃ k, f = k + 1 := ⟨f - 1, by omega⟩
    have hb' := hb l (by omega)
    show F_X8_isSo_2b leaves sw ss rws (F_X8_isSo_2 leaves sw ss rws k) (l : Int) = b2 (decide (L (sw l).toNat = ss l) && soR sw ss L m (l + 1))
    unfold F_X8_isSo_2b
    rw [if_neg (by omega), Int.toNat_natCast, hl _ (by omega)]
    by_cases c : L (Int.toNat (sw l)) = ss l
    · rw [if_pos c, decide_eq_true c, Bool.true_and]
      exact ih (l + 1) k (by omega) (by omega)
    · rw [if_neg c, decide_eq_false c, Bool.false_and]
      rfl
theorem is_m {L : Nat → Int} {n : Nat} (hn : rmM = (n : Int)) (hb : ∀ k, k < n → (sw k = mrw (2 * k) ∧ ss k = mrw (2 * k + 1)) ∧ 0 ≤ sw k ∧ sw k < (nW : Int)) (hl : ∀ w, w < nW → crM w = L w) : ∀ (m l f : Nat), l + m = n → m < f → F_X10_isAsSeen_2 rmM crM mrw f (l : Int) = b2 (soR sw ss L m l) := by
  intro m
  induction m with
  | zero =>
    intro l f h1 h2
    obtain ⟨k, rfl⟩ : ∃ k, f = k + 1 := ⟨f - 1, by omega⟩
    show F_X10_isAsSeen_2b rmM crM mrw (F_X10_isAsSeen_2 rmM crM mrw k) (l : Int) = b2 true
    unfold F_X10_isAsSeen_2b
    rw [if_pos (by omega)]
    rfl
  | succ m ih =>
    intro l f h1 h2
    obtain ⟨k, rfl⟩ : ∃ k, f = k + 1 := ⟨f - 1, by omega⟩
    obtain ⟨⟨x1, x2⟩, x3⟩ := hb l (by omega)
    show F_X10_isAsSeen_2b rmM crM mrw (F_X10_isAsSeen_2 rmM crM mrw k) (l : Int) = b2 (decide (L (sw l).toNat = ss l) && soR sw ss L m (l + 1))
    unfold F_X10_isAsSeen_2b
    rw [if_neg (by omega), show Int.toNat ((2 : Int) * (l : Int)) = 2 * l from by omega, show Int.toNat (((2 : Int) * (l : Int)) + (1 : Int)) = 2 * l + 1 from by omega, ← x1, ← x2, hl _ (by omega)]
    by_cases c : L (Int.toNat (sw l)) = ss l
    · rw [if_pos c, decide_eq_true c, Bool.true_and]
      exact ih (l + 1) k (by omega) (by omega)
    · rw [if_neg c, decide_eq_false c, Bool.false_and]
      rfl
/-- the class's most alike -/
theorem ml_i {S : Nat → Nat → Int} {n : Nat} {K4 : Int → Int → Int} {w a : Nat} {l2 : Int} (hn : n ≤ 60) (hw : w < nW) (hW : nW ≤ 12) (ha : a < n) (hs : ∀ k, k < n → ∀ w, w < nW → sec (12 * k + w) = S k w) : ∀ (f b : Nat) (l4 : Int), b ≤ n → n - b < f → l4 = cnf (fun b => decide (S b w = S a w)) b → F_X8_mostLeft_18 sec (n : Int) (w : Int) l2 (a : Int) K4 f l4 (b : Int) = K4 (max l2 (cnf (fun b => decide (S b w = S a w)) n)) ((a : Int) + (1 : Int)) := by
  intro f
  induction f with
  | zero => intro b l4 h1 h2; omega
  | succ f ih =>
    intro b l4 h1 h2 h3
    have e0 : F_X8_mostLeft_18 sec (n : Int) (w : Int) l2 (a : Int) K4 (f + 1) l4 (b : Int) = F_X8_mostLeft_18b sec (n : Int) (w : Int) l2 (a : Int) K4 (F_X8_mostLeft_18 sec (n : Int) (w : Int) l2 (a : Int) K4 f) l4 (b : Int) := rfl
    rw [e0]
    unfold F_X8_mostLeft_18b F_X8_mostLeft_56
    by_cases q : b = n
    · rw [if_pos (by omega), h3, q]
    · have hb := cnf_le (fun b => decide (S b w = S a w)) b
      have eS : cnf (fun b => decide (S b w = S a w)) (b + 1) = cnf (fun b => decide (S b w = S a w)) b + b2 (decide (S b w = S a w)) := rfl
      rw [if_neg (by omega), show Int.toNat (((b : Int) * (12 : Int)) + (w : Int)) = 12 * b + w from by omega, show Int.toNat (((a : Int) * (12 : Int)) + (w : Int)) = 12 * a + w from by omega, hs b (by omega) w hw, hs a ha w hw]
      by_cases c : S b w = S a w
      · rw [if_pos c]
        refine ih (b + 1) _ (by omega) (by omega) ?_
        rw [eS, decide_eq_true c, h3, lo_add (by omega) (by omega) (by omega) (by omega) (by omega) (by omega)]
        rfl
      · rw [if_neg c]
        refine ih (b + 1) _ (by omega) (by omega) ?_
        rw [eS, decide_eq_false c, h3]
        exact (Int.add_zero _).symm
theorem ml_o {S : Nat → Nat → Int} {n : Nat} {w : Nat} (hn : n ≤ 60) (hw : w < nW) (hW : nW ≤ 12) (hs : ∀ k, k < n → ∀ w, w < nW → sec (12 * k + w) = S k w) : ∀ (f a : Nat), a ≤ n → n - a < f → F_X8_mostLeft_4 sec (n : Int) (w : Int) f (mlX S n w a) (a : Int) = mlX S n w n := by
  intro f
  induction f with
  | zero => intro a h1 h2; omega
  | succ f ih =>
    intro a h1 h2
    have e0 : F_X8_mostLeft_4 sec (n : Int) (w : Int) (f + 1) (mlX S n w a) (a : Int) = F_X8_mostLeft_4b sec (n : Int) (w : Int) (F_X8_mostLeft_4 sec (n : Int) (w : Int) f) (mlX S n w a) (a : Int) := rfl
    rw [e0]
    unfold F_X8_mostLeft_4b
    by_cases q : a = n
    · rw [if_pos (by omega), q]
    · have e := ml_i (K4 := F_X8_mostLeft_4 sec (n : Int) (w : Int) f) (l2 := mlX S n w a) hn hw hW (show a < n from by omega) hs 62 0 0 (Nat.zero_le _) (by omega) rfl
      have e' : F_X8_mostLeft_18 sec (n : Int) (w : Int) (mlX S n w a) (a : Int) (F_X8_mostLeft_4 sec (n : Int) (w : Int) f) 62 (0 : Int) (0 : Int) = _ := e
      rw [if_neg (by omega), e']
      exact ih (a + 1) (by omega) (by omega)
theorem cz_run {S : Nat → Nat → Int} {n nV : Nat} (hn : n ≤ 60) (hV : nV ≤ nW) (hW : nW ≤ 12) (hs : ∀ k, k < n → ∀ w, w < nW → sec (12 * k + w) = S k w) : ∀ (f w : Nat), w ≤ nV → nV - w < f → F_X8_choose_31 sec (n : Int) f (nV : Int) (w : Int) (wcS (fun w => mlX S n w n) w).1 (wcS (fun w => mlX S n w n) w).2 = ((wcS (fun w => mlX S n w n) nV).1, (wcS (fun w => mlX S n w n) nV).2) := by
  intro f
  induction f with
  | zero => intro w h1 h2; omega
  | succ f ih =>
    intro w h1 h2
    have e0 : F_X8_choose_31 sec (n : Int) (f + 1) (nV : Int) (w : Int) (wcS (fun w => mlX S n w n) w).1 (wcS (fun w => mlX S n w n) w).2 = F_X8_choose_31b sec (n : Int) (F_X8_choose_31 sec (n : Int) f) (nV : Int) (w : Int) (wcS (fun w => mlX S n w n) w).1 (wcS (fun w => mlX S n w n) w).2 := rfl
    rw [e0]
    unfold F_X8_choose_31b F_X8_choose_58 F_X8_choose_68
    by_cases q : w = nV
    · rw [if_pos (by omega), q]
    · have e : F_X8_mostLeft sec (n : Int) (w : Int) = mlX S n w n := ml_o hn (show w < nW from by omega) hW hs 62 0 (Nat.zero_le _) (by omega)
      have hx := ih (w + 1) (by omega) (by omega)
      have eS : wcS (fun w => mlX S n w n) (w + 1) = if (wcS (fun w => mlX S n w n) w).1 = -1 ∨ mlX S n w n < (wcS (fun w => mlX S n w n) w).2 then ((w : Int), mlX S n w n) else wcS (fun w => mlX S n w n) w := rfl
      rw [eS] at hx
      rw [if_neg (by omega), e, lf_b_e]
      by_cases c1 : (wcS (fun w => mlX S n w n) w).1 = -1
      · rw [if_pos (Or.inl c1)] at hx
        rw [if_pos c1]
        exact hx
      · rw [if_neg c1]
        by_cases c2 : (wcS (fun w => mlX S n w n) w).2 ≤ mlX S n w n
        · rw [if_neg (fun z => z.elim c1 (fun z => by omega))] at hx
          rw [if_pos c2]
          exact hx
        · rw [if_pos (Or.inr (by omega))] at hx
          rw [if_neg c2]
          exact hx
def wcF (nW : Nat) (t : FT) : Int × Int := wcS (fun w => mlX t.2.2.2 t.1 w t.1) (if t.1 = 0 then 0 else nW)
theorem cz_x {t : FT} (hn : t.1 ≤ 60) (hW : nW ≤ 12) (hs : seO nW sec t) : F_X8_choose (nW : Int) sec (t.1 : Int) = ((wcF nW t).1, (wcF nW t).2) := by
  unfold F_X8_choose F_X8_choose_28 F_X7_walkers wcF
  by_cases q : t.1 = 0
  · rw [if_pos (show (t.1 : Int) ≤ 0 from by omega), if_pos q]
    exact cz_run (S := t.2.2.2) (n := t.1) (nV := 0) hn (Nat.zero_le _) hW hs 14 0 (Nat.le_refl _) (by omega)
  · rw [if_neg (show ¬ (t.1 : Int) ≤ 0 from by omega), if_neg q, lf_b_e]
    exact cz_run (S := t.2.2.2) (n := t.1) (nV := nW) hn (Nat.le_refl _) hW hs 14 0 (Nat.zero_le _) (by omega)
/-- what is kept of fits, watched -/
noncomputable def ftX (oC oR : Option (List Int)) (nW : Nat) (cy ls : Int) (kO cA clmK pcK : Nat → Int) (d : Int) (tr : Nat → Int) (rws : Int) (sw ss : Nat → Int) : FT := ftG (lvZ oC oR nW cy ls kO cA clmK pcK d tr) (fun L => soR sw ss L rws.toNat 0) (min 20 (cy - 1)).toNat
def waC (nW : Nat) (t : FT) (fnd frl fgr chs chl : Int) (sec : Nat → Int) : Prop := fnd = (t.1 : Int) ∧ frl = t.2.1 ∧ fgr = t.2.2.1 ∧ seO nW sec t ∧ chs = (wcF nW t).1 ∧ chl = (wcF nW t).2
def waH (oC oR : Option (List Int)) (nW : Nat) (cy ls : Int) (kO cA clmK pcK : Nat → Int) (d : Int) (tr : Nat → Int) (rws : Int) (sw ss : Nat → Int) (cmp fnd frl fgr chs chl : Int) (sec : Nat → Int) : Prop := cmp = 0 ∨ waC nW (ftX oC oR nW cy ls kO cA clmK pcK d tr rws sw ss) fnd frl fgr chs chl sec
theorem wa_0 : waH oC oR nW cy ls kO cA clmK pcK d tr rws sw ss 0 fnd frl fgr chs chl sec := Or.inl rfl
theorem cw_48 {l2 : Int} {g : Nat} {t0 : FT} {C : A23 → Prop} {K40 : Int → Int → Int → Int → Int → Int → Int → Int → Int → Int → Int → Int → Int → (Nat → Int) → (Nat → Int) → (Nat → Int) → (Nat → Int) → (Nat → Int) → (Nat → Int) → (Nat → Int) → (Nat → Int) → (Nat → Int) → A23} (hP : plH nW nK cy ls oC oR kO cA clmK pcK comers code spans ar) (hd : 0 ≤ d ∧ d ≤ 999) (ht : ∀ k, k < nK → 0 ≤ tr k ∧ tr k ≤ 9) (hR : rwH nW rws sw ss rmM mrw) (hg : g ≤ 60) (hK : ∀ (t : FT) (sd sru sgr sA pr cr we ha : Int) (a3 facts stack cars gaps str known left leaves : Nat → Int), t = fitR (lvZ oC oR nW cy ls kO cA clmK pcK d tr) (fun L => soR sw ss L rws.toNat 0) g 3 t0 → seO nW a3 t → sfH oC oR nW nK cy ls kO cA clmK pcK sd str sru sgr sA cars gaps known left leaves pr cr we ha → C (K40 l2 ((g : Int) + (1 : Int)) (t.1 : Int) t.2.1 t.2.2.1 sd sru sgr sA pr cr we ha a3 facts stack cars gaps str known left leaves)) : ∀ (f r : Nat) (t : FT) (sd sru sgr sA pr cr we ha : Int) (a3 facts stack cars gaps str known left leaves : Nat → Int), r ≤ 3 → 3 - r < f → t = fitR (lvZ oC oR nW cy ls kO cA clmK pcK d tr) (fun L => soR sw ss L rws.toNat 0) g r t0 → seO nW a3 t → sfH oC oR nW nK cy ls kO cA clmK pcK sd str sru sgr sA cars gaps known left leaves pr cr we ha → C (F_X8_compare_48 cy ls (nK : Int) clmK pcK (nW : Int) kO cA comers code spans ar sw ss rws d tr l2 (g : Int) K40 f (r : Int) (t.1 : Int) t.2.1 t.2.2.1 sd sru sgr sA pr cr we ha a3 facts stack cars gaps str known left leaves) := by
  intro f
  induction f with
  | zero => intro r t sd sru sgr sA pr cr we ha a3 facts stack cars gaps str known left leaves h1 h2; omega
  | succ f ih =>
    intro r t sd sru sgr sA pr cr we ha a3 facts stack cars gaps str known left leaves h1 h2 hT hQ hS
    show C (F_X8_compare_48b cy ls (nK : Int) clmK pcK (nW : Int) kO cA comers code spans ar sw ss rws d tr l2 (g : Int) K40 (F_X8_compare_48 cy ls (nK : Int) clmK pcK (nW : Int) kO cA comers code spans ar sw ss rws d tr l2 (g : Int) K40 f) (r : Int) (t.1 : Int) t.2.1 t.2.2.1 sd sru sgr sA pr cr we ha a3 facts stack cars gaps str known left leaves)
    unfold F_X8_compare_48b F_X8_compare_137 F_X8_compare_140
    have hW : nW ≤ 12 := hP.1
    by_cases q : r = 3
    · rw [if_pos (by omega)]
      subst q
      exact hK t _ _ _ _ _ _ _ _ _ _ _ _ _ _ _ _ _ hT hQ hS
    · obtain ⟨f2, s2, c2, g2, t2, k2, l2', v2, pr2, cr2, we2, ha2, e, e1, hsf, q2, q1⟩ := ly_x (facts := facts) (stack := stack) (p1 := (r : Int)) (p2 := (g : Int)) (p3 := 0) hP hS hd ht (by omega) (show 0 ≤ (g : Int) ∧ (g : Int) ≤ 60 from ⟨by omega, by omega⟩) rg_0
      have hv : ∀ w, w < 12 → v2 w = lvZ oC oR nW cy ls kO cA clmK pcK d tr r g w := q2.2.2.2.2.2
      have hso : F_X8_isSo v2 sw ss rws = b2 (soR sw ss (lvZ oC oR nW cy ls kO cA clmK pcK d tr r g) rws.toNat 0) := is_x (n := rws.toNat) (by have := hR.2.1; omega) (fun k hk => by have := (hR.2.2 k (by omega)).2; omega) hv rws.toNat 0 18 (by omega) (by have := hR.2.1; omega)
      have eT : fitR (lvZ oC oR nW cy ls kO cA clmK pcK d tr) (fun L => soR sw ss L rws.toNat 0) g (r + 1) t0 = ftt (lvZ oC oR nW cy ls kO cA clmK pcK d tr) (fun L => soR sw ss L rws.toNat 0) r g t := by
        rw [hT]
        rfl
      rw [if_neg (by omega), e, lf_p_e, lf_p_e, lf_p_e, lf_p_e, lf_p_e, lf_p_e, lf_p_e, lf_p_e, lf_p_e, lf_p_e, lf_p_e, lf_p_e, lf_p_e, lf_p_e, lf_p_e, lf_b_e, hso]
      cases hb : soR sw ss (lvZ oC oR nW cy ls kO cA clmK pcK d tr r g) rws.toNat 0 with
      | false =>
        rw [if_pos (show b2 false = 0 from rfl)]
        refine ih (r + 1) t _ _ _ _ _ _ _ _ _ _ _ _ _ _ _ _ _ (by omega) (by omega) ?_ hQ hsf
        rw [eT]
        unfold ftt
        rw [if_neg (fun z => Bool.noConfusion (hb.symm.trans z))]
      | true =>
        rw [if_neg (show ¬ b2 true = 0 from by decide)]
        have eT2 : ftt (lvZ oC oR nW cy ls kO cA clmK pcK d tr) (fun L => soR sw ss L rws.toNat 0) r g t = (t.1 + 1, lf_o lf_ior t.2.1 (lf_o lf_ishl (1 : Int) (r : Int)), (if t.2.2.1 = -1 then (g : Int) else t.2.2.1), fun k => if k = t.1 then lvZ oC oR nW cy ls kO cA clmK pcK d tr r g else t.2.2.2 k) := if_pos hb
        have hQ2 : seO nW (lf_cpy v2 a3 (0 : Int) ((t.1 : Int) * (12 : Int)) (12 : Int)) (t.1 + 1, lf_o lf_ior t.2.1 (lf_o lf_ishl (1 : Int) (r : Int)), (if t.2.2.1 = -1 then (g : Int) else t.2.2.1), fun k => if k = t.1 then lvZ oC oR nW cy ls kO cA clmK pcK d tr r g else t.2.2.2 k) := by
          intro k hk w hw
          have hk' : k < t.1 + 1 := hk
          dsimp only
          have e12 : (12 : Int).toNat = 12 := rfl
          unfold lf_cpy
          by_cases y : k = t.1
          · rw [if_pos (by omega), if_pos y, show (0 : Int).toNat + (12 * k + w - ((t.1 : Int) * (12 : Int)).toNat) = w from by
              have e00 : (0 : Int).toNat = 0 := rfl
              omega]
            exact hv w (by omega)
          · rw [if_neg (by omega), if_neg y]
            exact hQ k (by omega) w hw
        have go : ∀ x : Int, x = (if t.2.2.1 = -1 then (g : Int) else t.2.2.1) → C (F_X8_compare_48 cy ls (nK : Int) clmK pcK (nW : Int) kO cA comers code spans ar sw ss rws d tr l2 (g : Int) K40 f ((r : Int) + (1 : Int)) ((t.1 : Int) + (1 : Int)) (lf_o lf_ior t.2.1 (lf_o lf_ishl (1 : Int) (r : Int))) x d (r : Int) (g : Int) (0 : Int) pr2 cr2 we2 ha2 (lf_cpy v2 a3 (0 : Int) ((t.1 : Int) * (12 : Int)) (12 : Int)) f2 s2 c2 g2 t2 k2 l2' v2) := by
          intro x hx
          rw [hx]
          exact ih (r + 1) (t.1 + 1, lf_o lf_ior t.2.1 (lf_o lf_ishl (1 : Int) (r : Int)), (if t.2.2.1 = -1 then (g : Int) else t.2.2.1), fun k => if k = t.1 then lvZ oC oR nW cy ls kO cA clmK pcK d tr r g else t.2.2.2 k) _ _ _ _ _ _ _ _ _ _ _ _ _ _ _ _ _ (by omega) (by omega) (by rw [eT, eT2]) hQ2 hsf
        by_cases y2 : t.2.2.1 = -1
        · rw [if_pos y2]
          exact go _ (if_pos y2).symm
        · rw [if_neg y2]
          exact go _ (if_neg y2).symm
theorem cw_40 {m : Nat} (hP : plH nW nK cy ls oC oR kO cA clmK pcK comers code spans ar) (hd : 0 ≤ d ∧ d ≤ 999) (ht : ∀ k, k < nK → 0 ≤ tr k ∧ tr k ≤ 9) (hR : rwH nW rws sw ss rmM mrw) (hm : m ≤ 20) : ∀ (f g : Nat) (t : FT) (sd sru sgr sA pr cr we ha : Int) (a3 facts stack cars gaps str known left leaves : Nat → Int), g ≤ m → m - g < f → t = ftG (lvZ oC oR nW cy ls kO cA clmK pcK d tr) (fun L => soR sw ss L rws.toNat 0) g → seO nW a3 t → sfH oC oR nW nK cy ls kO cA clmK pcK sd str sru sgr sA cars gaps known left leaves pr cr we ha → ∃ O : A23, O = F_X8_compare_40 cy ls (nK : Int) clmK pcK (nW : Int) kO cA comers code spans ar sw ss rws d tr f (m : Int) ((g + 1 : Nat) : Int) (t.1 : Int) t.2.1 t.2.2.1 sd sru sgr sA pr cr we ha a3 facts stack cars gaps str known left leaves ∧ waC nW (ftG (lvZ oC oR nW cy ls kO cA clmK pcK d tr) (fun L => soR sw ss L rws.toNat 0) m) O.2.1 O.2.2.1 O.2.2.2.1 O.2.2.2.2.1 O.2.2.2.2.2.1 O.2.2.2.2.2.2.2.2.2.2.2.2.2.2.1 ∧ q23 oC oR nW nK cy ls kO cA clmK pcK O := by
  intro f
  induction f with
  | zero => intro g t sd sru sgr sA pr cr we ha a3 facts stack cars gaps str known left leaves h1 h2; omega
  | succ f ih =>
    intro g t sd sru sgr sA pr cr we ha a3 facts stack cars gaps str known left leaves h1 h2 hT hQ hS
    have e0 : F_X8_compare_40 cy ls (nK : Int) clmK pcK (nW : Int) kO cA comers code spans ar sw ss rws d tr (f + 1) (m : Int) ((g + 1 : Nat) : Int) (t.1 : Int) t.2.1 t.2.2.1 sd sru sgr sA pr cr we ha a3 facts stack cars gaps str known left leaves = F_X8_compare_40b cy ls (nK : Int) clmK pcK (nW : Int) kO cA comers code spans ar sw ss rws d tr (F_X8_compare_40 cy ls (nK : Int) clmK pcK (nW : Int) kO cA comers code spans ar sw ss rws d tr f) (m : Int) ((g + 1 : Nat) : Int) (t.1 : Int) t.2.1 t.2.2.1 sd sru sgr sA pr cr we ha a3 facts stack cars gaps str known left leaves := rfl
    rw [e0]
    unfold F_X8_compare_40b
    have hW : nW ≤ 12 := hP.1
    by_cases q : g = m
    · have hn : t.1 ≤ 60 := by
        have := ftG_n (Z := lvZ oC oR nW cy ls kO cA clmK pcK d tr) (B := fun L => soR sw ss L rws.toNat 0) g
        rw [← hT] at this
        omega
      rw [if_pos (by omega), cz_x hn hW hQ, lf_p_e]
      rw [← q, ← hT]
      exact ⟨_, rfl, ⟨rfl, rfl, rfl, hQ, rfl, rfl⟩, hS⟩
    · rw [if_neg (by omega)]
      exact cw_48 (C := fun P => ∃ O : A23, O = P ∧ waC nW (ftG (lvZ oC oR nW cy ls kO cA clmK pcK d tr) (fun L => soR sw ss L rws.toNat 0) m) O.2.1 O.2.2.1 O.2.2.2.1 O.2.2.2.2.1 O.2.2.2.2.2.1 O.2.2.2.2.2.2.2.2.2.2.2.2.2.2.1 ∧ q23 oC oR nW nK cy ls kO cA clmK pcK O) (g := g + 1) (t0 := t) (K40 := F_X8_compare_40 cy ls (nK : Int) clmK pcK (nW : Int) kO cA comers code spans ar sw ss rws d tr f) hP hd ht hR (by omega) (fun t2 sd sru sgr sA pr cr we ha a3 facts stack cars gaps str known left leaves hT2 hQ2 hS2 => ih (g + 1) t2 sd sru sgr sA pr cr we ha a3 facts stack cars gaps str known left leaves (by omega) (by omega) (by rw [hT2, hT]; rfl) hQ2 hS2) 5 0 t _ _ _ _ _ _ _ _ _ _ _ _ _ _ _ _ _ (by decide) (by decide) rfl hQ hS
theorem cw_x (hP : plH nW nK cy ls oC oR kO cA clmK pcK comers code spans ar) (hS : sfH oC oR nW nK cy ls kO cA clmK pcK sd str sru sgr sA cars gaps known left leaves pr cr we ha) (hB : stB nK d ru gr tr) (hR : rwH nW rws sw ss rmM mrw) (hC : waH oC oR nW cy ls kO cA clmK pcK d tr rws sw ss cmp fnd frl fgr chs chl sec) : ∃ O : A23, O = F_X8_compare facts stack cy ls (nK : Int) clmK pcK (nW : Int) kO cA comers code spans sd str sru sgr sA ar cars gaps known left leaves pr cr we ha sw ss rws cmp sec fnd frl fgr chs chl d tr ∧ waC nW (ftX oC oR nW cy ls kO cA clmK pcK d tr rws sw ss) O.2.1 O.2.2.1 O.2.2.2.1 O.2.2.2.2.1 O.2.2.2.2.2.1 O.2.2.2.2.2.2.2.2.2.2.2.2.2.2.1 ∧ q23 oC oR nW nK cy ls kO cA clmK pcK O := by
  have hcy := hP.2.2.1
  unfold F_X8_compare
  by_cases q : cmp = 0
  · rw [if_pos q, lf_b_e]
    have em : F_X7_greensUpTo_a0_20 cy = (((min 20 (cy - 1)).toNat : Nat) : Int) := by
      show min 20 (cy - 1) = _
      omega
    rw [em]
    exact cw_40 (m := (min 20 (cy - 1)).toNat) hP hB.1 hB.2.2.2 hR (by omega) 22 0 (0, 0, -1, fun _ _ => 0) sd sru sgr sA pr cr we ha sec facts stack cars gaps str known left leaves (Nat.zero_le _) (by omega) rfl (fun k hk => absurd hk (Nat.not_lt_zero k)) hS
  · rw [if_neg q]
    rcases hC with r | r
    · exact absurd r q
    · exact ⟨_, rfl, r, hS⟩
noncomputable def fiA (t : FT) (p : Int) : Int := if p = 0 then (t.1 : Int) else if p = 1 then t.2.1 else if p = 2 then t.2.2.1 else -1
noncomputable def wdA (nW : Nat) (t : FT) (p : Int) : Int := if p = 0 then (wcF nW t).1 else if p = 1 then (wcF nW t).2 else -1
theorem fi_cx (hP : plH nW nK cy ls oC oR kO cA clmK pcK comers code spans ar) (hS : sfH oC oR nW nK cy ls kO cA clmK pcK sd str sru sgr sA cars gaps known left leaves pr cr we ha) (hB : stB nK d ru gr tr) (hR : rwH nW rws sw ss rmM mrw) (hC : waH oC oR nW cy ls kO cA clmK pcK d tr rws sw ss cmp fnd frl fgr chs chl sec) : ∃ r, ∃ O : A23, F_X9_fits cy ls (nK : Int) clmK pcK (nW : Int) kO cA comers code spans d tr facts stack sd str sru sgr sA ar cars gaps known left leaves pr cr we ha sw ss rws cmp sec fnd frl fgr chs chl p0 = (r, O) ∧ r = fiA (ftX oC oR nW cy ls kO cA clmK pcK d tr rws sw ss) p0 ∧ waC nW (ftX oC oR nW cy ls kO cA clmK pcK d tr rws sw ss) O.2.1 O.2.2.1 O.2.2.2.1 O.2.2.2.2.1 O.2.2.2.2.2.1 O.2.2.2.2.2.2.2.2.2.2.2.2.2.2.1 ∧ q23 oC oR nW nK cy ls kO cA clmK pcK O := by
  obtain ⟨O, e, w, hq⟩ := cw_x (facts := facts) (stack := stack) hP hS hB hR hC
  unfold F_X9_fits
  rw [st_1x hP.2.2.1.1, lf_b_e, if_neg (show ¬ (1 : Int) = 0 from by decide), ← e]
  obtain ⟨r1, r2, r3, r4, r5, r6, r7, r8, r9, r10, r11, r12, r13, r14, r15, r16, r17, r18, r19, r20, r21, r22, r23⟩ := O
  rw [lf_p_e, lf_p_e, lf_p_e, lf_p_e, lf_p_e, lf_p_e, lf_p_e, lf_p_e, lf_p_e, lf_p_e, lf_p_e, lf_p_e, lf_p_e, lf_p_e, lf_p_e, lf_p_e, lf_p_e, lf_p_e, lf_p_e, lf_p_e, lf_p_e, lf_p_e]
  obtain ⟨w1, w2, w3, w4⟩ := w
  unfold fiA
  by_cases c0 : p0 = 0
  · rw [if_pos c0]
    exact ⟨_, _, rfl, (w1.trans (if_pos c0).symm), ⟨w1, w2, w3, w4⟩, hq⟩
  rw [if_neg c0, if_neg c0]
  by_cases c1 : p0 = 1
  · rw [if_pos c1, if_pos c1]
    exact ⟨_, _, rfl, w2, ⟨w1, w2, w3, w4⟩, hq⟩
  rw [if_neg c1, if_neg c1]
  by_cases c2 : p0 = 2
  · rw [if_pos c2, if_pos c2]
    exact ⟨_, _, rfl, w3, ⟨w1, w2, w3, w4⟩, hq⟩
  rw [if_neg c2, if_neg c2]
  exact ⟨_, _, rfl, rfl, ⟨w1, w2, w3, w4⟩, hq⟩
theorem wd_cx (hP : plH nW nK cy ls oC oR kO cA clmK pcK comers code spans ar) (hS : sfH oC oR nW nK cy ls kO cA clmK pcK sd str sru sgr sA cars gaps known left leaves pr cr we ha) (hB : stB nK d ru gr tr) (hR : rwH nW rws sw ss rmM mrw) (hC : waH oC oR nW cy ls kO cA clmK pcK d tr rws sw ss cmp fnd frl fgr chs chl sec) : ∃ r, ∃ O : A23, F_X9_watched cy ls (nK : Int) clmK pcK (nW : Int) kO cA comers code spans d tr facts stack sd str sru sgr sA ar cars gaps known left leaves pr cr we ha sw ss rws cmp sec fnd frl fgr chs chl p0 = (r, O) ∧ r = wdA nW (ftX oC oR nW cy ls kO cA clmK pcK d tr rws sw ss) p0 ∧ waC nW (ftX oC oR nW cy ls kO cA clmK pcK d tr rws sw ss) O.2.1 O.2.2.1 O.2.2.2.1 O.2.2.2.2.1 O.2.2.2.2.2.1 O.2.2.2.2.2.2.2.2.2.2.2.2.2.2.1 ∧ q23 oC oR nW nK cy ls kO cA clmK pcK O := by
  obtain ⟨O, e, w, hq⟩ := cw_x (facts := facts) (stack := stack) hP hS hB hR hC
  unfold F_X9_watched
  rw [st_1x hP.2.2.1.1, lf_b_e, if_neg (show ¬ (1 : Int) = 0 from by decide), ← e]
  obtain ⟨r1, r2, r3, r4, r5, r6, r7, r8, r9, r10, r11, r12, r13, r14, r15, r16, r17, r18, r19, r20, r21, r22, r23⟩ := O
  rw [lf_p_e, lf_p_e, lf_p_e, lf_p_e, lf_p_e, lf_p_e, lf_p_e, lf_p_e, lf_p_e, lf_p_e, lf_p_e, lf_p_e, lf_p_e, lf_p_e, lf_p_e, lf_p_e, lf_p_e, lf_p_e, lf_p_e, lf_p_e, lf_p_e, lf_p_e]
  obtain ⟨w1, w2, w3, w4, w5, w6⟩ := w
  unfold wdA
  by_cases c0 : p0 = 0
  · rw [if_pos c0, if_pos c0]
    exact ⟨_, _, rfl, w5, ⟨w1, w2, w3, w4, w5, w6⟩, hq⟩
  rw [if_neg c0, if_neg c0]
  by_cases c1 : p0 = 1
  · rw [if_pos c1, if_pos c1]
    exact ⟨_, _, rfl, w6, ⟨w1, w2, w3, w4, w5, w6⟩, hq⟩
  rw [if_neg c1, if_neg c1]
  exact ⟨_, _, rfl, rfl, ⟨w1, w2, w3, w4, w5, w6⟩, hq⟩
end WT
end
section
/-! 9m -/
/-! fits, watched: the model's side -/
section WM
variable {nW nK : Nat} {oC oR oL : Option (List Int)} {s cy ls aw stm d ru gr hnx hct sd sru sgr sA ar pr cr we ha tkn ad aru agr akn rws cmp fnd frl fgr chs chl occ dwn fa pl sM awM isc und nwst rmM moc sdd tk ask red io lg gt icg sg qp ftm ftr ftg mf mp0 p0 p1 p2 p3 p4 : Int} {g clmK pcK kO cA comers code spans nmX tr rD rR rG facts stack str cars gaps known left leaves tab atr atd ats sw ss sec oct refu gM many bar kinds walkers cf ce codes now kept mrw mo refM asd isCar gapM isG isH crM wtM goM hmM prM ciM pile whn : Nat → Int} {rF : Nat → Nat → Int}
abbrev M24 : Type := Int × Int × Int × Int × Int × Int × Int × Int × Int × Int × Int × Int × (Nat → Int) × (Nat → Int) × (Nat → Int) × (Nat → Int) × (Nat → Int) × (Nat → Int) × (Nat → Int) × (Nat → Int) × (Nat → Int) × (Nat → Int) × (Nat → Int) × (Nat → Int)
abbrev KM33 : Type := Int → Int → Int → Int → Int → Int → Int → Int → Int → Int → Int → Int → Int → (Nat → Int) → (Nat → Int) → (Nat → Int) → (Nat → Int) → (Nat → Int) → (Nat → Int) → (Nat → Int) → (Nat → Int) → (Nat → Int) → (Nat → Int) → M24
theorem gl_20 {x : Int} : F_X10_isGreenLong_a1_20 bar x = b2 (decide (1 ≤ x ∧ x ≤ 20 ∧ x < bar 4)) := by
  unfold F_X10_isGreenLong_a1_20 F_X10_isGreenLong_a1_20_25 lf_isin
  by_cases q : 1 ≤ x ∧ x ≤ 20 ∧ x < bar 4
  · rw [if_pos (show 1 ≤ x ∧ x ≤ 20 from ⟨q.1, q.2.1⟩), if_neg (show ¬ (1 : Int) = 0 from by decide), if_neg (by omega), decide_eq_true q]
    rfl
  · rw [decide_eq_false q]
    by_cases q1 : 1 ≤ x ∧ x ≤ 20
    · rw [if_pos q1, if_neg (show ¬ (1 : Int) = 0 from by decide), if_pos (by omega)]
      rfl
    · rw [if_neg q1, if_pos rfl]
      rfl
theorem lf_58 {K33 : KM33} {g r c79 c80 : Int} {n : Nat} {c55 c58 c59 c70 c71 c72 c73 c74 c117 : Int} {a3 a8 a11 a12 a14 a15 a16 a17 a19 : Nat → Int} : ∀ (f l : Nat) (a21 : Nat → Int), l ≤ 12 → 12 - l < f → ∃ b, F_X10_laysFits_58 g r (n : Int) c79 c80 K33 f c55 c58 c59 c70 c71 c72 c73 c74 c117 a3 a8 a11 a12 a14 a15 a16 a17 a19 (l : Int) a21 = K33 (r + (1 : Int)) c55 c58 c59 c70 c71 c72 c73 c74 ((n : Int) + (1 : Int)) (lf_o lf_ior c79 (lf_o lf_ishl (1 : Int) r)) (if c80 = -1 then g else c80) c117 a3 a8 a11 a12 a14 a15 a16 a17 a19 b ∧ (∀ w, l ≤ w → w < 12 → b (12 * n + w) = a15 w) ∧ ∀ i, i < 12 * n + l → b i = a21 i := by
  intro f
  induction f with
  | zero => intro l a21 h1 h2; omega
  | succ f ih =>
    intro l a21 h1 h2
    have e0 : F_X10_laysFits_58 g r (n : Int) c79 c80 K33 (f + 1) c55 c58 c59 c70 c71 c72 c73 c74 c117 a3 a8 a11 a12 a14 a15 a16 a17 a19 (l : Int) a21 = F_X10_laysFits_58b g r (n : Int) c79 c80 K33 (F_X10_laysFits_58 g r (n : Int) c79 c80 K33 f) c55 c58 c59 c70 c71 c72 c73 c74 c117 a3 a8 a11 a12 a14 a15 a16 a17 a19 (l : Int) a21 := rfl
    rw [e0]
    unfold F_X10_laysFits_58b F_X10_laysFits_125
    by_cases q : l = 12
    · rw [if_pos (by omega)]
      by_cases c : c80 = -1
      · rw [if_pos c, if_pos c]
        exact ⟨a21, rfl, fun w h3 h4 => absurd h4 (by omega), fun _ _ => rfl⟩
      · rw [if_neg c, if_neg c]
        exact ⟨a21, rfl, fun w h3 h4 => absurd h4 (by omega), fun _ _ => rfl⟩
    · rw [if_neg (by omega), Int.toNat_natCast]
      obtain ⟨b, e, b1, b2'⟩ := ih (l + 1) (lf_up a21 (((12 : Int) * (n : Int)) + (l : Int)) (a15 l)) (by omega) (by omega)
      refine ⟨b, e, fun w h3 h4 => ?_, fun i hi => ?_⟩
      · by_cases y : w = l
        · rw [y, b2' (12 * n + l) (by omega), lf_up_y (by omega)]
        · exact b1 w (by omega) h4
      · rw [b2' i (by omega), lf_up_o (by omega)]
theorem lw_33 {g : Nat} {t0 : FT} {C : M24 → Prop} {a10 a13 : Nat → Int} {K21 : Int → Int → Int → (Nat → Int) → (Nat → Int) → (Nat → Int) → Int → Int → Int → Int → Int → Int → Int → Int → Int → Int → (Nat → Int) → (Nat → Int) → (Nat → Int) → (Nat → Int) → (Nat → Int) → (Nat → Int) → (Nat → Int) → (Nat → Int) → (Nat → Int) → M24} (hP : plH nW nK cy ls oC oR kO cA clmK pcK comers code spans ar) (h : mdH nW nK cy ls d oC oR oL kO cA clmK pcK many bar kinds walkers cf ce codes now a10 tr) (hR : rwH nW rws sw ss rmM mrw) (hg : 1 ≤ g ∧ g ≤ 60) (hK : ∀ (t : FT) (c55 c58 c117 c59 c70 c71 c72 c73 c74 : Int) (a3 a8 a11 a12 a14 a15 a16 a17 a19 a21 : Nat → Int), t = fitR (lvZ oC oR nW cy ls kO cA clmK pcK d tr) (fun L => soR sw ss L rws.toNat 0) g 3 t0 → seO nW a21 t → C (K21 c55 c58 c117 a3 a10 a13 ((g : Int) + (1 : Int)) c59 c70 c71 c72 c73 c74 (t.1 : Int) t.2.1 t.2.2.1 a8 a11 a12 a14 a15 a16 a17 a19 a21)) : ∀ (f r : Nat) (t : FT) (c55 c58 c59 c70 c71 c72 c73 c74 c117 : Int) (a3 a8 a11 a12 a14 a15 a16 a17 a19 a21 : Nat → Int), r ≤ 3 → 3 - r < f → t = fitR (lvZ oC oR nW cy ls kO cA clmK pcK d tr) (fun L => soR sw ss L rws.toNat 0) g r t0 → seO nW a21 t → C (F_X10_laysFits_33 rmM many bar kinds walkers cf ce codes now mrw a10 a13 (g : Int) K21 f (r : Int) c55 c58 c59 c70 c71 c72 c73 c74 (t.1 : Int) t.2.1 t.2.2.1 c117 a3 a8 a11 a12 a14 a15 a16 a17 a19 a21) := by
  intro f
  induction f with
  | zero => intro r t c55 c58 c59 c70 c71 c72 c73 c74 c117 a3 a8 a11 a12 a14 a15 a16 a17 a19 a21 h1 h2; omega
  | succ f ih =>
    intro r t c55 c58 c59 c70 c71 c72 c73 c74 c117 a3 a8 a11 a12 a14 a15 a16 a17 a19 a21 h1 h2 hT hQ
    show C (F_X10_laysFits_33b rmM many bar kinds walkers cf ce codes now mrw a10 a13 (g : Int) K21 (F_X10_laysFits_33 rmM many bar kinds walkers cf ce codes now mrw a10 a13 (g : Int) K21 f) (r : Int) c55 c58 c59 c70 c71 c72 c73 c74 (t.1 : Int) t.2.1 t.2.2.1 c117 a3 a8 a11 a12 a14 a15 a16 a17 a19 a21)
    unfold F_X10_laysFits_33b F_X10_laysFits_125
    have hW : nW ≤ 12 := h.2.1
    by_cases q : r = 3
    · rw [if_pos (by omega)]
      subst q
      exact hK t _ _ _ _ _ _ _ _ _ _ _ _ _ _ _ _ _ _ _ hT hQ
    · obtain ⟨b1, b2', b3, b4, b5, b6, b7, b11, b16, e70, e71, e72, e73, e74, e55, e58, e59, e117, e, hF⟩ := day_x (tk := c55) (ask := c58) (sg := c74) (qp := c117) (isG := a19) (isH := a14) (cr := a15) (wt := a8) (go := a11) (hm := a12) (pr2 := a16) (ci := a17) (pile := a3) (A := 0) (H := 0) (ru := (r : Int)) (gr := (g : Int)) h rg_0 rg_0 (by omega) (by omega) ⟨by omega, by omega⟩
      rw [wkM_0] at hF
      have hv : ∀ w, w < nW → b2' w = lvZ oC oR nW cy ls kO cA clmK pcK d tr r g w := fun w hw => (hF.1 w hw).2.1
      have hso : F_X10_isAsSeen rmM b2' mrw = b2 (soR sw ss (lvZ oC oR nW cy ls kO cA clmK pcK d tr r g) rws.toNat 0) := is_m (n := rws.toNat) (by have := hR.2.1; have := hR.1; omega) (fun k hk => hR.2.2 k (by omega)) hv rws.toNat 0 18 (by omega) (by have := hR.2.1; omega)
      have eT : fitR (lvZ oC oR nW cy ls kO cA clmK pcK d tr) (fun L => soR sw ss L rws.toNat 0) g (r + 1) t0 = ftt (lvZ oC oR nW cy ls kO cA clmK pcK d tr) (fun L => soR sw ss L rws.toNat 0) r g t := by
        rw [hT]
        rfl
      rw [if_neg (by omega), e, lf_p_e, lf_p_e, lf_p_e, lf_p_e, lf_p_e, lf_p_e, lf_p_e, lf_p_e, lf_p_e, lf_p_e, lf_p_e, lf_p_e, lf_p_e, lf_p_e, lf_p_e, lf_p_e, lf_p_e, lf_b_e, hso]
      cases hb : soR sw ss (lvZ oC oR nW cy ls kO cA clmK pcK d tr r g) rws.toNat 0 with
      | false =>
        rw [if_pos (show b2 false = 0 from rfl)]
        refine ih (r + 1) t _ _ _ _ _ _ _ _ _ _ _ _ _ _ _ _ _ _ _ (by omega) (by omega) ?_ hQ
        rw [eT]
        unfold ftt
        rw [if_neg (fun z => Bool.noConfusion (hb.symm.trans z))]
      | true =>
        rw [if_neg (show ¬ b2 true = 0 from by decide)]
        have eT2 : ftt (lvZ oC oR nW cy ls kO cA clmK pcK d tr) (fun L => soR sw ss L rws.toNat 0) r g t = (t.1 + 1, lf_o lf_ior t.2.1 (lf_o lf_ishl (1 : Int) (r : Int)), (if t.2.2.1 = -1 then (g : Int) else t.2.2.1), fun k => if k = t.1 then lvZ oC oR nW cy ls kO cA clmK pcK d tr r g else t.2.2.2 k) := if_pos hb
        obtain ⟨b, e5, q1, q2⟩ := lf_58 (K33 := F_X10_laysFits_33 rmM many bar kinds walkers cf ce codes now mrw a10 a13 (g : Int) K21 f) (g := (g : Int)) (r := (r : Int)) (n := t.1) (c79 := t.2.1) (c80 := t.2.2.1) (c55 := e55) (c58 := e58) (c59 := e59) (c70 := e70) (c71 := e71) (c72 := e72) (c73 := e73) (c74 := e74) (c117 := e117) (a3 := b16) (a8 := b3) (a11 := b4) (a12 := b5) (a14 := b1) (a15 := b2') (a16 := b6) (a17 := b7) (a19 := b11) 14 0 a21 (Nat.zero_le _) (by decide)
        have e5' : F_X10_laysFits_58 (g : Int) (r : Int) (t.1 : Int) t.2.1 t.2.2.1 (F_X10_laysFits_33 rmM many bar kinds walkers cf ce codes now mrw a10 a13 (g : Int) K21 f) 14 e55 e58 e59 e70 e71 e72 e73 e74 e117 b16 b3 b4 b5 b1 b2' b6 b7 b11 (0 : Int) a21 = _ := e5
        rw [e5']
        refine ih (r + 1) (t.1 + 1, lf_o lf_ior t.2.1 (lf_o lf_ishl (1 : Int) (r : Int)), (if t.2.2.1 = -1 then (g : Int) else t.2.2.1), fun k => if k = t.1 then lvZ oC oR nW cy ls kO cA clmK pcK d tr r g else t.2.2.2 k) _ _ _ _ _ _ _ _ _ _ _ _ _ _ _ _ _ _ _ (by omega) (by omega) (by rw [eT, eT2]) ?_
        intro k hk w hw
        have hk' : k < t.1 + 1 := hk
        dsimp only
        by_cases y : k = t.1
        · rw [if_pos y, y, q1 w (Nat.zero_le _) (by omega)]
          exact hv w hw
        · rw [if_neg y, q2 _ (by omega)]
          exact hQ k (by omega) w hw
theorem lw_21 {m : Nat} {a10 a13 : Nat → Int} (hP : plH nW nK cy ls oC oR kO cA clmK pcK comers code spans ar) (h : mdH nW nK cy ls d oC oR oL kO cA clmK pcK many bar kinds walkers cf ce codes now a10 tr) (hR : rwH nW rws sw ss rmM mrw) (hm : (m : Int) = min 20 (cy - 1)) : ∀ (f g : Nat) (t : FT) (c55 c58 c117 c59 c70 c71 c72 c73 c74 : Int) (a3 a8 a11 a12 a14 a15 a16 a17 a19 a21 : Nat → Int), g ≤ m → m - g < f → t = ftG (lvZ oC oR nW cy ls kO cA clmK pcK d tr) (fun L => soR sw ss L rws.toNat 0) g → seO nW a21 t → ∃ O : M24, O = F_X10_laysFits_21 rmM many bar kinds walkers cf ce codes now mrw f c55 c58 c117 a3 a10 a13 ((g + 1 : Nat) : Int) c59 c70 c71 c72 c73 c74 (t.1 : Int) t.2.1 t.2.2.1 a8 a11 a12 a14 a15 a16 a17 a19 a21 ∧ O.2.2.2.2.2.2.2.2.1 = ((ftG (lvZ oC oR nW cy ls kO cA clmK pcK d tr) (fun L => soR sw ss L rws.toNat 0) m).1 : Int) ∧ O.2.2.2.2.2.2.2.2.2.1 = (ftG (lvZ oC oR nW cy ls kO cA clmK pcK d tr) (fun L => soR sw ss L rws.toNat 0) m).2.1 ∧ O.2.2.2.2.2.2.2.2.2.2.1 = (ftG (lvZ oC oR nW cy ls kO cA clmK pcK d tr) (fun L => soR sw ss L rws.toNat 0) m).2.2.1 ∧ seO nW O.2.2.2.2.2.2.2.2.2.2.2.2.2.2.2.2.2.2.2.2.2.2.2 (ftG (lvZ oC oR nW cy ls kO cA clmK pcK d tr) (fun L => soR sw ss L rws.toNat 0) m) := by
  intro f
  induction f with
  | zero => intro g t c55 c58 c117 c59 c70 c71 c72 c73 c74 a3 a8 a11 a12 a14 a15 a16 a17 a19 a21 h1 h2; omega
  | succ f ih =>
    intro g t c55 c58 c117 c59 c70 c71 c72 c73 c74 a3 a8 a11 a12 a14 a15 a16 a17 a19 a21 h1 h2 hT hQ
    have e0 : F_X10_laysFits_21 rmM many bar kinds walkers cf ce codes now mrw (f + 1) c55 c58 c117 a3 a10 a13 ((g + 1 : Nat) : Int) c59 c70 c71 c72 c73 c74 (t.1 : Int) t.2.1 t.2.2.1 a8 a11 a12 a14 a15 a16 a17 a19 a21 = F_X10_laysFits_21b rmM many bar kinds walkers cf ce codes now mrw (F_X10_laysFits_21 rmM many bar kinds walkers cf ce codes now mrw f) c55 c58 c117 a3 a10 a13 ((g + 1 : Nat) : Int) c59 c70 c71 c72 c73 c74 (t.1 : Int) t.2.1 t.2.2.1 a8 a11 a12 a14 a15 a16 a17 a19 a21 := rfl
    rw [e0]
    unfold F_X10_laysFits_21b
    have hb4 : bar 4 = cy := h.1.2.2.1
    rw [gl_20, lf_b_e, hb4]
    by_cases q : g = m
    · rw [decide_eq_false (by omega), if_pos (show b2 false = 0 from rfl), ← q, ← hT]
      exact ⟨_, rfl, rfl, rfl, rfl, hQ⟩
    · rw [decide_eq_true (by omega), if_neg (show ¬ b2 true = 0 from by decide)]
      exact lw_33 (C := fun P => ∃ O : M24, O = P ∧ O.2.2.2.2.2.2.2.2.1 = ((ftG (lvZ oC oR nW cy ls kO cA clmK pcK d tr) (fun L => soR sw ss L rws.toNat 0) m).1 : Int) ∧ O.2.2.2.2.2.2.2.2.2.1 = (ftG (lvZ oC oR nW cy ls kO cA clmK pcK d tr) (fun L => soR sw ss L rws.toNat 0) m).2.1 ∧ O.2.2.2.2.2.2.2.2.2.2.1 = (ftG (lvZ oC oR nW cy ls kO cA clmK pcK d tr) (fun L => soR sw ss L rws.toNat 0) m).2.2.1 ∧ seO nW O.2.2.2.2.2.2.2.2.2.2.2.2.2.2.2.2.2.2.2.2.2.2.2 (ftG (lvZ oC oR nW cy ls kO cA clmK pcK d tr) (fun L => soR sw ss L rws.toNat 0) m)) (g := g + 1) (t0 := t) (K21 := F_X10_laysFits_21 rmM many bar kinds walkers cf ce codes now mrw f) hP h hR ⟨by omega, by omega⟩ (fun t2 c55 c58 c117 c59 c70 c71 c72 c73 c74 a3 a8 a11 a12 a14 a15 a16 a17 a19 a21 hT2 hQ2 => ih (g + 1) t2 c55 c58 c117 c59 c70 c71 c72 c73 c74 a3 a8 a11 a12 a14 a15 a16 a17 a19 a21 (by omega) (by omega) (by rw [hT2, hT]; rfl) hQ2) 5 0 t _ _ _ _ _ _ _ _ _ _ _ _ _ _ _ _ _ _ _ (by decide) (by decide) rfl hQ
theorem lw_x (hP : plH nW nK cy ls oC oR kO cA clmK pcK comers code spans ar) (hM : pmH nW nK cy ls oC oR oL kO cA clmK pcK many bar kinds walkers cf ce codes) (hB : stB nK d ru gr tr) (hn : ndH nK d ru gr tr now) (hR : rwH nW rws sw ss rmM mrw) : ∃ O : M24, O = F_X10_laysFits tk ask red io lg gt icg sg rmM qp many bar kinds walkers cf ce codes now isCar gapM isG isH crM wtM goM hmM prM ciM mrw whn pile ∧ O.2.2.2.2.2.2.2.2.1 = ((ftX oC oR nW cy ls kO cA clmK pcK d tr rws sw ss).1 : Int) ∧ O.2.2.2.2.2.2.2.2.2.1 = (ftX oC oR nW cy ls kO cA clmK pcK d tr rws sw ss).2.1 ∧ O.2.2.2.2.2.2.2.2.2.2.1 = (ftX oC oR nW cy ls kO cA clmK pcK d tr rws sw ss).2.2.1 ∧ seO nW O.2.2.2.2.2.2.2.2.2.2.2.2.2.2.2.2.2.2.2.2.2.2.2 (ftX oC oR nW cy ls kO cA clmK pcK d tr rws sw ss) := by
  have hcy := hP.2.2.1
  obtain ⟨t, q, r, p, g2, i2, e, h1, h2⟩ := mc_x (tk := tk) (ask := ask) (red := red) (qp := qp) (kinds := kinds) (walkers := walkers) (isCar := isCar) (gaps := gapM) (waits := wtM) (goes := goM) (harms := hmM) (pile := pile) hB.1 (show 1 ≤ cy from by omega) hP.2.2.1.2 hM.2.2.1 hn.1 hM.2.2.2.2.2.2.1 hP.2.2.2.2.2.2.1.2
  unfold F_X10_laysFits
  rw [e, lf_p_e, lf_p_e, lf_p_e, lf_p_e, lf_p_e]
  exact lw_21 (m := (min 20 (cy - 1)).toNat) hP (md_of hP hM hB.1 hn h2) hR (by omega) 22 0 (0, 0, -1, fun _ _ => 0) t q r red io lg gt icg sg p wtM goM hmM isH crM prM ciM isG whn (Nat.zero_le _) (by omega) rfl (fun k hk => absurd hk (Nat.not_lt_zero k))
theorem fi_mx (hP : plH nW nK cy ls oC oR kO cA clmK pcK comers code spans ar) (hM : pmH nW nK cy ls oC oR oL kO cA clmK pcK many bar kinds walkers cf ce codes) (hB : stB nK d ru gr tr) (hn : ndH nK d ru gr tr now) (hi : isc = 1) (hR : rwH nW rws sw ss rmM mrw) : (F_X10_fits isc tk ask red io lg gt icg sg rmM ftm ftr ftg qp many bar kinds walkers cf ce codes now isCar gapM isG isH crM wtM goM hmM prM ciM mrw whn pile p0).1 = fiA (ftX oC oR nW cy ls kO cA clmK pcK d tr rws sw ss) p0 := by
  obtain ⟨O, e, e1, e2, e3, e4⟩ := lw_x (tk := tk) (ask := ask) (red := red) (io := io) (lg := lg) (gt := gt) (icg := icg) (sg := sg) (qp := qp) (isCar := isCar) (gapM := gapM) (isG := isG) (isH := isH) (crM := crM) (wtM := wtM) (goM := goM) (hmM := hmM) (prM := prM) (ciM := ciM) (whn := whn) (pile := pile) hP hM hB hn hR
  unfold F_X10_fits F_X10_fits_19 fiA lf_isin
  rw [if_neg (show ¬ isc = 0 from by omega)]
  by_cases c : 0 ≤ p0 ∧ p0 ≤ 2
  · rw [if_pos c, if_neg (show ¬ (1 : Int) = 0 from by decide), ← e]
    obtain ⟨r1, r2, r3, r4, r5, r6, r7, r8, r9, r10, r11, r12, r13, r14, r15, r16, r17, r18, r19, r20, r21, r22, r23, r24⟩ := O
    rw [lf_p_e, lf_p_e, lf_p_e, lf_p_e, lf_p_e, lf_p_e, lf_p_e, lf_p_e, lf_p_e, lf_p_e, lf_p_e, lf_p_e, lf_p_e, lf_p_e, lf_p_e, lf_p_e, lf_p_e, lf_p_e, lf_p_e, lf_p_e, lf_p_e, lf_p_e, lf_p_e]
    by_cases c0 : p0 = 0
    · rw [if_pos c0, if_pos c0]
      exact e1
    rw [if_neg c0, if_neg c0]
    by_cases c1 : p0 = 1
    · rw [if_pos c1, if_pos c1]
      exact e2
    rw [if_neg c1, if_neg c1, if_pos (show p0 = 2 from by omega)]
    exact e3
  · rw [if_neg c, if_pos rfl, if_neg (by omega), if_neg (by omega), if_neg (by omega)]
theorem mm_i {S : Nat → Nat → Int} {n : Nat} {K4 : Int → Int → Int} {w a : Nat} {l2 : Int} (hn : n ≤ 60) (hw : w < nW) (hW : nW ≤ 12) (ha : a < n) (hs : ∀ k, k < n → ∀ w, w < nW → whn (12 * k + w) = S k w) : ∀ (f b : Nat) (l4 : Int), b ≤ n → n - b < f → l4 = cnf (fun b => decide (S b w = S a w)) b → F_X10_mostAlike_18 (n : Int) whn (w : Int) l2 (a : Int) K4 f l4 (b : Int) = K4 (max l2 (cnf (fun b => decide (S b w = S a w)) n)) ((a : Int) + (1 : Int)) := by
  intro f
  induction f with
  | zero => intro b l4 h1 h2; omega
  | succ f ih =>
    intro b l4 h1 h2 h3
    have e0 : F_X10_mostAlike_18 (n : Int) whn (w : Int) l2 (a : Int) K4 (f + 1) l4 (b : Int) = F_X10_mostAlike_18b (n : Int) whn (w : Int) l2 (a : Int) K4 (F_X10_mostAlike_18 (n : Int) whn (w : Int) l2 (a : Int) K4 f) l4 (b : Int) := rfl
    rw [e0]
    unfold F_X10_mostAlike_18b F_X10_mostAlike_56 F_X10_mostAlike_71
    by_cases q : b = n
    · rw [if_pos (by omega)]
      have e9 : l4 = cnf (fun b => decide (S b w = S a w)) n := by rw [h3, q]
      rw [← e9]
      by_cases c : l4 ≤ l2
      · rw [if_pos c, show max l2 l4 = l2 from by omega]
      · rw [if_neg c, show max l2 l4 = l4 from by omega]
    · have hb := cnf_le (fun b => decide (S b w = S a w)) b
      have eS : cnf (fun b => decide (S b w = S a w)) (b + 1) = cnf (fun b => decide (S b w = S a w)) b + b2 (decide (S b w = S a w)) := rfl
      rw [if_neg (by omega), show Int.toNat (((12 : Int) * (a : Int)) + (w : Int)) = 12 * a + w from by omega, show Int.toNat (((12 : Int) * (b : Int)) + (w : Int)) = 12 * b + w from by omega, hs b (by omega) w hw, hs a ha w hw]
      by_cases c : S a w = S b w
      · rw [if_pos c]
        refine ih (b + 1) _ (by omega) (by omega) ?_
        rw [eS, decide_eq_true c.symm, h3, lo_add (by omega) (by omega) (by omega) (by omega) (by omega) (by omega)]
        rfl
      · rw [if_neg c]
        refine ih (b + 1) _ (by omega) (by omega) ?_
        rw [eS, decide_eq_false (fun r => c r.symm), h3]
        exact (Int.add_zero _).symm
theorem mm_o {S : Nat → Nat → Int} {n : Nat} {w : Nat} (hn : n ≤ 60) (hw : w < nW) (hW : nW ≤ 12) (hs : ∀ k, k < n → ∀ w, w < nW → whn (12 * k + w) = S k w) : ∀ (f a : Nat), a ≤ n → n - a < f → F_X10_mostAlike_4 (n : Int) whn (w : Int) f (mlX S n w a) (a : Int) = mlX S n w n := by
  intro f
  induction f with
  | zero => intro a h1 h2; omega
  | succ f ih =>
    intro a h1 h2
    have e0 : F_X10_mostAlike_4 (n : Int) whn (w : Int) (f + 1) (mlX S n w a) (a : Int) = F_X10_mostAlike_4b (n : Int) whn (w : Int) (F_X10_mostAlike_4 (n : Int) whn (w : Int) f) (mlX S n w a) (a : Int) := rfl
    rw [e0]
    unfold F_X10_mostAlike_4b
    by_cases q : a = n
    · rw [if_pos (by omega), q]
    · have e := mm_i (K4 := F_X10_mostAlike_4 (n : Int) whn (w : Int) f) (l2 := mlX S n w a) hn hw hW (show a < n from by omega) hs 62 0 0 (Nat.zero_le _) (by omega) rfl
      have e' : F_X10_mostAlike_18 (n : Int) whn (w : Int) (mlX S n w a) (a : Int) (F_X10_mostAlike_4 (n : Int) whn (w : Int) f) 62 (0 : Int) (0 : Int) = _ := e
      rw [if_neg (by omega), e']
      exact ih (a + 1) (by omega) (by omega)
theorem wm_run {t : FT} {c55 c58 c59 c70 c71 c72 c73 c74 c79 c80 c117 : Int} {a3 a8 a10 a11 a12 a13 a14 a15 a16 a17 a19 : Nat → Int} (hn : t.1 ≤ 60) (hW : nW ≤ 12) (hm3 : many 3 = (nW : Int)) (hs : seO nW whn t) (hp : 0 ≤ p0 ∧ p0 ≤ 1) : ∀ (f w : Nat) (l2 l3 : Int), w ≤ nW → nW - w < f → (t.1 = 0 → w = 0) → l2 = (wcS (fun w => mlX t.2.2.2 t.1 w t.1) w).1 → (¬ l2 = -1 → l3 = (wcS (fun w => mlX t.2.2.2 t.1 w t.1) w).2) → (F_X10_watched_30 many p0 f c55 c58 c59 c70 c71 c72 c73 c74 (t.1 : Int) c79 c80 c117 a3 a8 a10 a11 a12 a13 a14 a15 a16 a17 a19 whn l2 l3 (w : Int)).1 = wdA nW t p0 := by
  intro f
  induction f with
  | zero => intro w l2 l3 h1 h2; omega
  | succ f ih =>
    intro w l2 l3 h1 h2 h0 h3 h4
    have e0 : F_X10_watched_30 many p0 (f + 1) c55 c58 c59 c70 c71 c72 c73 c74 (t.1 : Int) c79 c80 c117 a3 a8 a10 a11 a12 a13 a14 a15 a16 a17 a19 whn l2 l3 (w : Int) = F_X10_watched_30b many p0 (F_X10_watched_30 many p0 f) c55 c58 c59 c70 c71 c72 c73 c74 (t.1 : Int) c79 c80 c117 a3 a8 a10 a11 a12 a13 a14 a15 a16 a17 a19 whn l2 l3 (w : Int) := rfl
    rw [e0]
    unfold F_X10_watched_30b F_X10_watched_68 F_X10_watched_74
    have fin : ∀ nV, (if t.1 = 0 then 0 else nW) = nV → w = nV → (F_X10_watched_80 p0 c55 c58 c59 c70 c71 c72 c73 c74 (t.1 : Int) c79 c80 c117 a3 a8 a10 a11 a12 a13 a14 a15 a16 a17 a19 whn l2 l3 (w : Int)).1 = wdA nW t p0 := by
      intro nV hV hw
      unfold F_X10_watched_80 wdA wcF
      rw [hV, ← hw]
      have hx := wcS_n (ML := fun w => mlX t.2.2.2 t.1 w t.1) w
      by_cases c : l2 = -1
      · rw [if_pos c]
        by_cases d0 : p0 = 0
        · rw [if_pos d0]
          exact (c.symm.trans h3)
        · rw [if_neg d0, if_pos (show p0 = 1 from by omega)]
          show (-1 : Int) = _
          omega
      · rw [if_neg c]
        by_cases d0 : p0 = 0
        · rw [if_pos d0, if_pos d0]
          exact h3
        · rw [if_neg d0, if_neg d0, if_pos (show p0 = 1 from by omega)]
          exact h4 c
    rw [lf_b_e, hm3]
    by_cases q : w = nW
    · rw [if_pos (by omega)]
      by_cases z : t.1 = 0
      · exact fin 0 (if_pos z) (h0 z)
      · exact fin nW (if_neg z) q
    · rw [if_neg (by omega)]
      by_cases z : t.1 = 0
      · rw [if_pos (by omega)]
        exact fin 0 (if_pos z) (h0 z)
      · rw [if_neg (by omega)]
        have e : F_X10_mostAlike (t.1 : Int) whn (w : Int) = mlX t.2.2.2 t.1 w t.1 := mm_o hn (show w < nW from by omega) hW hs 62 0 (Nat.zero_le _) (by omega)
        have eS : wcS (fun w => mlX t.2.2.2 t.1 w t.1) (w + 1) = if (wcS (fun w => mlX t.2.2.2 t.1 w t.1) w).1 = -1 ∨ mlX t.2.2.2 t.1 w t.1 < (wcS (fun w => mlX t.2.2.2 t.1 w t.1) w).2 then ((w : Int), mlX t.2.2.2 t.1 w t.1) else wcS (fun w => mlX t.2.2.2 t.1 w t.1) w := rfl
        rw [e, lf_b_e]
        by_cases c1 : l2 = -1
        · rw [if_pos c1]
          refine ih (w + 1) _ _ (by omega) (by omega) (fun r => absurd r z) ?_ (fun _ => ?_)
          · rw [eS, if_pos (Or.inl (h3.symm.trans c1))]
          · rw [eS, if_pos (Or.inl (h3.symm.trans c1))]
        · rw [if_neg c1]
          by_cases c2 : mlX t.2.2.2 t.1 w t.1 < l3
          · rw [if_pos c2]
            refine ih (w + 1) _ _ (by omega) (by omega) (fun r => absurd r z) ?_ (fun _ => ?_)
            · rw [eS, if_pos (Or.inr (by rw [← h4 c1]; exact c2))]
            · rw [eS, if_pos (Or.inr (by rw [← h4 c1]; exact c2))]
          · rw [if_neg c2]
            have nn : ¬ ((wcS (fun w => mlX t.2.2.2 t.1 w t.1) w).1 = -1 ∨ mlX t.2.2.2 t.1 w t.1 < (wcS (fun w => mlX t.2.2.2 t.1 w t.1) w).2) := fun r => r.elim (fun r => c1 (h3.trans r)) (fun r => c2 (by rw [h4 c1]; exact r))
            refine ih (w + 1) _ _ (by omega) (by omega) (fun r => absurd r z) ?_ (fun hc => ?_)
            · rw [eS, if_neg nn]
              exact h3
            · rw [eS, if_neg nn]
              exact h4 hc
theorem wd_mx (hP : plH nW nK cy ls oC oR kO cA clmK pcK comers code spans ar) (hM : pmH nW nK cy ls oC oR oL kO cA clmK pcK many bar kinds walkers cf ce codes) (hB : stB nK d ru gr tr) (hn : ndH nK d ru gr tr now) (hi : isc = 1) (hR : rwH nW rws sw ss rmM mrw) : (F_X10_watched isc tk ask red io lg gt icg sg rmM ftm ftr ftg qp many bar kinds walkers cf ce codes now isCar gapM isG isH crM wtM goM hmM prM ciM mrw whn pile p0).1 = wdA nW (ftX oC oR nW cy ls kO cA clmK pcK d tr rws sw ss) p0 := by
  obtain ⟨O, e, e1, e2, e3, e4⟩ := lw_x (tk := tk) (ask := ask) (red := red) (io := io) (lg := lg) (gt := gt) (icg := icg) (sg := sg) (qp := qp) (isCar := isCar) (gapM := gapM) (isG := isG) (isH := isH) (crM := crM) (wtM := wtM) (goM := goM) (hmM := hmM) (prM := prM) (ciM := ciM) (whn := whn) (pile := pile) hP hM hB hn hR
  have hW : nW ≤ 12 := hP.1
  have hc : (ftX oC oR nW cy ls kO cA clmK pcK d tr rws sw ss).1 ≤ 60 := by
    have := ftG_n (Z := lvZ oC oR nW cy ls kO cA clmK pcK d tr) (B := fun L => soR sw ss L rws.toNat 0) (min 20 (cy - 1)).toNat
    unfold ftX
    omega
  unfold F_X10_watched F_X10_watched_17 lf_isin
  rw [if_neg (show ¬ isc = 0 from by omega)]
  by_cases c : 0 ≤ p0 ∧ p0 ≤ 1
  · rw [if_pos c, if_neg (show ¬ (1 : Int) = 0 from by decide), ← e]
    obtain ⟨r1, r2, r3, r4, r5, r6, r7, r8, r9, r10, r11, r12, r13, r14, r15, r16, r17, r18, r19, r20, r21, r22, r23, r24⟩ := O
    have e1' : r9 = ((ftX oC oR nW cy ls kO cA clmK pcK d tr rws sw ss).1 : Int) := e1
    subst e1'
    rw [lf_p_e, lf_p_e, lf_p_e, lf_p_e, lf_p_e, lf_p_e, lf_p_e, lf_p_e, lf_p_e, lf_p_e, lf_p_e, lf_p_e, lf_p_e, lf_p_e, lf_p_e, lf_p_e, lf_p_e, lf_p_e, lf_p_e, lf_p_e, lf_p_e, lf_p_e, lf_p_e]
    exact wm_run (t := ftX oC oR nW cy ls kO cA clmK pcK d tr rws sw ss) hc hW hM.1 e4 c 14 0 (-1) 0 (Nat.zero_le _) (by omega) (fun _ => rfl) rfl (fun r => absurd rfl r)
  · rw [if_neg c, if_pos rfl]
    unfold wdA
    rw [if_neg (by omega), if_neg (by omega)]
end WM
end
section
/-! 9n -/
/-! hold, on both sides -/
section HW
variable {nW : Nat} {cA pcw : Nat → Int} {lf gp : Nat → Int} {G : Nat → Nat → Int → Bool} {Hd : Nat → Bool}
/-- nobody has gone -/
def nog (z : wzT) : Prop := ∀ v, ¬ 2 ≤ z.2.1 v
theorem nog_r {ab : Nat → Bool} {s : Nat} {z : wzT} (h : spI nW cA ab s z) (hn : nog z) : z.2.2 = 0 := by
  rw [h.2, cnf_0]
  exact fun w _ => decide_eq_false (hn w)
theorem nog_st {ab : Nat → Bool} {s w : Nat} {z : wzT} (h : spI nW cA ab (s + 1) z) (hn : nog (wstep cA pcw ab lf gp G s w z)) : nog z := by
  intro v hv
  apply hn v
  unfold wstep
  by_cases hh : here cA ab s w z = true
  · have hne : ¬ v = w := by
      intro e
      have h2 := hh
      unfold here at h2
      rw [Bool.and_eq_true] at h2
      have h3 := ((h.1 w).1).mp (of_decide_eq_true h2.2)
      rw [e, h3] at hv
      omega
    rw [if_pos hh]
    by_cases c1 : pcw w ≤ lf s
    · rw [if_pos c1]
      show 2 ≤ upn z.2.1 w 1 v
      rw [upn_o hne]
      exact hv
    · rw [if_neg c1]
      by_cases c2 : G w s z.2.2 = true
      · rw [if_pos c2]
        show 2 ≤ upn z.2.1 w _ v
        rw [upn_o hne]
        exact hv
      · rw [if_neg c2]
        exact hv
  · rw [if_neg hh]
    exact hv
theorem nog_row {ab : Nat → Bool} {s : Nat} {z : wzT} (h : spI nW cA ab (s + 1) z) : ∀ k, k ≤ nW → nog (wrow cA pcw ab lf gp G s k z) → nog z
  | 0, _, hn => hn
  | k + 1, hk, hn => nog_row h k (by omega) (nog_st (spI_row k z (by omega) h) hn)
theorem nog_rowk {ab : Nat → Bool} {s : Nat} {z : wzT} (h : spI nW cA ab (s + 1) z) : ∀ j k, k + j ≤ nW → nog (wrow cA pcw ab lf gp G s (k + j) z) → nog (wrow cA pcw ab lf gp G s k z)
  | 0, _, _, hn => hn
  | j + 1, k, hk, hn => nog_rowk h j k (by omega) (nog_st (spI_row (k + j) z (by omega) h) hn)
theorem nog_S {ab : Nat → Bool} : ∀ j s, nog (wzS nW cA pcw ab lf gp G (s + j)) → nog (wzS nW cA pcw ab lf gp G s)
  | 0, _, hn => hn
  | j + 1, s, hn => nog_S j s (nog_row (spI_w (spI_S (s + j))) nW (Nat.le_refl _) hn)
/-- one who is still there has not crossed, and would not have gone -/
def stay (cA pcw : Nat → Int) (lf : Nat → Int) (G : Nat → Nat → Int → Bool) (Hd : Nat → Bool) (s w : Nat) : Prop := ∀ t : Nat, cA w ≤ (t : Int) → t < s → ¬ pcw w ≤ lf t ∧ (Hd w = true ∨ G w t 0 = false)
theorem goF_i {pc : Int} {lf : Nat → Int} {g : Nat → Bool} : ∀ (f s : Nat), 300 - s < f → (goF pc lf g f s = true ↔ ∃ t, s ≤ t ∧ t < 300 ∧ (∀ u, s ≤ u → u ≤ t → ¬ pc ≤ lf u) ∧ (∀ u, s ≤ u → u < t → g u = false) ∧ g t = true) := by
  intro f
  induction f with
  | zero => intro s h; omega
  | succ f ih =>
    intro s h
    have e : goF pc lf g (f + 1) s = if 300 ≤ s then false else if pc ≤ lf s then false else if g s = true then true else goF pc lf g f (s + 1) := rfl
    rw [e]
    by_cases c0 : 300 ≤ s
    · rw [if_pos c0]
      exact ⟨fun r => Bool.noConfusion r, fun ⟨t, h1, h2, _⟩ => by omega⟩
    rw [if_neg c0]
    by_cases c1 : pc ≤ lf s
    · rw [if_pos c1]
      exact ⟨fun r => Bool.noConfusion r, fun ⟨t, h1, h2, h3, _⟩ => absurd c1 (h3 s (Nat.le_refl s) h1)⟩
    rw [if_neg c1]
    by_cases c2 : g s = true
    · rw [if_pos c2]
      refine ⟨fun _ => ⟨s, Nat.le_refl s, by omega, fun u h1 h2 => ?_, fun u h1 h2 => absurd h2 (by omega), c2⟩, fun _ => rfl⟩
      have : u = s := by omega
      rw [this]
      exact c1
    rw [if_neg c2, ih (s + 1) (by omega)]
    constructor
    · intro ⟨t, h1, h2, h3, h4, h5⟩
      refine ⟨t, by omega, h2, fun u u1 u2 => ?_, fun u u1 u2 => ?_, h5⟩
      · by_cases y : u = s
        · rw [y]
          exact c1
        · exact h3 u (by omega) u2
      · by_cases y : u = s
        · rw [y]
          exact eq_false_of_ne_true c2
        · exact h4 u (by omega) u2
    · intro ⟨t, h1, h2, h3, h4, h5⟩
      have hne : ¬ t = s := fun y => c2 (by rw [← y]; exact h5)
      exact ⟨t, by omega, h2, fun u u1 u2 => h3 u (by omega) u2, fun u u1 u2 => h4 u (by omega) u2, h5⟩
/-- where all are held who go by themselves, none goes -/
theorem ho_step {s w : Nat} {z : wzT} (hk : ∀ w, w < nW → Hd w = true ∨ goF (pcw w) lf (fun t => G w t 0) 302 (cA w).toNat = false) (hc : ∀ w, w < nW → 0 ≤ cA w) (hs : s < 300) (hw : w < nW) (h : spI nW cA (fun _ => false) (s + 1) z) (hn : nog z) (hst : ∀ v, v < nW → z.1 v = -1 → stay cA pcw lf G Hd (if v < w then s + 1 else s) v) : nog (wstep cA pcw (fun _ => false) lf gp (fun w s r => !Hd w && G w s r) s w z) ∧ ∀ v, v < nW → (wstep cA pcw (fun _ => false) lf gp (fun w s r => !Hd w && G w s r) s w z).1 v = -1 → stay cA pcw lf G Hd (if v < w + 1 then s + 1 else s) v := by
  have h0 := nog_r h hn
  unfold wstep
  by_cases hh : here cA (fun _ => false) s w z = true
  · have hh2 := hh
    unfold here at hh2
    rw [Bool.and_eq_true, Bool.and_eq_true] at hh2
    have hz1 := of_decide_eq_true hh2.2
    have hca := of_decide_eq_true hh2.1.1
    have hsw := hst w hw hz1
    rw [if_neg (Nat.lt_irrefl w)] at hsw
    rw [if_pos hh]
    by_cases c1 : pcw w ≤ lf s
    · rw [if_pos c1]
      refine ⟨fun v => ?_, fun v hv hv1 => ?_⟩
      · show ¬ 2 ≤ upn z.2.1 w 1 v
        by_cases y : v = w
        · rw [y, upn_y]
          decide
        · rw [upn_o y]
          exact hn v
      · have hv2 : upn z.1 w (s : Int) v = -1 := hv1
        have y : ¬ v = w := fun y => by
          rw [y, upn_y] at hv2
          omega
        rw [upn_o y] at hv2
        have := hst v hv hv2
        by_cases x : v < w
        · rw [if_pos x] at this
          rw [if_pos (by omega)]
          exact this
        · rw [if_neg x] at this
          rw [if_neg (by omega)]
          exact this
    · rw [if_neg c1]
      have hg : (!Hd w && G w s z.2.2) = false := by
        rw [h0]
        rcases hk w hw with r | r
        · rw [r]
          rfl
        · cases hG : G w s 0 with
          | false => rw [Bool.and_false]
          | true =>
            cases hH : Hd w with
            | true => rfl
            | false =>
              exfalso
              have h1 : goF (pcw w) lf (fun t => G w t 0) 302 (cA w).toNat = true := by
                rw [goF_i 302 (cA w).toNat (by omega)]
                have hc0 := hc w hw
                refine ⟨s, by omega, hs, fun u u1 u2 => ?_, fun u u1 u2 => ?_, hG⟩
                · by_cases y : u = s
                  · rw [y]
                    exact c1
                  · exact (hsw u (by omega) (by omega)).1
                · have h3 := (hsw u (by omega) (by omega)).2
                  rw [hH] at h3
                  exact h3.elim (fun r => Bool.noConfusion r) (fun r => r)
              rw [h1] at r
              exact Bool.noConfusion r
      have hg2 : ¬ (!Hd w && G w s z.2.2) = true := fun r => Bool.noConfusion (hg.symm.trans r)
      rw [if_neg hg2]
      refine ⟨hn, fun v hv hv1 => ?_⟩
      by_cases y : v = w
      · rw [y, if_pos (Nat.lt_succ_self w)]
        intro t t1 t2
        by_cases x : t = s
        · rw [x]
          refine ⟨c1, ?_⟩
          rw [h0] at hg
          cases hH : Hd w with
          | true => exact Or.inl rfl
          | false =>
            rw [hH] at hg
            exact Or.inr hg
        · exact hsw t t1 (by omega)
      · have := hst v hv hv1
        by_cases x : v < w
        · rw [if_pos x] at this
          rw [if_pos (by omega)]
          exact this
        · rw [if_neg x] at this
          rw [if_neg (by omega)]
          exact this
  · rw [if_neg hh]
    refine ⟨hn, fun v hv hv1 => ?_⟩
    have hx := hst v hv hv1
    by_cases y : v = w
    · rw [y, if_pos (Nat.lt_succ_self w)]
      rw [y, if_neg (Nat.lt_irrefl w)] at hx
      have hca : ¬ cA w ≤ (s : Int) := by
        intro r
        apply hh
        unfold here
        rw [decide_eq_true r, decide_eq_true (show z.1 w = -1 from by rw [← y]; exact hv1)]
        rfl
      intro t t1 t2
      exact hx t t1 (by omega)
    · by_cases x : v < w
      · rw [if_pos x] at hx
        rw [if_pos (by omega)]
        exact hx
      · rw [if_neg x] at hx
        rw [if_neg (by omega)]
        exact hx
theorem ho_row {s : Nat} {z : wzT} (hk : ∀ w, w < nW → Hd w = true ∨ goF (pcw w) lf (fun t => G w t 0) 302 (cA w).toNat = false) (hc : ∀ w, w < nW → 0 ≤ cA w) (hs : s < 300) (h : spI nW cA (fun _ => false) (s + 1) z) (hn : nog z) (hst : ∀ v, v < nW → z.1 v = -1 → stay cA pcw lf G Hd s v) : ∀ k, k ≤ nW → nog (wrow cA pcw (fun _ => false) lf gp (fun w s r => !Hd w && G w s r) s k z) ∧ ∀ v, v < nW → (wrow cA pcw (fun _ => false) lf gp (fun w s r => !Hd w && G w s r) s k z).1 v = -1 → stay cA pcw lf G Hd (if v < k then s + 1 else s) v
  | 0, _ => ⟨hn, fun v hv hv1 => by
    rw [if_neg (Nat.not_lt_zero v)]
    exact hst v hv hv1⟩
  | k + 1, hk1 => by
    obtain ⟨i1, i2⟩ := ho_row hk hc hs h hn hst k (by omega)
    exact ho_step hk hc hs (by omega) (spI_row k z (by omega) h) i1 i2
theorem ho_S (hk : ∀ w, w < nW → Hd w = true ∨ goF (pcw w) lf (fun t => G w t 0) 302 (cA w).toNat = false) (hc : ∀ w, w < nW → 0 ≤ cA w) : ∀ s, s ≤ 300 → nog (wzS nW cA pcw (fun _ => false) lf gp (fun w s r => !Hd w && G w s r) s) ∧ ∀ v, v < nW → (wzS nW cA pcw (fun _ => false) lf gp (fun w s r => !Hd w && G w s r) s).1 v = -1 → stay cA pcw lf G Hd s v
  | 0, _ => ⟨fun v => by
    show ¬ 2 ≤ (0 : Int)
    decide, fun v hv _ t _ t2 => absurd t2 (Nat.not_lt_zero t)⟩
  | s + 1, hs => by
    obtain ⟨i1, i2⟩ := ho_S hk hc s (by omega)
    obtain ⟨j1, j2⟩ := ho_row (gp := gp) hk hc (by omega) (spI_w (spI_S s)) i1 i2 nW (Nat.le_refl _)
    refine ⟨j1, fun v hv hv1 => ?_⟩
    have := j2 v hv hv1
    rw [if_pos hv] at this
    exact this
/-- where none goes, all are held who go by themselves -/
theorem hn_keep {w s : Nat} {z : wzT} (h : spI nW cA (fun _ => false) (s + 1) z) (hz : z.1 w = -1) (hc : ¬ pcw w ≤ lf s) (hg : G w s 0 = false) : ∀ k, k ≤ nW → nog (wrow cA pcw (fun _ => false) lf gp (fun w s r => !Hd w && G w s r) s k z) → (wrow cA pcw (fun _ => false) lf gp (fun w s r => !Hd w && G w s r) s k z).1 w = -1
  | 0, _, _ => hz
  | k + 1, hk, hn => by
    have hI := spI_row (pcw := pcw) (lf := lf) (gp := gp) (G := fun w s r => !Hd w && G w s r) k z (by omega) h
    have hn0 := nog_st hI hn
    have ih := hn_keep h hz hc hg k (by omega) hn0
    have h0 := nog_r hI hn0
    show (wstep cA pcw (fun _ => false) lf gp (fun w s r => !Hd w && G w s r) s k _).1 w = -1
    unfold wstep
    by_cases hh : here cA (fun _ => false) s k (wrow cA pcw (fun _ => false) lf gp (fun w s r => !Hd w && G w s r) s k z) = true
    · rw [if_pos hh]
      by_cases y : k = w
      · subst y
        have hgn : (!Hd k && G k s 0) = false := by
          rw [hg, Bool.and_false]
        rw [if_neg hc, h0, if_neg (show ¬ (fun w s r => !Hd w && G w s r) k s (0 : Int) = true from fun r => Bool.noConfusion (hgn.symm.trans r))]
        exact ih
      · by_cases c1 : pcw k ≤ lf s
        · rw [if_pos c1]
          show upn _ k _ w = -1
          rw [upn_o (fun r => y r.symm)]
          exact ih
        · rw [if_neg c1]
          by_cases c2 : (!Hd k && G k s (wrow cA pcw (fun _ => false) lf gp (fun w s r => !Hd w && G w s r) s k z).2.2) = true
          · rw [if_pos c2]
            show upn _ k _ w = -1
            rw [upn_o (fun r => y r.symm)]
            exact ih
          · rw [if_neg c2]
            exact ih
    · rw [if_neg hh]
      exact ih
theorem hn_S {w : Nat} (hw : w < nW) (hH : Hd w = false) (hc0 : 0 ≤ cA w) (hgo : goF (pcw w) lf (fun t => G w t 0) 302 (cA w).toNat = true) : ¬ nog (wzS nW cA pcw (fun _ => false) lf gp (fun w s r => !Hd w && G w s r) 300) := by
  intro hn
  rw [goF_i 302 (cA w).toNat (by omega)] at hgo
  obtain ⟨t, h1, h2, h3, h4, h5⟩ := hgo
  have key : ∀ s, s ≤ t → (wzS nW cA pcw (fun _ => false) lf gp (fun w s r => !Hd w && G w s r) s).1 w = -1 := by
    intro s
    induction s with
    | zero => intro _; rfl
    | succ s ih =>
      intro hs
      have i := ih (by omega)
      have hns : nog (wzS nW cA pcw (fun _ => false) lf gp (fun w s r => !Hd w && G w s r) (s + 1)) := nog_S (300 - (s + 1)) (s + 1) (by rw [show s + 1 + (300 - (s + 1)) = 300 from by omega]; exact hn)
      have hI := spI_w (spI_S (nW := nW) (cA := cA) (pcw := pcw) (ab := fun _ => false) (lf := lf) (gp := gp) (G := fun w s r => !Hd w && G w s r) s)
      by_cases y : (cA w).toNat ≤ s
      · exact hn_keep hI i (h3 s y (by omega)) (h4 s y (by omega)) nW (Nat.le_refl _) hns
      · have hz2 := (spI_S (nW := nW) (cA := cA) (pcw := pcw) (ab := fun _ => false) (lf := lf) (gp := gp) (G := fun w s r => !Hd w && G w s r) (s + 1)).1 w
        by_cases x : (wzS nW cA pcw (fun _ => false) lf gp (fun w s r => !Hd w && G w s r) (s + 1)).1 w = -1
        · exact x
        · have := hz2.2.2 x
          omega
  have i := key t (Nat.le_refl t)
  have hI := spI_w (spI_S (nW := nW) (cA := cA) (pcw := pcw) (ab := fun _ => false) (lf := lf) (gp := gp) (G := fun w s r => !Hd w && G w s r) t)
  have hns : nog (wzS nW cA pcw (fun _ => false) lf gp (fun w s r => !Hd w && G w s r) (t + 1)) := nog_S (300 - (t + 1)) (t + 1) (by rw [show t + 1 + (300 - (t + 1)) = 300 from by omega]; exact hn)
  have hr : nog (wrow cA pcw (fun _ => false) lf gp (fun w s r => !Hd w && G w s r) t nW (wzS nW cA pcw (fun _ => false) lf gp (fun w s r => !Hd w && G w s r) t)) := hns
  -- up to him in this second
  have hk : ∀ k, k ≤ w → (wrow cA pcw (fun _ => false) lf gp (fun w s r => !Hd w && G w s r) t k (wzS nW cA pcw (fun _ => false) lf gp (fun w s r => !Hd w && G w s r) t)).1 w = -1 := by
    intro k
    induction k with
    | zero => intro _; exact i
    | succ k ihk =>
      intro hk
      have ih := ihk (by omega)
      show (wstep cA pcw (fun _ => false) lf gp (fun w s r => !Hd w && G w s r) t k _).1 w = -1
      unfold wstep
      by_cases hh : here cA (fun _ => false) t k (wrow cA pcw (fun _ => false) lf gp (fun w s r => !Hd w && G w s r) t k (wzS nW cA pcw (fun _ => false) lf gp (fun w s r => !Hd w && G w s r) t)) = true
      · rw [if_pos hh]
        by_cases c1 : pcw k ≤ lf t
        · rw [if_pos c1]
          show upn _ k _ w = -1
          rw [upn_o (by omega)]
          exact ih
        · rw [if_neg c1]
          by_cases c2 : (!Hd k && G k t (wrow cA pcw (fun _ => false) lf gp (fun w s r => !Hd w && G w s r) t k (wzS nW cA pcw (fun _ => false) lf gp (fun w s r => !Hd w && G w s r) t)).2.2) = true
          · rw [if_pos c2]
            show upn _ k _ w = -1
            rw [upn_o (by omega)]
            exact ih
          · rw [if_neg c2]
            exact ih
      · rw [if_neg hh]
        exact ih
  have hiw := hk w (Nat.le_refl w)
  have hIw := spI_row (pcw := pcw) (lf := lf) (gp := gp) (G := fun w s r => !Hd w && G w s r) w (wzS nW cA pcw (fun _ => false) lf gp (fun w s r => !Hd w && G w s r) t) (by omega) hI
  have hn1 : nog (wrow cA pcw (fun _ => false) lf gp (fun w s r => !Hd w && G w s r) t (w + 1) (wzS nW cA pcw (fun _ => false) lf gp (fun w s r => !Hd w && G w s r) t)) := nog_rowk hI (nW - (w + 1)) (w + 1) (by omega) (by rw [show w + 1 + (nW - (w + 1)) = nW from by omega]; exact hr)
  have hn0 := nog_st hIw hn1
  have h0 := nog_r hIw hn0
  apply hn1 w
  show 2 ≤ (wstep cA pcw (fun _ => false) lf gp (fun w s r => !Hd w && G w s r) t w _).2.1 w
  unfold wstep
  have hh : here cA (fun _ => false) t w (wrow cA pcw (fun _ => false) lf gp (fun w s r => !Hd w && G w s r) t w (wzS nW cA pcw (fun _ => false) lf gp (fun w s r => !Hd w && G w s r) t)) = true := by
    unfold here
    rw [decide_eq_true (show cA w ≤ (t : Int) from by omega), decide_eq_true hiw]
    rfl
  have hgy : (!Hd w && G w t 0) = true := by
    rw [h5, hH]
    rfl
  rw [if_pos hh, if_neg (h3 t h1 (Nat.le_refl t)), h0, if_pos (show (fun w s r => !Hd w && G w s r) w t (0 : Int) = true from hgy)]
  show 2 ≤ upn _ w _ w
  rw [upn_y]
  by_cases y : gp t < pcw w
  · rw [if_pos y]
    decide
  · rw [if_neg y]
    decide
end HW
end
section
/-! 9o -/
/-! hold: the model's search -/
def bqS : Nat → Int → Int → Option Int
  | 0, _, _ => none
  | k + 1, a, x => if x = 0 then some a else bqS k (lf_o lf_iadd a (1 : Int)) (lf_o lf_iand x (x - (1 : Int)))
theorem bq_f : ∀ (k f : Nat) (a x r : Int), k ≤ f → bqS k a x = some r → F_X10_bits_4 f a x = r := by
  intro k
  induction k with
  | zero =>
    intro f a x r _ h
    have h2 : (none : Option Int) = some r := h
    cases h2
  | succ k ih =>
    intro f a x r hk h
    cases f with
    | zero => exact absurd hk (Nat.not_succ_le_zero k)
    | succ f =>
      have e : F_X10_bits_4 (f + 1) a x = F_X10_bits_4b (F_X10_bits_4 f) a x := rfl
      have h2 : (if x = 0 then some a else bqS k (lf_o lf_iadd a (1 : Int)) (lf_o lf_iand x (x - (1 : Int)))) = some r := h
      rw [e]
      unfold F_X10_bits_4b
      by_cases c : x = 0
      · rw [if_pos c]
        rw [if_pos c] at h2
        exact Option.some.inj h2
      · rw [if_neg c]
        rw [if_neg c] at h2
        exact ih f _ _ r (Nat.le_of_succ_le_succ hk) h2
def bqN : Nat → Nat → Nat → Option Nat
  | 0, _, _ => none
  | k + 1, a, x => if x = 0 then some a else bqN k (a + 1) (x &&& (x - 1))
theorem bq_N : ∀ (k a x r : Nat), x < 4096 → a + k < 100000 → bqN k a x = some r → bqS k (a : Int) (x : Int) = some (r : Int) := by
  intro k
  induction k with
  | zero =>
    intro a x r _ _ h
    have h2 : (none : Option Nat) = some r := h
    cases h2
  | succ k ih =>
    intro a x r hx ha h
    have h2 : (if x = 0 then some a else bqN k (a + 1) (x &&& (x - 1))) = some r := h
    show (if (x : Int) = 0 then some (a : Int) else bqS k (lf_o lf_iadd (a : Int) (1 : Int)) (lf_o lf_iand (x : Int) ((x : Int) - (1 : Int)))) = some (r : Int)
    by_cases c : x = 0
    · rw [if_pos c] at h2
      rw [if_pos (by omega), Option.some.inj h2]
    · rw [if_neg c] at h2
      have e1 : lf_o lf_iadd (a : Int) (1 : Int) = ((a + 1 : Nat) : Int) := by
        rw [lo_add (by omega) (by omega) (by omega) (by omega) (by omega) (by omega)]
        omega
      have e2 : (x : Int) - (1 : Int) = ((x - 1 : Nat) : Int) := by omega
      have q : x &&& (x - 1) ≤ x := Nat.and_le_left
      rw [if_neg (by omega), e1, e2, lo_and (by omega)]
      exact ih (a + 1) (x &&& (x - 1)) r (by omega) (by omega) h2
def bqB : Bool := (List.range 4096).all (fun x => decide (bqN 13 0 x = some (pcN x 12)))
theorem bq_x {X : Int} (h : rg X) : F_X10_bits X = pcn X 12 := by
  obtain ⟨a, rfl, ha⟩ := rg_n h
  have h0 := of_decide_eq_true (List.all_eq_true.mp (show bqB = true from by decide +kernel) a (List.mem_range.mpr ha))
  rw [pcn_N]
  exact bq_f 13 4097 0 _ _ (by decide) (bq_N 13 0 a _ ha (by decide) h0)
theorem cnf_sub {f g : Nat → Bool} : ∀ k, (∀ w, w < k → f w = true → g w = true) → cnf f k ≤ cnf g k
  | 0, _ => Int.le_refl _
  | k + 1, h => by
    have ih := cnf_sub k (fun w hw => h w (by omega))
    have hk := h k (Nat.lt_succ_self k)
    have z0 : b2 false = 0 := rfl
    have z1 : b2 true = 1 := rfl
    show cnf f k + b2 (f k) ≤ cnf g k + b2 (g k)
    cases hf : f k with
    | true =>
      rw [hk hf]
      omega
    | false =>
      cases hg : g k with
      | false => omega
      | true => omega
theorem cnf_eq {f g : Nat → Bool} : ∀ k, (∀ w, w < k → f w = true → g w = true) → cnf g k ≤ cnf f k → ∀ w, w < k → f w = g w
  | 0, _, _, w, hw => absurd hw (Nat.not_lt_zero w)
  | k + 1, h, hc, w, hw => by
    have s := cnf_sub k (fun w hw => h w (by omega))
    have hk := h k (Nat.lt_succ_self k)
    have z0 : b2 false = 0 := rfl
    have z1 : b2 true = 1 := rfl
    have hc2 : cnf g k + b2 (g k) ≤ cnf f k + b2 (f k) := hc
    have hfg : f k = g k := by
      cases hf : f k with
      | true => exact (hk hf).symm
      | false =>
        cases hg : g k with
        | false => rfl
        | true =>
          exfalso
          rw [hf, hg] at hc2
          omega
    by_cases q : w = k
    · rw [q]
      exact hfg
    · refine cnf_eq k (fun w hw => h w (by omega)) ?_ w (by omega)
      rw [hfg] at hc2
      omega
section HM
variable {nW nK : Nat} {oC oR oL : Option (List Int)} {s cy ls aw stm d ru gr hnx hct sd sru sgr sA ar pr cr we ha tkn ad aru agr akn rws cmp fnd frl fgr chs chl occ dwn fa pl sM awM isc und nwst rmM moc sdd tk ask red io lg gt icg sg qp ftm ftr ftg mf mp0 p0 p1 p2 p3 p4 : Int} {g clmK pcK kO cA comers code spans nmX tr rD rR rG facts stack str cars gaps known left leaves tab atr atd ats sw ss sec oct refu gM many bar kinds walkers cf ce codes now kept mrw mo refM asd isCar gapM isG isH crM wtM goM hmM prM ciM pile whn : Nat → Int} {rF : Nat → Nat → Int}
theorem ho_i {W X : Int} (hP : plH nW nK cy ls oC oR kO cA clmK pcK comers code spans ar) (hW : rg W) (hWb : ∀ w, w < 12 → bt W w = (decide (w < nW) && goW oC oR nW cy ls kO cA clmK pcK d tr ru gr w)) (hX : rg X) (hn : pcn X 12 ≤ pcn W 12) : cnf (fun w => decide (2 ≤ (wkM oC oR nW cy ls kO cA clmK pcK d tr ru gr 0 X 300).2.1 w)) nW = 0 ↔ X = W := by
  have hab : abf 0 = fun _ => false := funext (fun w => bt_0 w)
  have ez : wkM oC oR nW cy ls kO cA clmK pcK d tr ru gr 0 X 300 = wzS nW cA (fun w => pcK (kO w).toNat) (fun _ => false) (leS nW cy ls kO cA tr ru gr 0) (gpS oC d cy) (fun w s r => !bt X w && gR oC oR cy nW kO cA clmK pcK d tr w s r) 300 := by
    unfold wkM
    rw [hab]
    rfl
  rw [ez]
  constructor
  · intro h0
    have hnog : nog (wzS nW cA (fun w => pcK (kO w).toNat) (fun _ => false) (leS nW cy ls kO cA tr ru gr 0) (gpS oC d cy) (fun w s r => !bt X w && gR oC oR cy nW kO cA clmK pcK d tr w s r) 300) := by
      intro v hv
      by_cases q : v < nW
      · exact absurd hv (of_decide_eq_false ((cnf_0 nW).mp h0 v q))
      · have zI := (spI_S (nW := nW) (cA := cA) (pcw := fun w => pcK (kO w).toNat) (ab := fun _ => false) (lf := leS nW cy ls kO cA tr ru gr 0) (gp := gpS oC d cy) (G := fun w s r => !bt X w && gR oC oR cy nW kO cA clmK pcK d tr w s r) 300).1 v
        by_cases x : (wzS nW cA (fun w => pcK (kO w).toNat) (fun _ => false) (leS nW cy ls kO cA tr ru gr 0) (gpS oC d cy) (fun w s r => !bt X w && gR oC oR cy nW kO cA clmK pcK d tr w s r) 300).1 v = -1
        · have := zI.1.mp x
          omega
        · exact q (zI.2.2 x).1
    have hsub : ∀ w, w < 12 → bt W w = true → bt X w = true := by
      intro w hw hb
      rw [hWb w hw, Bool.and_eq_true] at hb
      have hw2 := of_decide_eq_true hb.1
      cases hx : bt X w with
      | true => rfl
      | false => exact absurd hnog (hn_S (Hd := bt X) (G := gR oC oR cy nW kO cA clmK pcK d tr) (pcw := fun w => pcK (kO w).toNat) hw2 hx (hP.2.2.2.1 w hw2).2.1 hb.2)
    have hs := cnf_eq 12 hsub (by
      rw [← pcn_c, ← pcn_c]
      exact hn)
    exact bt_ext hX hW (fun w hw => (hs w hw).symm)
  · intro e
    have hk : ∀ w, w < nW → bt X w = true ∨ goF (pcK (kO w).toNat) (leS nW cy ls kO cA tr ru gr 0) (fun t => gR oC oR cy nW kO cA clmK pcK d tr w t 0) 302 (cA w).toNat = false := by
      intro w hw
      have hb := hWb w (by have := hP.1; omega)
      rw [← e, decide_eq_true hw, Bool.true_and] at hb
      cases hg : goW oC oR nW cy ls kO cA clmK pcK d tr ru gr w with
      | true => exact Or.inl (hb.trans hg)
      | false => exact Or.inr hg
    have hS := (ho_S (Hd := bt X) (G := gR oC oR cy nW kO cA clmK pcK d tr) (pcw := fun w => pcK (kO w).toNat) (gp := gpS oC d cy) hk (fun w hw => (hP.2.2.2.1 w hw).2.1) 300 (Nat.le_refl _)).1
    exact (cnf_0 nW).mpr (fun w _ => decide_eq_false (hS w))
theorem hm_22 {W ans : Int} {T n : Nat} {a10 a13 : Nat → Int} {K15 : Int → Int → Int → (Nat → Int) → (Nat → Int) → (Nat → Int) → Int → Int → Int → Int → Int → Int → Int → (Nat → Int) → (Nat → Int) → (Nat → Int) → (Nat → Int) → (Nat → Int) → (Nat → Int) → (Nat → Int) → (Nat → Int) → Int × Int × Int × Int × Int × Int × Int × Int × Int × Int × (Nat → Int) × (Nat → Int) × (Nat → Int) × (Nat → Int) × (Nat → Int) × (Nat → Int) × (Nat → Int) × (Nat → Int) × (Nat → Int) × (Nat → Int) × (Nat → Int)} (hP : plH nW nK cy ls oC oR kO cA clmK pcK comers code spans ar) (h : mdH nW nK cy ls d oC oR oL kO cA clmK pcK many bar kinds walkers cf ce codes now a10 tr) (hB : stB nK d ru gr tr) (hn1 : now 1 = ru) (hn2 : now 2 = gr) (hW : rg W) (hWb : ∀ w, w < 12 → bt W w = (decide (w < nW) && goW oC oR nW cy ls kO cA clmK pcK d tr ru gr w)) (hT : T = 2 ^ nW) (hT2 : T ≤ 4096) (hWT : W < (T : Int)) (hn : (n : Int) ≤ pcn W 12) (hA : pcn W 12 = (n : Int) → ans = W) (hK : ¬ pcn W 12 = (n : Int) → ∀ (c55 c58 c117 c59 c70 c71 c72 c73 c74 : Int) (a3 a8 a11 a12 a15 a16 a17 a18 a19 : Nat → Int), (K15 c55 c58 c117 a3 a10 a13 ((n : Int) + (1 : Int)) c59 c70 c71 c72 c73 c74 a8 a11 a12 a15 a16 a17 a18 a19).1 = ans) : ∀ (f l : Nat) (c55 c58 c59 c70 c71 c72 c73 c74 c117 : Int) (a3 a8 a11 a12 a15 a16 a17 a18 a19 : Nat → Int), l ≤ T → T - l < f → (pcn W 12 = (n : Int) → (l : Int) ≤ W) → (F_X10_hold_22 many bar kinds walkers cf ce codes now a10 a13 (n : Int) K15 f (l : Int) c55 c58 c59 c70 c71 c72 c73 c74 c117 a3 a8 a11 a12 a15 a16 a17 a18 a19).1 = ans := by
  intro f
  induction f with
  | zero => intro l c55 c58 c59 c70 c71 c72 c73 c74 c117 a3 a8 a11 a12 a15 a16 a17 a18 a19 h1 h2; omega
  | succ f ih =>
    intro l c55 c58 c59 c70 c71 c72 c73 c74 c117 a3 a8 a11 a12 a15 a16 a17 a18 a19 h1 h2 hl
    show (F_X10_hold_22b many bar kinds walkers cf ce codes now a10 a13 (n : Int) K15 (F_X10_hold_22 many bar kinds walkers cf ce codes now a10 a13 (n : Int) K15 f) (l : Int) c55 c58 c59 c70 c71 c72 c73 c74 c117 a3 a8 a11 a12 a15 a16 a17 a18 a19).1 = ans
    have hW12 : nW ≤ 12 := h.2.1
    unfold F_X10_hold_22b F_X10_hold_71
    rw [lf_b_e, show many 3 = (nW : Int) from h.1.1, lo_shl1 (by omega), ← hT]
    by_cases q : l = T
    · rw [if_pos (by omega)]
      exact hK (fun r => by
        have := hl r
        omega) _ _ _ _ _ _ _ _ _ _ _ _ _ _ _ _ _ _
    · have rgl : rg (l : Int) := ⟨by omega, by omega⟩
      rw [if_neg (by omega), lf_b_e, bq_x rgl]
      by_cases q2 : pcn (l : Int) 12 = (n : Int)
      · obtain ⟨b1, b2', b3, b4, b5, b6, b7, b11, b16, e70, e71, e72, e73, e74, e55, e58, e59, e117, e, hF⟩ := day_x (tk := c55) (ask := c58) (sg := c74) (qp := c117) (isG := a19) (isH := a15) (cr := a16) (wt := a8) (go := a11) (hm := a12) (pr2 := a17) (ci := a18) (pile := a3) (A := 0) (H := (l : Int)) (ru := ru) (gr := gr) h rg_0 rgl hB.2.2.1.1 hB.2.2.1.2 hB.2.1
        have hc : F_X10_toldOfDay_a0_1 many b4 = cnf (fun w => decide (2 ≤ (wkM oC oR nW cy ls kO cA clmK pcK d tr ru gr 0 (l : Int) 300).2.1 w)) nW := by
          unfold F_X10_toldOfDay_a0_1 F_X10_walkerMany
          rw [lf_b_e, lf_b_e, show many 3 = (nW : Int) from h.1.1]
          exact ct_m hW12 (fun w hw => (hF.1 w hw).2.2.2.1)
        have key := ho_i (X := (l : Int)) hP hW hWb rgl (by omega)
        rw [if_pos q2, show now (Int.toNat (1 : Int)) = ru from hn1, show now (Int.toNat (2 : Int)) = gr from hn2, e, lf_p_e, lf_p_e, lf_p_e, lf_p_e, lf_p_e, lf_p_e, lf_p_e, lf_p_e, lf_p_e, lf_p_e, lf_p_e, lf_p_e, lf_p_e, lf_p_e, lf_p_e, lf_p_e, lf_p_e, lf_b_e, hc]
        by_cases q3 : cnf (fun w => decide (2 ≤ (wkM oC oR nW cy ls kO cA clmK pcK d tr ru gr 0 (l : Int) 300).2.1 w)) nW = 0
        · rw [if_pos q3]
          have e1 := key.mp q3
          exact e1.trans (hA (by rw [← e1]; exact q2)).symm
        · rw [if_neg q3]
          refine ih (l + 1) _ _ _ _ _ _ _ _ _ _ _ _ _ _ _ _ _ _ (by omega) (by omega) (fun r => ?_)
          have := hl r
          have hne : ¬ (l : Int) = W := fun y => q3 (key.mpr y)
          omega
      · rw [if_neg q2]
        refine ih (l + 1) _ _ _ _ _ _ _ _ _ _ _ _ _ _ _ _ _ _ (by omega) (by omega) (fun r => ?_)
        have := hl r
        have hne : ¬ (l : Int) = W := fun y => q2 (by rw [y]; exact r)
        omega
theorem hm_15 {W : Int} {T : Nat} {a10 a13 : Nat → Int} (hP : plH nW nK cy ls oC oR kO cA clmK pcK comers code spans ar) (h : mdH nW nK cy ls d oC oR oL kO cA clmK pcK many bar kinds walkers cf ce codes now a10 tr) (hB : stB nK d ru gr tr) (hn1 : now 1 = ru) (hn2 : now 2 = gr) (hW : rg W) (hWb : ∀ w, w < 12 → bt W w = (decide (w < nW) && goW oC oR nW cy ls kO cA clmK pcK d tr ru gr w)) (hT : T = 2 ^ nW) (hT2 : T ≤ 4096) (hWT : W < (T : Int)) : ∀ (f n : Nat) (c55 c58 c117 c59 c70 c71 c72 c73 c74 : Int) (a3 a8 a11 a12 a15 a16 a17 a18 a19 : Nat → Int), n ≤ 4 → 4 - n < f → (n : Int) ≤ pcn W 12 → (F_X10_hold_15 many bar kinds walkers cf ce codes now f c55 c58 c117 a3 a10 a13 (n : Int) c59 c70 c71 c72 c73 c74 a8 a11 a12 a15 a16 a17 a18 a19).1 = if 3 < pcn W 12 then -1 else W := by
  intro f
  induction f with
  | zero => intro n c55 c58 c117 c59 c70 c71 c72 c73 c74 a3 a8 a11 a12 a15 a16 a17 a18 a19 h1 h2; omega
  | succ f ih =>
    intro n c55 c58 c117 c59 c70 c71 c72 c73 c74 a3 a8 a11 a12 a15 a16 a17 a18 a19 h1 h2 hn
    show (F_X10_hold_15b many bar kinds walkers cf ce codes now (F_X10_hold_15 many bar kinds walkers cf ce codes now f) c55 c58 c117 a3 a10 a13 (n : Int) c59 c70 c71 c72 c73 c74 a8 a11 a12 a15 a16 a17 a18 a19).1 = _
    unfold F_X10_hold_15b
    by_cases q : n = 4
    · rw [if_pos (by omega), if_pos (by omega)]
    · rw [if_neg (show ¬ (3 : Int) < (n : Int) from by omega)]
      exact hm_22 (T := T) hP h hB hn1 hn2 hW hWb hT hT2 hWT hn (fun r => if_neg (by omega)) (fun r c55 c58 c117 c59 c70 c71 c72 c73 c74 a3 a8 a11 a12 a15 a16 a17 a18 a19 => ih (n + 1) _ _ _ _ _ _ _ _ _ _ _ _ _ _ _ _ _ _ (by omega) (by omega) (by omega)) 4098 0 _ _ _ _ _ _ _ _ _ _ _ _ _ _ _ _ _ _ (Nat.zero_le _) (by omega) (fun _ => hW.1)
theorem ho_m {W : Int} (hP : plH nW nK cy ls oC oR kO cA clmK pcK comers code spans ar) (hM : pmH nW nK cy ls oC oR oL kO cA clmK pcK many bar kinds walkers cf ce codes) (hB : stB nK d ru gr tr) (hN : ndH nK d ru gr tr now) (hi : isc = 1) (hW : rg W) (hWb : ∀ w, w < 12 → bt W w = (decide (w < nW) && goW oC oR nW cy ls kO cA clmK pcK d tr ru gr w)) : (F_X10_hold isc tk ask red io lg gt icg sg qp many bar kinds walkers cf ce codes now isCar gapM isG isH crM wtM goM hmM prM ciM pile).1 = if 3 < pcn W 12 then -1 else W := by
  have hT2 : 2 ^ nW ≤ 4096 := Nat.le_trans (Nat.pow_le_pow_right (by decide) hP.1) (by decide : 2 ^ 12 ≤ 4096)
  have hWT : W < ((2 ^ nW : Nat) : Int) := by
    obtain ⟨a, rfl, ha⟩ := rg_n hW
    refine Int.ofNat_lt.mpr (Nat.lt_pow_two_of_testBit a (fun i hi2 => ?_))
    by_cases q : i < 12
    · have hb := hWb i q
      rw [decide_eq_false (by omega), Bool.false_and] at hb
      exact hb
    · exact bt_hi hW (by omega)
  have h0 : (0 : Int) ≤ pcn W 12 := by
    rw [pcn_c]
    exact (cnf_le _ 12).1
  obtain ⟨t, q, r, p, g2, i, e1, e2, e3⟩ := mc_x (tk := tk) (ask := ask) (red := red) (qp := qp) (kinds := kinds) (walkers := walkers) (isCar := isCar) (gaps := gapM) (waits := wtM) (goes := goM) (harms := hmM) (pile := pile) hB.1 (by have := hP.2.2.1; omega) hP.2.2.1.2 hM.2.2.1 hN.1 hM.2.2.2.2.2.2.1 hP.2.2.2.2.2.2.1.2
  unfold F_X10_hold
  rw [if_neg (by omega), e1, lf_p_e, lf_p_e, lf_p_e, lf_p_e, lf_p_e]
  exact hm_15 (T := 2 ^ nW) hP (md_of hP hM hB.1 hN e3) hB hN.2.1 hN.2.2.1 hW hWb rfl hT2 hWT 6 0 _ _ _ _ _ _ _ _ _ _ _ _ _ _ _ _ _ _ (by decide) (by decide) h0
theorem ho_t (hP : plH nW nK cy ls oC oR kO cA clmK pcK comers code spans ar) (hM : pmH nW nK cy ls oC oR oL kO cA clmK pcK many bar kinds walkers cf ce codes) (hS : sfH oC oR nW nK cy ls kO cA clmK pcK sd str sru sgr sA cars gaps known left leaves pr cr we ha) (hB : stB nK d ru gr tr) (hN : ndH nK d ru gr tr now) (hi : isc = 1) : (F_X9_hold cy ls (nK : Int) clmK pcK (nW : Int) kO cA comers code spans d ru gr tr facts stack sd str sru sgr sA ar cars gaps known left leaves pr cr we ha).1 = (F_X10_hold isc tk ask red io lg gt icg sg qp many bar kinds walkers cf ce codes now isCar gapM isG isH crM wtM goM hmM prM ciM pile).1 ∧ sfS oC oR nW nK cy ls kO cA clmK pcK (F_X9_hold cy ls (nK : Int) clmK pcK (nW : Int) kO cA comers code spans d ru gr tr facts stack sd str sru sgr sA ar cars gaps known left leaves pr cr we ha).2 := by
  obtain ⟨⟨b, r1, r2, r3⟩, r4⟩ := hd_c (facts := facts) (stack := stack) hP hS hB
  refine ⟨?_, r4⟩
  rw [r3, bc_x r1]
  exact (ho_m hP hM hB hN hi r1 r2).symm
end HM
end
