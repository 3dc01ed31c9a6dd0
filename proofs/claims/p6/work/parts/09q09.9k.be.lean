/-! best, on both sides -/
def bst (W H : Nat → Nat → Int) (h : Int) (r g : Nat) (t : Int × Int × Int) : Int × Int × Int := if h < H r g then t else if t.1 = -1 ∨ W r g < t.2.2 then ((r : Int), (g : Int), W r g) else t
def bsR (W H : Nat → Nat → Int) (h : Int) (g : Nat) : Nat → Int × Int × Int → Int × Int × Int
  | 0, t => t
  | r + 1, t => bst W H h r g (bsR W H h g r t)
def bsG (W H : Nat → Nat → Int) (h : Int) : Nat → Int × Int × Int
  | 0 => (-1, -1, -1)
  | g + 1 => bsR W H h (g + 1) 3 (bsG W H h g)
/-- a row holds -/
def bsV (t : Int × Int × Int) : Prop := (t.1 = -1 ∧ t.2.2 = -1) ∨ (0 ≤ t.1 ∧ 0 ≤ t.2.2)
theorem bsV_st {W H : Nat → Nat → Int} {h : Int} {r g : Nat} {t : Int × Int × Int} (hW : 0 ≤ W r g) (ht : bsV t) : bsV (bst W H h r g t) := by
  unfold bst
  by_cases c : h < H r g
  · rw [if_pos c]
    exact ht
  · rw [if_neg c]
    by_cases c2 : t.1 = -1 ∨ W r g < t.2.2
    · rw [if_pos c2]
      exact Or.inr ⟨Int.natCast_nonneg r, hW⟩
    · rw [if_neg c2]
      exact ht
theorem bsV_R {W H : Nat → Nat → Int} {h : Int} {g : Nat} {t : Int × Int × Int} (hW : ∀ r g, 0 ≤ W r g) (ht : bsV t) : ∀ r, bsV (bsR W H h g r t)
  | 0 => ht
  | r + 1 => bsV_st (hW r g) (bsV_R hW ht r)
theorem bsV_G {W H : Nat → Nat → Int} {h : Int} (hW : ∀ r g, 0 ≤ W r g) : ∀ g, bsV (bsG W H h g)
  | 0 => Or.inl ⟨rfl, rfl⟩
  | g + 1 => bsV_R hW (bsV_G hW g) 3
section BE
variable {nW nK : Nat} {oC oR oL : Option (List Int)} {s cy ls aw stm d ru gr hnx hct sd sru sgr sA ar pr cr we ha tkn ad aru agr akn rws cmp fnd frl fgr chs chl occ dwn fa pl sM awM isc und nwst rmM moc sdd tk ask red io lg gt icg sg qp ftm ftr ftg mf mp0 p0 p1 p2 p3 p4 : Int} {g clmK pcK kO cA comers code spans nmX tr rD rR rG facts stack str cars gaps known left leaves tab atr atd ats sw ss sec oct refu gM many bar kinds walkers cf ce codes now kept mrw mo refM asd isCar gapM isG isH crM wtM goM hmM prM ciM pile whn : Nat → Int} {rF : Nat → Nat → Int}
noncomputable def tdD (oC oR : Option (List Int)) (nW : Nat) (cy ls : Int) (kO cA clmK pcK : Nat → Int) (d : Int) (tr : Nat → Int) (what : Int) (r g : Nat) : Int := tdS nW cA (twf nW kO tr) (abf 0) cy ls (r : Int) (g : Int) (weS oC oR nW cy ls kO cA clmK pcK d tr (r : Int) (g : Int) 0) what
/-- the table's rows -/
def tbO (tab : Nat → Int) (T : Nat → Int × Int × Int) : Prop := ∀ j : Nat, j ≤ 12 → tab (3 * j) = (T j).1 ∧ tab (3 * j + 1) = (T j).2.1 ∧ tab (3 * j + 2) = (T j).2.2
theorem td_0b (hP : plH nW nK cy ls oC oR kO cA clmK pcK comers code spans ar) (r g : Nat) : 0 ≤ tdD oC oR nW cy ls kO cA clmK pcK d tr 0 r g ∧ tdD oC oR nW cy ls kO cA clmK pcK d tr 0 r g ≤ 3600 := by
  have hW := hP.1
  have hz := we_z (d := d) (tr := tr) (ru := (r : Int)) (gr := (g : Int)) (A := 0) hP
  have hb := snm_b (f := wt0 cA (abf 0) (weS oC oR nW cy ls kO cA clmK pcK d tr (r : Int) (g : Int) 0)) nW (wt0_b hz)
  have e : tdD oC oR nW cy ls kO cA clmK pcK d tr 0 r g = snm (wt0 cA (abf 0) (weS oC oR nW cy ls kO cA clmK pcK d tr (r : Int) (g : Int) 0)) nW := by
    unfold tdD tdS
    rw [if_pos rfl]
  rw [e]
  omega
theorem td_2b (hP : plH nW nK cy ls oC oR kO cA clmK pcK comers code spans ar) (r g : Nat) : 0 ≤ tdD oC oR nW cy ls kO cA clmK pcK d tr 2 r g ∧ tdD oC oR nW cy ls kO cA clmK pcK d tr 2 r g ≤ 12 := by
  have hW := hP.1
  have hb := cnf_le (fun w => decide ((weS oC oR nW cy ls kO cA clmK pcK d tr (r : Int) (g : Int) 0).2.1 w = 3)) nW
  have e : tdD oC oR nW cy ls kO cA clmK pcK d tr 2 r g = cnf (fun w => decide ((weS oC oR nW cy ls kO cA clmK pcK d tr (r : Int) (g : Int) 0).2.1 w = 3)) nW := by
    unfold tdD tdS
    rw [if_neg (by decide), if_neg (by decide), if_pos rfl]
  rw [e]
  omega
theorem en_run {w : Int} {r g : Nat} : ∀ (f h : Nat) (a : Nat → Int) (T : Nat → Int × Int × Int), h ≤ 13 → 13 - h < f → tbO a T → tbO (F_X1_enter_19 (r : Int) (g : Int) f w (h : Int) a) (fun j => if h ≤ j then (if (T j).1 = -1 ∨ w < (T j).2.2 then ((r : Int), (g : Int), w) else T j) else T j) := by
  intro f
  induction f with
  | zero => intro h a T h1 h2; omega
  | succ f ih =>
    intro h a T h1 h2 h3
    show tbO (F_X1_enter_19b (r : Int) (g : Int) (F_X1_enter_19 (r : Int) (g : Int) f) w (h : Int) a) _
    unfold F_X1_enter_19b F_X1_enter_56 F_X1_enter_84
    by_cases q : h = 13
    · rw [if_pos (by omega)]
      intro j hj
      dsimp only
      rw [if_neg (show ¬ h ≤ j from by omega)]
      exact h3 j hj
    · obtain ⟨x1, x2, x3⟩ := h3 h (by omega)
      rw [if_neg (by omega), show Int.toNat ((h : Int) * (3 : Int)) = 3 * h from by omega, show Int.toNat (((h : Int) * (3 : Int)) + (2 : Int)) = 3 * h + 2 from by omega, x1, x3]
      have go : ∀ (b : Nat → Int) (t : Int × Int × Int), tbO b (fun j => if j = h then t else T j) → (if (T h).1 = -1 ∨ w < (T h).2.2 then ((r : Int), (g : Int), w) else T h) = t → tbO (F_X1_enter_19 (r : Int) (g : Int) f w ((h : Int) + (1 : Int)) b) (fun j => if h ≤ j then (if (T j).1 = -1 ∨ w < (T j).2.2 then ((r : Int), (g : Int), w) else T j) else T j) := by
        intro b t hb ht
        have hx := ih (h + 1) b _ (by omega) (by omega) hb
        intro j hj
        have hy := hx j hj
        dsimp only at hy ⊢
        by_cases y : j = h
        · rw [if_neg (show ¬ h + 1 ≤ j from by omega), if_pos y] at hy
          rw [if_pos (show h ≤ j from by omega), y, ht]
          rw [y] at hy
          exact hy
        · by_cases z : h + 1 ≤ j
          · rw [if_pos z, if_neg y] at hy
            rw [if_pos (show h ≤ j from by omega)]
            exact hy
          · rw [if_neg z, if_neg y] at hy
            rw [if_neg (show ¬ h ≤ j from by omega)]
            exact hy
      have up : tbO (lf_up (lf_up (lf_up a ((h : Int) * (3 : Int)) (r : Int)) (((h : Int) * (3 : Int)) + (1 : Int)) (g : Int)) (((h : Int) * (3 : Int)) + (2 : Int)) w) (fun j => if j = h then ((r : Int), (g : Int), w) else T j) := by
        intro j hj
        dsimp only
        by_cases y : j = h
        · rw [if_pos y, lf_up_o (by omega), lf_up_o (by omega), lf_up_y (by omega), lf_up_o (by omega), lf_up_y (by omega), lf_up_y (by omega)]
          exact ⟨rfl, rfl, rfl⟩
        · rw [if_neg y, lf_up_o (by omega), lf_up_o (by omega), lf_up_o (by omega), lf_up_o (by omega), lf_up_o (by omega), lf_up_o (by omega), lf_up_o (by omega), lf_up_o (by omega), lf_up_o (by omega)]
          exact h3 j hj
      have st : tbO a (fun j => if j = h then T h else T j) := by
        intro j hj
        dsimp only
        by_cases y : j = h
        · rw [if_pos y, y]
          exact h3 h (by omega)
        · rw [if_neg y]
          exact h3 j hj
      by_cases c1 : (T h).1 = -1
      · rw [if_pos c1]
        exact go _ _ up (if_pos (Or.inl c1))
      · rw [if_neg c1]
        by_cases c2 : (T h).2.2 ≤ w
        · rw [if_pos c2]
          exact go _ _ st (if_neg (fun z => z.elim c1 (fun z => by omega)))
        · rw [if_neg c2]
          exact go _ _ up (if_pos (Or.inr (by omega)))
theorem en_x {r g : Nat} {T : Nat → Int × Int × Int} (hP : plH nW nK cy ls oC oR kO cA clmK pcK comers code spans ar) (hS : SFl oC oR nW cy ls kO cA clmK pcK d tr (r : Int) (g : Int) 0 left leaves pr cr we ha) (hT : tbO tab T) : tbO (F_X1_enter (nW : Int) cA (0 : Int) leaves ha tab (r : Int) (g : Int)) (fun j => bst (tdD oC oR nW cy ls kO cA clmK pcK d tr 0) (tdD oC oR nW cy ls kO cA clmK pcK d tr 2) (j : Int) r g (T j)) := by
  unfold F_X1_enter
  have e0 : F_X7_told_a0_0 (nW : Int) cA (0 : Int) leaves = tdD oC oR nW cy ls kO cA clmK pcK d tr 0 r g := tc_0 hP hS rg_0
  have e2 : F_X7_told_a0_2 ha = tdD oC oR nW cy ls kO cA clmK pcK d tr 2 r g := td_c2 (we_z hP) hP.1 hS.2.2.2.2.1
  obtain ⟨b1, b2'⟩ := td_2b (d := d) (tr := tr) hP r g
  rw [lf_b_e, lf_b_e, e0, e2]
  obtain ⟨n, hn⟩ := Int.eq_ofNat_of_zero_le b1
  have hx := en_run (w := tdD oC oR nW cy ls kO cA clmK pcK d tr 0 r g) (r := r) (g := g) 65 n tab T (by omega) (by omega) hT
  rw [hn]
  intro j hj
  have hy := hx j hj
  dsimp only at hy ⊢
  unfold bst
  rw [hn]
  by_cases q : n ≤ j
  · rw [if_pos q] at hy
    rw [if_neg (show ¬ (j : Int) < (n : Int) from by omega)]
    exact hy
  · rw [if_neg q] at hy
    rw [if_pos (show (j : Int) < (n : Int) from by omega)]
    exact hy
/-- what is kept of best -/
def chH (oC oR : Option (List Int)) (nW : Nat) (cy ls : Int) (kO cA clmK pcK : Nat → Int) (d : Int) (tr : Nat → Int) (tkn : Int) (tab : Nat → Int) : Prop := tkn = 0 ∨ tbO tab (fun j => bsG (tdD oC oR nW cy ls kO cA clmK pcK d tr 0) (tdD oC oR nW cy ls kO cA clmK pcK d tr 2) (j : Int) (min 40 (cy - 1)).toNat)
theorem ch_0 : chH oC oR nW cy ls kO cA clmK pcK d tr 0 tab := Or.inl rfl
def b19 (oC oR : Option (List Int)) (nW nK : Nat) (cy ls : Int) (kO cA clmK pcK : Nat → Int) (d : Int) (tr : Nat → Int) (m : Nat) (p q : Int) (O : B19) : Prop := O.1 = O.2.2.1 (Int.toNat ((p * (3 : Int)) + q)) ∧ O.2.1 = 1 ∧ tbO O.2.2.1 (fun j => bsG (tdD oC oR nW cy ls kO cA clmK pcK d tr 0) (tdD oC oR nW cy ls kO cA clmK pcK d tr 2) (j : Int) m) ∧ sfS oC oR nW nK cy ls kO cA clmK pcK O.2.2.2
theorem bt_39 {l4 : Int} {g : Nat} {C : B19 → Prop} {K29 : Int → (Nat → Int) → Int → Int → Int → Int → Int → Int → Int → Int → Int → (Nat → Int) → (Nat → Int) → (Nat → Int) → (Nat → Int) → (Nat → Int) → (Nat → Int) → (Nat → Int) → (Nat → Int) → B19} {T : Nat → Int × Int × Int} (hP : plH nW nK cy ls oC oR kO cA clmK pcK comers code spans ar) (hd : 0 ≤ d ∧ d ≤ 999) (ht : ∀ k, k < nK → 0 ≤ tr k ∧ tr k ≤ 9) (hg : g ≤ 60) (hK : ∀ (sd sru sgr sA pr cr we ha : Int) (a1 facts stack cars gaps str known left leaves : Nat → Int), tbO a1 (fun j => bsR (tdD oC oR nW cy ls kO cA clmK pcK d tr 0) (tdD oC oR nW cy ls kO cA clmK pcK d tr 2) (j : Int) g 3 (T j)) → sfH oC oR nW nK cy ls kO cA clmK pcK sd str sru sgr sA cars gaps known left leaves pr cr we ha → C (K29 l4 a1 ((g : Int) + (1 : Int)) sd sru sgr sA pr cr we ha facts stack cars gaps str known left leaves)) : ∀ (f r : Nat) (sd sru sgr sA pr cr we ha : Int) (a1 facts stack cars gaps str known left leaves : Nat → Int), r ≤ 3 → 3 - r < f → tbO a1 (fun j => bsR (tdD oC oR nW cy ls kO cA clmK pcK d tr 0) (tdD oC oR nW cy ls kO cA clmK pcK d tr 2) (j : Int) g r (T j)) → sfH oC oR nW nK cy ls kO cA clmK pcK sd str sru sgr sA cars gaps known left leaves pr cr we ha → C (F_X1_bestOf_39 cy ls (nK : Int) clmK pcK (nW : Int) kO cA comers code spans ar d tr l4 (g : Int) K29 f (r : Int) sd sru sgr sA pr cr we ha a1 facts stack cars gaps str known left leaves) := by
  intro f
  induction f with
  | zero => intro r sd sru sgr sA pr cr we ha a1 facts stack cars gaps str known left leaves h1 h2; omega
  | succ f ih =>
    intro r sd sru sgr sA pr cr we ha a1 facts stack cars gaps str known left leaves h1 h2 hT hS
    show C (F_X1_bestOf_39b cy ls (nK : Int) clmK pcK (nW : Int) kO cA comers code spans ar d tr l4 (g : Int) K29 (F_X1_bestOf_39 cy ls (nK : Int) clmK pcK (nW : Int) kO cA comers code spans ar d tr l4 (g : Int) K29 f) (r : Int) sd sru sgr sA pr cr we ha a1 facts stack cars gaps str known left leaves)
    unfold F_X1_bestOf_39b
    by_cases q : r = 3
    · rw [if_pos (by omega)]
      subst q
      exact hK _ _ _ _ _ _ _ _ _ _ _ _ _ _ _ _ _ hT hS
    · obtain ⟨f2, s2, c2, g2, t2, k2, l2', v2, pr2, cr2, we2, ha2, e, e1, hsf, q2, q1⟩ := ly_x (facts := facts) (stack := stack) (p1 := (r : Int)) (p2 := (g : Int)) (p3 := 0) hP hS hd ht (by omega) (show 0 ≤ (g : Int) ∧ (g : Int) ≤ 60 from ⟨by omega, by omega⟩) rg_0
      rw [if_neg (by omega), e, lf_p_e, lf_p_e, lf_p_e, lf_p_e, lf_p_e, lf_p_e, lf_p_e, lf_p_e, lf_p_e, lf_p_e, lf_p_e, lf_p_e, lf_p_e, lf_p_e, lf_p_e, lf_b_e]
      exact ih (r + 1) _ _ _ _ _ _ _ _ _ _ _ _ _ _ _ _ _ (by omega) (by omega) (en_x hP q2 hT) hsf
theorem bt_29 {m : Nat} (hP : plH nW nK cy ls oC oR kO cA clmK pcK comers code spans ar) (hd : 0 ≤ d ∧ d ≤ 999) (ht : ∀ k, k < nK → 0 ≤ tr k ∧ tr k ≤ 9) (hm : m ≤ 60) : ∀ (f g : Nat) (sd sru sgr sA pr cr we ha : Int) (a1 facts stack cars gaps str known left leaves : Nat → Int), g ≤ m → m - g < f → tbO a1 (fun j => bsG (tdD oC oR nW cy ls kO cA clmK pcK d tr 0) (tdD oC oR nW cy ls kO cA clmK pcK d tr 2) (j : Int) g) → sfH oC oR nW nK cy ls kO cA clmK pcK sd str sru sgr sA cars gaps known left leaves pr cr we ha → b19 oC oR nW nK cy ls kO cA clmK pcK d tr m p0 p1 (F_X1_bestOf_29 cy ls (nK : Int) clmK pcK (nW : Int) kO cA comers code spans ar d tr p0 p1 f (m : Int) a1 ((g + 1 : Nat) : Int) sd sru sgr sA pr cr we ha facts stack cars gaps str known left leaves) := by
  intro f
  induction f with
  | zero => intro g sd sru sgr sA pr cr we ha a1 facts stack cars gaps str known left leaves h1 h2; omega
  | succ f ih =>
    intro g sd sru sgr sA pr cr we ha a1 facts stack cars gaps str known left leaves h1 h2 hT hS
    show b19 oC oR nW nK cy ls kO cA clmK pcK d tr m p0 p1 (F_X1_bestOf_29b cy ls (nK : Int) clmK pcK (nW : Int) kO cA comers code spans ar d tr p0 p1 (F_X1_bestOf_29 cy ls (nK : Int) clmK pcK (nW : Int) kO cA comers code spans ar d tr p0 p1 f) (m : Int) a1 ((g + 1 : Nat) : Int) sd sru sgr sA pr cr we ha facts stack cars gaps str known left leaves)
    unfold F_X1_bestOf_29b F_X1_bestOf_83
    by_cases q : g = m
    · rw [if_pos (by omega)]
      subst q
      exact ⟨rfl, rfl, hT, hS⟩
    · rw [if_neg (by omega)]
      exact bt_39 (C := b19 oC oR nW nK cy ls kO cA clmK pcK d tr m p0 p1) (g := g + 1) (T := fun j => bsG (tdD oC oR nW cy ls kO cA clmK pcK d tr 0) (tdD oC oR nW cy ls kO cA clmK pcK d tr 2) (j : Int) g) (K29 := F_X1_bestOf_29 cy ls (nK : Int) clmK pcK (nW : Int) kO cA comers code spans ar d tr p0 p1 f) hP hd ht (by omega) (fun sd sru sgr sA pr cr we ha a1 facts stack cars gaps str known left leaves hT2 hS2 => ih (g + 1) sd sru sgr sA pr cr we ha a1 facts stack cars gaps str known left leaves (by omega) (by omega) hT2 hS2) 5 0 _ _ _ _ _ _ _ _ _ _ _ _ _ _ _ _ _ (by decide) (by decide) hT hS
noncomputable def beA (oC oR : Option (List Int)) (nW : Nat) (cy ls : Int) (kO cA clmK pcK : Nat → Int) (d : Int) (tr : Nat → Int) (p q : Int) : Int := if (0 ≤ p ∧ p ≤ 12) ∧ 0 ≤ q ∧ q ≤ 2 then (if q = 0 then (bsG (tdD oC oR nW cy ls kO cA clmK pcK d tr 0) (tdD oC oR nW cy ls kO cA clmK pcK d tr 2) p (min 40 (cy - 1)).toNat).1 else if q = 1 then (bsG (tdD oC oR nW cy ls kO cA clmK pcK d tr 0) (tdD oC oR nW cy ls kO cA clmK pcK d tr 2) p (min 40 (cy - 1)).toNat).2.1 else (bsG (tdD oC oR nW cy ls kO cA clmK pcK d tr 0) (tdD oC oR nW cy ls kO cA clmK pcK d tr 2) p (min 40 (cy - 1)).toNat).2.2) else -1
theorem tb_at {tb : Nat → Int} {p q : Int} (h : tbO tb (fun j => bsG (tdD oC oR nW cy ls kO cA clmK pcK d tr 0) (tdD oC oR nW cy ls kO cA clmK pcK d tr 2) (j : Int) (min 40 (cy - 1)).toNat)) (hp : (0 ≤ p ∧ p ≤ 12) ∧ 0 ≤ q ∧ q ≤ 2) : tb (Int.toNat ((p * (3 : Int)) + q)) = beA oC oR nW cy ls kO cA clmK pcK d tr p q := by
  unfold beA
  rw [if_pos hp]
  obtain ⟨n, rfl⟩ := Int.eq_ofNat_of_zero_le hp.1.1
  obtain ⟨x1, x2, x3⟩ := h n (by omega)
  dsimp only at x1 x2 x3
  by_cases c0 : q = 0
  · rw [if_pos c0, show Int.toNat (((n : Int) * (3 : Int)) + q) = 3 * n from by omega, x1]
  rw [if_neg c0]
  by_cases c1 : q = 1
  · rw [if_pos c1, show Int.toNat (((n : Int) * (3 : Int)) + q) = 3 * n + 1 from by omega, x2]
  rw [if_neg c1, show Int.toNat (((n : Int) * (3 : Int)) + q) = 3 * n + 2 from by omega, x3]
theorem be_cx (hP : plH nW nK cy ls oC oR kO cA clmK pcK comers code spans ar) (hS : sfH oC oR nW nK cy ls kO cA clmK pcK sd str sru sgr sA cars gaps known left leaves pr cr we ha) (hB : stB nK d ru gr tr) (hC : chH oC oR nW cy ls kO cA clmK pcK d tr tkn tab) : (F_X9_best cy ls (nK : Int) clmK pcK (nW : Int) kO cA comers code spans d tr facts stack sd str sru sgr sA ar cars gaps known left leaves pr cr we ha tab tkn p0 p1).1 = beA oC oR nW cy ls kO cA clmK pcK d tr p0 p1 ∧ chH oC oR nW cy ls kO cA clmK pcK d tr (F_X9_best cy ls (nK : Int) clmK pcK (nW : Int) kO cA comers code spans d tr facts stack sd str sru sgr sA ar cars gaps known left leaves pr cr we ha tab tkn p0 p1).2.1 (F_X9_best cy ls (nK : Int) clmK pcK (nW : Int) kO cA comers code spans d tr facts stack sd str sru sgr sA ar cars gaps known left leaves pr cr we ha tab tkn p0 p1).2.2.1 ∧ sfS oC oR nW nK cy ls kO cA clmK pcK (F_X9_best cy ls (nK : Int) clmK pcK (nW : Int) kO cA comers code spans d tr facts stack sd str sru sgr sA ar cars gaps known left leaves pr cr we ha tab tkn p0 p1).2.2.2 := by
  have hcy := hP.2.2.1
  have hx : (F_X1_bestOf facts stack cy ls (nK : Int) clmK pcK (nW : Int) kO cA comers code spans sd str sru sgr sA ar cars gaps known left leaves pr cr we ha tab tkn d tr p0 p1).1 = (F_X1_bestOf facts stack cy ls (nK : Int) clmK pcK (nW : Int) kO cA comers code spans sd str sru sgr sA ar cars gaps known left leaves pr cr we ha tab tkn d tr p0 p1).2.2.1 (Int.toNat ((p0 * (3 : Int)) + p1)) ∧ tbO (F_X1_bestOf facts stack cy ls (nK : Int) clmK pcK (nW : Int) kO cA comers code spans sd str sru sgr sA ar cars gaps known left leaves pr cr we ha tab tkn d tr p0 p1).2.2.1 (fun j => bsG (tdD oC oR nW cy ls kO cA clmK pcK d tr 0) (tdD oC oR nW cy ls kO cA clmK pcK d tr 2) (j : Int) (min 40 (cy - 1)).toNat) ∧ sfS oC oR nW nK cy ls kO cA clmK pcK (F_X1_bestOf facts stack cy ls (nK : Int) clmK pcK (nW : Int) kO cA comers code spans sd str sru sgr sA ar cars gaps known left leaves pr cr we ha tab tkn d tr p0 p1).2.2.2 := by
    unfold F_X1_bestOf F_X1_bestOf_83
    by_cases q : tkn = 0
    · rw [if_pos q, lf_b_e]
      have hx := bt_29 (p0 := p0) (p1 := p1) (m := (min 40 (cy - 1)).toNat) hP hB.1 hB.2.2.2 (by omega) 42 0 sd sru sgr sA pr cr we ha (lf_fl tab 39 (-1)) facts stack cars gaps str known left leaves (Nat.zero_le _) (by omega) (fun j hj => by
        have key : ∀ i, i < 39 → lf_fl tab 39 (-1) i = -1 := fun i hi => if_pos hi
        rw [key _ (by omega), key _ (by omega), key _ (by omega)]
        exact ⟨rfl, rfl, rfl⟩) hS
      have em : F_X7_greensUpTo_a0_40 cy = (((min 40 (cy - 1)).toNat : Nat) : Int) := by
        show min 40 (cy - 1) = _
        omega
      rw [em]
      exact ⟨hx.1, hx.2.2.1, hx.2.2.2⟩
    · rw [if_neg q]
      rcases hC with r | r
      · exact absurd r q
      · exact ⟨rfl, r, hS⟩
  unfold F_X9_best F_X9_best_26
  rw [st_1x hP.2.2.1.1, lf_b_e, if_neg (show ¬ (1 : Int) = 0 from by decide)]
  by_cases c0 : p0 < 0
  · rw [if_pos c0]
    exact ⟨(if_neg (by omega)).symm, hC, hS⟩
  rw [if_neg c0]
  by_cases c1 : 12 < p0
  · rw [if_pos c1]
    exact ⟨(if_neg (by omega)).symm, hC, hS⟩
  rw [if_neg c1]
  by_cases c2 : p1 < 0
  · rw [if_pos c2]
    exact ⟨(if_neg (by omega)).symm, hC, hS⟩
  rw [if_neg c2]
  by_cases c3 : ¬ p1 ≤ 2
  · rw [if_neg c3]
    exact ⟨(if_neg (by omega)).symm, hC, hS⟩
  have c3' := Decidable.not_not.mp c3
  rw [if_pos c3']
  generalize F_X1_bestOf facts stack cy ls (nK : Int) clmK pcK (nW : Int) kO cA comers code spans sd str sru sgr sA ar cars gaps known left leaves pr cr we ha tab tkn d tr p0 p1 = R at hx ⊢
  obtain ⟨h1, h2, h3⟩ := hx
  exact ⟨h1.trans (tb_at h2 ⟨⟨by omega, by omega⟩, by omega, c3'⟩), Or.inr h2, h3⟩
/-- the model's -/
abbrev M21 : Type := Int × Int × Int × Int × Int × Int × Int × Int × Int × Int × (Nat → Int) × (Nat → Int) × (Nat → Int) × (Nat → Int) × (Nat → Int) × (Nat → Int) × (Nat → Int) × (Nat → Int) × (Nat → Int) × (Nat → Int) × (Nat → Int)
theorem gl_40 {x : Int} : F_X10_isGreenLong_a1_40 bar x = b2 (decide (1 ≤ x ∧ x ≤ 40 ∧ x < bar 4)) := by
  unfold F_X10_isGreenLong_a1_40 F_X10_isGreenLong_a1_40_25 lf_isin
  by_cases q : 1 ≤ x ∧ x ≤ 40 ∧ x < bar 4
  · rw [if_pos (show 1 ≤ x ∧ x ≤ 40 from ⟨q.1, q.2.1⟩), if_neg (show ¬ (1 : Int) = 0 from by decide), if_neg (by omega), decide_eq_true q]
    rfl
  · rw [decide_eq_false q]
    by_cases q1 : 1 ≤ x ∧ x ≤ 40
    · rw [if_pos q1, if_neg (show ¬ (1 : Int) = 0 from by decide), if_pos (by omega)]
      rfl
    · rw [if_neg q1, if_pos rfl]
      rfl
theorem bm_62 {C : M21 → Prop} {g : Nat} {t0 : Int × Int × Int} {a10 a13 : Nat → Int} {K48 : Int → Int → Int → (Nat → Int) → (Nat → Int) → (Nat → Int) → Int → Int → Int → Int → Int → Int → Int → Int → Int → Int → (Nat → Int) → (Nat → Int) → (Nat → Int) → (Nat → Int) → (Nat → Int) → (Nat → Int) → (Nat → Int) → (Nat → Int) → M21} (hP : plH nW nK cy ls oC oR kO cA clmK pcK comers code spans ar) (h : mdH nW nK cy ls d oC oR oL kO cA clmK pcK many bar kinds walkers cf ce codes now a10 tr) (hg : 1 ≤ g ∧ g ≤ 60) (ht0 : bsV t0) (hK : ∀ (c55 c58 c117 c59 c70 c71 c72 c73 c74 : Int) (a3 a8 a11 a12 a14 a15 a16 a17 a19 : Nat → Int), C (K48 c55 c58 c117 a3 a10 a13 (bsR (tdD oC oR nW cy ls kO cA clmK pcK d tr 0) (tdD oC oR nW cy ls kO cA clmK pcK d tr 2) p0 g 3 t0).1 (bsR (tdD oC oR nW cy ls kO cA clmK pcK d tr 0) (tdD oC oR nW cy ls kO cA clmK pcK d tr 2) p0 g 3 t0).2.1 (bsR (tdD oC oR nW cy ls kO cA clmK pcK d tr 0) (tdD oC oR nW cy ls kO cA clmK pcK d tr 2) p0 g 3 t0).2.2 ((g : Int) + (1 : Int)) c59 c70 c71 c72 c73 c74 a8 a11 a12 a14 a15 a16 a17 a19)) : ∀ (f r : Nat) (t : Int × Int × Int) (c55 c58 c59 c70 c71 c72 c73 c74 c117 : Int) (a3 a8 a11 a12 a14 a15 a16 a17 a19 : Nat → Int), r ≤ 3 → 3 - r < f → t = bsR (tdD oC oR nW cy ls kO cA clmK pcK d tr 0) (tdD oC oR nW cy ls kO cA clmK pcK d tr 2) p0 g r t0 → C (F_X10_best_62 many bar kinds walkers cf ce codes now p0 a10 a13 (g : Int) K48 f t.1 t.2.1 t.2.2 (r : Int) c55 c58 c59 c70 c71 c72 c73 c74 c117 a3 a8 a11 a12 a14 a15 a16 a17 a19) := by
  intro f
  induction f with
  | zero => intro r t c55 c58 c59 c70 c71 c72 c73 c74 c117 a3 a8 a11 a12 a14 a15 a16 a17 a19 h1 h2; omega
  | succ f ih =>
    intro r t c55 c58 c59 c70 c71 c72 c73 c74 c117 a3 a8 a11 a12 a14 a15 a16 a17 a19 h1 h2 ht
    show C (F_X10_best_62b many bar kinds walkers cf ce codes now p0 a10 a13 (g : Int) K48 (F_X10_best_62 many bar kinds walkers cf ce codes now p0 a10 a13 (g : Int) K48 f) t.1 t.2.1 t.2.2 (r : Int) c55 c58 c59 c70 c71 c72 c73 c74 c117 a3 a8 a11 a12 a14 a15 a16 a17 a19)
    unfold F_X10_best_62b F_X10_best_109 F_X10_best_120
    by_cases q : r = 3
    · rw [if_pos (by omega), ht, q]
      exact hK _ _ _ _ _ _ _ _ _ _ _ _ _ _ _ _ _ _
    · obtain ⟨b1, b2', b3, b4, b5, b6, b7, b11, b16, e70, e71, e72, e73, e74, e55, e58, e59, e117, e, hF⟩ := day_x (tk := c55) (ask := c58) (sg := c74) (qp := c117) (isG := a19) (isH := a14) (cr := a15) (wt := a8) (go := a11) (hm := a12) (pr2 := a16) (ci := a17) (pile := a3) (A := 0) (H := 0) (ru := (r : Int)) (gr := (g : Int)) h rg_0 rg_0 (by omega) (by omega) ⟨by omega, by omega⟩
      rw [wkM_0] at hF
      have hW : nW ≤ 12 := h.2.1
      have hm3 : many 3 = (nW : Int) := h.1.1
      have x0 : F_X10_waitedAll many b3 = tdD oC oR nW cy ls kO cA clmK pcK d tr 0 r g := td_m0 hF (we_z hP) hm3 hW
      have x2 : F_X10_toldOfDay_a0_2 many b5 = tdD oC oR nW cy ls kO cA clmK pcK d tr 2 r g := by
        unfold F_X10_toldOfDay_a0_2
        rw [lf_b_e, lf_b_e, hm3, ct_m hW (fun w hw => (hF.1 w hw).2.2.2.2.1)]
        unfold tdD tdS
        rw [if_neg (by decide), if_neg (by decide), if_pos rfl]
      have hV : bsV t := by
        rw [ht]
        exact bsV_R (fun r g => (td_0b hP r g).1) ht0 r
      have go : ∀ (u : Int × Int × Int) (c55 c58 c59 c70 c71 c72 c73 c74 c117 : Int) (a3 a8 a11 a12 a14 a15 a16 a17 a19 : Nat → Int), u = bst (tdD oC oR nW cy ls kO cA clmK pcK d tr 0) (tdD oC oR nW cy ls kO cA clmK pcK d tr 2) p0 r g t → C (F_X10_best_62 many bar kinds walkers cf ce codes now p0 a10 a13 (g : Int) K48 f u.1 u.2.1 u.2.2 ((r : Int) + (1 : Int)) c55 c58 c59 c70 c71 c72 c73 c74 c117 a3 a8 a11 a12 a14 a15 a16 a17 a19) := by
        intro u c55 c58 c59 c70 c71 c72 c73 c74 c117 a3 a8 a11 a12 a14 a15 a16 a17 a19 hu
        exact ih (r + 1) u _ _ _ _ _ _ _ _ _ _ _ _ _ _ _ _ _ _ (by omega) (by omega) (by rw [hu, ht]; rfl)
      rw [if_neg (by omega), e, lf_p_e, lf_p_e, lf_p_e, lf_p_e, lf_p_e, lf_p_e, lf_p_e, lf_p_e, lf_p_e, lf_p_e, lf_p_e, lf_p_e, lf_p_e, lf_p_e, lf_p_e, lf_p_e, lf_p_e, lf_b_e, lf_b_e, x0, x2]
      by_cases c1 : p0 < tdD oC oR nW cy ls kO cA clmK pcK d tr 2 r g
      · rw [if_pos c1]
        exact go t _ _ _ _ _ _ _ _ _ _ _ _ _ _ _ _ _ _ (by unfold bst; rw [if_pos c1])
      · rw [if_neg c1]
        by_cases c2 : t.2.2 = -1
        · rw [if_pos c2]
          refine go ((r : Int), (g : Int), tdD oC oR nW cy ls kO cA clmK pcK d tr 0 r g) _ _ _ _ _ _ _ _ _ _ _ _ _ _ _ _ _ _ ?_
          unfold bst
          rw [if_neg c1, if_pos (Or.inl (by rcases hV with v | v <;> omega))]
        · rw [if_neg c2]
          by_cases c3 : tdD oC oR nW cy ls kO cA clmK pcK d tr 0 r g < t.2.2
          · rw [if_pos c3]
            refine go ((r : Int), (g : Int), tdD oC oR nW cy ls kO cA clmK pcK d tr 0 r g) _ _ _ _ _ _ _ _ _ _ _ _ _ _ _ _ _ _ ?_
            unfold bst
            rw [if_neg c1, if_pos (Or.inr c3)]
          · rw [if_neg c3]
            refine go t _ _ _ _ _ _ _ _ _ _ _ _ _ _ _ _ _ _ ?_
            unfold bst
            rw [if_neg c1, if_neg (fun z => z.elim (fun z => by rcases hV with v | v <;> omega) c3)]
theorem bm_48 {m : Nat} {a10 a13 : Nat → Int} (hP : plH nW nK cy ls oC oR kO cA clmK pcK comers code spans ar) (h : mdH nW nK cy ls d oC oR oL kO cA clmK pcK many bar kinds walkers cf ce codes now a10 tr) (hm : (m : Int) = min 40 (cy - 1)) : ∀ (f g : Nat) (t : Int × Int × Int) (c55 c58 c117 c59 c70 c71 c72 c73 c74 : Int) (a3 a8 a11 a12 a14 a15 a16 a17 a19 : Nat → Int), g ≤ m → m - g < f → t = bsG (tdD oC oR nW cy ls kO cA clmK pcK d tr 0) (tdD oC oR nW cy ls kO cA clmK pcK d tr 2) p0 g → (F_X10_best_48 many bar kinds walkers cf ce codes now p0 p1 f c55 c58 c117 a3 a10 a13 t.1 t.2.1 t.2.2 ((g + 1 : Nat) : Int) c59 c70 c71 c72 c73 c74 a8 a11 a12 a14 a15 a16 a17 a19).1 = if p1 = 0 then (bsG (tdD oC oR nW cy ls kO cA clmK pcK d tr 0) (tdD oC oR nW cy ls kO cA clmK pcK d tr 2) p0 m).1 else if p1 = 1 then (bsG (tdD oC oR nW cy ls kO cA clmK pcK d tr 0) (tdD oC oR nW cy ls kO cA clmK pcK d tr 2) p0 m).2.1 else (bsG (tdD oC oR nW cy ls kO cA clmK pcK d tr 0) (tdD oC oR nW cy ls kO cA clmK pcK d tr 2) p0 m).2.2 := by
  intro f
  induction f with
  | zero => intro g t c55 c58 c117 c59 c70 c71 c72 c73 c74 a3 a8 a11 a12 a14 a15 a16 a17 a19 h1 h2; omega
  | succ f ih =>
    intro g t c55 c58 c117 c59 c70 c71 c72 c73 c74 a3 a8 a11 a12 a14 a15 a16 a17 a19 h1 h2 ht
    have e0 : F_X10_best_48 many bar kinds walkers cf ce codes now p0 p1 (f + 1) c55 c58 c117 a3 a10 a13 t.1 t.2.1 t.2.2 ((g + 1 : Nat) : Int) c59 c70 c71 c72 c73 c74 a8 a11 a12 a14 a15 a16 a17 a19 = F_X10_best_48b many bar kinds walkers cf ce codes now p0 p1 (F_X10_best_48 many bar kinds walkers cf ce codes now p0 p1 f) c55 c58 c117 a3 a10 a13 t.1 t.2.1 t.2.2 ((g + 1 : Nat) : Int) c59 c70 c71 c72 c73 c74 a8 a11 a12 a14 a15 a16 a17 a19 := rfl
    rw [e0]
    unfold F_X10_best_48b
    have hb4 : bar 4 = cy := h.1.2.2.1
    rw [gl_40, lf_b_e, hb4]
    by_cases q : g = m
    · subst q
      rw [decide_eq_false (by omega), if_pos (show b2 false = 0 from rfl), ht]
      by_cases c0 : p1 = 0
      · rw [if_pos c0, if_pos c0]
      rw [if_neg c0, if_neg c0]
      by_cases c1 : p1 = 1
      · rw [if_pos c1, if_pos c1]
      rw [if_neg c1, if_neg c1]
    · rw [decide_eq_true (by omega), if_neg (show ¬ b2 true = 0 from by decide)]
      refine bm_62 (C := fun O => O.1 = _) (g := g + 1) (t0 := t) (K48 := F_X10_best_48 many bar kinds walkers cf ce codes now p0 p1 f) hP h ⟨by omega, by omega⟩ (by rw [ht]; exact bsV_G (fun r g => (td_0b hP r g).1) g) (fun c55 c58 c117 c59 c70 c71 c72 c73 c74 a3 a8 a11 a12 a14 a15 a16 a17 a19 => ?_) 5 0 t _ _ _ _ _ _ _ _ _ _ _ _ _ _ _ _ _ _ (by decide) (by decide) rfl
      exact ih (g + 1) (bsR (tdD oC oR nW cy ls kO cA clmK pcK d tr 0) (tdD oC oR nW cy ls kO cA clmK pcK d tr 2) p0 (g + 1) 3 t) _ _ _ _ _ _ _ _ _ _ _ _ _ _ _ _ _ _ (by omega) (by omega) (by rw [ht]; rfl)
theorem be_mx (hP : plH nW nK cy ls oC oR kO cA clmK pcK comers code spans ar) (hM : pmH nW nK cy ls oC oR oL kO cA clmK pcK many bar kinds walkers cf ce codes) (hB : stB nK d ru gr tr) (hn : ndH nK d ru gr tr now) (hi : isc = 1) : (F_X10_best isc tk ask red io lg gt icg sg qp many bar kinds walkers cf ce codes now isCar gapM isG isH crM wtM goM hmM prM ciM pile p0 p1).1 = beA oC oR nW cy ls kO cA clmK pcK d tr p0 p1 := by
  have hcy := hP.2.2.1
  obtain ⟨t, q, r, p, g2, i2, e, h1, h2⟩ := mc_x (tk := tk) (ask := ask) (red := red) (qp := qp) (kinds := kinds) (walkers := walkers) (isCar := isCar) (gaps := gapM) (waits := wtM) (goes := goM) (harms := hmM) (pile := pile) hB.1 (show 1 ≤ cy from by omega) hP.2.2.1.2 hM.2.2.1 hn.1 hM.2.2.2.2.2.2.1 hP.2.2.2.2.2.2.1.2
  unfold F_X10_best F_X10_best_31 beA lf_isin
  rw [if_neg (show ¬ isc = 0 from by omega)]
  by_cases c0 : 0 ≤ p0 ∧ p0 ≤ 12
  · rw [if_pos c0, if_neg (show ¬ (1 : Int) = 0 from by decide)]
    by_cases c1 : 0 ≤ p1 ∧ p1 ≤ 2
    · rw [if_pos c1, if_neg (show ¬ (1 : Int) = 0 from by decide), e, lf_p_e, lf_p_e, lf_p_e, lf_p_e, lf_p_e, if_pos ⟨c0, c1⟩]
      exact bm_48 (p0 := p0) (p1 := p1) (m := (min 40 (cy - 1)).toNat) hP (md_of hP hM hB.1 hn h2) (by omega) 42 0 (-1, -1, -1) t q r red io lg gt icg sg p wtM goM hmM isH crM prM ciM isG (Nat.zero_le _) (by omega) rfl
    · rw [if_neg c1, if_pos rfl, if_neg (fun z => c1 z.2)]
  · rw [if_neg c0, if_pos rfl, if_neg (fun z => c0 z.1)]
end BE
