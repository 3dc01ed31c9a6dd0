/-! fits, watched: on both sides -/
abbrev FT : Type := Nat × Int × Int × (Nat → Nat → Int)
def soR (sw ss L : Nat → Int) : Nat → Nat → Bool
  | 0, _ => true
  | m + 1, l => decide (L (sw l).toNat = ss l) && soR sw ss L m (l + 1)
def ftt (Z : Nat → Nat → Nat → Int) (B : (Nat → Int) → Bool) (r g : Nat) (t : FT) : FT := if B (Z r g) = true then (t.1 + 1, lf_o lf_ior t.2.1 (lf_o lf_ishl (1 : Int) (r : Int)), (if t.2.2.1 = -1 then (g : Int) else t.2.2.1), fun k => if k = t.1 then Z r g else t.2.2.2 k) else t
def fitR (Z : Nat → Nat → Nat → Int) (B : (Nat → Int) → Bool) (g : Nat) : Nat → FT → FT
  | 0, t => t
  | r + 1, t => ftt Z B r g (fitR Z B g r t)
def ftG (Z : Nat → Nat → Nat → Int) (B : (Nat → Int) → Bool) : Nat → FT
  | 0 => (0, 0, -1, fun _ _ => 0)
  | g + 1 => fitR Z B (g + 1) 3 (ftG Z B g)
theorem ftt_n {Z : Nat → Nat → Nat → Int} {B : (Nat → Int) → Bool} {r g : Nat} {t : FT} : (ftt Z B r g t).1 ≤ t.1 + 1 := by
  unfold ftt
  by_cases c : B (Z r g) = true
  · rw [if_pos c]
    exact Nat.le_refl _
  · rw [if_neg c]
    exact Nat.le_succ _
theorem ftR_n {Z : Nat → Nat → Nat → Int} {B : (Nat → Int) → Bool} {g : Nat} {t : FT} : ∀ r, (fitR Z B g r t).1 ≤ t.1 + r
  | 0 => Nat.le_refl _
  | r + 1 => by
    have ih := ftR_n (Z := Z) (B := B) (g := g) (t := t) r
    have h := ftt_n (Z := Z) (B := B) (r := r) (g := g) (t := fitR Z B g r t)
    show (ftt Z B r g (fitR Z B g r t)).1 ≤ _
    omega
theorem ftG_n {Z : Nat → Nat → Nat → Int} {B : (Nat → Int) → Bool} : ∀ g, (ftG Z B g).1 ≤ 3 * g
  | 0 => Nat.le_refl _
  | g + 1 => by
    have ih := ftG_n (Z := Z) (B := B) g
    have h := ftR_n (Z := Z) (B := B) (g := g + 1) (t := ftG Z B g) 3
    show (fitR Z B (g + 1) 3 (ftG Z B g)).1 ≤ _
    omega
/-- the most alike; the one to watch -/
def mlX (S : Nat → Nat → Int) (n w : Nat) : Nat → Int
  | 0 => 0
  | a + 1 => max (mlX S n w a) (cnf (fun b => decide (S b w = S a w)) n)
def wcS (ML : Nat → Int) : Nat → Int × Int
  | 0 => (-1, -1)
  | w + 1 => if (wcS ML w).1 = -1 ∨ ML w < (wcS ML w).2 then ((w : Int), ML w) else wcS ML w
theorem mlX_b {S : Nat → Nat → Int} {n w : Nat} : ∀ a, 0 ≤ mlX S n w a ∧ mlX S n w a ≤ (n : Int)
  | 0 => ⟨Int.le_refl _, Int.natCast_nonneg n⟩
  | a + 1 => by
    have ih := mlX_b (S := S) (n := n) (w := w) a
    have h := cnf_le (fun b => decide (S b w = S a w)) n
    show 0 ≤ max _ _ ∧ max _ _ ≤ _
    omega
theorem wcS_n {ML : Nat → Int} : ∀ w, ((wcS ML w).1 = -1 ∧ (wcS ML w).2 = -1) ∨ 0 ≤ (wcS ML w).1
  | 0 => Or.inl ⟨rfl, rfl⟩
  | w + 1 => by
    have ih := wcS_n (ML := ML) w
    show ((if (wcS ML w).1 = -1 ∨ ML w < (wcS ML w).2 then ((w : Int), ML w) else wcS ML w).1 = -1 ∧ (if (wcS ML w).1 = -1 ∨ ML w < (wcS ML w).2 then ((w : Int), ML w) else wcS ML w).2 = -1) ∨ 0 ≤ (if (wcS ML w).1 = -1 ∨ ML w < (wcS ML w).2 then ((w : Int), ML w) else wcS ML w).1
    by_cases c : (wcS ML w).1 = -1 ∨ ML w < (wcS ML w).2
    · rw [if_pos c]
      exact Or.inr (Int.natCast_nonneg w)
    · rw [if_neg c]
      exact ih
section WT
variable {nW nK : Nat} {oC oR oL : Option (List Int)} {s cy ls aw stm d ru gr hnx hct sd sru sgr sA ar pr cr we ha tkn ad aru agr akn rws cmp fnd frl fgr chs chl occ dwn fa pl sM awM isc und nwst rmM moc sdd tk ask red io lg gt icg sg qp ftm ftr ftg mf mp0 p0 p1 p2 p3 p4 : Int} {g clmK pcK kO cA comers code spans nmX tr rD rR rG facts stack str cars gaps known left leaves tab atr atd ats sw ss sec oct refu gM many bar kinds walkers cf ce codes now kept mrw mo refM asd isCar gapM isG isH crM wtM goM hmM prM ciM pile whn : Nat → Int} {rF : Nat → Nat → Int}
noncomputable def lvZ (oC oR : Option (List Int)) (nW : Nat) (cy ls : Int) (kO cA clmK pcK : Nat → Int) (d : Int) (tr : Nat → Int) (r g : Nat) : Nat → Int := (weS oC oR nW cy ls kO cA clmK pcK d tr (r : Int) (g : Int) 0).1
def seO (nW : Nat) (sec : Nat → Int) (t : FT) : Prop := ∀ k, k < t.1 → ∀ w, w < nW → sec (12 * k + w) = t.2.2.2 k w
theorem is_x {L : Nat → Int} {n : Nat} (hn : rws = (n : Int)) (hb : ∀ k, k < n → 0 ≤ sw k ∧ sw k < 12) (hl : ∀ w, w < 12 → leaves w = L w) : ∀ (m l f : Nat), l + m = n → m < f → F_X8_isSo_2 leaves sw ss rws f (l : Int) = b2 (soR sw ss L m l) := by
  intro m
  induction m with
  | zero =>
    intro l f h1 h2
    obtain ⟨k, rfl⟩ : ∃ k, f = k + 1 := ⟨f - 1, by omega⟩
    show F_X8_isSo_2b leaves sw ss rws (F_X8_isSo_2 leaves sw ss rws k) (l : Int) = b2 true
    unfold F_X8_isSo_2b
    rw [if_pos (by omega)]
    rfl
  | succ m ih =>
    intro l f h1 h2
    obtain ⟨k, rfl⟩ : ∃ k, f = k + 1 := ⟨f - 1, by omega⟩
    have hb' := hb l (by omega)
    show F_X8_isSo_2b leaves sw ss rws (F_X8_isSo_2 leaves sw ss rws k) (l : Int) = b2 (decide (L (sw l).toNat = ss l) && soR sw ss L m (l + 1))
    unfold F_X8_isSo_2b
    rw [if_neg (by omega), Int.toNat_natCast, hl _ (by omega)]
    by_cases c : L (Int.toNat (sw l)) = ss l
    · rw [if_pos c, decide_eq_true c, Bool.true_and]
      exact ih (l + 1) k (by omega) (by omega)
    · rw [if_neg c, decide_eq_false c, Bool.false_and]
      rfl
theorem is_m {L : Nat → Int} {n : Nat} (hn : rmM = (n : Int)) (hb : ∀ k, k < n → (sw k = mrw (2 * k) ∧ ss k = mrw (2 * k + 1)) ∧ 0 ≤ sw k ∧ sw k < (nW : Int)) (hl : ∀ w, w < nW → crM w = L w) : ∀ (m l f : Nat), l + m = n → m < f → F_X10_isAsSeen_2 rmM crM mrw f (l : Int) = b2 (soR sw ss L m l) := by
  intro m
  induction m with
  | zero =>
    intro l f h1 h2
    obtain ⟨k, rfl⟩ : ∃ k, f = k + 1 := ⟨f - 1, by omega⟩
    show F_X10_isAsSeen_2b rmM crM mrw (F_X10_isAsSeen_2 rmM crM mrw k) (l : Int) = b2 true
    unfold F_X10_isAsSeen_2b
    rw [if_pos (by omega)]
    rfl
  | succ m ih =>
    intro l f h1 h2
    obtain ⟨k, rfl⟩ : ∃ k, f = k + 1 := ⟨f - 1, by omega⟩
    obtain ⟨⟨x1, x2⟩, x3⟩ := hb l (by omega)
    show F_X10_isAsSeen_2b rmM crM mrw (F_X10_isAsSeen_2 rmM crM mrw k) (l : Int) = b2 (decide (L (sw l).toNat = ss l) && soR sw ss L m (l + 1))
    unfold F_X10_isAsSeen_2b
    rw [if_neg (by omega), show Int.toNat ((2 : Int) * (l : Int)) = 2 * l from by omega, show Int.toNat (((2 : Int) * (l : Int)) + (1 : Int)) = 2 * l + 1 from by omega, ← x1, ← x2, hl _ (by omega)]
    by_cases c : L (Int.toNat (sw l)) = ss l
    · rw [if_pos c, decide_eq_true c, Bool.true_and]
      exact ih (l + 1) k (by omega) (by omega)
    · rw [if_neg c, decide_eq_false c, Bool.false_and]
      rfl
/-- the class's most alike -/
theorem ml_i {S : Nat → Nat → Int} {n : Nat} {K4 : Int → Int → Int} {w a : Nat} {l2 : Int} (hn : n ≤ 60) (hw : w < nW) (hW : nW ≤ 12) (ha : a < n) (hs : ∀ k, k < n → ∀ w, w < nW → sec (12 * k + w) = S k w) : ∀ (f b : Nat) (l4 : Int), b ≤ n → n - b < f → l4 = cnf (fun b => decide (S b w = S a w)) b → F_X8_mostLeft_18 sec (n : Int) (w : Int) l2 (a : Int) K4 f l4 (b : Int) = K4 (max l2 (cnf (fun b => decide (S b w = S a w)) n)) ((a : Int) + (1 : Int)) := by
  intro f
  induction f with
  | zero => intro b l4 h1 h2; omega
  | succ f ih =>
    intro b l4 h1 h2 h3
    have e0 : F_X8_mostLeft_18 sec (n : Int) (w : Int) l2 (a : Int) K4 (f + 1) l4 (b : Int) = F_X8_mostLeft_18b sec (n : Int) (w : Int) l2 (a : Int) K4 (F_X8_mostLeft_18 sec (n : Int) (w : Int) l2 (a : Int) K4 f) l4 (b : Int) := rfl
    rw [e0]
    unfold F_X8_mostLeft_18b F_X8_mostLeft_56
    by_cases q : b = n
    · rw [if_pos (by omega), h3, q]
    · have hb := cnf_le (fun b => decide (S b w = S a w)) b
      have eS : cnf (fun b => decide (S b w = S a w)) (b + 1) = cnf (fun b => decide (S b w = S a w)) b + b2 (decide (S b w = S a w)) := rfl
      rw [if_neg (by omega), show Int.toNat (((b : Int) * (12 : Int)) + (w : Int)) = 12 * b + w from by omega, show Int.toNat (((a : Int) * (12 : Int)) + (w : Int)) = 12 * a + w from by omega, hs b (by omega) w hw, hs a ha w hw]
      by_cases c : S b w = S a w
      · rw [if_pos c]
        refine ih (b + 1) _ (by omega) (by omega) ?_
        rw [eS, decide_eq_true c, h3, lo_add (by omega) (by omega) (by omega) (by omega) (by omega) (by omega)]
        rfl
      · rw [if_neg c]
        refine ih (b + 1) _ (by omega) (by omega) ?_
        rw [eS, decide_eq_false c, h3]
        exact (Int.add_zero _).symm
theorem ml_o {S : Nat → Nat → Int} {n : Nat} {w : Nat} (hn : n ≤ 60) (hw : w < nW) (hW : nW ≤ 12) (hs : ∀ k, k < n → ∀ w, w < nW → sec (12 * k + w) = S k w) : ∀ (f a : Nat), a ≤ n → n - a < f → F_X8_mostLeft_4 sec (n : Int) (w : Int) f (mlX S n w a) (a : Int) = mlX S n w n := by
  intro f
  induction f with
  | zero => intro a h1 h2; omega
  | succ f ih =>
    intro a h1 h2
    have e0 : F_X8_mostLeft_4 sec (n : Int) (w : Int) (f + 1) (mlX S n w a) (a : Int) = F_X8_mostLeft_4b sec (n : Int) (w : Int) (F_X8_mostLeft_4 sec (n : Int) (w : Int) f) (mlX S n w a) (a : Int) := rfl
    rw [e0]
    unfold F_X8_mostLeft_4b
    by_cases q : a = n
    · rw [if_pos (by omega), q]
    · have e := ml_i (K4 := F_X8_mostLeft_4 sec (n : Int) (w : Int) f) (l2 := mlX S n w a) hn hw hW (show a < n from by omega) hs 62 0 0 (Nat.zero_le _) (by omega) rfl
      have e' : F_X8_mostLeft_18 sec (n : Int) (w : Int) (mlX S n w a) (a : Int) (F_X8_mostLeft_4 sec (n : Int) (w : Int) f) 62 (0 : Int) (0 : Int) = _ := e
      rw [if_neg (by omega), e']
      exact ih (a + 1) (by omega) (by omega)
theorem cz_run {S : Nat → Nat → Int} {n nV : Nat} (hn : n ≤ 60) (hV : nV ≤ nW) (hW : nW ≤ 12) (hs : ∀ k, k < n → ∀ w, w < nW → sec (12 * k + w) = S k w) : ∀ (f w : Nat), w ≤ nV → nV - w < f → F_X8_choose_31 sec (n : Int) f (nV : Int) (w : Int) (wcS (fun w => mlX S n w n) w).1 (wcS (fun w => mlX S n w n) w).2 = ((wcS (fun w => mlX S n w n) nV).1, (wcS (fun w => mlX S n w n) nV).2) := by
  intro f
  induction f with
  | zero => intro w h1 h2; omega
  | succ f ih =>
    intro w h1 h2
    have e0 : F_X8_choose_31 sec (n : Int) (f + 1) (nV : Int) (w : Int) (wcS (fun w => mlX S n w n) w).1 (wcS (fun w => mlX S n w n) w).2 = F_X8_choose_31b sec (n : Int) (F_X8_choose_31 sec (n : Int) f) (nV : Int) (w : Int) (wcS (fun w => mlX S n w n) w).1 (wcS (fun w => mlX S n w n) w).2 := rfl
    rw [e0]
    unfold F_X8_choose_31b F_X8_choose_58 F_X8_choose_68
    by_cases q : w = nV
    · rw [if_pos (by omega), q]
    · have e : F_X8_mostLeft sec (n : Int) (w : Int) = mlX S n w n := ml_o hn (show w < nW from by omega) hW hs 62 0 (Nat.zero_le _) (by omega)
      have hx := ih (w + 1) (by omega) (by omega)
      have eS : wcS (fun w => mlX S n w n) (w + 1) = if (wcS (fun w => mlX S n w n) w).1 = -1 ∨ mlX S n w n < (wcS (fun w => mlX S n w n) w).2 then ((w : Int), mlX S n w n) else wcS (fun w => mlX S n w n) w := rfl
      rw [eS] at hx
      rw [if_neg (by omega), e, lf_b_e]
      by_cases c1 : (wcS (fun w => mlX S n w n) w).1 = -1
      · rw [if_pos (Or.inl c1)] at hx
        rw [if_pos c1]
        exact hx
      · rw [if_neg c1]
        by_cases c2 : (wcS (fun w => mlX S n w n) w).2 ≤ mlX S n w n
        · rw [if_neg (fun z => z.elim c1 (fun z => by omega))] at hx
          rw [if_pos c2]
          exact hx
        · rw [if_pos (Or.inr (by omega))] at hx
          rw [if_neg c2]
          exact hx
def wcF (nW : Nat) (t : FT) : Int × Int := wcS (fun w => mlX t.2.2.2 t.1 w t.1) (if t.1 = 0 then 0 else nW)
theorem cz_x {t : FT} (hn : t.1 ≤ 60) (hW : nW ≤ 12) (hs : seO nW sec t) : F_X8_choose (nW : Int) sec (t.1 : Int) = ((wcF nW t).1, (wcF nW t).2) := by
  unfold F_X8_choose F_X8_choose_28 F_X7_walkers wcF
  by_cases q : t.1 = 0
  · rw [if_pos (show (t.1 : Int) ≤ 0 from by omega), if_pos q]
    exact cz_run (S := t.2.2.2) (n := t.1) (nV := 0) hn (Nat.zero_le _) hW hs 14 0 (Nat.le_refl _) (by omega)
  · rw [if_neg (show ¬ (t.1 : Int) ≤ 0 from by omega), if_neg q, lf_b_e]
    exact cz_run (S := t.2.2.2) (n := t.1) (nV := nW) hn (Nat.le_refl _) hW hs 14 0 (Nat.zero_le _) (by omega)
/-- what is kept of fits, watched -/
noncomputable def ftX (oC oR : Option (List Int)) (nW : Nat) (cy ls : Int) (kO cA clmK pcK : Nat → Int) (d : Int) (tr : Nat → Int) (rws : Int) (sw ss : Nat → Int) : FT := ftG (lvZ oC oR nW cy ls kO cA clmK pcK d tr) (fun L => soR sw ss L rws.toNat 0) (min 20 (cy - 1)).toNat
def waC (nW : Nat) (t : FT) (fnd frl fgr chs chl : Int) (sec : Nat → Int) : Prop := fnd = (t.1 : Int) ∧ frl = t.2.1 ∧ fgr = t.2.2.1 ∧ seO nW sec t ∧ chs = (wcF nW t).1 ∧ chl = (wcF nW t).2
def waH (oC oR : Option (List Int)) (nW : Nat) (cy ls : Int) (kO cA clmK pcK : Nat → Int) (d : Int) (tr : Nat → Int) (rws : Int) (sw ss : Nat → Int) (cmp fnd frl fgr chs chl : Int) (sec : Nat → Int) : Prop := cmp = 0 ∨ waC nW (ftX oC oR nW cy ls kO cA clmK pcK d tr rws sw ss) fnd frl fgr chs chl sec
theorem wa_0 : waH oC oR nW cy ls kO cA clmK pcK d tr rws sw ss 0 fnd frl fgr chs chl sec := Or.inl rfl
theorem cw_48 {l2 : Int} {g : Nat} {t0 : FT} {C : A23 → Prop} {K40 : Int → Int → Int → Int → Int → Int → Int → Int → Int → Int → Int → Int → Int → (Nat → Int) → (Nat → Int) → (Nat → Int) → (Nat → Int) → (Nat → Int) → (Nat → Int) → (Nat → Int) → (Nat → Int) → (Nat → Int) → A23} (hP : plH nW nK cy ls oC oR kO cA clmK pcK comers code spans ar) (hd : 0 ≤ d ∧ d ≤ 999) (ht : ∀ k, k < nK → 0 ≤ tr k ∧ tr k ≤ 9) (hR : rwH nW rws sw ss rmM mrw) (hg : g ≤ 60) (hK : ∀ (t : FT) (sd sru sgr sA pr cr we ha : Int) (a3 facts stack cars gaps str known left leaves : Nat → Int), t = fitR (lvZ oC oR nW cy ls kO cA clmK pcK d tr) (fun L => soR sw ss L rws.toNat 0) g 3 t0 → seO nW a3 t → sfH oC oR nW nK cy ls kO cA clmK pcK sd str sru sgr sA cars gaps known left leaves pr cr we ha → C (K40 l2 ((g : Int) + (1 : Int)) (t.1 : Int) t.2.1 t.2.2.1 sd sru sgr sA pr cr we ha a3 facts stack cars gaps str known left leaves)) : ∀ (f r : Nat) (t : FT) (sd sru sgr sA pr cr we ha : Int) (a3 facts stack cars gaps str known left leaves : Nat → Int), r ≤ 3 → 3 - r < f → t = fitR (lvZ oC oR nW cy ls kO cA clmK pcK d tr) (fun L => soR sw ss L rws.toNat 0) g r t0 → seO nW a3 t → sfH oC oR nW nK cy ls kO cA clmK pcK sd str sru sgr sA cars gaps known left leaves pr cr we ha → C (F_X8_compare_48 cy ls (nK : Int) clmK pcK (nW : Int) kO cA comers code spans ar sw ss rws d tr l2 (g : Int) K40 f (r : Int) (t.1 : Int) t.2.1 t.2.2.1 sd sru sgr sA pr cr we ha a3 facts stack cars gaps str known left leaves) := by
  intro f
  induction f with
  | zero => intro r t sd sru sgr sA pr cr we ha a3 facts stack cars gaps str known left leaves h1 h2; omega
  | succ f ih =>
    intro r t sd sru sgr sA pr cr we ha a3 facts stack cars gaps str known left leaves h1 h2 hT hQ hS
    show C (F_X8_compare_48b cy ls (nK : Int) clmK pcK (nW : Int) kO cA comers code spans ar sw ss rws d tr l2 (g : Int) K40 (F_X8_compare_48 cy ls (nK : Int) clmK pcK (nW : Int) kO cA comers code spans ar sw ss rws d tr l2 (g : Int) K40 f) (r : Int) (t.1 : Int) t.2.1 t.2.2.1 sd sru sgr sA pr cr we ha a3 facts stack cars gaps str known left leaves)
    unfold F_X8_compare_48b F_X8_compare_137 F_X8_compare_140
    have hW : nW ≤ 12 := hP.1
    by_cases q : r = 3
    · rw [if_pos (by omega)]
      subst q
      exact hK t _ _ _ _ _ _ _ _ _ _ _ _ _ _ _ _ _ hT hQ hS
    · obtain ⟨f2, s2, c2, g2, t2, k2, l2', v2, pr2, cr2, we2, ha2, e, e1, hsf, q2, q1⟩ := ly_x (facts := facts) (stack := stack) (p1 := (r : Int)) (p2 := (g : Int)) (p3 := 0) hP hS hd ht (by omega) (show 0 ≤ (g : Int) ∧ (g : Int) ≤ 60 from ⟨by omega, by omega⟩) rg_0
      have hv : ∀ w, w < 12 → v2 w = lvZ oC oR nW cy ls kO cA clmK pcK d tr r g w := q2.2.2.2.2.2
      have hso : F_X8_isSo v2 sw ss rws = b2 (soR sw ss (lvZ oC oR nW cy ls kO cA clmK pcK d tr r g) rws.toNat 0) := is_x (n := rws.toNat) (by have := hR.2.1; omega) (fun k hk => by have := (hR.2.2 k (by omega)).2; omega) hv rws.toNat 0 18 (by omega) (by have := hR.2.1; omega)
      have eT : fitR (lvZ oC oR nW cy ls kO cA clmK pcK d tr) (fun L => soR sw ss L rws.toNat 0) g (r + 1) t0 = ftt (lvZ oC oR nW cy ls kO cA clmK pcK d tr) (fun L => soR sw ss L rws.toNat 0) r g t := by
        rw [hT]
        rfl
      rw [if_neg (by omega), e, lf_p_e, lf_p_e, lf_p_e, lf_p_e, lf_p_e, lf_p_e, lf_p_e, lf_p_e, lf_p_e, lf_p_e, lf_p_e, lf_p_e, lf_p_e, lf_p_e, lf_p_e, lf_b_e, hso]
      cases hb : soR sw ss (lvZ oC oR nW cy ls kO cA clmK pcK d tr r g) rws.toNat 0 with
      | false =>
        rw [if_pos (show b2 false = 0 from rfl)]
        refine ih (r + 1) t _ _ _ _ _ _ _ _ _ _ _ _ _ _ _ _ _ (by omega) (by omega) ?_ hQ hsf
        rw [eT]
        unfold ftt
        rw [if_neg (fun z => Bool.noConfusion (hb.symm.trans z))]
      | true =>
        rw [if_neg (show ¬ b2 true = 0 from by decide)]
        have eT2 : ftt (lvZ oC oR nW cy ls kO cA clmK pcK d tr) (fun L => soR sw ss L rws.toNat 0) r g t = (t.1 + 1, lf_o lf_ior t.2.1 (lf_o lf_ishl (1 : Int) (r : Int)), (if t.2.2.1 = -1 then (g : Int) else t.2.2.1), fun k => if k = t.1 then lvZ oC oR nW cy ls kO cA clmK pcK d tr r g else t.2.2.2 k) := if_pos hb
        have hQ2 : seO nW (lf_cpy v2 a3 (0 : Int) ((t.1 : Int) * (12 : Int)) (12 : Int)) (t.1 + 1, lf_o lf_ior t.2.1 (lf_o lf_ishl (1 : Int) (r : Int)), (if t.2.2.1 = -1 then (g : Int) else t.2.2.1), fun k => if k = t.1 then lvZ oC oR nW cy ls kO cA clmK pcK d tr r g else t.2.2.2 k) := by
          intro k hk w hw
          have hk' : k < t.1 + 1 := hk
          dsimp only
          have e12 : (12 : Int).toNat = 12 := rfl
          unfold lf_cpy
          by_cases y : k = t.1
          · rw [if_pos (by omega), if_pos y, show (0 : Int).toNat + (12 * k + w - ((t.1 : Int) * (12 : Int)).toNat) = w from by
              have e00 : (0 : Int).toNat = 0 := rfl
              omega]
            exact hv w (by omega)
          · rw [if_neg (by omega), if_neg y]
            exact hQ k (by omega) w hw
        have go : ∀ x : Int, x = (if t.2.2.1 = -1 then (g : Int) else t.2.2.1) → C (F_X8_compare_48 cy ls (nK : Int) clmK pcK (nW : Int) kO cA comers code spans ar sw ss rws d tr l2 (g : Int) K40 f ((r : Int) + (1 : Int)) ((t.1 : Int) + (1 : Int)) (lf_o lf_ior t.2.1 (lf_o lf_ishl (1 : Int) (r : Int))) x d (r : Int) (g : Int) (0 : Int) pr2 cr2 we2 ha2 (lf_cpy v2 a3 (0 : Int) ((t.1 : Int) * (12 : Int)) (12 : Int)) f2 s2 c2 g2 t2 k2 l2' v2) := by
          intro x hx
          rw [hx]
          exact ih (r + 1) (t.1 + 1, lf_o lf_ior t.2.1 (lf_o lf_ishl (1 : Int) (r : Int)), (if t.2.2.1 = -1 then (g : Int) else t.2.2.1), fun k => if k = t.1 then lvZ oC oR nW cy ls kO cA clmK pcK d tr r g else t.2.2.2 k) _ _ _ _ _ _ _ _ _ _ _ _ _ _ _ _ _ (by omega) (by omega) (by rw [eT, eT2]) hQ2 hsf
        by_cases y2 : t.2.2.1 = -1
        · rw [if_pos y2]
          exact go _ (if_pos y2).symm
        · rw [if_neg y2]
          exact go _ (if_neg y2).symm
theorem cw_40 {m : Nat} (hP : plH nW nK cy ls oC oR kO cA clmK pcK comers code spans ar) (hd : 0 ≤ d ∧ d ≤ 999) (ht : ∀ k, k < nK → 0 ≤ tr k ∧ tr k ≤ 9) (hR : rwH nW rws sw ss rmM mrw) (hm : m ≤ 20) : ∀ (f g : Nat) (t : FT) (sd sru sgr sA pr cr we ha : Int) (a3 facts stack cars gaps str known left leaves : Nat → Int), g ≤ m → m - g < f → t = ftG (lvZ oC oR nW cy ls kO cA clmK pcK d tr) (fun L => soR sw ss L rws.toNat 0) g → seO nW a3 t → sfH oC oR nW nK cy ls kO cA clmK pcK sd str sru sgr sA cars gaps known left leaves pr cr we ha → ∃ O : A23, O = F_X8_compare_40 cy ls (nK : Int) clmK pcK (nW : Int) kO cA comers code spans ar sw ss rws d tr f (m : Int) ((g + 1 : Nat) : Int) (t.1 : Int) t.2.1 t.2.2.1 sd sru sgr sA pr cr we ha a3 facts stack cars gaps str known left leaves ∧ waC nW (ftG (lvZ oC oR nW cy ls kO cA clmK pcK d tr) (fun L => soR sw ss L rws.toNat 0) m) O.2.1 O.2.2.1 O.2.2.2.1 O.2.2.2.2.1 O.2.2.2.2.2.1 O.2.2.2.2.2.2.2.2.2.2.2.2.2.2.1 ∧ q23 oC oR nW nK cy ls kO cA clmK pcK O := by
  intro f
  induction f with
  | zero => intro g t sd sru sgr sA pr cr we ha a3 facts stack cars gaps str known left leaves h1 h2; omega
  | succ f ih =>
    intro g t sd sru sgr sA pr cr we ha a3 facts stack cars gaps str known left leaves h1 h2 hT hQ hS
    have e0 : F_X8_compare_40 cy ls (nK : Int) clmK pcK (nW : Int) kO cA comers code spans ar sw ss rws d tr (f + 1) (m : Int) ((g + 1 : Nat) : Int) (t.1 : Int) t.2.1 t.2.2.1 sd sru sgr sA pr cr we ha a3 facts stack cars gaps str known left leaves = F_X8_compare_40b cy ls (nK : Int) clmK pcK (nW : Int) kO cA comers code spans ar sw ss rws d tr (F_X8_compare_40 cy ls (nK : Int) clmK pcK (nW : Int) kO cA comers code spans ar sw ss rws d tr f) (m : Int) ((g + 1 : Nat) : Int) (t.1 : Int) t.2.1 t.2.2.1 sd sru sgr sA pr cr we ha a3 facts stack cars gaps str known left leaves := rfl
    rw [e0]
    unfold F_X8_compare_40b
    have hW : nW ≤ 12 := hP.1
    by_cases q : g = m
    · have hn : t.1 ≤ 60 := by
        have := ftG_n (Z := lvZ oC oR nW cy ls kO cA clmK pcK d tr) (B := fun L => soR sw ss L rws.toNat 0) g
        rw [← hT] at this
        omega
      rw [if_pos (by omega), cz_x hn hW hQ, lf_p_e]
      rw [← q, ← hT]
      exact ⟨_, rfl, ⟨rfl, rfl, rfl, hQ, rfl, rfl⟩, hS⟩
    · rw [if_neg (by omega)]
      exact cw_48 (C := fun P => ∃ O : A23, O = P ∧ waC nW (ftG (lvZ oC oR nW cy ls kO cA clmK pcK d tr) (fun L => soR sw ss L rws.toNat 0) m) O.2.1 O.2.2.1 O.2.2.2.1 O.2.2.2.2.1 O.2.2.2.2.2.1 O.2.2.2.2.2.2.2.2.2.2.2.2.2.2.1 ∧ q23 oC oR nW nK cy ls kO cA clmK pcK O) (g := g + 1) (t0 := t) (K40 := F_X8_compare_40 cy ls (nK : Int) clmK pcK (nW : Int) kO cA comers code spans ar sw ss rws d tr f) hP hd ht hR (by omega) (fun t2 sd sru sgr sA pr cr we ha a3 facts stack cars gaps str known left leaves hT2 hQ2 hS2 => ih (g + 1) t2 sd sru sgr sA pr cr we ha a3 facts stack cars gaps str known left leaves (by omega) (by omega) (by rw [hT2, hT]; rfl) hQ2 hS2) 5 0 t _ _ _ _ _ _ _ _ _ _ _ _ _ _ _ _ _ (by decide) (by decide) rfl hQ hS
theorem cw_x (hP : plH nW nK cy ls oC oR kO cA clmK pcK comers code spans ar) (hS : sfH oC oR nW nK cy ls kO cA clmK pcK sd str sru sgr sA cars gaps known left leaves pr cr we ha) (hB : stB nK d ru gr tr) (hR : rwH nW rws sw ss rmM mrw) (hC : waH oC oR nW cy ls kO cA clmK pcK d tr rws sw ss cmp fnd frl fgr chs chl sec) : ∃ O : A23, O = F_X8_compare facts stack cy ls (nK : Int) clmK pcK (nW : Int) kO cA comers code spans sd str sru sgr sA ar cars gaps known left leaves pr cr we ha sw ss rws cmp sec fnd frl fgr chs chl d tr ∧ waC nW (ftX oC oR nW cy ls kO cA clmK pcK d tr rws sw ss) O.2.1 O.2.2.1 O.2.2.2.1 O.2.2.2.2.1 O.2.2.2.2.2.1 O.2.2.2.2.2.2.2.2.2.2.2.2.2.2.1 ∧ q23 oC oR nW nK cy ls kO cA clmK pcK O := by
  have hcy := hP.2.2.1
  unfold F_X8_compare
  by_cases q : cmp = 0
  · rw [if_pos q, lf_b_e]
    have em : F_X7_greensUpTo_a0_20 cy = (((min 20 (cy - 1)).toNat : Nat) : Int) := by
      show min 20 (cy - 1) = _
      omega
    rw [em]
    exact cw_40 (m := (min 20 (cy - 1)).toNat) hP hB.1 hB.2.2.2 hR (by omega) 22 0 (0, 0, -1, fun _ _ => 0) sd sru sgr sA pr cr we ha sec facts stack cars gaps str known left leaves (Nat.zero_le _) (by omega) rfl (fun k hk => absurd hk (Nat.not_lt_zero k)) hS
  · rw [if_neg q]
    rcases hC with r | r
    · exact absurd r q
    · exact ⟨_, rfl, r, hS⟩
noncomputable def fiA (t : FT) (p : Int) : Int := if p = 0 then (t.1 : Int) else if p = 1 then t.2.1 else if p = 2 then t.2.2.1 else -1
noncomputable def wdA (nW : Nat) (t : FT) (p : Int) : Int := if p = 0 then (wcF nW t).1 else if p = 1 then (wcF nW t).2 else -1
theorem fi_cx (hP : plH nW nK cy ls oC oR kO cA clmK pcK comers code spans ar) (hS : sfH oC oR nW nK cy ls kO cA clmK pcK sd str sru sgr sA cars gaps known left leaves pr cr we ha) (hB : stB nK d ru gr tr) (hR : rwH nW rws sw ss rmM mrw) (hC : waH oC oR nW cy ls kO cA clmK pcK d tr rws sw ss cmp fnd frl fgr chs chl sec) : ∃ r, ∃ O : A23, F_X9_fits cy ls (nK : Int) clmK pcK (nW : Int) kO cA comers code spans d tr facts stack sd str sru sgr sA ar cars gaps known left leaves pr cr we ha sw ss rws cmp sec fnd frl fgr chs chl p0 = (r, O) ∧ r = fiA (ftX oC oR nW cy ls kO cA clmK pcK d tr rws sw ss) p0 ∧ waC nW (ftX oC oR nW cy ls kO cA clmK pcK d tr rws sw ss) O.2.1 O.2.2.1 O.2.2.2.1 O.2.2.2.2.1 O.2.2.2.2.2.1 O.2.2.2.2.2.2.2.2.2.2.2.2.2.2.1 ∧ q23 oC oR nW nK cy ls kO cA clmK pcK O := by
  obtain ⟨O, e, w, hq⟩ := cw_x (facts := facts) (stack := stack) hP hS hB hR hC
  unfold F_X9_fits
  rw [st_1x hP.2.2.1.1, lf_b_e, if_neg (show ¬ (1 : Int) = 0 from by decide), ← e]
  obtain ⟨r1, r2, r3, r4, r5, r6, r7, r8, r9, r10, r11, r12, r13, r14, r15, r16, r17, r18, r19, r20, r21, r22, r23⟩ := O
  rw [lf_p_e, lf_p_e, lf_p_e, lf_p_e, lf_p_e, lf_p_e, lf_p_e, lf_p_e, lf_p_e, lf_p_e, lf_p_e, lf_p_e, lf_p_e, lf_p_e, lf_p_e, lf_p_e, lf_p_e, lf_p_e, lf_p_e, lf_p_e, lf_p_e, lf_p_e]
  obtain ⟨w1, w2, w3, w4⟩ := w
  unfold fiA
  by_cases c0 : p0 = 0
  · rw [if_pos c0]
    exact ⟨_, _, rfl, (w1.trans (if_pos c0).symm), ⟨w1, w2, w3, w4⟩, hq⟩
  rw [if_neg c0, if_neg c0]
  by_cases c1 : p0 = 1
  · rw [if_pos c1, if_pos c1]
    exact ⟨_, _, rfl, w2, ⟨w1, w2, w3, w4⟩, hq⟩
  rw [if_neg c1, if_neg c1]
  by_cases c2 : p0 = 2
  · rw [if_pos c2, if_pos c2]
    exact ⟨_, _, rfl, w3, ⟨w1, w2, w3, w4⟩, hq⟩
  rw [if_neg c2, if_neg c2]
  exact ⟨_, _, rfl, rfl, ⟨w1, w2, w3, w4⟩, hq⟩
theorem wd_cx (hP : plH nW nK cy ls oC oR kO cA clmK pcK comers code spans ar) (hS : sfH oC oR nW nK cy ls kO cA clmK pcK sd str sru sgr sA cars gaps known left leaves pr cr we ha) (hB : stB nK d ru gr tr) (hR : rwH nW rws sw ss rmM mrw) (hC : waH oC oR nW cy ls kO cA clmK pcK d tr rws sw ss cmp fnd frl fgr chs chl sec) : ∃ r, ∃ O : A23, F_X9_watched cy ls (nK : Int) clmK pcK (nW : Int) kO cA comers code spans d tr facts stack sd str sru sgr sA ar cars gaps known left leaves pr cr we ha sw ss rws cmp sec fnd frl fgr chs chl p0 = (r, O) ∧ r = wdA nW (ftX oC oR nW cy ls kO cA clmK pcK d tr rws sw ss) p0 ∧ waC nW (ftX oC oR nW cy ls kO cA clmK pcK d tr rws sw ss) O.2.1 O.2.2.1 O.2.2.2.1 O.2.2.2.2.1 O.2.2.2.2.2.1 O.2.2.2.2.2.2.2.2.2.2.2.2.2.2.1 ∧ q23 oC oR nW nK cy ls kO cA clmK pcK O := by
  obtain ⟨O, e, w, hq⟩ := cw_x (facts := facts) (stack := stack) hP hS hB hR hC
  unfold F_X9_watched
  rw [st_1x hP.2.2.1.1, lf_b_e, if_neg (show ¬ (1 : Int) = 0 from by decide), ← e]
  obtain ⟨r1, r2, r3, r4, r5, r6, r7, r8, r9, r10, r11, r12, r13, r14, r15, r16, r17, r18, r19, r20, r21, r22, r23⟩ := O
  rw [lf_p_e, lf_p_e, lf_p_e, lf_p_e, lf_p_e, lf_p_e, lf_p_e, lf_p_e, lf_p_e, lf_p_e, lf_p_e, lf_p_e, lf_p_e, lf_p_e, lf_p_e, lf_p_e, lf_p_e, lf_p_e, lf_p_e, lf_p_e, lf_p_e, lf_p_e]
  obtain ⟨w1, w2, w3, w4, w5, w6⟩ := w
  unfold wdA
  by_cases c0 : p0 = 0
  · rw [if_pos c0, if_pos c0]
    exact ⟨_, _, rfl, w5, ⟨w1, w2, w3, w4, w5, w6⟩, hq⟩
  rw [if_neg c0, if_neg c0]
  by_cases c1 : p0 = 1
  · rw [if_pos c1, if_pos c1]
    exact ⟨_, _, rfl, w6, ⟨w1, w2, w3, w4, w5, w6⟩, hq⟩
  rw [if_neg c1, if_neg c1]
  exact ⟨_, _, rfl, rfl, ⟨w1, w2, w3, w4, w5, w6⟩, hq⟩
end WT
