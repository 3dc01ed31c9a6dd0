/-! hold: the model's search -/
def bqS : Nat → Int → Int → Option Int
  | 0, _, _ => none
  | k + 1, a, x => if x = 0 then some a else bqS k (lf_o lf_iadd a (1 : Int)) (lf_o lf_iand x (x - (1 : Int)))
theorem bq_f : ∀ (k f : Nat) (a x r : Int), k ≤ f → bqS k a x = some r → F_X10_bits_4 f a x = r := by
  intro k
  induction k with
  | zero =>
    intro f a x r _ h
    have h2 : (none : Option Int) = some r := h
    cases h2
  | succ k ih =>
    intro f a x r hk h
    cases f with
    | zero => exact absurd hk (Nat.not_succ_le_zero k)
    | succ f =>
      have e : F_X10_bits_4 (f + 1) a x = F_X10_bits_4b (F_X10_bits_4 f) a x := rfl
      have h2 : (if x = 0 then some a else bqS k (lf_o lf_iadd a (1 : Int)) (lf_o lf_iand x (x - (1 : Int)))) = some r := h
      rw [e]
      unfold F_X10_bits_4b
      by_cases c : x = 0
      · rw [if_pos c]
        rw [if_pos c] at h2
        exact Option.some.inj h2
      · rw [if_neg c]
        rw [if_neg c] at h2
        exact ih f _ _ r (Nat.le_of_succ_le_succ hk) h2
def bqB : Bool := (List.range 4096).all (fun x => decide (bqS 13 0 (x : Int) = some (pcn (x : Int) 12)))
theorem bq_x {X : Int} (h : rg X) : F_X10_bits X = pcn X 12 := by
  obtain ⟨a, rfl, ha⟩ := rg_n h
  exact bq_f 13 4097 0 _ _ (by decide) (of_decide_eq_true (List.all_eq_true.mp (show bqB = true from by decide +kernel) a (List.mem_range.mpr ha)))
theorem cnf_sub {f g : Nat → Bool} : ∀ k, (∀ w, w < k → f w = true → g w = true) → cnf f k ≤ cnf g k
  | 0, _ => Int.le_refl _
  | k + 1, h => by
    have ih := cnf_sub k (fun w hw => h w (by omega))
    have hk := h k (Nat.lt_succ_self k)
    have z0 : b2 false = 0 := rfl
    have z1 : b2 true = 1 := rfl
    show cnf f k + b2 (f k) ≤ cnf g k + b2 (g k)
    cases hf : f k with
    | true =>
      rw [hk hf]
      omega
    | false =>
      cases hg : g k with
      | false => omega
      | true => omega
theorem cnf_eq {f g : Nat → Bool} : ∀ k, (∀ w, w < k → f w = true → g w = true) → cnf g k ≤ cnf f k → ∀ w, w < k → f w = g w
  | 0, _, _, w, hw => absurd hw (Nat.not_lt_zero w)
  | k + 1, h, hc, w, hw => by
    have s := cnf_sub k (fun w hw => h w (by omega))
    have hk := h k (Nat.lt_succ_self k)
    have z0 : b2 false = 0 := rfl
    have z1 : b2 true = 1 := rfl
    have hc2 : cnf g k + b2 (g k) ≤ cnf f k + b2 (f k) := hc
    have hfg : f k = g k := by
      cases hf : f k with
      | true => exact (hk hf).symm
      | false =>
        cases hg : g k with
        | false => rfl
        | true =>
          exfalso
          rw [hf, hg] at hc2
          omega
    by_cases q : w = k
    · rw [q]
      exact hfg
    · refine cnf_eq k (fun w hw => h w (by omega)) ?_ w (by omega)
      rw [hfg] at hc2
      omega
section HM
variable {nW nK : Nat} {oC oR oL : Option (List Int)} {s cy ls aw stm d ru gr hnx hct sd sru sgr sA ar pr cr we ha tkn ad aru agr akn rws cmp fnd frl fgr chs chl occ dwn fa pl sM awM isc und nwst rmM moc sdd tk ask red io lg gt icg sg qp ftm ftr ftg mf mp0 p0 p1 p2 p3 p4 : Int} {g clmK pcK kO cA comers code spans nmX tr rD rR rG facts stack str cars gaps known left leaves tab atr atd ats sw ss sec oct refu gM many bar kinds walkers cf ce codes now kept mrw mo refM asd isCar gapM isG isH crM wtM goM hmM prM ciM pile whn : Nat → Int} {rF : Nat → Nat → Int}
theorem ho_i {W X : Int} (hP : plH nW nK cy ls oC oR kO cA clmK pcK comers code spans ar) (hW : rg W) (hWb : ∀ w, w < 12 → bt W w = (decide (w < nW) && goW oC oR nW cy ls kO cA clmK pcK d tr ru gr w)) (hX : rg X) (hn : pcn X 12 ≤ pcn W 12) : cnf (fun w => decide (2 ≤ (wkM oC oR nW cy ls kO cA clmK pcK d tr ru gr 0 X 300).2.1 w)) nW = 0 ↔ X = W := by
  have hab : abf 0 = fun _ => false := funext (fun w => bt_0 w)
  have ez : wkM oC oR nW cy ls kO cA clmK pcK d tr ru gr 0 X 300 = wzS nW cA (fun w => pcK (kO w).toNat) (fun _ => false) (leS nW cy ls kO cA tr ru gr 0) (gpS oC d cy) (fun w s r => !bt X w && gR oC oR cy nW kO cA clmK pcK d tr w s r) 300 := by
    unfold wkM
    rw [hab]
    rfl
  rw [ez]
  constructor
  · intro h0
    have hnog : nog (wzS nW cA (fun w => pcK (kO w).toNat) (fun _ => false) (leS nW cy ls kO cA tr ru gr 0) (gpS oC d cy) (fun w s r => !bt X w && gR oC oR cy nW kO cA clmK pcK d tr w s r) 300) := by
      intro v hv
      by_cases q : v < nW
      · exact absurd hv (of_decide_eq_false ((cnf_0 nW).mp h0 v q))
      · have zI := (spI_S (nW := nW) (cA := cA) (pcw := fun w => pcK (kO w).toNat) (ab := fun _ => false) (lf := leS nW cy ls kO cA tr ru gr 0) (gp := gpS oC d cy) (G := fun w s r => !bt X w && gR oC oR cy nW kO cA clmK pcK d tr w s r) 300).1 v
        by_cases x : (wzS nW cA (fun w => pcK (kO w).toNat) (fun _ => false) (leS nW cy ls kO cA tr ru gr 0) (gpS oC d cy) (fun w s r => !bt X w && gR oC oR cy nW kO cA clmK pcK d tr w s r) 300).1 v = -1
        · have := zI.1.mp x
          omega
        · exact q (zI.2.2 x).1
    have hsub : ∀ w, w < 12 → bt W w = true → bt X w = true := by
      intro w hw hb
      rw [hWb w hw, Bool.and_eq_true] at hb
      have hw2 := of_decide_eq_true hb.1
      cases hx : bt X w with
      | true => rfl
      | false => exact absurd hnog (hn_S (Hd := bt X) (G := gR oC oR cy nW kO cA clmK pcK d tr) (pcw := fun w => pcK (kO w).toNat) hw2 hx (hP.2.2.2.1 w hw2).2.1 hb.2)
    have hs := cnf_eq 12 hsub (by
      rw [← pcn_c, ← pcn_c]
      exact hn)
    exact bt_ext hX hW (fun w hw => (hs w hw).symm)
  · intro e
    have hk : ∀ w, w < nW → bt X w = true ∨ goF (pcK (kO w).toNat) (leS nW cy ls kO cA tr ru gr 0) (fun t => gR oC oR cy nW kO cA clmK pcK d tr w t 0) 302 (cA w).toNat = false := by
      intro w hw
      have hb := hWb w (by have := hP.1; omega)
      rw [← e, decide_eq_true hw, Bool.true_and] at hb
      cases hg : goW oC oR nW cy ls kO cA clmK pcK d tr ru gr w with
      | true => exact Or.inl (hb.trans hg)
      | false => exact Or.inr hg
    have hS := (ho_S (Hd := bt X) (G := gR oC oR cy nW kO cA clmK pcK d tr) (pcw := fun w => pcK (kO w).toNat) (gp := gpS oC d cy) hk (fun w hw => (hP.2.2.2.1 w hw).2.1) 300 (Nat.le_refl _)).1
    exact (cnf_0 nW).mpr (fun w _ => decide_eq_false (hS w))
theorem hm_22 {W ans : Int} {T n : Nat} {a10 a13 : Nat → Int} {K15 : Int → Int → Int → (Nat → Int) → (Nat → Int) → (Nat → Int) → Int → Int → Int → Int → Int → Int → Int → (Nat → Int) → (Nat → Int) → (Nat → Int) → (Nat → Int) → (Nat → Int) → (Nat → Int) → (Nat → Int) → (Nat → Int) → Int × Int × Int × Int × Int × Int × Int × Int × Int × Int × (Nat → Int) × (Nat → Int) × (Nat → Int) × (Nat → Int) × (Nat → Int) × (Nat → Int) × (Nat → Int) × (Nat → Int) × (Nat → Int) × (Nat → Int) × (Nat → Int)} (hP : plH nW nK cy ls oC oR kO cA clmK pcK comers code spans ar) (h : mdH nW nK cy ls d oC oR oL kO cA clmK pcK many bar kinds walkers cf ce codes now a10 tr) (hB : stB nK d ru gr tr) (hn1 : now 1 = ru) (hn2 : now 2 = gr) (hW : rg W) (hWb : ∀ w, w < 12 → bt W w = (decide (w < nW) && goW oC oR nW cy ls kO cA clmK pcK d tr ru gr w)) (hT : T = 2 ^ nW) (hT2 : T ≤ 4096) (hWT : W < (T : Int)) (hn : (n : Int) ≤ pcn W 12) (hA : pcn W 12 = (n : Int) → ans = W) (hK : ¬ pcn W 12 = (n : Int) → ∀ (c55 c58 c117 c59 c70 c71 c72 c73 c74 : Int) (a3 a8 a11 a12 a15 a16 a17 a18 a19 : Nat → Int), (K15 c55 c58 c117 a3 a10 a13 ((n : Int) + (1 : Int)) c59 c70 c71 c72 c73 c74 a8 a11 a12 a15 a16 a17 a18 a19).1 = ans) : ∀ (f l : Nat) (c55 c58 c59 c70 c71 c72 c73 c74 c117 : Int) (a3 a8 a11 a12 a15 a16 a17 a18 a19 : Nat → Int), l ≤ T → T - l < f → (pcn W 12 = (n : Int) → (l : Int) ≤ W) → (F_X10_hold_22 many bar kinds walkers cf ce codes now a10 a13 (n : Int) K15 f (l : Int) c55 c58 c59 c70 c71 c72 c73 c74 c117 a3 a8 a11 a12 a15 a16 a17 a18 a19).1 = ans := by
  intro f
  induction f with
  | zero => intro l c55 c58 c59 c70 c71 c72 c73 c74 c117 a3 a8 a11 a12 a15 a16 a17 a18 a19 h1 h2; omega
  | succ f ih =>
    intro l c55 c58 c59 c70 c71 c72 c73 c74 c117 a3 a8 a11 a12 a15 a16 a17 a18 a19 h1 h2 hl
    show (F_X10_hold_22b many bar kinds walkers cf ce codes now a10 a13 (n : Int) K15 (F_X10_hold_22 many bar kinds walkers cf ce codes now a10 a13 (n : Int) K15 f) (l : Int) c55 c58 c59 c70 c71 c72 c73 c74 c117 a3 a8 a11 a12 a15 a16 a17 a18 a19).1 = ans
    have hW12 : nW ≤ 12 := h.2.1
    unfold F_X10_hold_22b F_X10_hold_71
    rw [lf_b_e, show many 3 = (nW : Int) from h.1.1, lo_shl1 (by omega), ← hT]
    by_cases q : l = T
    · rw [if_pos (by omega)]
      exact hK (fun r => by
        have := hl r
        omega) _ _ _ _ _ _ _ _ _ _ _ _ _ _ _ _ _ _
    · have rgl : rg (l : Int) := ⟨by omega, by omega⟩
      rw [if_neg (by omega), lf_b_e, bq_x rgl]
      by_cases q2 : pcn (l : Int) 12 = (n : Int)
      · obtain ⟨b1, b2', b3, b4, b5, b6, b7, b11, b16, e70, e71, e72, e73, e74, e55, e58, e59, e117, e, hF⟩ := day_x (tk := c55) (ask := c58) (sg := c74) (qp := c117) (isG := a19) (isH := a15) (cr := a16) (wt := a8) (go := a11) (hm := a12) (pr2 := a17) (ci := a18) (pile := a3) (A := 0) (H := (l : Int)) (ru := ru) (gr := gr) h rg_0 rgl hB.2.2.1.1 hB.2.2.1.2 hB.2.1
        have hc : F_X10_toldOfDay_a0_1 many b4 = cnf (fun w => decide (2 ≤ (wkM oC oR nW cy ls kO cA clmK pcK d tr ru gr 0 (l : Int) 300).2.1 w)) nW := by
          unfold F_X10_toldOfDay_a0_1 F_X10_walkerMany
          rw [lf_b_e, lf_b_e, show many 3 = (nW : Int) from h.1.1]
          exact ct_m hW12 (fun w hw => (hF.1 w hw).2.2.2.1)
        have key := ho_i (X := (l : Int)) hP hW hWb rgl (by omega)
        rw [if_pos q2, show now (Int.toNat (1 : Int)) = ru from hn1, show now (Int.toNat (2 : Int)) = gr from hn2, e, lf_p_e, lf_p_e, lf_p_e, lf_p_e, lf_p_e, lf_p_e, lf_p_e, lf_p_e, lf_p_e, lf_p_e, lf_p_e, lf_p_e, lf_p_e, lf_p_e, lf_p_e, lf_p_e, lf_p_e, lf_b_e, hc]
        by_cases q3 : cnf (fun w => decide (2 ≤ (wkM oC oR nW cy ls kO cA clmK pcK d tr ru gr 0 (l : Int) 300).2.1 w)) nW = 0
        · rw [if_pos q3]
          have e1 := key.mp q3
          exact e1.trans (hA (by rw [← e1]; exact q2)).symm
        · rw [if_neg q3]
          refine ih (l + 1) _ _ _ _ _ _ _ _ _ _ _ _ _ _ _ _ _ _ (by omega) (by omega) (fun r => ?_)
          have := hl r
          have hne : ¬ (l : Int) = W := fun y => q3 (key.mpr y)
          omega
      · rw [if_neg q2]
        refine ih (l + 1) _ _ _ _ _ _ _ _ _ _ _ _ _ _ _ _ _ _ (by omega) (by omega) (fun r => ?_)
        have := hl r
        have hne : ¬ (l : Int) = W := fun y => q2 (by rw [y]; exact r)
        omega
theorem hm_15 {W : Int} {T : Nat} {a10 a13 : Nat → Int} (hP : plH nW nK cy ls oC oR kO cA clmK pcK comers code spans ar) (h : mdH nW nK cy ls d oC oR oL kO cA clmK pcK many bar kinds walkers cf ce codes now a10 tr) (hB : stB nK d ru gr tr) (hn1 : now 1 = ru) (hn2 : now 2 = gr) (hW : rg W) (hWb : ∀ w, w < 12 → bt W w = (decide (w < nW) && goW oC oR nW cy ls kO cA clmK pcK d tr ru gr w)) (hT : T = 2 ^ nW) (hT2 : T ≤ 4096) (hWT : W < (T : Int)) : ∀ (f n : Nat) (c55 c58 c117 c59 c70 c71 c72 c73 c74 : Int) (a3 a8 a11 a12 a15 a16 a17 a18 a19 : Nat → Int), n ≤ 4 → 4 - n < f → (n : Int) ≤ pcn W 12 → (F_X10_hold_15 many bar kinds walkers cf ce codes now f c55 c58 c117 a3 a10 a13 (n : Int) c59 c70 c71 c72 c73 c74 a8 a11 a12 a15 a16 a17 a18 a19).1 = if 3 < pcn W 12 then -1 else W := by
  intro f
  induction f with
  | zero => intro n c55 c58 c117 c59 c70 c71 c72 c73 c74 a3 a8 a11 a12 a15 a16 a17 a18 a19 h1 h2; omega
  | succ f ih =>
    intro n c55 c58 c117 c59 c70 c71 c72 c73 c74 a3 a8 a11 a12 a15 a16 a17 a18 a19 h1 h2 hn
    show (F_X10_hold_15b many bar kinds walkers cf ce codes now (F_X10_hold_15 many bar kinds walkers cf ce codes now f) c55 c58 c117 a3 a10 a13 (n : Int) c59 c70 c71 c72 c73 c74 a8 a11 a12 a15 a16 a17 a18 a19).1 = _
    unfold F_X10_hold_15b
    by_cases q : n = 4
    · rw [if_pos (by omega), if_pos (by omega)]
    · rw [if_neg (show ¬ (3 : Int) < (n : Int) from by omega)]
      exact hm_22 (T := T) hP h hB hn1 hn2 hW hWb hT hT2 hWT hn (fun r => if_neg (by omega)) (fun r c55 c58 c117 c59 c70 c71 c72 c73 c74 a3 a8 a11 a12 a15 a16 a17 a18 a19 => ih (n + 1) _ _ _ _ _ _ _ _ _ _ _ _ _ _ _ _ _ _ (by omega) (by omega) (by omega)) 4098 0 _ _ _ _ _ _ _ _ _ _ _ _ _ _ _ _ _ _ (Nat.zero_le _) (by omega) (fun _ => hW.1)
theorem ho_m {W : Int} (hP : plH nW nK cy ls oC oR kO cA clmK pcK comers code spans ar) (hM : pmH nW nK cy ls oC oR oL kO cA clmK pcK many bar kinds walkers cf ce codes) (hB : stB nK d ru gr tr) (hN : ndH nK d ru gr tr now) (hi : isc = 1) (hW : rg W) (hWb : ∀ w, w < 12 → bt W w = (decide (w < nW) && goW oC oR nW cy ls kO cA clmK pcK d tr ru gr w)) : (F_X10_hold isc tk ask red io lg gt icg sg qp many bar kinds walkers cf ce codes now isCar gapM isG isH crM wtM goM hmM prM ciM pile).1 = if 3 < pcn W 12 then -1 else W := by
  have hT2 : 2 ^ nW ≤ 4096 := Nat.le_trans (Nat.pow_le_pow_right (by decide) hP.1) (by decide : 2 ^ 12 ≤ 4096)
  have hWT : W < ((2 ^ nW : Nat) : Int) := by
    obtain ⟨a, rfl, ha⟩ := rg_n hW
    refine Int.ofNat_lt.mpr (Nat.lt_pow_two_of_testBit a (fun i hi2 => ?_))
    by_cases q : i < 12
    · have hb := hWb i q
      rw [decide_eq_false (by omega), Bool.false_and] at hb
      exact hb
    · exact bt_hi hW (by omega)
  have h0 : (0 : Int) ≤ pcn W 12 := by
    rw [pcn_c]
    exact (cnf_le _ 12).1
  obtain ⟨t, q, r, p, g2, i, e1, e2, e3⟩ := mc_x (tk := tk) (ask := ask) (red := red) (qp := qp) (kinds := kinds) (walkers := walkers) (isCar := isCar) (gaps := gapM) (waits := wtM) (goes := goM) (harms := hmM) (pile := pile) hB.1 (by have := hP.2.2.1; omega) hP.2.2.1.2 hM.2.2.1 hN.1 hM.2.2.2.2.2.2.1 hP.2.2.2.2.2.2.1.2
  unfold F_X10_hold
  rw [if_neg (by omega), e1, lf_p_e, lf_p_e, lf_p_e, lf_p_e, lf_p_e]
  exact hm_15 (T := 2 ^ nW) hP (md_of hP hM hB.1 hN e3) hB hN.2.1 hN.2.2.1 hW hWb rfl hT2 hWT 6 0 _ _ _ _ _ _ _ _ _ _ _ _ _ _ _ _ _ _ (by decide) (by decide) h0
theorem ho_t (hP : plH nW nK cy ls oC oR kO cA clmK pcK comers code spans ar) (hM : pmH nW nK cy ls oC oR oL kO cA clmK pcK many bar kinds walkers cf ce codes) (hS : sfH oC oR nW nK cy ls kO cA clmK pcK sd str sru sgr sA cars gaps known left leaves pr cr we ha) (hB : stB nK d ru gr tr) (hN : ndH nK d ru gr tr now) (hi : isc = 1) : (F_X9_hold cy ls (nK : Int) clmK pcK (nW : Int) kO cA comers code spans d ru gr tr facts stack sd str sru sgr sA ar cars gaps known left leaves pr cr we ha).1 = (F_X10_hold isc tk ask red io lg gt icg sg qp many bar kinds walkers cf ce codes now isCar gapM isG isH crM wtM goM hmM prM ciM pile).1 ∧ sfS oC oR nW nK cy ls kO cA clmK pcK (F_X9_hold cy ls (nK : Int) clmK pcK (nW : Int) kO cA comers code spans d ru gr tr facts stack sd str sru sgr sA ar cars gaps known left leaves pr cr we ha).2 := by
  obtain ⟨⟨b, r1, r2, r3⟩, r4⟩ := hd_c (facts := facts) (stack := stack) hP hS hB
  refine ⟨?_, r4⟩
  rw [r3, bc_x r1]
  exact (ho_m hP hM hB hN hi r1 r2).symm
end HM
