/-! DAYS that are lived one behind the other -/
noncomputable def lvT (oC oR oL : Option (List Int)) (nW : Nat) (cy ls : Int) (kO cA clmK pcK : Nat → Int) (d ru gr : Int) (a : Nat → Int) (tr : Nat → Int) : Nat → Nat → Int
  | 0 => tr
  | k + 1 => lnS oL (d + (k : Int)) cA clmK pcK kO (wt0 cA (abf (a k)) (weS oC oR nW cy ls kO cA clmK pcK (d + (k : Int)) (lvT oC oR oL nW cy ls kO cA clmK pcK d ru gr a tr k) ru gr (a k))) (abf (a k)) (lvT oC oR oL nW cy ls kO cA clmK pcK d ru gr a tr k) nW
noncomputable def lvD (oC oR oL : Option (List Int)) (nW : Nat) (cy ls : Int) (kO cA clmK pcK : Nat → Int) (d ru gr : Int) (a : Nat → Int) (tr : Nat → Int) (k : Nat) (what : Int) : Int := tdS nW cA (twf nW kO (lvT oC oR oL nW cy ls kO cA clmK pcK d ru gr a tr k)) (abf (a k)) cy ls ru gr (weS oC oR nW cy ls kO cA clmK pcK (d + (k : Int)) (lvT oC oR oL nW cy ls kO cA clmK pcK d ru gr a tr k) ru gr (a k)) what
noncomputable def lvW (oC oR oL : Option (List Int)) (nW : Nat) (cy ls : Int) (kO cA clmK pcK : Nat → Int) (d ru gr : Int) (a : Nat → Int) (tr : Nat → Int) : Nat → Int
  | 0 => 0
  | k + 1 => lvW oC oR oL nW cy ls kO cA clmK pcK d ru gr a tr k + lvD oC oR oL nW cy ls kO cA clmK pcK d ru gr a tr k 0
theorem lvW_s {oC oR oL : Option (List Int)} {nW : Nat} {cy ls : Int} {kO cA clmK pcK : Nat → Int} {d ru gr : Int} {a tr : Nat → Int} {k : Nat} : lvW oC oR oL nW cy ls kO cA clmK pcK d ru gr a tr (k + 1) = lvW oC oR oL nW cy ls kO cA clmK pcK d ru gr a tr k + lvD oC oR oL nW cy ls kO cA clmK pcK d ru gr a tr k 0 := rfl
section DL
variable {nW nK : Nat} {cy ls d ru gr ar : Int} {oC oR oL : Option (List Int)} {kO cA clmK pcK comers code spans many bar kinds walkers cf ce codes now tr : Nat → Int} {a : Nat → Int}
theorem lvT_b (hP : plH nW nK cy ls oC oR kO cA clmK pcK comers code spans ar) (hd : 0 ≤ d) (ht : ∀ k, k < nK → 0 ≤ tr k ∧ tr k ≤ 9) : ∀ n : Nat, d + (n : Int) ≤ 1000 → ∀ k, k < nK → 0 ≤ lvT oC oR oL nW cy ls kO cA clmK pcK d ru gr a tr n k ∧ lvT oC oR oL nW cy ls kO cA clmK pcK d ru gr a tr n k ≤ 9
  | 0, _ => ht
  | n + 1, h => lnS_b (ln_B hP (by omega) (lvT_b hP hd ht n (by omega))) nW
theorem lvD_b (hP : plH nW nK cy ls oC oR kO cA clmK pcK comers code spans ar) (n : Nat) : 0 ≤ lvD oC oR oL nW cy ls kO cA clmK pcK d ru gr a tr n 0 ∧ lvD oC oR oL nW cy ls kO cA clmK pcK d ru gr a tr n 0 ≤ 3600 := by
  have h := snm_b nW (wt0_b (ab := abf (a n)) (we_z (d := d + (n : Int)) (tr := lvT oC oR oL nW cy ls kO cA clmK pcK d ru gr a tr n) (ru := ru) (gr := gr) (A := a n) hP))
  have hn := hP.1
  show 0 ≤ snm _ nW ∧ snm _ nW ≤ 3600
  exact ⟨h.1, by omega⟩
theorem lvW_b (hP : plH nW nK cy ls oC oR kO cA clmK pcK comers code spans ar) : ∀ n : Nat, 0 ≤ lvW oC oR oL nW cy ls kO cA clmK pcK d ru gr a tr n ∧ lvW oC oR oL nW cy ls kO cA clmK pcK d ru gr a tr n ≤ 3600 * (n : Int)
  | 0 => ⟨Int.le_refl _, by show (0 : Int) ≤ 3600 * ((0 : Nat) : Int); omega⟩
  | n + 1 => by
    have ih := lvW_b hP n
    have hb := lvD_b (oL := oL) (cy := cy) (ls := ls) (d := d) (ru := ru) (gr := gr) (a := a) (tr := tr) hP n
    rw [lvW_s]
    omega
/-- days: the model's loop -/
theorem dm_run {refu : Nat → Int} {n : Nat} (hP : plH nW nK cy ls oC oR kO cA clmK pcK comers code spans ar) (hM : pmH nW nK cy ls oC oR oL kO cA clmK pcK many bar kinds walkers cf ce codes) (hG : cdG false 123 oL) (hB : stB nK d ru gr tr) (hn : n ≤ 30) (hdn : d + (n : Int) ≤ 999) : ∀ (f k : Nat) (c82 c83 c55 c58 c59 c70 c71 c72 c73 c74 c117 : Int) (a1 a2 a6 a10 a12 a13 a14 a15 a16 a17 a18 a19 a21 : Nat → Int), k ≤ n → n - k < f → ndH nK (d + (k : Int)) ru gr (lvT oC oR oL nW cy ls kO cA clmK pcK d ru gr (fun _ => 0) tr k) a1 → (∃ O, O = F_X10_days_25 refu many bar kinds walkers cf ce codes (n : Int) f c82 c83 a2 (lvW oC oR oL nW cy ls kO cA clmK pcK d ru gr (fun _ => 0) tr k) (k : Int) c55 c58 c59 c70 c71 c72 c73 c74 c117 a1 a6 a10 a12 a13 a14 a15 a16 a17 a18 a19 a21 ∧ O.1 = lvW oC oR oL nW cy ls kO cA clmK pcK d ru gr (fun _ => 0) tr n ∧ O.2.2.2.2.2.2.2.2.2.1 = c82 ∧ O.2.2.2.2.2.2.2.2.2.2.1 = c83 ∧ ndH nK (d + (n : Int)) ru gr (lvT oC oR oL nW cy ls kO cA clmK pcK d ru gr (fun _ => 0) tr n) O.2.2.2.2.2.2.2.2.2.2.2.2.1 ∧ O.2.2.2.2.2.2.2.2.2.2.2.2.2.1 = a2 ∧ O.2.2.2.2.2.2.2.2.2.2.2.2.2.2.1 = refu) := by
  intro f
  induction f with
  | zero => intro k c82 c83 c55 c58 c59 c70 c71 c72 c73 c74 c117 a1 a2 a6 a10 a12 a13 a14 a15 a16 a17 a18 a19 a21 h1 h2; omega
  | succ f ih =>
    intro k c82 c83 c55 c58 c59 c70 c71 c72 c73 c74 c117 a1 a2 a6 a10 a12 a13 a14 a15 a16 a17 a18 a19 a21 h1 h2 h3
    have e0 : F_X10_days_25 refu many bar kinds walkers cf ce codes (n : Int) (f + 1) c82 c83 a2 (lvW oC oR oL nW cy ls kO cA clmK pcK d ru gr (fun _ => 0) tr k) (k : Int) c55 c58 c59 c70 c71 c72 c73 c74 c117 a1 a6 a10 a12 a13 a14 a15 a16 a17 a18 a19 a21 = F_X10_days_25b refu many bar kinds walkers cf ce codes (n : Int) (F_X10_days_25 refu many bar kinds walkers cf ce codes (n : Int) f) c82 c83 a2 (lvW oC oR oL nW cy ls kO cA clmK pcK d ru gr (fun _ => 0) tr k) (k : Int) c55 c58 c59 c70 c71 c72 c73 c74 c117 a1 a6 a10 a12 a13 a14 a15 a16 a17 a18 a19 a21 := rfl
    rw [e0]
    unfold F_X10_days_25b
    by_cases q : k = n
    · rw [if_pos (by omega)]
      subst q
      exact ⟨_, rfl, rfl, rfl, rfl, h3, rfl, rfl⟩
    · have hTb := lvT_b (oL := oL) (cy := cy) (ls := ls) (ru := ru) (gr := gr) (a := fun _ => 0) (tr := tr) hP hB.1.1 hB.2.2.2 k (by omega)
      have hBk : stB nK (d + (k : Int)) ru gr (lvT oC oR oL nW cy ls kO cA clmK pcK d ru gr (fun _ => 0) tr k) := ⟨⟨by have := hB.1.1; omega, by omega⟩, hB.2.1, hB.2.2.1, hTb⟩
      obtain ⟨v43, v17, v18, v19, v20, v21, v22, v23, v44, f46, now2, f27, f7, f28, f29, f8, f25, f26, f30, f31, f32, e, hN⟩ := lv_m (tk := c55) (ask := c58) (red := c59) (sg := c74) (qp := c117) (isCar := a15) (gaps := a12) (isG := a21) (isH := a16) (cr := a17) (wt := a10) (go := a13) (hm := a14) (pr2 := a18) (ci := a19) (pile := a6) (A := 0) hP hM hG hBk h3 rg_0
      have hw := lvW_b (oL := oL) (cy := cy) (ls := ls) (d := d) (ru := ru) (gr := gr) (a := fun _ => 0) (tr := tr) hP k
      have hd0 := lvD_b (oL := oL) (cy := cy) (ls := ls) (d := d) (ru := ru) (gr := gr) (a := fun _ => 0) (tr := tr) hP k
      unfold lvD at hd0
      dsimp only at hd0
      rw [if_neg (by omega), e, lf_p_e, lf_p_e, lf_p_e, lf_p_e, lf_p_e, lf_p_e, lf_p_e, lf_p_e, lf_p_e, lf_p_e, lf_p_e, lf_p_e, lf_p_e, lf_p_e, lf_p_e, lf_p_e, lf_p_e, lf_p_e, lf_p_e, lf_p_e, lf_p_e, lo_add (by omega) (by omega) (by omega) (by omega) (by omega) (by omega)]
      have hN' : ndH nK (d + ((k + 1 : Nat) : Int)) ru gr (lvT oC oR oL nW cy ls kO cA clmK pcK d ru gr (fun _ => 0) tr (k + 1)) now2 := by
        rw [show d + ((k + 1 : Nat) : Int) = d + (k : Int) + 1 from by omega]
        exact hN
      exact ih (k + 1) c82 c83 v43 v17 v18 v19 v20 v21 v22 v23 v44 now2 a2 f46 f27 f7 f28 f29 f8 f25 f26 f30 f31 f32 (by omega) (by omega) hN'
/-- days: the class's loop -/
theorem dc_run {refu : Nat → Int} {n : Nat} (hP : plH nW nK cy ls oC oR kO cA clmK pcK comers code spans ar) (hL : cdX code spans 4 oL ∧ cdG false 123 oL) (hB : stB nK d ru gr tr) (hn : n ≤ 30) (hdn : d + (n : Int) ≤ 999) : ∀ (f k : Nat) (c1 c2 sd ru1 gr1 A1 pr cr we ha : Int) (rD rR rG : Nat → Int) (rF : Nat → Nat → Int) (a6 facts stack cars gaps str known left leaves : Nat → Int), k ≤ n → n - k < f → (∀ j, j < nK → a6 j = lvT oC oR oL nW cy ls kO cA clmK pcK d ru gr (fun _ => 0) tr k j) → sfH oC oR nW nK cy ls kO cA clmK pcK sd str ru1 gr1 A1 cars gaps known left leaves pr cr we ha → (∃ O, O = F_X9_days_22 cy ls (nK : Int) clmK pcK (nW : Int) kO cA comers code spans ru gr ar refu (n : Int) f c1 c2 rD rR rG rF (lvW oC oR oL nW cy ls kO cA clmK pcK d ru gr (fun _ => 0) tr k) (k : Int) (d + (k : Int)) sd ru1 gr1 A1 pr cr we ha a6 facts stack cars gaps str known left leaves ∧ O.1 = lvW oC oR oL nW cy ls kO cA clmK pcK d ru gr (fun _ => 0) tr n ∧ O.2.1 = d + (n : Int) ∧ O.2.2.1 = c1 ∧ O.2.2.2.1 = c2 ∧ (∀ j, j < nK → O.2.2.2.2.1 j = lvT oC oR oL nW cy ls kO cA clmK pcK d ru gr (fun _ => 0) tr n j) ∧ O.2.2.2.2.2.1 = 0 ∧ O.2.2.2.2.2.2.1 = 0 ∧ O.2.2.2.2.2.2.2.1 = 0 ∧ O.2.2.2.2.2.2.2.2.1 = refu ∧ sfH oC oR nW nK cy ls kO cA clmK pcK O.2.2.2.2.2.2.2.2.2.1 O.2.2.2.2.2.2.2.2.2.2.2.2.2.2.2.2.2.2.2.2.2.1 O.2.2.2.2.2.2.2.2.2.2.1 O.2.2.2.2.2.2.2.2.2.2.2.1 O.2.2.2.2.2.2.2.2.2.2.2.2.1 O.2.2.2.2.2.2.2.2.2.2.2.2.2.2.2.2.2.2.2.1 O.2.2.2.2.2.2.2.2.2.2.2.2.2.2.2.2.2.2.2.2.1 O.2.2.2.2.2.2.2.2.2.2.2.2.2.2.2.2.2.2.2.2.2.2.1 O.2.2.2.2.2.2.2.2.2.2.2.2.2.2.2.2.2.2.2.2.2.2.2.1 O.2.2.2.2.2.2.2.2.2.2.2.2.2.2.2.2.2.2.2.2.2.2.2.2.1 O.2.2.2.2.2.2.2.2.2.2.2.2.2.1 O.2.2.2.2.2.2.2.2.2.2.2.2.2.2.1 O.2.2.2.2.2.2.2.2.2.2.2.2.2.2.2.1 O.2.2.2.2.2.2.2.2.2.2.2.2.2.2.2.2.1 ∧ O.2.2.2.2.2.2.2.2.2.2.2.2.2.2.2.2.2.2.2.2.2.2.2.2.2.1 = rD ∧ O.2.2.2.2.2.2.2.2.2.2.2.2.2.2.2.2.2.2.2.2.2.2.2.2.2.2.1 = rR ∧ O.2.2.2.2.2.2.2.2.2.2.2.2.2.2.2.2.2.2.2.2.2.2.2.2.2.2.2.1 = rG ∧ O.2.2.2.2.2.2.2.2.2.2.2.2.2.2.2.2.2.2.2.2.2.2.2.2.2.2.2.2 = rF) := by
  intro f
  induction f with
  | zero => intro k c1 c2 sd ru1 gr1 A1 pr cr we ha rD rR rG rF a6 facts stack cars gaps str known left leaves h1 h2; omega
  | succ f ih =>
    intro k c1 c2 sd ru1 gr1 A1 pr cr we ha rD rR rG rF a6 facts stack cars gaps str known left leaves h1 h2 h3 h4
    have e0 : F_X9_days_22 cy ls (nK : Int) clmK pcK (nW : Int) kO cA comers code spans ru gr ar refu (n : Int) (f + 1) c1 c2 rD rR rG rF (lvW oC oR oL nW cy ls kO cA clmK pcK d ru gr (fun _ => 0) tr k) (k : Int) (d + (k : Int)) sd ru1 gr1 A1 pr cr we ha a6 facts stack cars gaps str known left leaves = F_X9_days_22b cy ls (nK : Int) clmK pcK (nW : Int) kO cA comers code spans ru gr ar refu (n : Int) (F_X9_days_22 cy ls (nK : Int) clmK pcK (nW : Int) kO cA comers code spans ru gr ar refu (n : Int) f) c1 c2 rD rR rG rF (lvW oC oR oL nW cy ls kO cA clmK pcK d ru gr (fun _ => 0) tr k) (k : Int) (d + (k : Int)) sd ru1 gr1 A1 pr cr we ha a6 facts stack cars gaps str known left leaves := rfl
    rw [e0]
    unfold F_X9_days_22b
    by_cases q : k = n
    · rw [if_pos (by omega)]
      subst q
      exact ⟨_, rfl, rfl, rfl, rfl, rfl, h3, rfl, rfl, rfl, rfl, h4, rfl, rfl, rfl, rfl⟩
    · have hTb := lvT_b (oL := oL) (cy := cy) (ls := ls) (ru := ru) (gr := gr) (a := fun _ => 0) (tr := tr) hP hB.1.1 hB.2.2.2 k (by omega)
      have hBk : stB nK (d + (k : Int)) ru gr (lvT oC oR oL nW cy ls kO cA clmK pcK d ru gr (fun _ => 0) tr k) := ⟨⟨by have := hB.1.1; omega, by omega⟩, hB.2.1, hB.2.2.1, hTb⟩
      obtain ⟨f2, s2, c2', g2, t2, k2, l2, v2, pr2, cr2, we2, ha2, t3, f3, s3, e, x1, x2, x3, x4, x5⟩ := lv_c (facts := facts) (stack := stack) (A := 0) hP hL h4 hBk h3 rg_0
      have hw := lvW_b (oL := oL) (cy := cy) (ls := ls) (d := d) (ru := ru) (gr := gr) (a := fun _ => 0) (tr := tr) hP k
      have hd0 := lvD_b (oL := oL) (cy := cy) (ls := ls) (d := d) (ru := ru) (gr := gr) (a := fun _ => 0) (tr := tr) hP k
      unfold lvD at hd0
      dsimp only at hd0
      unfold F_X9_layToday
      rw [if_neg (by omega), e, lf_p_e, lf_p_e, lf_p_e, lf_p_e, lf_p_e, lf_p_e, lf_p_e, lf_p_e, lf_p_e, lf_p_e, lf_p_e, lf_p_e, lf_p_e, lf_p_e, lf_p_e, lf_p_e, lf_p_e, lf_p_e, lf_p_e, lf_p_e, lf_p_e, lf_p_e, lf_p_e, lf_p_e, lf_p_e, lf_p_e, lf_p_e, lf_p_e, lf_p_e, lf_p_e, lf_b_e, tc_0 hP x3 rg_0, x4, lf_p_e, lf_p_e, lf_p_e, lo_add (by omega) (by omega) (by omega) (by omega) (by omega) (by omega)]
      have e5 : d + (k : Int) + 1 = d + ((k + 1 : Nat) : Int) := by omega
      rw [e5]
      exact ih (k + 1) c1 c2 (d + (k : Int)) ru gr 0 pr2 cr2 we2 ha2 rD rR rG rF t3 f3 s3 c2' g2 t2 k2 l2 v2 (by omega) (by omega) x5 x1
end DL
