/-! the model: a second, a DAY -/
section DA
variable {nW nK : Nat} {cy ls d : Int} {oC oR oL : Option (List Int)} {kO cA clmK pcK many bar kinds walkers cf ce codes now gaps tr : Nat → Int} {ab : Nat → Bool} {lf : Nat → Int} {H : Int}
/-- the TEST of red in the model's DAY: held ones never go -/
noncomputable def gM2 (oC oR : Option (List Int)) (cy : Int) (nW : Nat) (kO cA clmK pcK : Nat → Int) (d : Int) (tr : Nat → Int) (H : Int) : Nat → Nat → Int → Bool := gHd H (gR oC oR cy nW kO cA clmK pcK d tr)
abbrev R11 : Type := Int × Int × Int × Int × (Nat → Int) × (Nat → Int) × (Nat → Int) × (Nat → Int) × (Nat → Int) × (Nat → Int) × (Nat → Int)
theorem ac_43 {tk red qp : Int} {here1 cr wt go hm ci pile : Nat → Int} {w s : Nat} (h : mdH nW nK cy ls d oC oR oL kO cA clmK pcK many bar kinds walkers cf ce codes now gaps tr) (hH : rg H) (hw : w < nW) (hs : s < 300) (hr : 0 ≤ red ∧ red ≤ 1000) (hwt : wt w = (s : Int) - cA w) : ∃ t q p, F_X10_acts_43 tk red qp bar kinds walkers cf ce codes now gaps here1 cr wt go hm ci pile (w : Int) (s : Int) H = (if gM2 oC oR cy nW kO cA clmK pcK d tr H w s red = true then (t, (s : Int), red + 1, q, lf_up cr (w : Int) (s : Int), lf_up here1 (w : Int) (0 : Int), ci, p, wt, lf_up go (w : Int) (1 : Int), lf_up hm (w : Int) (b2 (decide (gpS oC d cy s < pcK (kO w).toNat)))) else (t, (s : Int), red, q, cr, here1, ci, p, lf_up wt (w : Int) (wt w + 1), go, hm)) := by
  have hn : nW ≤ 12 := h.2.1
  have hd : 0 ≤ d ∧ d ≤ 999 := h.2.2.2.2.2.2.2.2.1
  have hcG : cdG true 507 oR := h.2.2.2.2.2.2.2.1
  have hcM : cdM cf ce codes 4 oR := h.1.2.2.2.2.2.2.2.1
  have hc0 := (h.2.2.2.2.1 w hw).2
  have hk := md_kind h hw
  have hbit := bt_bit (X := H) (w := w) hH.1 (by have := hH.2; omega) (by omega)
  have e78 : ∀ (t q : Int) (p : Nat → Int), F_X10_acts_78 red here1 cr wt go hm ci (w : Int) (s : Int) t q p = (t, (s : Int), red, q, cr, here1, ci, p, lf_up wt (w : Int) (wt w + 1), go, hm) := by
    intro t q p
    unfold F_X10_acts_78
    rw [Int.toNat_natCast, lo_add (by omega) (by omega) (by omega) (by omega) (by omega) (by omega)]
  have hg : gM2 oC oR cy nW kO cA clmK pcK d tr H w s red = (!bt H w && gR oC oR cy nW kO cA clmK pcK d tr w s red) := rfl
  unfold F_X10_acts_43
  rw [hbit, hg]
  cases hb : bt H w with
  | true =>
    rw [if_pos (show b2 true = 1 from rfl), e78, Bool.not_true, Bool.false_and]
    exact ⟨_, _, _, (if_neg (fun r => Bool.noConfusion r)).symm⟩
  | false =>
    rw [if_neg (show ¬ b2 false = 1 from by decide), Bool.not_false, Bool.true_and]
    have hρ := rho_b (al := 507) (d := d) (gp := gpS oC d cy) (s := s) (r := red) (md_wk h) hw (by omega) hd gp_b (by omega)
    cases oR with
    | none =>
      have hcM' : cf 4 = -1 := hcM
      have e0 : gR oC none cy nW kO cA clmK pcK d tr w s red = false := by
        unfold gR gvS
        exact decide_eq_false (show ¬ (0 : Int) = 1 from by decide)
      rw [if_pos hcM', e78, e0]
      exact ⟨_, _, _, (if_neg (fun r => Bool.noConfusion r)).symm⟩
    | some L =>
      obtain ⟨i, i1, i2, i3, i4⟩ := hcM
      have hv := (vlu_s (κ := 0) hcG hρ).2
      have e := vm_val1 (ask := (s : Int)) (red := red) (bar := bar) (kd := kinds) (wk := walkers) (nw := now) (gp := gaps) (wt := wt) (go := go) (hm := hm) (p1 := (w : Int)) (pile := pile) (fun j h0 h1 ha => md_part h hw hs hwt j h0 h1 ha) (show ¬ (507 : Int) = 3707 from by decide) i1 i4 i2.symm i3 hv
      rw [if_neg (by omega)]
      generalize F_X10_codesTell_a0_1 (s : Int) red bar kinds walkers cf ce codes now gaps wt go hm pile (w : Int) = R at e ⊢
      obtain ⟨v, c, p⟩ := R
      have e' : v = vlO true 507 (some L) (rhoR d cA (fun w => clmK (kO w).toNat) (fun w => pcK (kO w).toNat) (twf nW kO tr) (gpS oC d cy) w s red) 0 := e
      have eg : gR oC (some L) cy nW kO cA clmK pcK d tr w s red = decide (v = 1) := by
        rw [e']
        rfl
      rw [lf_p_e, lf_p_e, eg]
      by_cases y : v = 1
      · rw [if_pos (cmp_eq.mpr y), lf_b_e, decide_eq_true y]
        have hh : F_X10_isHarmed kinds walkers gaps (w : Int) (s : Int) = b2 (decide (gpS oC d cy s < pcK (kO w).toNat)) := by
          unfold F_X10_isHarmed
          rw [lf_b_e, hk.2.2.1, Int.toNat_natCast, h.2.2.2.2.2.2.2.2.2.2.2 s hs]
          by_cases x : gpS oC d cy s < pcK (kO w).toNat
          · rw [if_neg (by omega), decide_eq_true x]
            rfl
          · rw [if_pos (by omega), decide_eq_false x]
            rfl
        rw [hh, lo_add (by omega) (by omega) (by omega) (by omega) (by omega) (by omega)]
        exact ⟨_, _, _, (if_pos rfl).symm⟩
      · rw [if_neg (fun r => y (cmp_eq.mp r)), e78, decide_eq_false y]
        exact ⟨_, _, _, (if_neg (fun r => Bool.noConfusion r)).symm⟩
theorem da_step {K92 : (Nat → Int) → (Nat → Int) → (Nat → Int) → (Nat → Int) → (Nat → Int) → (Nat → Int) → Int → Int → Int → Int → Int → Int → (Nat → Int) → (Nat → Int) → Int → Int → Int → Int → (Nat → Int) → Int × Int × Int × Int × Int × Int × Int × Int × Int × (Nat → Int) × (Nat → Int) × (Nat → Int) × (Nat → Int) × (Nat → Int) × (Nat → Int) × (Nat → Int) × (Nat → Int) × (Nat → Int)} {K133 : Int → Int → Int → Int → Int → (Nat → Int) → (Nat → Int) → (Nat → Int) → (Nat → Int) → Int → Int → Int → Int → Int → (Nat → Int) → (Nat → Int) → (Nat → Int) → (Nat → Int) → (Nat → Int) → Int × Int × Int × Int × Int × Int × Int × Int × Int × (Nat → Int) × (Nat → Int) × (Nat → Int) × (Nat → Int) × (Nat → Int) × (Nat → Int) × (Nat → Int) × (Nat → Int) × (Nat → Int)} {c70 c71 c72 c73 c74 c55 c58 c117 : Int} {a1 a2 a3 a4 a5 a6 a7 a11 a16 : Nat → Int} {w s : Nat} {z : wzT} (h : mdH nW nK cy ls d oC oR oL kO cA clmK pcK many bar kinds walkers cf ce codes now gaps tr) (hH : rg H) (hw : w < nW) (hs : s < 300) (hI : spI nW cA ab (s + 1) z) (hR : mrS nW cA ab s w z a1 a2 a3 a4 a5 a7) (h11 : a11 s = b2 (decide (0 < lf s))) (h74 : 0 < lf s → c74 = lf s) : ∃ a1' a2' a3' a4' a5' a7' a16' c55' c58' c117', F_X10_dayBy_133b many bar kinds walkers cf ce codes now gaps H (s : Int) K92 K133 c70 c71 c72 c73 c74 a1 a6 a7 a11 (w : Int) c55 c58 z.2.2 c117 a2 a3 a4 a5 a16 = K133 c70 c71 c72 c73 c74 a1' a6 a7' a11 ((w : Int) + (1 : Int)) c55' c58' (wstep cA (fun w => pcK (kO w).toNat) ab lf (gpS oC d cy) (gM2 oC oR cy nW kO cA clmK pcK d tr H) s w z).2.2 c117' a2' a3' a4' a5' a16' ∧ mrS nW cA ab s (w + 1) (wstep cA (fun w => pcK (kO w).toNat) ab lf (gpS oC d cy) (gM2 oC oR cy nW kO cA clmK pcK d tr H) s w z) a1' a2' a3' a4' a5' a7' := by
  have hn : nW ≤ 12 := h.2.1
  have hm : many 3 = (nW : Int) := h.1.1
  have hk := md_kind h hw
  have hpc := (md_wk h w hw).2.2.1
  obtain ⟨r1, r2, r3, r4, r5⟩ := hR.1 w hw
  unfold F_X10_dayBy_133b
  rw [lf_b_e, hm, if_neg (by omega), Int.toNat_natCast, r1]
  unfold wstep
  cases hh : here cA ab s w z with
  | false =>
    rw [if_pos (show b2 false = 0 from rfl), if_neg (fun r => Bool.noConfusion r)]
    unfold F_X10_dayBy_162
    refine ⟨_, _, _, _, _, _, _, _, _, _, rfl, MR_no hR (fun u hu => ?_)⟩
    rw [if_neg (fun r => Bool.noConfusion (hh.symm.trans r.2))]
  | true =>
    obtain ⟨r, hr, hr11, h0⟩ := reds_n hI hn hw hh
    have hwt : a3 w = (s : Int) - cA w := by
      have hh2 := hh
      unfold here at hh2
      rw [Bool.and_eq_true, Bool.and_eq_true] at hh2
      have x1 := of_decide_eq_true hh2.1.1
      have x3 := of_decide_eq_true hh2.2
      have x2 : ¬ ab w = true := fun e => by
        rw [e] at hh2
        exact Bool.noConfusion hh2.1.2
      rw [r3]
      unfold wtd
      rw [if_neg (fun e => e.elim x2 (fun e => by omega)), if_pos x3, decide_eq_false (Nat.lt_irrefl w)]
      show (s : Int) - cA w + 0 = _
      omega
    rw [if_neg (show ¬ b2 true = 0 from by decide), if_pos rfl]
    -- one who does not cross
    have red : ¬ pcK (kO w).toNat ≤ lf s → ∃ a1' a2' a3' a4' a5' a7' a16' c55' c58' c117', (lf_p (F_X10_acts_43 c55 z.2.2 c117 bar kinds walkers cf ce codes now gaps a1 a2 a3 a4 a5 a7 a16 (w : Int) (s : Int) H) (fun v22 t_v23 => (lf_p t_v23 (fun v23 t_v24 => (lf_p t_v24 (fun v24 t_v25 => (lf_p t_v25 (fun v25 t_f26 => (lf_p t_f26 (fun f26 t_f27 => (lf_p t_f27 (fun f27 t_f28 => (lf_p t_f28 (fun f28 t_f29 => (lf_p t_f29 (fun f29 t_f30 => (lf_p t_f30 (fun f30 t_f31 => (lf_p t_f31 (fun f31 f32 => (F_X10_dayBy_162 c70 c71 c72 c73 c74 a6 a11 (w : Int) K133 v22 v23 v24 v25 f27 f26 f30 f31 f32 f28 f29))))))))))))))))))))) = K133 c70 c71 c72 c73 c74 a1' a6 a7' a11 ((w : Int) + (1 : Int)) c55' c58' (if pcK (kO w).toNat ≤ lf s then (upn z.1 w (s : Int), upn z.2.1 w 1, z.2.2) else if gM2 oC oR cy nW kO cA clmK pcK d tr H w s z.2.2 = true then (upn z.1 w (s : Int), upn z.2.1 w (if gpS oC d cy s < pcK (kO w).toNat then 3 else 2), z.2.2 + 1) else z).2.2 c117' a2' a3' a4' a5' a16' ∧ mrS nW cA ab s (w + 1) (if pcK (kO w).toNat ≤ lf s then (upn z.1 w (s : Int), upn z.2.1 w 1, z.2.2) else if gM2 oC oR cy nW kO cA clmK pcK d tr H w s z.2.2 = true then (upn z.1 w (s : Int), upn z.2.1 w (if gpS oC d cy s < pcK (kO w).toNat then 3 else 2), z.2.2 + 1) else z) a1' a2' a3' a4' a5' a7' := by
      intro c2
      obtain ⟨t, q, p, e⟩ := ac_43 (tk := c55) (red := z.2.2) (qp := c117) (here1 := a1) (cr := a2) (wt := a3) (go := a4) (hm := a5) (ci := a7) (pile := a16) h hH hw hs (by omega) hwt
      rw [e, if_neg c2]
      by_cases c3 : gM2 oC oR cy nW kO cA clmK pcK d tr H w s z.2.2 = true
      · rw [if_pos c3, if_pos c3, lf_p_e, lf_p_e, lf_p_e, lf_p_e, lf_p_e, lf_p_e, lf_p_e, lf_p_e, lf_p_e, lf_p_e]
        unfold F_X10_dayBy_162
        refine ⟨_, _, _, _, _, _, _, _, _, _, rfl, ?_⟩
        by_cases c4 : gpS oC d cy s < pcK (kO w).toNat
        · rw [if_pos c4, decide_eq_true c4]
          refine MR_up (v := 3) hR hI hw hh (if_pos (by decide)).symm (fun u => ?_) (if_neg (by decide)).symm (by decide)
          by_cases x : u = w
          · rw [lf_up_y (by omega), if_pos x]
            rfl
          · rw [lf_up_o (by omega), if_neg x]
        · rw [if_neg c4, decide_eq_false c4]
          refine MR_up (v := 2) hR hI hw hh (if_pos (by decide)).symm (fun u => ?_) (if_neg (by decide)).symm (by decide)
          by_cases x : u = w
          · rw [lf_up_y (by omega), if_pos x]
            rfl
          · rw [lf_up_o (by omega), if_neg x]
      · rw [if_neg c3, if_neg c3, lf_p_e, lf_p_e, lf_p_e, lf_p_e, lf_p_e, lf_p_e, lf_p_e, lf_p_e, lf_p_e, lf_p_e]
        unfold F_X10_dayBy_162
        refine ⟨_, _, _, _, _, _, _, _, _, _, rfl, MR_no hR (fun u hu => ?_)⟩
        by_cases x : u = w
        · rw [lf_up_y (by omega), if_pos ⟨x, hh⟩, x]
        · rw [lf_up_o (by omega), if_neg (fun y => x y.1)]
    unfold F_X10_acts
    rw [Int.toNat_natCast, h11]
    by_cases c1 : 0 < lf s
    · rw [decide_eq_true c1, if_neg (show ¬ b2 true = 0 from by decide), lf_b_e, hk.2.2.1, h74 c1]
      by_cases c2 : pcK (kO w).toNat ≤ lf s
      · rw [if_neg (by omega), if_pos c2, lf_p_e, lf_p_e, lf_p_e, lf_p_e, lf_p_e, lf_p_e, lf_p_e, lf_p_e, lf_p_e, lf_p_e]
        unfold F_X10_dayBy_162
        refine ⟨_, _, _, _, _, _, _, _, _, _, rfl, ?_⟩
        refine MR_up (v := 1) hR hI hw hh (if_neg (by decide)).symm (fun u => ?_) (if_pos rfl).symm (by decide)
        by_cases x : u = w
        · rw [if_pos x, x, r5, h0]
          rfl
        · rw [if_neg x]
      · rw [if_pos (by omega)]
        have r9 := red c2
        rw [h74 c1] at r9
        exact r9
    · rw [decide_eq_false c1, if_pos (show b2 false = 0 from rfl)]
      have hp1 : 1 ≤ pcK (kO w).toNat := (md_wk h w hw).2.2.1.1
      have c2 : ¬ pcK (kO w).toNat ≤ lf s := by omega
      exact red c2
theorem da_row {K92 : (Nat → Int) → (Nat → Int) → (Nat → Int) → (Nat → Int) → (Nat → Int) → (Nat → Int) → Int → Int → Int → Int → Int → Int → (Nat → Int) → (Nat → Int) → Int → Int → Int → Int → (Nat → Int) → Int × Int × Int × Int × Int × Int × Int × Int × Int × (Nat → Int) × (Nat → Int) × (Nat → Int) × (Nat → Int) × (Nat → Int) × (Nat → Int) × (Nat → Int) × (Nat → Int) × (Nat → Int)} {c70 c71 c72 c73 c74 : Int} {a6 a11 : Nat → Int} {s : Nat} {z : wzT} (h : mdH nW nK cy ls d oC oR oL kO cA clmK pcK many bar kinds walkers cf ce codes now gaps tr) (hH : rg H) (hs : s < 300) (hI : spI nW cA ab (s + 1) z) (h11 : a11 s = b2 (decide (0 < lf s))) (h74 : 0 < lf s → c74 = lf s) : ∀ (f w : Nat) (a1 a2 a3 a4 a5 a7 a16 : Nat → Int) (c55 c58 c117 : Int), w ≤ nW → nW - w < f → mrS nW cA ab s w (wrow cA (fun w => pcK (kO w).toNat) ab lf (gpS oC d cy) (gM2 oC oR cy nW kO cA clmK pcK d tr H) s w z) a1 a2 a3 a4 a5 a7 → ∃ a1' a2' a3' a4' a5' a7' a16' c55' c58' c117', F_X10_dayBy_133 many bar kinds walkers cf ce codes now gaps H (s : Int) K92 f c70 c71 c72 c73 c74 a1 a6 a7 a11 (w : Int) c55 c58 (wrow cA (fun w => pcK (kO w).toNat) ab lf (gpS oC d cy) (gM2 oC oR cy nW kO cA clmK pcK d tr H) s w z).2.2 c117 a2 a3 a4 a5 a16 = K92 a1' a2' a3' a4' a5' a6 ((s : Int) + (1 : Int)) c70 c71 c72 c73 c74 a7' a11 c55' c58' (wrow cA (fun w => pcK (kO w).toNat) ab lf (gpS oC d cy) (gM2 oC oR cy nW kO cA clmK pcK d tr H) s nW z).2.2 c117' a16' ∧ mrS nW cA ab s nW (wrow cA (fun w => pcK (kO w).toNat) ab lf (gpS oC d cy) (gM2 oC oR cy nW kO cA clmK pcK d tr H) s nW z) a1' a2' a3' a4' a5' a7' := by
  intro f
  induction f with
  | zero => intro w a1 a2 a3 a4 a5 a7 a16 c55 c58 c117 h1 h2; omega
  | succ f ih =>
    intro w a1 a2 a3 a4 a5 a7 a16 c55 c58 c117 h1 h2 hR
    have hm : many 3 = (nW : Int) := h.1.1
    by_cases q : w = nW
    · subst q
      refine ⟨a1, a2, a3, a4, a5, a7, a16, c55, c58, c117, ?_, hR⟩
      show F_X10_dayBy_133b many bar kinds walkers cf ce codes now gaps H (s : Int) K92 _ c70 c71 c72 c73 c74 a1 a6 a7 a11 (w : Int) c55 c58 _ c117 a2 a3 a4 a5 a16 = _
      unfold F_X10_dayBy_133b
      rw [lf_b_e, hm, if_pos (Int.le_refl _)]
    · have hI2 := spI_row (pcw := fun w => pcK (kO w).toNat) (lf := lf) (gp := gpS oC d cy) (G := gM2 oC oR cy nW kO cA clmK pcK d tr H) w z h1 hI
      obtain ⟨a1', a2', a3', a4', a5', a7', a16', c55', c58', c117', e, e1⟩ := da_step (K92 := K92) (K133 := F_X10_dayBy_133 many bar kinds walkers cf ce codes now gaps H (s : Int) K92 f) (c70 := c70) (c71 := c71) (c72 := c72) (c73 := c73) (c74 := c74) (c55 := c55) (c58 := c58) (c117 := c117) (a6 := a6) (a11 := a11) (a16 := a16) (w := w) (lf := lf) h hH (by omega) hs hI2 hR h11 h74
      show ∃ a1' a2' a3' a4' a5' a7' a16' c55' c58' c117', F_X10_dayBy_133b many bar kinds walkers cf ce codes now gaps H (s : Int) K92 (F_X10_dayBy_133 many bar kinds walkers cf ce codes now gaps H (s : Int) K92 f) c70 c71 c72 c73 c74 a1 a6 a7 a11 (w : Int) c55 c58 (wrow cA (fun w => pcK (kO w).toNat) ab lf (gpS oC d cy) (gM2 oC oR cy nW kO cA clmK pcK d tr H) s w z).2.2 c117 a2 a3 a4 a5 a16 = _ ∧ _
      rw [e]
      exact ih (w + 1) a1' a2' a3' a4' a5' a7' a16' c55' c58' c117' (by omega) (by omega) e1
end DA
