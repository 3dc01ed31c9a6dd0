/-- what statementTold leaves -/
def stO (g : Nat → Int) (n : Nat) (S : ST) (st : PL) (k : Int) (O : Int × Int × Int × Int × Int × Int × Int × Int × Int × Int × Int × Int × Int × (Nat → Int) × (Nat → Int) × (Nat → Int) × (Nat → Int) × (Nat → Int) × (Nat → Int) × (Nat → Int) × (Nat → Int) × (Nat → Int) × (Nat → Int)) : Prop := rm g n S O.1 O.2.1 O.2.2.1 O.2.2.2.1 ∧ ∀ q, S = .inr q → O.2.2.2.2.2.2.2.1 = k + 1 ∧ mnm O.2.2.2.2.2.2.2.2.2.2.2.2.2.2.2.2.2.2.1 O.2.2.2.2.2.2.2.2.2.2.2.2.2.2.2.2.2.2.2.1 st.1 st.2.1 ∧ mtf O.2.2.2.2.2.2.2.2.2.2.2.2.2.1 st.2.2.1 st.2.2.2.1 st.2.2.2.2.1 ∧ 0 ≤ O.2.2.2.2.2.2.1 ∧ O.2.2.2.2.2.2.1 ≤ (q : Int)
theorem st_fin {g : Nat → Int} {n : Nat} {s : ST} {st : PL} {k ya ye yb yp np aw cod0 x1 x2 x3 x4 x5 : Int} {cf a1 a2 a3 a4 M N wk kd tr : Nat → Int} (hn : n ≤ 1600) (hv : sv n s) (h : rm g n s ya ye yb yp) (hk : 0 ≤ k ∧ k ≤ 80) (hok : ∀ q, s = .inr q → mnm M N st.1 st.2.1 ∧ mtf cf st.2.2.1 st.2.2.2.1 st.2.2.2.2.1 ∧ 0 ≤ cod0 ∧ cod0 ≤ (q : Int)) : stO g n (sb s (sp_need g n 59)) st k (lf_p (F_X10_asksSign_a0_59 ya (n : Int) yb yp g) (fun v172 t_v173 => (lf_p t_v173 (fun v173 v174 => (v172, ye, v173, v174, np, aw, cod0, (lf_o lf_iadd k (1 : Int)), x1, x2, x3, x4, x5, cf, a1, a2, a3, a4, M, N, wk, kd, tr))))) := by
  have h59 := F_X10_asksSign_a0_59_s hn hv h
  generalize F_X10_asksSign_a0_59 ya (n : Int) yb yp g = Z at h59 ⊢
  obtain ⟨z1, z2, z3⟩ := Z
  rw [lf_p_e, lf_p_e]
  refine ⟨h59, fun q e => ?_⟩
  obtain ⟨p0, e0, e1⟩ := sb_in e
  obtain ⟨k1, k2, k3, k4⟩ := hok p0 e0
  have hlt : p0 ≤ q := by
    unfold sp_need at e1
    split at e1
    · cases e1
      exact Nat.le_of_lt (tx_e_gt' (by rename_i z; have := z.1; omega))
    · cases e1
  refine ⟨lo_add (by omega) (by omega) (by omega) (by omega) (by omega) (by omega), k1, k2, k3, ?_⟩
  show cod0 ≤ (q : Int)
  omega
theorem st_1 {g M N kd tr wk cf ce cs qc qwt : Nat → Int} {n p : Nat} {xa xe np aw cod0 x1 x2 x3 x4 x5 k : Int} {Ks Ws : List (List Int)} {t0 t1 t2 : Bool} {c : CD} {w1 w2 w3 w4 w5 w6 w7 w8 w9 w10 w11 w12 w13 w14 w15 w16 w17 w18 w19 w20 w21 w22 w23 w24 w25 w26 w27 w28 w29 w30 : Nat → Int} {vnot vand vor vall vmin vmax v1 v2 v3 v4 v5 v6 v7 v8 v9 v10 v11 v12 v13 : Nat → Int} (hn : n ≤ 1600) (hm : mw w1 w2 w3 w4 w5 w6 w7 w8 w9 w10 w11 w12 w13 w14 w15 w16 w17 w18 w19 w20 w21 w22 w23 w24 w25 w26 w27 w28 w29 w30) (hq : qw v1 v2 v3 v4 v5 v6 v7 v8 v9 v10 v11 v12 v13) (hnot : wa vnot W_not) (hand : wa vand W_and) (hor : wa vor W_or) (hall : wa vall W_all) (hmin : wa vmin W_min) (hmax : wa vmax W_max) (h : mp g n p xa xe) (hN : mnm M N Ks Ws) (hf : mtf cf t0 t1 t2) (hc : 0 ≤ cod0) (hcp : cod0 ≤ (p : Int)) (hk : 0 ≤ k ∧ k < 80) : stO g n (sb (sp_st g n p (Ks, Ws, t0, t1, t2, c)).1 (sp_need g n 59)) (sp_st g n p (Ks, Ws, t0, t1, t2, c)).2 k (F_X10_statementTold (tx_a g n p : Int) (n : Int) xe (0 : Int) (-1 : Int) np aw cod0 k x1 x2 x3 x4 x5 g w1 w2 w3 w4 w5 w6 w7 w8 w9 w10 w11 w12 w13 w14 w15 w16 w17 w18 w19 w20 w21 w22 w23 w24 w25 w26 w27 w28 w29 w30 M N kd tr wk cf ce cs vnot vand vor vall vmin vmax v1 v2 v3 v4 v5 v6 v7 v8 v9 v10 v11 v12 v13 qc qwt) := by
  have h0 := mp_a h
  have hpn := h.1
  have ew : wl g n ws_0 p = wlf g n p [W_kind, W_comes, W_car, W_red, W_learns, W_away] 0 := (wlf_1 ws_0 0).symm
  have f5 : ∀ q, (.inl (5, (tx_a g n p : Int)) : ST) = .inr q → False := fun q r => by cases r
  have hv5 : sv n (.inl (5, (tx_a g n p : Int)) : ST) := sv_l (by decide)
  unfold F_X10_statementTold
  rw [if_neg (by omega)]
  rw [F_X10_takes_r4_1 hn (W := W_kind) rfl hm.2.2.2.2.1 h0]
  rw [wlf_c] at ew
  cases c0 : wh g n W_kind p with
  | true =>
    rw [c0, if_pos rfl] at ew
    have ew' : wl g n ws_0 p = 0 := ew
    have hk1 := (wh_k c0).1
    have hle := tx_e_le (f := g) hpn
    have hme := mp_tok hpn hk1 (Or.inl rfl)
    rw [if_pos rfl, lf_p_e, lf_p_e, if_neg (show ¬ (1 : Int) = 0 from by decide)]
    by_cases hl : Ks.length < 6
    · have es : sp_st g n p (Ks, Ws, t0, t1, t2, c) = ((sp_k3 g n Ks Ws p).2, (Ks ++ [wd g n (tx_e g n p)], Ws, t0, t1, t2, c)) := by
        unfold sp_st
        rw [ew', if_pos rfl]
        exact if_pos hl
      rw [es]
      have hkt := kt_1 (np := np) (bg := (tx_a g n p : Int)) (kd := kd) (tr := tr) hn hm hpn hme hN hl
      generalize F_X10_kindTold (tx_e g n p : Int) (n : Int) (tx_e g n p : Int) (0 : Int) (-1 : Int) np g w1 w2 w3 w4 w5 w6 w7 w8 w9 w10 w11 w12 w13 w14 w15 w16 w17 w18 w19 w20 w21 w22 w23 w24 w25 w26 w27 w28 w29 w30 M N kd tr (tx_a g n p : Int) = R at hkt ⊢
      obtain ⟨r1, r2, r3, r4, r5, r6, r7, r8, r9⟩ := R
      rw [lf_p_e, lf_p_e, lf_p_e, lf_p_e, lf_p_e, lf_p_e, lf_p_e, lf_p_e]
      exact st_fin hn (sp_k3_v _ _ hpn) hkt.1 (by omega) (fun q e => ⟨hkt.2 q e, hf, hc, by have h9 := (sp_k3_gt e).1; have h8 : p < tx_e g n p := tx_e_gt' (by omega); omega⟩)
    · have es : sp_st g n p (Ks, Ws, t0, t1, t2, c) = (.inl (5, (tx_a g n p : Int)), (Ks, Ws, t0, t1, t2, c)) := by
        unfold sp_st
        rw [ew', if_pos rfl]
        exact if_neg hl
      have hM : M 0 = 6 := by
        have a1 := hN.1
        have a2 := hN.2.2.2.2.2.2.1
        omega
      rw [es, kt_f hM, lf_p_e, lf_p_e, lf_p_e, lf_p_e, lf_p_e, lf_p_e, lf_p_e, lf_p_e]
      exact st_fin hn hv5 ⟨rfl, rfl⟩ (by omega) (fun q e => (f5 q e).elim)
  | false =>
    rw [c0, if_neg (show ¬ false = true from fun r => Bool.noConfusion r)] at ew
    rw [if_neg (show ¬ false = true from fun r => Bool.noConfusion r), lf_p_e, lf_p_e, if_pos rfl]
    rw [F_X10_takes_r5_1 hn (W := W_comes) rfl hm.2.2.2.2.2.2.2.2.1 h0]
    rw [wlf_c] at ew
    cases c1 : wh g n W_comes p with
    | true =>
      rw [c1, if_pos rfl] at ew
      have ew' : wl g n ws_0 p = 1 := ew
      have hk1 := (wh_k c1).1
      have hle := tx_e_le (f := g) hpn
      have hme := mp_tok hpn hk1 (Or.inl rfl)
      rw [if_pos rfl, lf_p_e, lf_p_e, if_neg (show ¬ (1 : Int) = 0 from by decide)]
      by_cases hl : Ws.length < 12
      · have es : sp_st g n p (Ks, Ws, t0, t1, t2, c) = ((sp_c3 g n Ks Ws p).2, (Ks, Ws ++ [wd g n (tx_e g n p)], t0, t1, t2, c)) := by
          unfold sp_st
          rw [ew', if_neg (show ¬ (1 : Int) = 0 from by decide), if_pos rfl]
          exact if_pos hl
        rw [es]
        have hkt := wt_1 (np := np) (bg := (tx_a g n p : Int)) (wk := wk) hn hm hpn hme hN hl
        generalize F_X10_walkerTold (tx_e g n p : Int) (n : Int) (tx_e g n p : Int) (0 : Int) (-1 : Int) np g w1 w2 w3 w4 w5 w6 w7 w8 w9 w10 w11 w12 w13 w14 w15 w16 w17 w18 w19 w20 w21 w22 w23 w24 w25 w26 w27 w28 w29 w30 M N wk (tx_a g n p : Int) = R at hkt ⊢
        obtain ⟨r1, r2, r3, r4, r5, r6, r7, r8⟩ := R
        rw [lf_p_e, lf_p_e, lf_p_e, lf_p_e, lf_p_e, lf_p_e, lf_p_e]
        exact st_fin hn (sp_c3_v _ _ hpn) hkt.1 (by omega) (fun q e => ⟨hkt.2 q e, hf, hc, by have h9 := (sp_c3_gt e).1; have h8 : p < tx_e g n p := tx_e_gt' (by omega); omega⟩)
      · have es : sp_st g n p (Ks, Ws, t0, t1, t2, c) = (.inl (5, (tx_a g n p : Int)), (Ks, Ws, t0, t1, t2, c)) := by
          unfold sp_st
          rw [ew', if_neg (show ¬ (1 : Int) = 0 from by decide), if_pos rfl]
          exact if_neg hl
        have hM : M 1 = 12 := by
          have a1 := hN.2.1
          have a2 := hN.2.2.2.2.2.2.2
          omega
        rw [es, wt_f hM, lf_p_e, lf_p_e, lf_p_e, lf_p_e, lf_p_e, lf_p_e, lf_p_e]
        exact st_fin hn hv5 ⟨rfl, rfl⟩ (by omega) (fun q e => (f5 q e).elim)
    | false =>
      rw [c1, if_neg (show ¬ false = true from fun r => Bool.noConfusion r)] at ew
      rw [if_neg (show ¬ false = true from fun r => Bool.noConfusion r), lf_p_e, lf_p_e, if_pos rfl]
      rw [F_X10_takes_1 hn (W := W_car) rfl hm.2.2.2.2.2.2.2.2.2.2.2.1 h0]
      rw [wlf_c] at ew
      cases c2 : wh g n W_car p with
      | true =>
        rw [c2, if_pos rfl] at ew
        have ew' : wl g n ws_0 p = 2 := ew
        have hk1 := (wh_k c2).1
        have hle := tx_e_le (f := g) hpn
        have hme := mp_tok hpn hk1 (Or.inl rfl)
        rw [if_pos rfl, lf_p_e, lf_p_e, if_neg (show ¬ (1 : Int) = 0 from by decide)]
        cases ht : t0 with
        | true =>
          have hcf : ¬ cf 0 = -1 := hf.1.mp ht
          have es : sp_st g n p (Ks, Ws, t0, t1, t2, c) = (.inl (5, (tx_a g n p : Int)), (Ks, Ws, t0, t1, t2, c)) := by
            unfold sp_st
            rw [ew', if_neg (show ¬ (2 : Int) = 0 from by decide), if_neg (show ¬ (2 : Int) = 1 from by decide), if_pos rfl]
            exact if_pos ht
          rw [ht] at es
          rw [es, ct_0n hcf, lf_p_e, lf_p_e, lf_p_e, lf_p_e, lf_p_e, lf_p_e, lf_p_e, lf_p_e, lf_p_e, lf_p_e, lf_p_e, lf_p_e, lf_p_e, lf_p_e]
          exact st_fin hn hv5 ⟨rfl, rfl⟩ (by omega) (fun q e => (f5 q e).elim)
        | false =>
          have hcf : cf 0 = -1 := Decidable.byContradiction (fun r => Bool.noConfusion (ht.symm.trans (hf.1.mpr r)))
          have es : sp_st g n p (Ks, Ws, t0, t1, t2, c) = ((cod g n 0 7 (tx_e g n p) c).1, (Ks, Ws, true, t1, t2, (cod g n 0 7 (tx_e g n p) c).2)) := by
            unfold sp_st
            rw [ew', if_neg (show ¬ (2 : Int) = 0 from by decide), if_neg (show ¬ (2 : Int) = 1 from by decide), if_pos rfl]
            exact if_neg (fun r => Bool.noConfusion (ht.symm.trans r))
          rw [ht] at es
          have ec : (cod g n 0 7 (tx_e g n p) c) = sTest g n 7 6 (tx_e g n p) c := if_neg (by decide)
          rw [es]
          have hct := ct_0 (cs := cs) (ce := ce) (qc := qc) (qwt := qwt) (x1 := x1) (x2 := x2) (x3 := x3) (x4 := x4) (x5 := x5) (bg := (tx_a g n p : Int)) c hn hq hnot hand hor hall hmin hmax hme hc hcf
          rw [← ec] at hct
          generalize F_X10_codesTold_a0_0 (tx_e g n p : Int) (n : Int) (tx_e g n p : Int) (0 : Int) (-1 : Int) cod0 x1 x2 x3 x4 x5 g cf ce cs vnot vand vor vall vmin vmax v1 v2 v3 v4 v5 v6 v7 v8 v9 v10 v11 v12 v13 qc qwt (tx_a g n p : Int) = R at hct ⊢
          obtain ⟨r1, r2, r3, r4, r5, r6, r7, r8, r9, r10, r11, r12, r13, r14, r15⟩ := R
          rw [lf_p_e, lf_p_e, lf_p_e, lf_p_e, lf_p_e, lf_p_e, lf_p_e, lf_p_e, lf_p_e, lf_p_e, lf_p_e, lf_p_e, lf_p_e, lf_p_e]
          refine st_fin hn (cod_ok (tx_e g n p) c hle).1 hct.1 (by omega) (fun q e => ?_)
          obtain ⟨a1, a3, a2⟩ := hct.2 q e
          have h8 : p < tx_e g n p := tx_e_gt' (by omega)
          have a2' : r11 = lf_up cf (0 : Int) cod0 := a2
          exact ⟨hN, (by rw [a2']; exact mtf_0 hf hc), a1, by have a3' : r5 + (tx_e g n p : Int) ≤ cod0 + (q : Int) := a3; show r5 ≤ (q : Int); omega⟩
      | false =>
        rw [c2, if_neg (show ¬ false = true from fun r => Bool.noConfusion r)] at ew
        rw [if_neg (show ¬ false = true from fun r => Bool.noConfusion r), lf_p_e, lf_p_e, if_pos rfl]
        rw [F_X10_takes_1 hn (W := W_red) rfl hm.2.2.2.2.2.2.2.2.2.2.2.2.1 h0]
        rw [wlf_c] at ew
        cases c3 : wh g n W_red p with
        | true =>
          rw [c3, if_pos rfl] at ew
          have ew' : wl g n ws_0 p = 3 := ew
          have hk1 := (wh_k c3).1
          have hle := tx_e_le (f := g) hpn
          have hme := mp_tok hpn hk1 (Or.inl rfl)
          rw [if_pos rfl, lf_p_e, lf_p_e, if_neg (show ¬ (1 : Int) = 0 from by decide)]
          cases ht : t1 with
          | true =>
            have hcf : ¬ cf 1 = -1 := hf.2.1.mp ht
            have es : sp_st g n p (Ks, Ws, t0, t1, t2, c) = (.inl (5, (tx_a g n p : Int)), (Ks, Ws, t0, t1, t2, c)) := by
              unfold sp_st
              rw [ew', if_neg (show ¬ (3 : Int) = 0 from by decide), if_neg (show ¬ (3 : Int) = 1 from by decide), if_neg (show ¬ (3 : Int) = 2 from by decide), if_pos rfl]
              exact if_pos ht
            rw [ht] at es
            rw [es, ct_1n hcf, lf_p_e, lf_p_e, lf_p_e, lf_p_e, lf_p_e, lf_p_e, lf_p_e, lf_p_e, lf_p_e, lf_p_e, lf_p_e, lf_p_e, lf_p_e, lf_p_e]
            exact st_fin hn hv5 ⟨rfl, rfl⟩ (by omega) (fun q e => (f5 q e).elim)
          | false =>
            have hcf : cf 1 = -1 := Decidable.byContradiction (fun r => Bool.noConfusion (ht.symm.trans (hf.2.1.mpr r)))
            have es : sp_st g n p (Ks, Ws, t0, t1, t2, c) = ((cod g n 2 507 (tx_e g n p) c).1, (Ks, Ws, t0, true, t2, (cod g n 2 507 (tx_e g n p) c).2)) := by
              unfold sp_st
              rw [ew', if_neg (show ¬ (3 : Int) = 0 from by decide), if_neg (show ¬ (3 : Int) = 1 from by decide), if_neg (show ¬ (3 : Int) = 2 from by decide), if_pos rfl]
              exact if_neg (fun r => Bool.noConfusion (ht.symm.trans r))
            rw [ht] at es
            have ec : (cod g n 2 507 (tx_e g n p) c) = sTest g n 507 6 (tx_e g n p) c := if_neg (by decide)
            rw [es]
            have hct := ct_1 (cs := cs) (ce := ce) (qc := qc) (qwt := qwt) (x1 := x1) (x2 := x2) (x3 := x3) (x4 := x4) (x5 := x5) (bg := (tx_a g n p : Int)) c hn hq hnot hand hor hall hmin hmax hme hc hcf
            rw [← ec] at hct
            generalize F_X10_codesTold_a0_1 (tx_e g n p : Int) (n : Int) (tx_e g n p : Int) (0 : Int) (-1 : Int) cod0 x1 x2 x3 x4 x5 g cf ce cs vnot vand vor vall vmin vmax v1 v2 v3 v4 v5 v6 v7 v8 v9 v10 v11 v12 v13 qc qwt (tx_a g n p : Int) = R at hct ⊢
            obtain ⟨r1, r2, r3, r4, r5, r6, r7, r8, r9, r10, r11, r12, r13, r14, r15⟩ := R
            rw [lf_p_e, lf_p_e, lf_p_e, lf_p_e, lf_p_e, lf_p_e, lf_p_e, lf_p_e, lf_p_e, lf_p_e, lf_p_e, lf_p_e, lf_p_e, lf_p_e]
            refine st_fin hn (cod_ok (tx_e g n p) c hle).1 hct.1 (by omega) (fun q e => ?_)
            obtain ⟨a1, a3, a2⟩ := hct.2 q e
            have h8 : p < tx_e g n p := tx_e_gt' (by omega)
            have a2' : r11 = lf_up cf (1 : Int) cod0 := a2
            exact ⟨hN, (by rw [a2']; exact mtf_1 hf hc), a1, by have a3' : r5 + (tx_e g n p : Int) ≤ cod0 + (q : Int) := a3; show r5 ≤ (q : Int); omega⟩
        | false =>
          rw [c3, if_neg (show ¬ false = true from fun r => Bool.noConfusion r)] at ew
          rw [if_neg (show ¬ false = true from fun r => Bool.noConfusion r), lf_p_e, lf_p_e, if_pos rfl]
          rw [F_X10_takes_r6_1 hn (W := W_learns) rfl hm.2.2.2.2.2.2.2.2.2.2.2.2.2.1 h0]
          rw [wlf_c] at ew
          cases c4 : wh g n W_learns p with
          | true =>
            rw [c4, if_pos rfl] at ew
            have ew' : wl g n ws_0 p = 4 := ew
            have hk1 := (wh_k c4).1
            have hle := tx_e_le (f := g) hpn
            have hme := mp_tok hpn hk1 (Or.inl rfl)
            rw [if_pos rfl, lf_p_e, lf_p_e, if_neg (show ¬ (1 : Int) = 0 from by decide)]
            cases ht : t2 with
            | true =>
              have hcf : ¬ cf 2 = -1 := hf.2.2.mp ht
              have es : sp_st g n p (Ks, Ws, t0, t1, t2, c) = (.inl (5, (tx_a g n p : Int)), (Ks, Ws, t0, t1, t2, c)) := by
                unfold sp_st
                rw [ew', if_neg (show ¬ (4 : Int) = 0 from by decide), if_neg (show ¬ (4 : Int) = 1 from by decide), if_neg (show ¬ (4 : Int) = 2 from by decide), if_neg (show ¬ (4 : Int) = 3 from by decide), if_pos rfl]
                exact if_pos ht
              rw [ht] at es
              rw [es, ct_2n hcf, lf_p_e, lf_p_e, lf_p_e, lf_p_e, lf_p_e, lf_p_e, lf_p_e, lf_p_e, lf_p_e, lf_p_e, lf_p_e, lf_p_e, lf_p_e, lf_p_e]
              exact st_fin hn hv5 ⟨rfl, rfl⟩ (by omega) (fun q e => (f5 q e).elim)
            | false =>
              have hcf : cf 2 = -1 := Decidable.byContradiction (fun r => Bool.noConfusion (ht.symm.trans (hf.2.2.mpr r)))
              have es : sp_st g n p (Ks, Ws, t0, t1, t2, c) = ((cod g n 4 123 (tx_e g n p) c).1, (Ks, Ws, t0, t1, true, (cod g n 4 123 (tx_e g n p) c).2)) := by
                unfold sp_st
                rw [ew', if_neg (show ¬ (4 : Int) = 0 from by decide), if_neg (show ¬ (4 : Int) = 1 from by decide), if_neg (show ¬ (4 : Int) = 2 from by decide), if_neg (show ¬ (4 : Int) = 3 from by decide), if_pos rfl]
                exact if_neg (fun r => Bool.noConfusion (ht.symm.trans r))
              rw [ht] at es
              have ec : (cod g n 4 123 (tx_e g n p) c) = sSum g n 123 6 (tx_e g n p) c := if_pos rfl
              rw [es]
              have hct := ct_2 (cs := cs) (ce := ce) (qc := qc) (qwt := qwt) (x1 := x1) (x2 := x2) (x3 := x3) (x4 := x4) (x5 := x5) (bg := (tx_a g n p : Int)) c hn hq hmin hmax hme hc hcf
              rw [← ec] at hct
              generalize F_X10_codesTold_a0_2 (tx_e g n p : Int) (n : Int) (tx_e g n p : Int) (0 : Int) (-1 : Int) cod0 x1 x2 x3 x4 x5 g cf ce cs vmin vmax v1 v2 v3 v4 v5 v6 v7 v8 v9 v10 v11 v12 v13 qc qwt (tx_a g n p : Int) = R at hct ⊢
              obtain ⟨r1, r2, r3, r4, r5, r6, r7, r8, r9, r10, r11, r12, r13, r14, r15⟩ := R
              rw [lf_p_e, lf_p_e, lf_p_e, lf_p_e, lf_p_e, lf_p_e, lf_p_e, lf_p_e, lf_p_e, lf_p_e, lf_p_e, lf_p_e, lf_p_e, lf_p_e]
              refine st_fin hn (cod_ok (tx_e g n p) c hle).1 hct.1 (by omega) (fun q e => ?_)
              obtain ⟨a1, a3, a2⟩ := hct.2 q e
              have h8 : p < tx_e g n p := tx_e_gt' (by omega)
              have a2' : r11 = lf_up cf (2 : Int) cod0 := a2
              exact ⟨hN, (by rw [a2']; exact mtf_2 hf hc), a1, by have a3' : r5 + (tx_e g n p : Int) ≤ cod0 + (q : Int) := a3; show r5 ≤ (q : Int); omega⟩
          | false =>
            rw [c4, if_neg (show ¬ false = true from fun r => Bool.noConfusion r)] at ew
            rw [if_neg (show ¬ false = true from fun r => Bool.noConfusion r), lf_p_e, lf_p_e, if_pos rfl]
            have es1 : (sp_st g n p (Ks, Ws, t0, t1, t2, c)).1 = (sp_nb g n ws_1 0 100 p).2 ∧ (sp_st g n p (Ks, Ws, t0, t1, t2, c)).2 = (Ks, Ws, t0, t1, t2, c) := by
              rw [wlf_c] at ew
              cases c5 : wh g n W_away p with
              | true =>
                rw [c5, if_pos rfl] at ew
                have ew' : wl g n ws_0 p = 5 := ew
                have es : sp_st g n p (Ks, Ws, t0, t1, t2, c) = ((sp_nb g n ws_1 0 100 p).2, (Ks, Ws, t0, t1, t2, c)) := by
                  unfold sp_st
                  rw [ew', if_neg (show ¬ (5 : Int) = 0 from by decide), if_neg (show ¬ (5 : Int) = 1 from by decide), if_neg (show ¬ (5 : Int) = 2 from by decide), if_neg (show ¬ (5 : Int) = 3 from by decide), if_neg (show ¬ (5 : Int) = 4 from by decide), if_pos rfl]
                rw [es]
                exact ⟨rfl, rfl⟩
              | false =>
                rw [c5, if_neg (show ¬ false = true from fun r => Bool.noConfusion r)] at ew
                have ew' : wl g n ws_0 p = -1 := ew
                have es : sp_st g n p (Ks, Ws, t0, t1, t2, c) = (.inl (1, (tx_a g n p : Int)), (Ks, Ws, t0, t1, t2, c)) := by
                  unfold sp_st
                  rw [ew', if_neg (show ¬ (-1 : Int) = 0 from by decide), if_neg (show ¬ (-1 : Int) = 1 from by decide), if_neg (show ¬ (-1 : Int) = 2 from by decide), if_neg (show ¬ (-1 : Int) = 3 from by decide), if_neg (show ¬ (-1 : Int) = 4 from by decide), if_neg (show ¬ (-1 : Int) = 5 from by decide)]
                rw [es]
                have e1 : sp_w g n ws_1 p = .inl (1, (tx_a g n p : Int)) := (sp_w1 W_away).trans (if_neg (fun r => Bool.noConfusion (c5.symm.trans r)))
                refine ⟨?_, rfl⟩
                unfold sp_nb
                rw [e1]
            rw [es1.1, es1.2]
            have ha := F_X10_asks_r4_s (W := W_away) (s := .inr p) (xb := 0) (xp := -1) hn rfl hm.2.2.2.2.2.2.2.2.2.2.2.2.2.2.1 hpn ⟨rfl, rfl, h0⟩
            generalize F_X10_asks_r4 (tx_a g n p : Int) (n : Int) xe (0 : Int) (-1 : Int) g w15 = R at ha ⊢
            obtain ⟨r1, r2, r3, r4⟩ := R
            rw [lf_p_e, lf_p_e, lf_p_e, F_X10_number_a0_0_a1_100_g]
            have ha' : rm g n (sp_w g n ws_1 p) r1 r2 r3 r4 := ha
            have hb := gM_s hn (sp_w_v ws_1 hpn) ha' 0 100 0
            generalize gM r1 (n : Int) r2 r3 r4 g (0 : Int) (100 : Int) = R at hb ⊢
            obtain ⟨q1, q2, q3, q4, q5⟩ := R
            rw [lf_p_e, lf_p_e, lf_p_e, lf_p_e]
            exact st_fin hn (sp_nb_v ws_1 0 100 hpn) hb.1 (by omega) (fun q e => ⟨hN, hf, hc, by have h9 := sp_nb_gt e; omega⟩)
