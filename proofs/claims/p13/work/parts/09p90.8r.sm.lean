section
/-! 8r -/
/-! the model holds the record of a crossing: a statement told -/
theorem cod_L {g : Nat → Int} {n p q : Nat} {i al : Int} {c : CD} (hp2 : p ≤ n) (e : (cod g n i al p c).1 = .inr q) : ∃ L, codM g n i al p = .inr (q, L) := by
  have h1 : rlC (cod g n i al p c) (codM g n i al p) c := by
    unfold cod codM
    by_cases x : i = 4
    · rw [if_pos x, if_pos x]
      exact sum_r 6 p c hp2
    · rw [if_neg x, if_neg x]
      exact test_r 6 p c hp2
  cases em9 : codM g n i al p with
  | inl r =>
    rw [em9] at h1
    have h1' : (cod g n i al p c).1 = .inl r := h1
    rw [h1'] at e
    cases e
  | inr z =>
    rw [em9] at h1
    obtain ⟨q2, L⟩ := z
    have h1' : cod g n i al p c = (.inr q2, ems c (L.map toC)) := h1
    rw [h1'] at e
    cases e
    exact ⟨L, rfl⟩
def cdT (cf ce cs : Nat → Int) (size : Int) (k : Nat) (o : Option (List Int)) : Prop := match o with
  | none => cf k = -1
  | some L => ∃ i : Nat, cf k = (i : Int) ∧ ce k = (i : Int) + (L.length : Int) ∧ (i : Int) + (L.length : Int) ≤ size ∧ ∀ j, j < L.length → cs (i + j) = L.getD j 0
theorem cdT_w {cf ce cs cf2 ce2 cs2 : Nat → Int} {size size2 : Int} {k : Nat} {o : Option (List Int)} (h : cdT cf ce cs size k o) (hs : size ≤ size2) (h1 : cf2 k = cf k) (h2 : ce2 k = ce k) (hc : ∀ j, j < size.toNat → cs2 j = cs j) : cdT cf2 ce2 cs2 size2 k o := by
  cases o with
  | none =>
    show cf2 k = -1
    rw [h1]
    exact h
  | some L =>
    obtain ⟨i, a1, a2, a3, a4⟩ := h
    refine ⟨i, by rw [h1, a1], by rw [h2, a2], by omega, fun j hj => ?_⟩
    rw [hc (i + j) (by omega)]
    exact a4 j hj
/-- the model's draft holds the record -/
def prM (pr : PR) (nk nw : Nat) (kd tr wk cf ce cs : Nat → Int) (size away : Int) : Prop := (pr.1.length = nk ∧ pr.2.1.length = nw) ∧ (∀ j, j < nk → kd (2 * j) = (pr.1.getD j (0, 0, 0)).1 ∧ kd (2 * j + 1) = (pr.1.getD j (0, 0, 0)).2.1 ∧ tr j = (pr.1.getD j (0, 0, 0)).2.2) ∧ (∀ w, w < nw → wk (2 * w) = (pr.2.1.getD w (0, 0)).1 ∧ wk (2 * w + 1) = (pr.2.1.getD w (0, 0)).2) ∧ (cdT cf ce cs size 0 pr.2.2.1 ∧ cdT cf ce cs size 1 pr.2.2.2.1 ∧ cdT cf ce cs size 2 pr.2.2.2.2.1) ∧ away = pr.2.2.2.2.2 ∧ 0 ≤ size
/-- nothing of what stands has been touched -/
def frM (kd0 wk0 cf0 ce0 cs0 kd wk cf ce cs : Nat → Int) : Prop := (∀ j, 12 ≤ j → kd j = kd0 j) ∧ (∀ j, 24 ≤ j → wk j = wk0 j) ∧ (∀ j, 3 ≤ j → cf j = cf0 j) ∧ (∀ j, 3 ≤ j → ce j = ce0 j) ∧ ∀ j, 1600 ≤ j → cs j = cs0 j
theorem frM_r {kd wk cf ce cs : Nat → Int} : frM kd wk cf ce cs kd wk cf ce cs := ⟨fun _ _ => rfl, fun _ _ => rfl, fun _ _ => rfl, fun _ _ => rfl, fun _ _ => rfl⟩
section PM
variable {pr : PR} {nk nw : Nat} {kd tr wk cf ce cs : Nat → Int} {sz aw : Int}
theorem pm_k {a b c : Int} (hX : prM pr nk nw kd tr wk cf ce cs sz aw) : prM (pr.1 ++ [(a, b, c)], pr.2) (nk + 1) nw (lf_up (lf_up kd ((2 : Int) * (nk : Int)) a) (((2 : Int) * (nk : Int)) + (1 : Int)) b) (lf_up tr (nk : Int) c) wk cf ce cs sz aw := by
  obtain ⟨⟨i1, i2⟩, x1, x2⟩ := hX
  have el : (pr.1 ++ [(a, b, c)]).length = nk + 1 := by
    rw [List.length_append, i1]
    rfl
  refine ⟨⟨el, i2⟩, fun j hj => ?_, x2⟩
  show _ = ((pr.1 ++ [(a, b, c)]).getD j (0, 0, 0)).1 ∧ _ = ((pr.1 ++ [(a, b, c)]).getD j (0, 0, 0)).2.1 ∧ _ = ((pr.1 ++ [(a, b, c)]).getD j (0, 0, 0)).2.2
  rw [gd_ap, i1]
  by_cases q : j < nk
  · rw [if_pos q, lf_up_o (by omega), lf_up_o (by omega), lf_up_o (by omega), lf_up_o (by omega), lf_up_o (by omega)]
    exact x1 j q
  · have e : j = nk := by omega
    subst e
    rw [if_neg q, if_pos rfl, lf_up_o (by omega), lf_up_y (by omega), lf_up_y (by omega), lf_up_y (by omega)]
    exact ⟨rfl, rfl, rfl⟩
theorem pm_c {a b : Int} (hX : prM pr nk nw kd tr wk cf ce cs sz aw) : prM (pr.1, pr.2.1 ++ [(a, b)], pr.2.2) nk (nw + 1) kd tr (lf_up (lf_up wk ((2 : Int) * (nw : Int)) a) (((2 : Int) * (nw : Int)) + (1 : Int)) b) cf ce cs sz aw := by
  obtain ⟨⟨i1, i2⟩, x1, x2, x3⟩ := hX
  have el : (pr.2.1 ++ [(a, b)]).length = nw + 1 := by
    rw [List.length_append, i2]
    rfl
  refine ⟨⟨i1, el⟩, x1, fun w hw => ?_, x3⟩
  show _ = ((pr.2.1 ++ [(a, b)]).getD w (0, 0)).1 ∧ _ = ((pr.2.1 ++ [(a, b)]).getD w (0, 0)).2
  rw [gd_ap, i2]
  by_cases q : w < nw
  · rw [if_pos q, lf_up_o (by omega), lf_up_o (by omega), lf_up_o (by omega), lf_up_o (by omega)]
    exact x2 w q
  · have e : w = nw := by omega
    subst e
    rw [if_neg q, if_pos rfl, lf_up_o (by omega), lf_up_y (by omega), lf_up_y (by omega)]
    exact ⟨rfl, rfl⟩
theorem pm_5 {v : Int} (hX : prM pr nk nw kd tr wk cf ce cs sz aw) : prM (pr.1, pr.2.1, pr.2.2.1, pr.2.2.2.1, pr.2.2.2.2.1, v) nk nw kd tr wk cf ce cs sz v := by
  obtain ⟨x1, x2, x3, x4, x5, x6⟩ := hX
  exact ⟨x1, x2, x3, x4, rfl, x6⟩
theorem cdT_n {cs2 : Nat → Int} {L : List Int} {k : Nat} (hs : 0 ≤ sz) (hc : ∀ j, j < L.length → cs2 (sz.toNat + j) = L.getD j 0) : cdT (lf_up cf (k : Int) sz) (lf_up ce (k : Int) (sz + (L.length : Int))) cs2 (sz + (L.length : Int)) k (some L) := by
  refine ⟨sz.toNat, ?_, ?_, by omega, hc⟩
  · rw [lf_up_y (by omega)]
    omega
  · rw [lf_up_y (by omega)]
    omega
theorem pm_0 {cs2 : Nat → Int} {L : List Int} (hX : prM pr nk nw kd tr wk cf ce cs sz aw) (hc : ∀ j, j < L.length → cs2 (sz.toNat + j) = L.getD j 0) (hc2 : ∀ j, j < sz.toNat → cs2 j = cs j) : prM (pr.1, pr.2.1, some L, pr.2.2.2) nk nw kd tr wk (lf_up cf (0 : Int) sz) (lf_up ce (0 : Int) (sz + (L.length : Int))) cs2 (sz + (L.length : Int)) aw := by
  obtain ⟨x1, x2, x3, x4, x5, x6⟩ := hX
  exact ⟨x1, x2, x3, ⟨cdT_n (k := 0) x6 hc, cdT_w x4.2.1 (by omega) rfl rfl hc2, cdT_w x4.2.2 (by omega) rfl rfl hc2⟩, x5, by omega⟩
theorem pm_1 {cs2 : Nat → Int} {L : List Int} (hX : prM pr nk nw kd tr wk cf ce cs sz aw) (hc : ∀ j, j < L.length → cs2 (sz.toNat + j) = L.getD j 0) (hc2 : ∀ j, j < sz.toNat → cs2 j = cs j) : prM (pr.1, pr.2.1, pr.2.2.1, some L, pr.2.2.2.2) nk nw kd tr wk (lf_up cf (1 : Int) sz) (lf_up ce (1 : Int) (sz + (L.length : Int))) cs2 (sz + (L.length : Int)) aw := by
  obtain ⟨x1, x2, x3, x4, x5, x6⟩ := hX
  exact ⟨x1, x2, x3, ⟨cdT_w x4.1 (by omega) rfl rfl hc2, cdT_n (k := 1) x6 hc, cdT_w x4.2.2 (by omega) rfl rfl hc2⟩, x5, by omega⟩
theorem pm_2 {cs2 : Nat → Int} {L : List Int} (hX : prM pr nk nw kd tr wk cf ce cs sz aw) (hc : ∀ j, j < L.length → cs2 (sz.toNat + j) = L.getD j 0) (hc2 : ∀ j, j < sz.toNat → cs2 j = cs j) : prM (pr.1, pr.2.1, pr.2.2.1, pr.2.2.2.1, some L, pr.2.2.2.2.2) nk nw kd tr wk (lf_up cf (2 : Int) sz) (lf_up ce (2 : Int) (sz + (L.length : Int))) cs2 (sz + (L.length : Int)) aw := by
  obtain ⟨x1, x2, x3, x4, x5, x6⟩ := hX
  exact ⟨x1, x2, x3, ⟨cdT_w x4.1 (by omega) rfl rfl hc2, cdT_w x4.2.1 (by omega) rfl rfl hc2, cdT_n (k := 2) x6 hc⟩, x5, by omega⟩
end PM
def stP (kd0 wk0 cf0 ce0 cs0 : Nat → Int) (S : ST) (st : PL) (pr : PR) (O : Int × Int × Int × Int × Int × Int × Int × Int × Int × Int × Int × Int × Int × (Nat → Int) × (Nat → Int) × (Nat → Int) × (Nat → Int) × (Nat → Int) × (Nat → Int) × (Nat → Int) × (Nat → Int) × (Nat → Int) × (Nat → Int)) : Prop := frM kd0 wk0 cf0 ce0 cs0 O.2.2.2.2.2.2.2.2.2.2.2.2.2.2.2.2.2.2.2.2.2.1 O.2.2.2.2.2.2.2.2.2.2.2.2.2.2.2.2.2.2.2.2.1 O.2.2.2.2.2.2.2.2.2.2.2.2.2.1 O.2.2.2.2.2.2.2.2.2.2.2.2.2.2.2.2.1 O.2.2.2.2.2.2.2.2.2.2.2.2.2.2.2.2.2.1 ∧ ∀ q, S = .inr q → prM pr st.1.length st.2.1.length O.2.2.2.2.2.2.2.2.2.2.2.2.2.2.2.2.2.2.2.2.2.1 O.2.2.2.2.2.2.2.2.2.2.2.2.2.2.2.2.2.2.2.2.2.2 O.2.2.2.2.2.2.2.2.2.2.2.2.2.2.2.2.2.2.2.2.1 O.2.2.2.2.2.2.2.2.2.2.2.2.2.1 O.2.2.2.2.2.2.2.2.2.2.2.2.2.2.2.2.1 O.2.2.2.2.2.2.2.2.2.2.2.2.2.2.2.2.2.1 O.2.2.2.2.2.2.1 O.2.2.2.2.2.1
theorem stP_fin {g : Nat → Int} {n : Nat} {s : ST} {st : PL} {pr : PR} {k ya ye yb yp np aw cod0 x1 x2 x3 x4 x5 : Int} {kd0 wk0 cf0 ce0 cs0 cf a1 a2 a3 a4 M N wk kd tr : Nat → Int} (hF : frM kd0 wk0 cf0 ce0 cs0 kd wk cf a3 a4) (hok : ∀ q, s = .inr q → prM pr st.1.length st.2.1.length kd tr wk cf a3 a4 cod0 aw) : stP kd0 wk0 cf0 ce0 cs0 (sb s (sp_need g n 59)) st pr (lf_p (F_X10_asksSign_a0_59 ya (n : Int) yb yp g) (fun v172 t_v173 => (lf_p t_v173 (fun v173 v174 => (v172, ye, v173, v174, np, aw, cod0, (lf_o lf_iadd k (1 : Int)), x1, x2, x3, x4, x5, cf, a1, a2, a3, a4, M, N, wk, kd, tr))))) := by
  generalize F_X10_asksSign_a0_59 ya (n : Int) yb yp g = Z
  obtain ⟨z1, z2, z3⟩ := Z
  rw [lf_p_e, lf_p_e]
  refine ⟨hF, fun q e => ?_⟩
  obtain ⟨p0, e0, e1⟩ := sb_in e
  exact hok p0 e0
theorem st_2 {g M N kd tr wk cf ce cs qc qwt : Nat → Int} {n p : Nat} {xa xe np aw cod0 x1 x2 x3 x4 x5 k : Int} {Ks Ws : List (List Int)} {t0 t1 t2 : Bool} {c : CD} {pr : PR} {w1 w2 w3 w4 w5 w6 w7 w8 w9 w10 w11 w12 w13 w14 w15 w16 w17 w18 w19 w20 w21 w22 w23 w24 w25 w26 w27 w28 w29 w30 : Nat → Int} {vnot vand vor vall vmin vmax v1 v2 v3 v4 v5 v6 v7 v8 v9 v10 v11 v12 v13 : Nat → Int} (hn : n ≤ 1600) (hm : mw w1 w2 w3 w4 w5 w6 w7 w8 w9 w10 w11 w12 w13 w14 w15 w16 w17 w18 w19 w20 w21 w22 w23 w24 w25 w26 w27 w28 w29 w30) (hq : qw v1 v2 v3 v4 v5 v6 v7 v8 v9 v10 v11 v12 v13) (hnot : wa vnot W_not) (hand : wa vand W_and) (hor : wa vor W_or) (hall : wa vall W_all) (hmin : wa vmin W_min) (hmax : wa vmax W_max) (h : mp g n p xa xe) (hN : mnm M N Ks Ws) (hf : mtf cf t0 t1 t2) (hc : 0 ≤ cod0) (hcp : cod0 ≤ (p : Int)) (hk : 0 ≤ k ∧ k < 80) (hM9 : prM pr Ks.length Ws.length kd tr wk cf ce cs cod0 aw) : stP kd wk cf ce cs (sb (sp_st g n p (Ks, Ws, t0, t1, t2, c)).1 (sp_need g n 59)) (sp_st g n p (Ks, Ws, t0, t1, t2, c)).2 (sp_px g n p (Ks, Ws, t0, t1, t2, c) pr) (F_X10_statementTold (tx_a g n p : Int) (n : Int) xe (0 : Int) (-1 : Int) np aw cod0 k x1 x2 x3 x4 x5 g w1 w2 w3 w4 w5 w6 w7 w8 w9 w10 w11 w12 w13 w14 w15 w16 w17 w18 w19 w20 w21 w22 w23 w24 w25 w26 w27 w28 w29 w30 M N kd tr wk cf ce cs vnot vand vor vall vmin vmax v1 v2 v3 v4 v5 v6 v7 v8 v9 v10 v11 v12 v13 qc qwt) := by
  have h0 := mp_a h
  have hpn := h.1
  have ew : wl g n ws_0 p = wlf g n p [W_kind, W_comes, W_car, W_red, W_learns, W_away] 0 := (wlf_1 ws_0 0).symm
  have f5 : ∀ q, (.inl (5, (tx_a g n p : Int)) : ST) = .inr q → False := fun q r => by cases r
  have hv5 : sv n (.inl (5, (tx_a g n p : Int)) : ST) := sv_l (by decide)
  unfold F_X10_statementTold
  rw [if_neg (by omega)]
  rw [F_X10_takes_r4_1 hn (W := W_kind) rfl hm.2.2.2.2.1 h0]
  rw [wlf_c] at ew
  cases c0 : wh g n W_kind p with
  | true =>
    rw [c0, if_pos rfl] at ew
    have ew' : wl g n ws_0 p = 0 := ew
    have hk1 := (wh_k c0).1
    have hle := tx_e_le (f := g) hpn
    have hme := mp_tok hpn hk1 (Or.inl rfl)
    rw [if_pos rfl, lf_p_e, lf_p_e, if_neg (show ¬ (1 : Int) = 0 from by decide)]
    by_cases hl : Ks.length < 6
    · have es : sp_st g n p (Ks, Ws, t0, t1, t2, c) = ((sp_k3 g n Ks Ws p).2, (Ks ++ [wd g n (tx_e g n p)], Ws, t0, t1, t2, c)) := by
        unfold sp_st
        rw [ew', if_pos rfl]
        exact if_pos hl
      rw [es]
      have hkt := kt_2 (np := np) (bg := (tx_a g n p : Int)) (kd := kd) (tr := tr) hn hm hpn hme hN hl
      generalize F_X10_kindTold (tx_e g n p : Int) (n : Int) (tx_e g n p : Int) (0 : Int) (-1 : Int) np g w1 w2 w3 w4 w5 w6 w7 w8 w9 w10 w11 w12 w13 w14 w15 w16 w17 w18 w19 w20 w21 w22 w23 w24 w25 w26 w27 w28 w29 w30 M N kd tr (tx_a g n p : Int) = R at hkt ⊢
      obtain ⟨r1, r2, r3, r4, r5, r6, r7, r8, r9⟩ := R
      rw [lf_p_e, lf_p_e, lf_p_e, lf_p_e, lf_p_e, lf_p_e, lf_p_e, lf_p_e]
      refine stP_fin ⟨hkt.1, fun _ _ => rfl, fun _ _ => rfl, fun _ _ => rfl, fun _ _ => rfl⟩ (fun q e => ?_)
      obtain ⟨u1, u2⟩ := hkt.2 q e
      have u1 : r8 = _ := u1
      have u2 : r9 = _ := u2
      have ex : sp_px g n p (Ks, Ws, t0, t1, t2, c) pr = (pr.1 ++ [((sp_k1 g n Ks Ws p).1, (sp_k2 g n Ks Ws p).1, (sp_k3 g n Ks Ws p).1)], pr.2) := by
        unfold sp_px
        rw [ew']
        exact if_pos rfl
      rw [ex, u1, u2]
      show prM _ (Ks ++ [_]).length Ws.length _ _ _ _ _ _ _ _
      rw [List.length_append]
      exact pm_k hM9
    · have es : sp_st g n p (Ks, Ws, t0, t1, t2, c) = (.inl (5, (tx_a g n p : Int)), (Ks, Ws, t0, t1, t2, c)) := by
        unfold sp_st
        rw [ew', if_pos rfl]
        exact if_neg hl
      have hM : M 0 = 6 := by
        have a1 := hN.1
        have a2 := hN.2.2.2.2.2.2.1
        omega
      rw [es, kt_f hM, lf_p_e, lf_p_e, lf_p_e, lf_p_e, lf_p_e, lf_p_e, lf_p_e, lf_p_e]
      exact stP_fin frM_r (fun q e => (f5 q e).elim)
  | false =>
    rw [c0, if_neg (show ¬ false = true from fun r => Bool.noConfusion r)] at ew
    rw [if_neg (show ¬ false = true from fun r => Bool.noConfusion r), lf_p_e, lf_p_e, if_pos rfl]
    rw [F_X10_takes_r5_1 hn (W := W_comes) rfl hm.2.2.2.2.2.2.2.2.1 h0]
    rw [wlf_c] at ew
    cases c1 : wh g n W_comes p with
    | true =>
      rw [c1, if_pos rfl] at ew
      have ew' : wl g n ws_0 p = 1 := ew
      have hk1 := (wh_k c1).1
      have hle := tx_e_le (f := g) hpn
      have hme := mp_tok hpn hk1 (Or.inl rfl)
      rw [if_pos rfl, lf_p_e, lf_p_e, if_neg (show ¬ (1 : Int) = 0 from by decide)]
      by_cases hl : Ws.length < 12
      · have es : sp_st g n p (Ks, Ws, t0, t1, t2, c) = ((sp_c3 g n Ks Ws p).2, (Ks, Ws ++ [wd g n (tx_e g n p)], t0, t1, t2, c)) := by
          unfold sp_st
          rw [ew', if_neg (show ¬ (1 : Int) = 0 from by decide), if_pos rfl]
          exact if_pos hl
        rw [es]
        have hkt := wt_2 (np := np) (bg := (tx_a g n p : Int)) (wk := wk) hn hm hpn hme hN hl
        generalize F_X10_walkerTold (tx_e g n p : Int) (n : Int) (tx_e g n p : Int) (0 : Int) (-1 : Int) np g w1 w2 w3 w4 w5 w6 w7 w8 w9 w10 w11 w12 w13 w14 w15 w16 w17 w18 w19 w20 w21 w22 w23 w24 w25 w26 w27 w28 w29 w30 M N wk (tx_a g n p : Int) = R at hkt ⊢
        obtain ⟨r1, r2, r3, r4, r5, r6, r7, r8⟩ := R
        rw [lf_p_e, lf_p_e, lf_p_e, lf_p_e, lf_p_e, lf_p_e, lf_p_e]
        refine stP_fin ⟨fun _ _ => rfl, hkt.1, fun _ _ => rfl, fun _ _ => rfl, fun _ _ => rfl⟩ (fun q e => ?_)
        have u1 : r8 = _ := hkt.2 q e
        have ex : sp_px g n p (Ks, Ws, t0, t1, t2, c) pr = (pr.1, pr.2.1 ++ [((sp_c2 g n Ks Ws p).1, (sp_c3 g n Ks Ws p).1)], pr.2.2) := by
          unfold sp_px
          rw [ew', if_neg (show ¬ (1 : Int) = 0 from by decide)]
          exact if_pos rfl
        rw [ex, u1]
        show prM _ Ks.length (Ws ++ [_]).length _ _ _ _ _ _ _ _
        rw [List.length_append]
        exact pm_c hM9
      · have es : sp_st g n p (Ks, Ws, t0, t1, t2, c) = (.inl (5, (tx_a g n p : Int)), (Ks, Ws, t0, t1, t2, c)) := by
          unfold sp_st
          rw [ew', if_neg (show ¬ (1 : Int) = 0 from by decide), if_pos rfl]
          exact if_neg hl
        have hM : M 1 = 12 := by
          have a1 := hN.2.1
          have a2 := hN.2.2.2.2.2.2.2
          omega
        rw [es, wt_f hM, lf_p_e, lf_p_e, lf_p_e, lf_p_e, lf_p_e, lf_p_e, lf_p_e]
        exact stP_fin frM_r (fun q e => (f5 q e).elim)
    | false =>
      rw [c1, if_neg (show ¬ false = true from fun r => Bool.noConfusion r)] at ew
      rw [if_neg (show ¬ false = true from fun r => Bool.noConfusion r), lf_p_e, lf_p_e, if_pos rfl]
      rw [F_X10_takes_1 hn (W := W_car) rfl hm.2.2.2.2.2.2.2.2.2.2.2.1 h0]
      rw [wlf_c] at ew
      cases c2 : wh g n W_car p with
      | true =>
        rw [c2, if_pos rfl] at ew
        have ew' : wl g n ws_0 p = 2 := ew
        have hk1 := (wh_k c2).1
        have hle := tx_e_le (f := g) hpn
        have hme := mp_tok hpn hk1 (Or.inl rfl)
        rw [if_pos rfl, lf_p_e, lf_p_e, if_neg (show ¬ (1 : Int) = 0 from by decide)]
        cases ht : t0 with
        | true =>
          have hcf : ¬ cf 0 = -1 := hf.1.mp ht
          have es : sp_st g n p (Ks, Ws, t0, t1, t2, c) = (.inl (5, (tx_a g n p : Int)), (Ks, Ws, t0, t1, t2, c)) := by
            unfold sp_st
            rw [ew', if_neg (show ¬ (2 : Int) = 0 from by decide), if_neg (show ¬ (2 : Int) = 1 from by decide), if_pos rfl]
            exact if_pos ht
          rw [ht] at es
          rw [es, ct_0n hcf, lf_p_e, lf_p_e, lf_p_e, lf_p_e, lf_p_e, lf_p_e, lf_p_e, lf_p_e, lf_p_e, lf_p_e, lf_p_e, lf_p_e, lf_p_e, lf_p_e]
          exact stP_fin frM_r (fun q e => (f5 q e).elim)
        | false =>
          have hcf : cf 0 = -1 := Decidable.byContradiction (fun r => Bool.noConfusion (ht.symm.trans (hf.1.mpr r)))
          have es : sp_st g n p (Ks, Ws, t0, t1, t2, c) = ((cod g n 0 7 (tx_e g n p) c).1, (Ks, Ws, true, t1, t2, (cod g n 0 7 (tx_e g n p) c).2)) := by
            unfold sp_st
            rw [ew', if_neg (show ¬ (2 : Int) = 0 from by decide), if_neg (show ¬ (2 : Int) = 1 from by decide), if_pos rfl]
            exact if_neg (fun r => Bool.noConfusion (ht.symm.trans r))
          rw [ht] at es
          have ec : (cod g n 0 7 (tx_e g n p) c) = sTest g n 7 6 (tx_e g n p) c := if_neg (by decide)
          rw [es]
          have hct := kc_0 (cs := cs) (ce := ce) (qc := qc) (qwt := qwt) (x1 := x1) (x2 := x2) (x3 := x3) (x4 := x4) (x5 := x5) (bg := (tx_a g n p : Int)) hn hq hnot hand hor hall hmin hmax hme hc hcf (by have h8 : p < tx_e g n p := tx_e_gt' (by omega); omega)
          generalize F_X10_codesTold_a0_0 (tx_e g n p : Int) (n : Int) (tx_e g n p : Int) (0 : Int) (-1 : Int) cod0 x1 x2 x3 x4 x5 g cf ce cs vnot vand vor vall vmin vmax v1 v2 v3 v4 v5 v6 v7 v8 v9 v10 v11 v12 v13 qc qwt (tx_a g n p : Int) = R at hct ⊢
          obtain ⟨r1, r2, r3, r4, r5, r6, r7, r8, r9, r10, r11, r12, r13, r14, r15⟩ := R
          rw [lf_p_e, lf_p_e, lf_p_e, lf_p_e, lf_p_e, lf_p_e, lf_p_e, lf_p_e, lf_p_e, lf_p_e, lf_p_e, lf_p_e, lf_p_e, lf_p_e]
          refine stP_fin ⟨fun _ _ => rfl, fun _ _ => rfl, hct.1.1, hct.1.2.1, hct.1.2.2⟩ (fun q e => ?_)
          obtain ⟨L, m1⟩ := cod_L hle e
          obtain ⟨u1, u2, u3, u4, u5⟩ := hct.2 q L m1
          have u1 : r11 = lf_up cf (0 : Int) cod0 := u1
          have u2 : r14 = lf_up ce (0 : Int) (cod0 + (L.length : Int)) := u2
          have u3 : r5 = cod0 + (L.length : Int) := u3
          have e7 : lstM (codM g n 0 7 (tx_e g n p)) = L := by
            rw [m1]
            rfl
          have ex : sp_px g n p (Ks, Ws, false, t1, t2, c) pr = (pr.1, pr.2.1, some L, pr.2.2.2) := by
            unfold sp_px
            rw [ew', if_neg (show ¬ (2 : Int) = 0 from by decide), if_neg (show ¬ (2 : Int) = 1 from by decide), if_pos rfl, e7]
          rw [ex, u1, u2, u3]
          exact pm_0 hM9 u4 u5
      | false =>
        rw [c2, if_neg (show ¬ false = true from fun r => Bool.noConfusion r)] at ew
        rw [if_neg (show ¬ false = true from fun r => Bool.noConfusion r), lf_p_e, lf_p_e, if_pos rfl]
        rw [F_X10_takes_1 hn (W := W_red) rfl hm.2.2.2.2.2.2.2.2.2.2.2.2.1 h0]
        rw [wlf_c] at ew
        cases c3 : wh g n W_red p with
        | true =>
          rw [c3, if_pos rfl] at ew
          have ew' : wl g n ws_0 p = 3 := ew
          have hk1 := (wh_k c3).1
          have hle := tx_e_le (f := g) hpn
          have hme := mp_tok hpn hk1 (Or.inl rfl)
          rw [if_pos rfl, lf_p_e, lf_p_e, if_neg (show ¬ (1 : Int) = 0 from by decide)]
          cases ht : t1 with
          | true =>
            have hcf : ¬ cf 1 = -1 := hf.2.1.mp ht
            have es : sp_st g n p (Ks, Ws, t0, t1, t2, c) = (.inl (5, (tx_a g n p : Int)), (Ks, Ws, t0, t1, t2, c)) := by
              unfold sp_st
              rw [ew', if_neg (show ¬ (3 : Int) = 0 from by decide), if_neg (show ¬ (3 : Int) = 1 from by decide), if_neg (show ¬ (3 : Int) = 2 from by decide), if_pos rfl]
              exact if_pos ht
            rw [ht] at es
            rw [es, ct_1n hcf, lf_p_e, lf_p_e, lf_p_e, lf_p_e, lf_p_e, lf_p_e, lf_p_e, lf_p_e, lf_p_e, lf_p_e, lf_p_e, lf_p_e, lf_p_e, lf_p_e]
            exact stP_fin frM_r (fun q e => (f5 q e).elim)
          | false =>
            have hcf : cf 1 = -1 := Decidable.byContradiction (fun r => Bool.noConfusion (ht.symm.trans (hf.2.1.mpr r)))
            have es : sp_st g n p (Ks, Ws, t0, t1, t2, c) = ((cod g n 2 507 (tx_e g n p) c).1, (Ks, Ws, t0, true, t2, (cod g n 2 507 (tx_e g n p) c).2)) := by
              unfold sp_st
              rw [ew', if_neg (show ¬ (3 : Int) = 0 from by decide), if_neg (show ¬ (3 : Int) = 1 from by decide), if_neg (show ¬ (3 : Int) = 2 from by decide), if_pos rfl]
              exact if_neg (fun r => Bool.noConfusion (ht.symm.trans r))
            rw [ht] at es
            have ec : (cod g n 2 507 (tx_e g n p) c) = sTest g n 507 6 (tx_e g n p) c := if_neg (by decide)
            rw [es]
            have hct := kc_1 (cs := cs) (ce := ce) (qc := qc) (qwt := qwt) (x1 := x1) (x2 := x2) (x3 := x3) (x4 := x4) (x5 := x5) (bg := (tx_a g n p : Int)) hn hq hnot hand hor hall hmin hmax hme hc hcf (by have h8 : p < tx_e g n p := tx_e_gt' (by omega); omega)
            generalize F_X10_codesTold_a0_1 (tx_e g n p : Int) (n : Int) (tx_e g n p : Int) (0 : Int) (-1 : Int) cod0 x1 x2 x3 x4 x5 g cf ce cs vnot vand vor vall vmin vmax v1 v2 v3 v4 v5 v6 v7 v8 v9 v10 v11 v12 v13 qc qwt (tx_a g n p : Int) = R at hct ⊢
            obtain ⟨r1, r2, r3, r4, r5, r6, r7, r8, r9, r10, r11, r12, r13, r14, r15⟩ := R
            rw [lf_p_e, lf_p_e, lf_p_e, lf_p_e, lf_p_e, lf_p_e, lf_p_e, lf_p_e, lf_p_e, lf_p_e, lf_p_e, lf_p_e, lf_p_e, lf_p_e]
            refine stP_fin ⟨fun _ _ => rfl, fun _ _ => rfl, hct.1.1, hct.1.2.1, hct.1.2.2⟩ (fun q e => ?_)
            obtain ⟨L, m1⟩ := cod_L hle e
            obtain ⟨u1, u2, u3, u4, u5⟩ := hct.2 q L m1
            have u1 : r11 = lf_up cf (1 : Int) cod0 := u1
            have u2 : r14 = lf_up ce (1 : Int) (cod0 + (L.length : Int)) := u2
            have u3 : r5 = cod0 + (L.length : Int) := u3
            have e7 : lstM (codM g n 2 507 (tx_e g n p)) = L := by
              rw [m1]
              rfl
            have ex : sp_px g n p (Ks, Ws, t0, false, t2, c) pr = (pr.1, pr.2.1, pr.2.2.1, some L, pr.2.2.2.2) := by
              unfold sp_px
              rw [ew', if_neg (show ¬ (3 : Int) = 0 from by decide), if_neg (show ¬ (3 : Int) = 1 from by decide), if_neg (show ¬ (3 : Int) = 2 from by decide), if_pos rfl, e7]
            rw [ex, u1, u2, u3]
            exact pm_1 hM9 u4 u5
        | false =>
          rw [c3, if_neg (show ¬ false = true from fun r => Bool.noConfusion r)] at ew
          rw [if_neg (show ¬ false = true from fun r => Bool.noConfusion r), lf_p_e, lf_p_e, if_pos rfl]
          rw [F_X10_takes_r6_1 hn (W := W_learns) rfl hm.2.2.2.2.2.2.2.2.2.2.2.2.2.1 h0]
          rw [wlf_c] at ew
          cases c4 : wh g n W_learns p with
          | true =>
            rw [c4, if_pos rfl] at ew
            have ew' : wl g n ws_0 p = 4 := ew
            have hk1 := (wh_k c4).1
            have hle := tx_e_le (f := g) hpn
            have hme := mp_tok hpn hk1 (Or.inl rfl)
            rw [if_pos rfl, lf_p_e, lf_p_e, if_neg (show ¬ (1 : Int) = 0 from by decide)]
            cases ht : t2 with
            | true =>
              have hcf : ¬ cf 2 = -1 := hf.2.2.mp ht
              have es : sp_st g n p (Ks, Ws, t0, t1, t2, c) = (.inl (5, (tx_a g n p : Int)), (Ks, Ws, t0, t1, t2, c)) := by
                unfold sp_st
                rw [ew', if_neg (show ¬ (4 : Int) = 0 from by decide), if_neg (show ¬ (4 : Int) = 1 from by decide), if_neg (show ¬ (4 : Int) = 2 from by decide), if_neg (show ¬ (4 : Int) = 3 from by decide), if_pos rfl]
                exact if_pos ht
              rw [ht] at es
              rw [es, ct_2n hcf, lf_p_e, lf_p_e, lf_p_e, lf_p_e, lf_p_e, lf_p_e, lf_p_e, lf_p_e, lf_p_e, lf_p_e, lf_p_e, lf_p_e, lf_p_e, lf_p_e]
              exact stP_fin frM_r (fun q e => (f5 q e).elim)
            | false =>
              have hcf : cf 2 = -1 := Decidable.byContradiction (fun r => Bool.noConfusion (ht.symm.trans (hf.2.2.mpr r)))
              have es : sp_st g n p (Ks, Ws, t0, t1, t2, c) = ((cod g n 4 123 (tx_e g n p) c).1, (Ks, Ws, t0, t1, true, (cod g n 4 123 (tx_e g n p) c).2)) := by
                unfold sp_st
                rw [ew', if_neg (show ¬ (4 : Int) = 0 from by decide), if_neg (show ¬ (4 : Int) = 1 from by decide), if_neg (show ¬ (4 : Int) = 2 from by decide), if_neg (show ¬ (4 : Int) = 3 from by decide), if_pos rfl]
                exact if_neg (fun r => Bool.noConfusion (ht.symm.trans r))
              rw [ht] at es
              have ec : (cod g n 4 123 (tx_e g n p) c) = sSum g n 123 6 (tx_e g n p) c := if_pos rfl
              rw [es]
              have hct := kc_2 (cs := cs) (ce := ce) (qc := qc) (qwt := qwt) (x1 := x1) (x2 := x2) (x3 := x3) (x4 := x4) (x5 := x5) (bg := (tx_a g n p : Int)) hn hq hmin hmax hme hc hcf (by have h8 : p < tx_e g n p := tx_e_gt' (by omega); omega)
              generalize F_X10_codesTold_a0_2 (tx_e g n p : Int) (n : Int) (tx_e g n p : Int) (0 : Int) (-1 : Int) cod0 x1 x2 x3 x4 x5 g cf ce cs vmin vmax v1 v2 v3 v4 v5 v6 v7 v8 v9 v10 v11 v12 v13 qc qwt (tx_a g n p : Int) = R at hct ⊢
              obtain ⟨r1, r2, r3, r4, r5, r6, r7, r8, r9, r10, r11, r12, r13, r14, r15⟩ := R
              rw [lf_p_e, lf_p_e, lf_p_e, lf_p_e, lf_p_e, lf_p_e, lf_p_e, lf_p_e, lf_p_e, lf_p_e, lf_p_e, lf_p_e, lf_p_e, lf_p_e]
              refine stP_fin ⟨fun _ _ => rfl, fun _ _ => rfl, hct.1.1, hct.1.2.1, hct.1.2.2⟩ (fun q e => ?_)
              obtain ⟨L, m1⟩ := cod_L hle e
              obtain ⟨u1, u2, u3, u4, u5⟩ := hct.2 q L m1
              have u1 : r11 = lf_up cf (2 : Int) cod0 := u1
              have u2 : r14 = lf_up ce (2 : Int) (cod0 + (L.length : Int)) := u2
              have u3 : r5 = cod0 + (L.length : Int) := u3
              have e7 : lstM (codM g n 4 123 (tx_e g n p)) = L := by
                rw [m1]
                rfl
              have ex : sp_px g n p (Ks, Ws, t0, t1, false, c) pr = (pr.1, pr.2.1, pr.2.2.1, pr.2.2.2.1, some L, pr.2.2.2.2.2) := by
                unfold sp_px
                rw [ew', if_neg (show ¬ (4 : Int) = 0 from by decide), if_neg (show ¬ (4 : Int) = 1 from by decide), if_neg (show ¬ (4 : Int) = 2 from by decide), if_neg (show ¬ (4 : Int) = 3 from by decide), if_pos rfl, e7]
              rw [ex, u1, u2, u3]
              exact pm_2 hM9 u4 u5
          | false =>
            rw [c4, if_neg (show ¬ false = true from fun r => Bool.noConfusion r)] at ew
            rw [if_neg (show ¬ false = true from fun r => Bool.noConfusion r), lf_p_e, lf_p_e, if_pos rfl]
            have es1 : (sp_st g n p (Ks, Ws, t0, t1, t2, c)).1 = (sp_nb g n ws_1 0 100 p).2 ∧ (sp_st g n p (Ks, Ws, t0, t1, t2, c)).2 = (Ks, Ws, t0, t1, t2, c) ∧ ∀ q5, (sp_nb g n ws_1 0 100 p).2 = .inr q5 → sp_px g n p (Ks, Ws, t0, t1, t2, c) pr = (pr.1, pr.2.1, pr.2.2.1, pr.2.2.2.1, pr.2.2.2.2.1, (sp_nb g n ws_1 0 100 p).1) := by
              rw [wlf_c] at ew
              cases c5 : wh g n W_away p with
              | true =>
                rw [c5, if_pos rfl] at ew
                have ew' : wl g n ws_0 p = 5 := ew
                have es : sp_st g n p (Ks, Ws, t0, t1, t2, c) = ((sp_nb g n ws_1 0 100 p).2, (Ks, Ws, t0, t1, t2, c)) := by
                  unfold sp_st
                  rw [ew', if_neg (show ¬ (5 : Int) = 0 from by decide), if_neg (show ¬ (5 : Int) = 1 from by decide), if_neg (show ¬ (5 : Int) = 2 from by decide), if_neg (show ¬ (5 : Int) = 3 from by decide), if_neg (show ¬ (5 : Int) = 4 from by decide), if_pos rfl]
                rw [es]
                refine ⟨rfl, rfl, fun q5 r5 => ?_⟩
                unfold sp_px
                rw [ew', if_neg (show ¬ (5 : Int) = 0 from by decide), if_neg (show ¬ (5 : Int) = 1 from by decide), if_neg (show ¬ (5 : Int) = 2 from by decide), if_neg (show ¬ (5 : Int) = 3 from by decide), if_neg (show ¬ (5 : Int) = 4 from by decide)]
                exact if_pos rfl
              | false =>
                rw [c5, if_neg (show ¬ false = true from fun r => Bool.noConfusion r)] at ew
                have ew' : wl g n ws_0 p = -1 := ew
                have es : sp_st g n p (Ks, Ws, t0, t1, t2, c) = (.inl (1, (tx_a g n p : Int)), (Ks, Ws, t0, t1, t2, c)) := by
                  unfold sp_st
                  rw [ew', if_neg (show ¬ (-1 : Int) = 0 from by decide), if_neg (show ¬ (-1 : Int) = 1 from by decide), if_neg (show ¬ (-1 : Int) = 2 from by decide), if_neg (show ¬ (-1 : Int) = 3 from by decide), if_neg (show ¬ (-1 : Int) = 4 from by decide), if_neg (show ¬ (-1 : Int) = 5 from by decide)]
                rw [es]
                have e1 : sp_w g n ws_1 p = .inl (1, (tx_a g n p : Int)) := (sp_w1 W_away).trans (if_neg (fun r => Bool.noConfusion (c5.symm.trans r)))
                have e2 : (sp_nb g n ws_1 0 100 p).2 = .inl (1, (tx_a g n p : Int)) := by
                  unfold sp_nb
                  rw [e1]
                exact ⟨e2.symm, rfl, fun q5 r5 => by
                  rw [e2] at r5
                  cases r5⟩
            rw [es1.1, es1.2.1]
            have ha := F_X10_asks_r4_s (W := W_away) (s := .inr p) (xb := 0) (xp := -1) hn rfl hm.2.2.2.2.2.2.2.2.2.2.2.2.2.2.1 hpn ⟨rfl, rfl, h0⟩
            generalize F_X10_asks_r4 (tx_a g n p : Int) (n : Int) xe (0 : Int) (-1 : Int) g w15 = R at ha ⊢
            obtain ⟨r1, r2, r3, r4⟩ := R
            rw [lf_p_e, lf_p_e, lf_p_e, F_X10_number_a0_0_a1_100_g]
            have ha' : rm g n (sp_w g n ws_1 p) r1 r2 r3 r4 := ha
            have hb := gM_s hn (sp_w_v ws_1 hpn) ha' 0 100 0
            generalize gM r1 (n : Int) r2 r3 r4 g (0 : Int) (100 : Int) = R at hb ⊢
            obtain ⟨q1, q2, q3, q4, q5⟩ := R
            rw [lf_p_e, lf_p_e, lf_p_e, lf_p_e]
            refine stP_fin frM_r (fun q e => ?_)
            have hv9 : q1 = (sp_nb g n ws_1 0 100 p).1 := hb.2 q e
            rw [es1.2.2 q e, ← hv9]
            exact pm_5 hM9
end
section
/-! 8s -/
/-! crossing: what the model holds of a crossing that stands -/
def stQr (pr : PR) (nk nw : Nat) (kinds walkers cf ce codes now : Nat → Int) : Prop := (∀ j, j < nk → kinds (12 + 2 * j) = (pr.1.getD j (0, 0, 0)).1 ∧ kinds (13 + 2 * j) = (pr.1.getD j (0, 0, 0)).2.1 ∧ now (3 + j) = (pr.1.getD j (0, 0, 0)).2.2) ∧ (∀ w, w < nw → walkers (24 + 2 * w) = (pr.2.1.getD w (0, 0)).1 ∧ walkers (25 + 2 * w) = (pr.2.1.getD w (0, 0)).2) ∧ cdM cf ce codes 3 pr.2.2.1 ∧ cdM cf ce codes 4 pr.2.2.2.1 ∧ cdM cf ce codes 5 pr.2.2.2.2.1
theorem cpA_in {off n j : Nat} {A : Nat → Int} (h : j < n) : cpA off n 0 A (off + j) = A j := by
  unfold cpA
  rw [if_pos (by omega), show off + j - off = j from by omega]
theorem cpB_in {off n j : Nat} {T A : Nat → Int} (h : j < n) : cpB off n 0 T A (off + j) = T j := by
  unfold cpB
  rw [if_pos (by omega), show off + j - off = j from by omega]
theorem cpB_o {off n j : Nat} {T A : Nat → Int} (h : j < off) : cpB off n 0 T A j = A j := by
  unfold cpB
  rw [if_neg (by omega)]
theorem sd_n {tr now bar : Nat → Int} : cpB 3 6 0 tr (lf_up (lf_up (lf_up now (0 : Int) (0 : Int)) (1 : Int) (sdB bar 2)) (2 : Int) (sdB bar 1)) 0 = 0 ∧ cpB 3 6 0 tr (lf_up (lf_up (lf_up now (0 : Int) (0 : Int)) (1 : Int) (sdB bar 2)) (2 : Int) (sdB bar 1)) 1 = bar 2 ∧ cpB 3 6 0 tr (lf_up (lf_up (lf_up now (0 : Int) (0 : Int)) (1 : Int) (sdB bar 2)) (2 : Int) (sdB bar 1)) 2 = bar 1 := by
  refine ⟨?_, ?_, ?_⟩
  · rw [cpB_o (by decide)]
    rfl
  · rw [cpB_o (by decide)]
    rfl
  · rw [cpB_o (by decide)]
    rfl
theorem cdT_Q {cf ce cs : Nat → Int} {sz : Int} {k : Nat} {o : Option (List Int)} (hk : k < 3) (hs : sz ≤ 1600) (h : cdT cf ce cs sz k o) : cdM (sdC cf) (sdC ce) (cpA 1600 sz.toNat 0 cs) (3 + k) o := by
  have hC : ∀ A : Nat → Int, sdC A (3 + k) = A k := by
    intro A
    unfold sdC
    have : k = 0 ∨ k = 1 ∨ k = 2 := by omega
    rcases this with r | r | r <;> subst r <;> rfl
  cases o with
  | none =>
    show sdC cf (3 + k) = -1
    rw [hC]
    exact h
  | some L =>
    obtain ⟨i, a1, a2, a3, a4⟩ := h
    refine ⟨i, by rw [hC, a1], by rw [hC, a2], by omega, fun j hj => ?_⟩
    rw [cpA_in (by omega)]
    exact a4 j hj
theorem st_Q {pr : PR} {nk nw : Nat} {kd tr wk cf ce cs X : Nat → Int} {sz aw : Int} (h : prM pr nk nw kd tr wk cf ce cs sz aw) (hk : nk ≤ 6) (hw : nw ≤ 12) (hs : sz ≤ 1600) : stQr pr nk nw (cpA 12 12 0 kd) (cpA 24 24 0 wk) (sdC cf) (sdC ce) (cpA 1600 sz.toNat 0 cs) (cpB 3 6 0 tr X) := by
  obtain ⟨x1, x2, x3, ⟨y1, y2, y3⟩, x5, x6⟩ := h
  refine ⟨fun j hj => ?_, fun w hw' => ?_, cdT_Q (k := 0) (by decide) hs y1, cdT_Q (k := 1) (by decide) hs y2, cdT_Q (k := 2) (by decide) hs y3⟩
  · rw [cpA_in (by omega), show 13 + 2 * j = 12 + (2 * j + 1) from by omega, cpA_in (by omega), cpB_in (by omega)]
    exact x2 j hj
  · rw [cpA_in (by omega), show 25 + 2 * w = 24 + (2 * w + 1) from by omega, cpA_in (by omega)]
    exact x3 w hw'
abbrev CO : Type := Int × Int × Int × Int × Int × Int × Int × Int × Int × Int × Int × Int × Int × Int × Int × Int × Int × Int × Int × Int × (Nat → Int) × (Nat → Int) × (Nat → Int) × (Nat → Int) × (Nat → Int) × (Nat → Int) × (Nat → Int) × (Nat → Int) × (Nat → Int) × (Nat → Int) × (Nat → Int) × (Nat → Int) × (Nat → Int)
def tellQ (kd0 wk0 cf0 ce0 cs0 now0 bar : Nat → Int) (aw0 rm0 und0 : Int) (O : CO) (r : Sum (Int × Int) (Nat × PL)) (pr : PR) : Prop := match r with
  | .inl _ => frM kd0 wk0 cf0 ce0 cs0 O.2.2.2.2.2.2.2.2.2.2.2.2.2.2.2.2.2.2.2.2.2.2.2.2.2.2.1 O.2.2.2.2.2.2.2.2.2.2.2.2.2.2.2.2.2.2.2.2.2.2.2.2.2.1 O.2.2.2.2.2.2.2.2.2.2.2.2.2.2.2.2.2.2.2.2.2.1 O.2.2.2.2.2.2.2.2.2.2.2.2.2.2.2.2.2.2.2.2.2.2.2.2.2.2.2.1 O.2.2.2.2.2.2.2.2.2.2.2.2.2.2.2.2.2.2.2.2.2.2.2.2.2.2.2.2.2.1 ∧ O.2.2.2.2.2.2.2.2.2.2.2.2.2.2.2.2.2.2.2.2.2.2.2.2.2.2.2.2.1 = now0 ∧ O.2.2.2.2.2.2.2.2.2.1 = aw0 ∧ O.2.2.2.2.2.2.2.2.2.2.2.2.2.2.1 = rm0 ∧ O.2.2.2.2.2.2.2.2.2.2.2.2.2.2.2.1 = und0
  | .inr x => stQr pr x.2.1.length x.2.2.1.length O.2.2.2.2.2.2.2.2.2.2.2.2.2.2.2.2.2.2.2.2.2.2.2.2.2.2.1 O.2.2.2.2.2.2.2.2.2.2.2.2.2.2.2.2.2.2.2.2.2.2.2.2.2.1 O.2.2.2.2.2.2.2.2.2.2.2.2.2.2.2.2.2.2.2.2.2.1 O.2.2.2.2.2.2.2.2.2.2.2.2.2.2.2.2.2.2.2.2.2.2.2.2.2.2.2.1 O.2.2.2.2.2.2.2.2.2.2.2.2.2.2.2.2.2.2.2.2.2.2.2.2.2.2.2.2.2.1 O.2.2.2.2.2.2.2.2.2.2.2.2.2.2.2.2.2.2.2.2.2.2.2.2.2.2.2.2.1 ∧ O.2.2.2.2.2.2.2.2.2.1 = pr.2.2.2.2.2 ∧ O.2.2.2.2.2.2.2.2.2.2.2.2.2.2.1 = 0 ∧ O.2.2.2.2.2.2.2.2.2.2.2.2.2.2.2.1 = 0 ∧ O.2.2.2.2.2.2.2.2.2.2.2.2.2.2.2.2.2.2.2.2.2.2.2.2.2.2.2.2.1 0 = 0 ∧ O.2.2.2.2.2.2.2.2.2.2.2.2.2.2.2.2.2.2.2.2.2.2.2.2.2.2.2.2.1 1 = bar 2 ∧ O.2.2.2.2.2.2.2.2.2.2.2.2.2.2.2.2.2.2.2.2.2.2.2.2.2.2.2.2.1 2 = bar 1
theorem mq_loop {g refu now kd0 wk0 cf0 ce0 cs0 bar : Nat → Int} {n : Nat} {aw0 isc rm0 und : Int} {w1 w2 w3 w4 w5 w6 w7 w8 w9 w10 w11 w12 w13 w14 w15 w16 w17 w18 w19 w20 w21 w22 w23 w24 w25 w26 w27 w28 w29 w30 vnot vand vor vall vmin vmax v1 v2 v3 v4 v5 v6 v7 v8 v9 v10 v11 v12 v13 : Nat → Int} (hn : n ≤ 1600) (hg : ∀ k, k < n → 0 ≤ g k) (hm : mw w1 w2 w3 w4 w5 w6 w7 w8 w9 w10 w11 w12 w13 w14 w15 w16 w17 w18 w19 w20 w21 w22 w23 w24 w25 w26 w27 w28 w29 w30) (hq : qw v1 v2 v3 v4 v5 v6 v7 v8 v9 v10 v11 v12 v13) (hnot : wa vnot W_not) (hand : wa vand W_and) (hor : wa vor W_or) (hall : wa vall W_all) (hmin : wa vmin W_min) (hmax : wa vmax W_max) : ∀ (f f2 k p : Nat) (Ks Ws : List (List Int)) (t0 t1 t2 : Bool) (c : CD) (pr : PR) (xa xe np aw cod0 x1 x2 x3 x4 x5 : Int) (M cf N wk kd ce cs tr qwt qc : Nat → Int), mp g n p xa xe → mnm M N Ks Ws → mtf cf t0 t1 t2 → 0 ≤ cod0 → cod0 ≤ (p : Int) → frM kd0 wk0 cf0 ce0 cs0 kd wk cf ce cs → prM pr Ks.length Ws.length kd tr wk cf ce cs cod0 aw → k ≤ 80 → 81 ≤ k + f → 82 ≤ k + f2 → tellQ kd0 wk0 cf0 ce0 cs0 now bar aw0 rm0 und (F_X10_crossing_86 (n : Int) aw0 isc rm0 und g refu w1 w2 w3 w4 w5 w6 w7 w8 w9 w10 w11 w12 w13 w14 w15 w16 w17 w18 w19 w20 w21 w22 w23 w24 w25 w26 w27 w28 w29 w30 now vnot vand vor vall vmin vmax v1 v2 v3 v4 v5 v6 v7 v8 v9 v10 v11 v12 v13 f2 xa xe (0 : Int) (-1 : Int) M cf bar np aw cod0 (k : Int) x1 x2 x3 x4 x5 N wk kd ce cs tr qwt qc) (rcL g n f k p (Ks, Ws, t0, t1, t2, c)) (rcP g n f k p (Ks, Ws, t0, t1, t2, c) pr) := by
  intro f
  induction f with
  | zero => intro f2 k p Ks Ws t0 t1 t2 c pr xa xe np aw cod0 x1 x2 x3 x4 x5 M cf N wk kd ce cs tr qwt qc h hN hf hc hcp hM hNn h1 h2; omega
  | succ f ih =>
    intro f2 k p Ks Ws t0 t1 t2 c pr xa xe np aw cod0 x1 x2 x3 x4 x5 M cf N wk kd ce cs tr qwt qc h hN hf hc hcp hM hNn h1 h2 h3
    obtain ⟨f2, rfl⟩ : ∃ j, f2 = j + 2 := ⟨f2 - 2, by omega⟩
    have hpn := h.1
    have hM0 := hN.1
    have hM1 := hN.2.1
    have hKl := hN.2.2.2.2.2.2.1
    have hWl := hN.2.2.2.2.2.2.2
    show tellQ kd0 wk0 cf0 ce0 cs0 now bar aw0 rm0 und (F_X10_crossing_86b (n : Int) aw0 isc rm0 und g refu w1 w2 w3 w4 w5 w6 w7 w8 w9 w10 w11 w12 w13 w14 w15 w16 w17 w18 w19 w20 w21 w22 w23 w24 w25 w26 w27 w28 w29 w30 now vnot vand vor vall vmin vmax v1 v2 v3 v4 v5 v6 v7 v8 v9 v10 v11 v12 v13 (F_X10_crossing_86 (n : Int) aw0 isc rm0 und g refu w1 w2 w3 w4 w5 w6 w7 w8 w9 w10 w11 w12 w13 w14 w15 w16 w17 w18 w19 w20 w21 w22 w23 w24 w25 w26 w27 w28 w29 w30 now vnot vand vor vall vmin vmax v1 v2 v3 v4 v5 v6 v7 v8 v9 v10 v11 v12 v13 (f2 + 1)) xa xe (0 : Int) (-1 : Int) M cf bar np aw cod0 (k : Int) x1 x2 x3 x4 x5 N wk kd ce cs tr qwt qc) _ _
    have flt : ∀ (pr9 : PR) (q : Int × Int) (ya ye yb yp np aw cod0 kk x1 x2 x3 x4 x5 : Int) (M cf N wk kd ce cs tr qwt qc : Nat → Int), ¬ q.1 = 0 → yb = q.1 → yp = q.2 → frM kd0 wk0 cf0 ce0 cs0 kd wk cf ce cs → tellQ kd0 wk0 cf0 ce0 cs0 now bar aw0 rm0 und (F_X10_crossing_86 (n : Int) aw0 isc rm0 und g refu w1 w2 w3 w4 w5 w6 w7 w8 w9 w10 w11 w12 w13 w14 w15 w16 w17 w18 w19 w20 w21 w22 w23 w24 w25 w26 w27 w28 w29 w30 now vnot vand vor vall vmin vmax v1 v2 v3 v4 v5 v6 v7 v8 v9 v10 v11 v12 v13 (f2 + 1) ya ye yb yp M cf bar np aw cod0 kk x1 x2 x3 x4 x5 N wk kd ce cs tr qwt qc) (.inl q) pr9 := by
      intro pr9 q ya ye yb yp np aw cod0 kk x1 x2 x3 x4 x5 M cf N wk kd ce cs tr qwt qc h1 h2 h3 h4
      show tellQ kd0 wk0 cf0 ce0 cs0 now bar aw0 rm0 und (F_X10_crossing_86b (n : Int) aw0 isc rm0 und g refu w1 w2 w3 w4 w5 w6 w7 w8 w9 w10 w11 w12 w13 w14 w15 w16 w17 w18 w19 w20 w21 w22 w23 w24 w25 w26 w27 w28 w29 w30 now vnot vand vor vall vmin vmax v1 v2 v3 v4 v5 v6 v7 v8 v9 v10 v11 v12 v13 _ ya ye yb yp M cf bar np aw cod0 kk x1 x2 x3 x4 x5 N wk kd ce cs tr qwt qc) _ _
      unfold F_X10_crossing_86b
      rw [if_neg (show ¬ yb = 0 from fun r => h1 (h2.symm.trans r))]
      exact ⟨h4, rfl, rfl, rfl, rfl⟩
    unfold F_X10_crossing_86b rcL rcP
    rw [if_pos rfl, ml_look hn h, lf_p_e]
    by_cases q : tx_k g n p = 0
    · rw [if_pos ((lk_end hpn hg).mpr q), if_pos q, if_pos q, sd_1 hc (by omega)]
      rw [lf_p_e, lf_p_e, lf_p_e, lf_p_e, lf_p_e, lf_p_e, lf_p_e, lf_p_e]
      exact ⟨st_Q hNn hKl hWl (by omega), hNn.2.2.2.2.1, rfl, rfl, (sd_n (tr := tr) (now := now) (bar := bar)).1, (sd_n (tr := tr) (now := now) (bar := bar)).2.1, (sd_n (tr := tr) (now := now) (bar := bar)).2.2⟩
    · rw [if_neg (fun r => q ((lk_end hpn hg).mp r)), if_neg q, if_neg q]
      by_cases q8 : 80 ≤ k
      · have hk8 : (k : Int) = 80 := by omega
        unfold F_X10_statementTold
        rw [if_pos q8, if_pos q8, if_pos hk8, lf_p_e, lf_p_e, lf_p_e, lf_p_e, lf_p_e, lf_p_e, lf_p_e, lf_p_e, lf_p_e, lf_p_e, lf_p_e, lf_p_e, lf_p_e, lf_p_e, lf_p_e, lf_p_e, lf_p_e, lf_p_e, lf_p_e, lf_p_e, lf_p_e, lf_p_e]
        exact flt _ (5, (tx_a g n p : Int)) _ _ _ _ _ _ _ _ _ _ _ _ _ _ _ _ _ _ _ _ _ _ _ (show ¬ (5 : Int) = 0 from by decide) rfl rfl hM
      · rw [if_neg q8, if_neg q8]
        have hst := st_1 (M := M) (N := N) (kd := kd) (tr := tr) (wk := wk) (cf := cf) (ce := ce) (cs := cs) (qc := qc) (qwt := qwt) (np := np) (aw := aw) (cod0 := cod0) (x1 := x1) (x2 := x2) (x3 := x3) (x4 := x4) (x5 := x5) (k := (k : Int)) (c := c) hn hm hq hnot hand hor hall hmin hmax h hN hf hc hcp (by omega)
        have hfr := st_2 (M := M) (N := N) (kd := kd) (tr := tr) (wk := wk) (cf := cf) (ce := ce) (cs := cs) (qc := qc) (qwt := qwt) (np := np) (aw := aw) (cod0 := cod0) (x1 := x1) (x2 := x2) (x3 := x3) (x4 := x4) (x5 := x5) (k := (k : Int)) (c := c) (pr := pr) hn hm hq hnot hand hor hall hmin hmax h hN hf hc hcp (by omega) hNn
        have hsv : sv n (sb (sp_st g n p (Ks, Ws, t0, t1, t2, c)).1 (sp_need g n 59)) := sp_st_sv hpn
        generalize F_X10_statementTold (tx_a g n p : Int) (n : Int) xe (0 : Int) (-1 : Int) np aw cod0 (k : Int) x1 x2 x3 x4 x5 g w1 w2 w3 w4 w5 w6 w7 w8 w9 w10 w11 w12 w13 w14 w15 w16 w17 w18 w19 w20 w21 w22 w23 w24 w25 w26 w27 w28 w29 w30 M N kd tr wk cf ce cs vnot vand vor vall vmin vmax v1 v2 v3 v4 v5 v6 v7 v8 v9 v10 v11 v12 v13 qc qwt = R at hst hfr ⊢
        obtain ⟨r1, r2, r3, r4, r5, r6, r7, r8, r9, r10, r11, r12, r13, r14, r15, r16, r17, r18, r19, r20, r21, r22, r23⟩ := R
        rw [lf_p_e, lf_p_e, lf_p_e, lf_p_e, lf_p_e, lf_p_e, lf_p_e, lf_p_e, lf_p_e, lf_p_e, lf_p_e, lf_p_e, lf_p_e, lf_p_e, lf_p_e, lf_p_e, lf_p_e, lf_p_e, lf_p_e, lf_p_e, lf_p_e, lf_p_e]
        obtain ⟨hr, hok⟩ := hst
        obtain ⟨⟨g1, g2, g3, g4, g5⟩, hpm⟩ := hfr
        obtain ⟨z1, z2, z3, z4, z5⟩ := hM
        have hM' : frM kd0 wk0 cf0 ce0 cs0 r22 r21 r14 r17 r18 := ⟨fun j hj => (g1 j hj).trans (z1 j hj), fun j hj => (g2 j hj).trans (z2 j hj), fun j hj => (g3 j hj).trans (z3 j hj), fun j hj => (g4 j hj).trans (z4 j hj), fun j hj => (g5 j hj).trans (z5 j hj)⟩
        cases e : sb (sp_st g n p (Ks, Ws, t0, t1, t2, c)).1 (sp_need g n 59) with
        | inl z =>
          rw [e] at hr hsv
          exact flt _ z _ _ _ _ _ _ _ _ _ _ _ _ _ _ _ _ _ _ _ _ _ _ _ hsv hr.1 hr.2 hM'
        | inr p2 =>
          rw [e] at hr
          obtain ⟨a1, a2, a3, a4, a5⟩ := hok p2 e
          have a1' : r8 = (k : Int) + 1 := a1
          obtain ⟨b1, b2, b3⟩ := hr
          have b1' : r3 = 0 := b1
          have b2' : r4 = -1 := b2
          subst b1'
          subst b2'
          subst a1'
          have hpm9 := hpm p2 e
          show tellQ kd0 wk0 cf0 ce0 cs0 now bar aw0 rm0 und _ (rcL g n f (k + 1) p2 (sp_st g n p (Ks, Ws, t0, t1, t2, c)).2) (rcP g n f (k + 1) p2 (sp_st g n p (Ks, Ws, t0, t1, t2, c)).2 (sp_px g n p (Ks, Ws, t0, t1, t2, c) pr))
          generalize sp_px g n p (Ks, Ws, t0, t1, t2, c) pr = pr2 at hpm9 ⊢
          generalize sp_st g n p (Ks, Ws, t0, t1, t2, c) = Y at a2 a3 hpm9 ⊢
          obtain ⟨Y0, K2, W2, u0, u1, u2, c2⟩ := Y
          have ek : ((k : Int) + 1) = ((k + 1 : Nat) : Int) := rfl
          rw [ek]
          exact ih (f2 + 1) (k + 1) p2 K2 W2 u0 u1 u2 c2 pr2 _ _ _ _ _ _ _ _ _ _ _ _ _ _ _ _ _ _ _ _ b3 a2 a3 a4 a5 hM' hpm9 (by omega) (by omega) (by omega)
theorem mq_1 {g refu now M cf bar N wk kd ce cs tr qwt qc cd : Nat → Int} {n : Nat} {np aw0 isc rm0 und x1 x2 x3 x4 x5 : Int} {w1 w2 w3 w4 w5 w6 w7 w8 w9 w10 w11 w12 w13 w14 w15 w16 w17 w18 w19 w20 w21 w22 w23 w24 w25 w26 w27 w28 w29 w30 vnot vand vor vall vmin vmax v1 v2 v3 v4 v5 v6 v7 v8 v9 v10 v11 v12 v13 : Nat → Int} (hn : n ≤ 1600) (hg : ∀ k, k < n → 0 ≤ g k) (hm : mw w1 w2 w3 w4 w5 w6 w7 w8 w9 w10 w11 w12 w13 w14 w15 w16 w17 w18 w19 w20 w21 w22 w23 w24 w25 w26 w27 w28 w29 w30) (hq : qw v1 v2 v3 v4 v5 v6 v7 v8 v9 v10 v11 v12 v13) (hnot : wa vnot W_not) (hand : wa vand W_and) (hor : wa vor W_or) (hall : wa vall W_all) (hmin : wa vmin W_min) (hmax : wa vmax W_max) : ∃ bar1, (∀ j, 4 ≤ j → bar1 j = bar j) ∧ (∀ x, rcT g n cd = .inr x → bar1 0 = (sp_1a g n (.inr 0)).1 ∧ bar1 1 = (sp_1b g n (.inr 0)).1 ∧ bar1 2 = (sp_1c g n (.inr 0)).1 ∧ bar1 3 = (sp_1d g n (.inr 0)).1) ∧ tellQ kd wk cf ce cs now bar1 aw0 rm0 und (F_X10_crossing (n : Int) np aw0 isc x1 rm0 und x2 x3 x4 x5 g refu w1 w2 w3 w4 w5 w6 w7 w8 w9 w10 w11 w12 w13 w14 w15 w16 w17 w18 w19 w20 w21 w22 w23 w24 w25 w26 w27 w28 w29 w30 M N bar kd tr wk cf ce cs now vnot vand vor vall vmin vmax v1 v2 v3 v4 v5 v6 v7 v8 v9 v10 v11 v12 v13 qc qwt) (rcT g n cd) (rpT g n cd) := by
  unfold F_X10_crossing
  have h0 : mp g n 0 (0 : Int) (-1 : Int) := ⟨Nat.zero_le _, ⟨0, rfl, Nat.le_refl _, Nat.zero_le _, rfl⟩, (by decide), ⟨fun r => absurd r (by decide), fun r => absurd rfl r.1⟩⟩
  have hb := bt_s (bar := bar) (s := .inr 0) (xb := 0) (xp := -1) hn hm (Nat.zero_le n) ⟨rfl, rfl, h0⟩
  have hbf := bt_fr (g := g) (bar := bar) (w1 := w1) (w2 := w2) (w3 := w3) (w4 := w4) (xa := (0 : Int)) (n := (n : Int)) (xe := (-1 : Int)) (xb := (0 : Int)) (xp := (-1 : Int))
  have hsv : sv n (sb (sp_1d g n (.inr 0)).2 (sp_need g n 59)) := sv_sb (sp_1d_v (Nat.zero_le n)) (fun _ hp => sp_need_v _ hp)
  have hM2 : ∀ j, 2 ≤ j → lf_up (lf_up M (0 : Int) (0 : Int)) (1 : Int) (0 : Int) j = M j := fun j hj => (lf_up_o (by omega)).trans (lf_up_o (by omega))
  unfold rcT rpT
  generalize F_X10_barTold (0 : Int) (n : Int) (-1 : Int) (0 : Int) (-1 : Int) g w1 w2 w3 w4 bar = R at hb hbf ⊢
  obtain ⟨r1, r2, r3, r4, r5⟩ := R
  rw [lf_p_e, lf_p_e, lf_p_e, lf_p_e]
  obtain ⟨hr, hbar⟩ := hb
  refine ⟨r5, hbf, ?_⟩
  cases e : sb (sp_1d g n (.inr 0)).2 (sp_need g n 59) with
  | inl z =>
    rw [e] at hr hsv
    refine ⟨fun x r => (by cases r), ?_⟩
    show tellQ kd wk cf ce cs now r5 aw0 rm0 und (F_X10_crossing_86b (n : Int) aw0 isc rm0 und g refu w1 w2 w3 w4 w5 w6 w7 w8 w9 w10 w11 w12 w13 w14 w15 w16 w17 w18 w19 w20 w21 w22 w23 w24 w25 w26 w27 w28 w29 w30 now vnot vand vor vall vmin vmax v1 v2 v3 v4 v5 v6 v7 v8 v9 v10 v11 v12 v13 _ r1 r2 r3 r4 _ _ _ _ _ _ _ _ _ _ _ _ _ _ _ _ _ _ _ _) (.inl z) _
    unfold F_X10_crossing_86b
    rw [if_neg (show ¬ r3 = 0 from fun r => hsv (hr.1.symm.trans r))]
    exact ⟨⟨fun _ _ => rfl, fun _ _ => rfl, fun j hj => (lf_up_o (by omega)).trans ((lf_up_o (by omega)).trans (lf_up_o (by omega))), fun _ _ => rfl, fun _ _ => rfl⟩, rfl, rfl, rfl, rfl⟩
  | inr p =>
    rw [e] at hr
    refine ⟨fun x r => hbar p e, ?_⟩
    obtain ⟨b1, b2, b3⟩ := hr
    have b1' : r3 = 0 := b1
    have b2' : r4 = -1 := b2
    subst b1'
    subst b2'
    exact mq_loop hn hg hm hq hnot hand hor hall hmin hmax 81 3203 1 p [] [] false false false (0, cd) pr0 _ _ _ _ _ _ _ _ _ _ _ _ _ _ _ _ _ _ _ _ b3 mnm_0 mtf_s (Int.le_refl _) (by omega) ⟨fun _ _ => rfl, fun _ _ => rfl, fun j hj => (lf_up_o (by omega)).trans ((lf_up_o (by omega)).trans (lf_up_o (by omega))), fun _ _ => rfl, fun _ _ => rfl⟩ ⟨⟨rfl, rfl⟩, fun j hj => absurd hj (Nat.not_lt_zero j), fun j hj => absurd hj (Nat.not_lt_zero j), ⟨rfl, rfl, rfl⟩, rfl, Int.le_refl 0⟩ (by decide) (by decide) (by decide)
end
section
/-! 8t -/
/-! a crossing that stands, on both sides: one plan -/
theorem mem_gd : ∀ (L : List Int) (c : Int), c ∈ L → ∃ j, j < L.length ∧ L.getD j 0 = c
  | [], c, h => by cases h
  | a :: L, c, h => by
    rcases List.mem_cons.mp h with r | r
    · exact ⟨0, Nat.zero_lt_succ _, r.symm⟩
    · obtain ⟨j, h1, h2⟩ := mem_gd L c r
      exact ⟨j + 1, Nat.succ_lt_succ h1, h2⟩
theorem us_run {code spans : Nat → Int} : ∀ (f : Nat) (l : Int), spans 3 - l < (f : Int) → 0 ≤ l → F_X4_uses_7 code spans (2 : Int) (-9 : Int) f l = 0 → ∀ j : Nat, l ≤ (j : Int) → (j : Int) < spans 3 → ¬ code j = -9 := by
  intro f
  induction f with
  | zero => intro l h1 h0 _ j h2 h3; omega
  | succ f ih =>
    intro l h1 h0 h j h2 h3
    have e : F_X4_uses_7b code spans (2 : Int) (-9 : Int) (F_X4_uses_7 code spans (2 : Int) (-9 : Int) f) l = 0 := h
    unfold F_X4_uses_7b at e
    have e3 : spans (Int.toNat ((2 : Int) + (1 : Int))) = spans 3 := rfl
    rw [e3] at e
    by_cases q : spans 3 ≤ l
    · omega
    · rw [if_neg q] at e
      by_cases q2 : code (Int.toNat l) = -9
      · rw [if_pos q2] at e
        exact absurd e (by decide)
      · rw [if_neg q2] at e
        by_cases q3 : (j : Int) = l
        · have : l.toNat = j := by omega
          rw [this] at q2
          exact q2
        · exact ih (l + 1) (by omega) (by omega) e j (by omega) h3
theorem us_x {code spans : Nat → Int} {o : Option (List Int)} (h : cdX code spans 2 o) (hu : F_X4_uses code spans (2 : Int) (-9 : Int) = 0) : no48 o := by
  cases o with
  | none => exact True.intro
  | some L =>
    obtain ⟨i, h1, h2, h3, h4⟩ := h
    intro c hc r
    obtain ⟨j, hj, e⟩ := mem_gd L c hc
    have hu' : F_X4_uses_7 code spans (2 : Int) (-9 : Int) 1602 (spans 2) = 0 := hu
    have := us_run 1602 (spans 2) (by rw [show spans 3 = (i : Int) + (L.length : Int) from h2, h1]; omega) (by rw [h1]; omega) hu' (i + j) (by rw [h1]; omega) (by rw [show spans 3 = (i : Int) + (L.length : Int) from h2]; omega)
    rw [h4 j hj, e, r] at this
    exact this (by decide)
def tellY (O : Int × Nat × Nat × Int × Int × Int × Int × Int × Int × Int × Int × Int × Int × Int × Int × Int × Int × Int × Int × (Nat → Int) × (Nat → Int) × (Nat → Int) × (Nat → Int) × (Nat → Int) × (Nat → Int) × (Nat → Int) × (Nat → Int) × (Nat → Int) × Int × Int × Int × (Nat → Int) × Int × Int × Int × Nat × Int × Int × Int × Int × (Nat → Int)) (x1 x2 x3 : Int) (t : Nat → Int) (x4 : Int) (x6 x7 x8 x9 x10 : Int) (x11 : Int) (r : Sum (Int × Int) (Nat × PL)) (pr : PR) : Prop := match r with
  | .inl _ => O.2.2.2.2.2.2.2.2.2.2.2.2.2.2.2.2.2.2.2.2.2.2.2.2.2.2.2.2.1 = x1 ∧ O.2.2.2.2.2.2.2.2.2.2.2.2.2.2.2.2.2.2.2.2.2.2.2.2.2.2.2.2.2.1 = x2 ∧ O.2.2.2.2.2.2.2.2.2.2.2.2.2.2.2.2.2.2.2.2.2.2.2.2.2.2.2.2.2.2.1 = x3 ∧ O.2.2.2.2.2.2.2.2.2.2.2.2.2.2.2.2.2.2.2.2.2.2.2.2.2.2.2.2.2.2.2.1 = t ∧ O.2.2.2.2.2.2.2.2.2.2.2.2.2.2.2.2.2.2.2.2.2.2.2.2.2.2.2.2.2.2.2.2.1 = x4 ∧ O.2.2.2.2.2.2.2.2.2.2.2.2.2.2.2.2.2.2.2.2.2.2.2.2.2.2.2.2.2.2.2.2.2.1 = x10 ∧ O.2.2.2.2.2.2.2.2.2.2.2.2.2.2.2.2.2.2.2.2.2.2.2.2.2.2.2.2.2.2.2.2.2.2.1 = x11 ∧ O.2.2.2.2.2.2.2.2.2.2.2.2.2.2.2.2.2.2.2.2.2.2.2.2.2.2.2.2.2.2.2.2.2.2.2.2.1 = x6 ∧ O.2.2.2.2.2.2.2.2.2.2.2.2.2.2.2.2.2.2.2.2.2.2.2.2.2.2.2.2.2.2.2.2.2.2.2.2.2.1 = x7 ∧ O.2.2.2.2.2.2.2.2.2.2.2.2.2.2.2.2.2.2.2.2.2.2.2.2.2.2.2.2.2.2.2.2.2.2.2.2.2.2.1 = x8 ∧ O.2.2.2.2.2.2.2.2.2.2.2.2.2.2.2.2.2.2.2.2.2.2.2.2.2.2.2.2.2.2.2.2.2.2.2.2.2.2.2.1 = x9
  | .inr x => prI pr x.2.1.length x.2.2.1.length ∧ prX pr O.2.2.2.2.2.2.2.2.2.2.2.2.2.2.2.2.2.2.2.1 O.2.2.2.2.2.2.2.2.2.2.2.2.2.2.2.2.2.2.2.2.1 O.2.2.2.2.2.2.2.2.2.2.2.2.2.2.2.2.2.2.2.2.2.2.1 O.2.2.2.2.2.2.2.2.2.2.2.2.2.2.2.2.2.2.2.2.2.2.2.1 O.2.2.2.2.2.2.2.2.2.2.2.2.2.2.2.2.2.2.2.2.2.2.2.2.1 O.2.2.2.2.2.2.2.2.2.2.2.2.2.2.2.2.2.2.2.2.2.2.2.2.2.1 O.2.2.2.2.2.2.2.2.2.2.2.2.2.2.2.2.2.2.2.2.2.2.2.2.2.2.1 O.2.2.2.2.2.2.2.2.2.2.2.2.2.2.2.2.2.2.2.2.2.2.2.2.2.2.2.1 O.2.2.2.2.2.2.2.2.2.2.2.2.2.2.2.2.2.2.1 O.2.2.2.2.2.2.2.2.2.2.2.2.2.2.1 ∧ O.2.2.2.2.2.2.2.2.2.2.2.2.2.2.2.2.2.2.1 ≤ 1600 ∧ O.2.2.2.2.2.2.2.2.2.2.2.2.2.2.2.2.2.2.2.2.2.2.2.2.2.2.2.2.1 = 0 ∧ O.2.2.2.2.2.2.2.2.2.2.2.2.2.2.2.2.2.2.2.2.2.2.2.2.2.2.2.2.2.1 = O.2.2.2.2.2.2.2.2.2.2.2.2.1 ∧ O.2.2.2.2.2.2.2.2.2.2.2.2.2.2.2.2.2.2.2.2.2.2.2.2.2.2.2.2.2.2.1 = O.2.2.2.2.2.2.2.2.2.2.2.1 ∧ (∀ k, k < 6 → O.2.2.2.2.2.2.2.2.2.2.2.2.2.2.2.2.2.2.2.2.2.2.2.2.2.2.2.2.2.2.2.1 k = O.2.2.2.2.2.2.2.2.2.2.2.2.2.2.2.2.2.2.2.2.2.2.2.2.1 k) ∧ (O.2.2.2.2.2.2.2.2.2.2.2.2.2.2.2.2.2.2.2.2.2.2.2.2.2.2.2.2.2.2.2.2.2.2.2.2.2.1 = 0 → no48 pr.2.2.2.1) ∧ O.2.2.2.2.2.2.2.2.2.2.2.2.2.2.2.2.2.2.2.2.2.2.2.2.2.2.2.2.2.2.2.2.2.2.2.2.1 = -1 ∧ O.2.2.2.2.2.2.2.2.2.2.2.2.2.2.2.2.2.2.2.2.2.2.2.2.2.2.2.2.2.2.2.2.1 = 0 ∧ O.2.2.2.2.2.2.2.2.2.2.2.2.2.2.2.2.2.2.2.2.2.2.2.2.2.2.2.2.2.2.2.2.2.1 = 0 ∧ O.2.2.2.2.2.2.2.2.2.2.2.2.2.2.2.2.2.2.2.2.2.2.2.2.2.2.2.2.2.2.2.2.2.2.1 = 0 ∧ O.2.2.2.2.2.2.2.2.2.2.2.2.2.2.2.2.2.2.2.2.2.2.2.2.2.2.2.2.2.2.2.2.2.2.2.2.2.2.1 = 0 ∧ O.2.2.2.2.2.2.2.2.2.2.2.2.2.2.2.2.2.2.2.2.2.2.2.2.2.2.2.2.2.2.2.2.2.2.2.2.2.2.2.1 = 0
theorem cx6 {g calm pace trusts kindOf comesAt comers names code spans t rf : Nat → Int} {s x1 x2 x3 x4 al x5 x6 x7 x8 x9 x10 : Int} {pl sp : Nat} (h0 : 0 ≤ s) (h1 : s ≤ 1600) : tellY (F_X9_crossing g s pl sp calm pace trusts kindOf comesAt comers names code spans x1 x2 x3 t x4 al x5 x6 x7 x8 x9 x10 rf) x1 x2 x3 t x4 x5 x6 x7 x8 x9 x10 (rcT g s.toNat code) (rpT g s.toNat code) := by
  obtain ⟨n, rfl⟩ := Int.eq_ofNat_of_zero_le h0
  have hn : n ≤ 1600 := by omega
  rw [Int.toNat_natCast]
  have h := cl_rc (g := g) (calm := calm) (pace := pace) (trusts := trusts) (kindOf := kindOf) (comesAt := comesAt) (comers := comers) (names := names) (code := code) (spans := spans) (al := al) hn
  have hp := cl_rp (g := g) (calm := calm) (pace := pace) (trusts := trusts) (kindOf := kindOf) (comesAt := comesAt) (comers := comers) (names := names) (code := code) (spans := spans) (al := al) hn
  have hv := fun q => rcT_v (g := g) (cd := code) (n := n) q
  unfold F_X9_crossing F_X9_takeTape
  rw [lf_b_e]
  generalize F_X5_readCrossing g al calm pace trusts kindOf comesAt comers names code spans (n : Int) = R at h hp ⊢
  obtain ⟨r1, r2, r3, r4, r5, r6, r7, r8, r9, r10, r11, r12, r13, r14, r15, r16, r17, r18, r19, r20, r21, r22, r23, r24, r25⟩ := R
  rw [lf_p_e, lf_p_e, lf_p_e, lf_p_e, lf_p_e, lf_p_e, lf_p_e, lf_p_e, lf_p_e, lf_p_e, lf_p_e, lf_p_e, lf_p_e, lf_p_e, lf_p_e, lf_p_e, lf_p_e, lf_p_e, lf_p_e, lf_p_e, lf_p_e, lf_p_e, lf_p_e, lf_p_e]
  generalize rpT g n code = pr at hp ⊢
  cases e : rcT g n code with
  | inl q =>
    rw [e] at h
    have h6 : r6 = q.1 := h.1
    rw [if_neg (show ¬ r6 = 0 from fun z => hv q e (h6.symm.trans z))]
    unfold F_X9_refuse
    rw [lf_p_e]
    exact ⟨rfl, rfl, rfl, rfl, rfl, rfl, rfl, rfl, rfl, rfl, rfl⟩
  | inr x =>
    rw [e] at h hp
    obtain ⟨a1, a2, a3, a4, a5, a6, a7, a8, a9, a10⟩ := h
    have h6 : r6 = 0 := a1
    obtain ⟨hI, hX, hs⟩ := hp
    have hs' : r16 ≤ 1600 := hs
    rw [if_pos h6, lf_b_e, lf_b_e]
    refine ⟨hI, hX, hs, rfl, rfl, rfl, fun k hk => ?_, fun hu => ?_, rfl, rfl, rfl, rfl, rfl, rfl⟩
    · show F_X6_begin t r22 k = r22 k
      unfold F_X6_begin lf_cpy
      rw [if_pos (show (0 : Int).toNat ≤ k ∧ k < (0 : Int).toNat + (6 : Int).toNat from ⟨Nat.zero_le _, by omega⟩)]
      show r22 ((0 : Nat) + (k - 0)) = r22 k
      rw [Nat.zero_add, Nat.sub_zero]
    · exact us_x (cdS_X hX.2.2.2.1.2.1 hs') hu
/-- one plan on both sides -/
theorem pl_tie {pr : PR} {nk nw : Nat} {comers spans calm pace trusts kindOf comesAt code many bar kinds walkers cf ce codes now : Nat → Int} {size away cy ls ar : Int} (hI : prI pr nk nw) (hX : prX pr comers spans calm pace trusts kindOf comesAt code size away) (hs : size ≤ 1600) (hQ : stQr pr nk nw kinds walkers cf ce codes now) (har : ar = 0 → no48 pr.2.2.2.1) (hcy : 10 ≤ cy ∧ cy ≤ 120) (h3 : many 3 = (nw : Int)) (h2 : many 2 = (nk : Int)) (hb4 : bar 4 = cy) (hb7 : bar 7 = ls) : plH nw nk cy ls pr.2.2.1 pr.2.2.2.1 kindOf comesAt calm pace comers code spans ar ∧ pmH nw nk cy ls pr.2.2.1 pr.2.2.2.1 pr.2.2.2.2.1 kindOf comesAt calm pace many bar kinds walkers cf ce codes ∧ (cdX code spans 4 pr.2.2.2.2.1 ∧ cdG false 123 pr.2.2.2.2.1) ∧ (∀ k, k < nk → now (3 + k) = trusts k ∧ 0 ≤ trusts k ∧ trusts k ≤ 9) := by
  obtain ⟨⟨i1, i2, i3, i4⟩, i5, i6, ⟨g1, g2, g3⟩, i8⟩ := hI
  obtain ⟨x1, x2, x3, ⟨c1, c2, c3⟩, x5, x6⟩ := hX
  obtain ⟨q1, q2, q3, q4, q5⟩ := hQ
  have hk : ∀ w, w < nw → kindOf w = (pr.2.1.getD w (0, 0)).1 ∧ comesAt w = (pr.2.1.getD w (0, 0)).2 := fun w hw => x2 w (by omega)
  have ht : ∀ j, j < nk → calm j = (pr.1.getD j (0, 0, 0)).1 ∧ pace j = (pr.1.getD j (0, 0, 0)).2.1 ∧ trusts j = (pr.1.getD j (0, 0, 0)).2.2 := fun j hj => x1 j (by omega)
  rw [i2] at x3
  refine ⟨⟨i4, i3, hcy, fun w hw => ?_, fun k hk2 => ?_, fun s => ⟨(x3 s).1, fun w hw => ?_⟩, ⟨cdS_X c1 hs, g1⟩, ⟨cdS_X c2 hs, g2⟩, har⟩, ⟨h3, h2, hb4, hb7, fun w hw => ?_, fun k hk2 => ?_, q3, q4, q5⟩, ⟨cdS_X c3 hs, g3⟩, fun k hk2 => ?_⟩
  · rw [(hk w hw).1, (hk w hw).2]
    exact i6 w hw
  · rw [(ht k hk2).1, (ht k hk2).2.1]
    exact ⟨(i5 k hk2).1, (i5 k hk2).2.1⟩
  · rw [(x3 s).2 w hw]
    by_cases q : w < nw
    · rw [(hk w q).2]
    · rw [decide_eq_false q, Bool.false_and, Bool.false_and]
  · rw [(hk w hw).1, (hk w hw).2]
    exact q2 w hw
  · rw [(ht k hk2).1, (ht k hk2).2.1]
    exact ⟨(q1 k hk2).1, (q1 k hk2).2.1⟩
  · rw [(ht k hk2).2.2]
    exact ⟨(q1 k hk2).2.2, (i5 k hk2).2.2⟩
end
section
/-! 8u -/
/-! the model's DAY of today, and the DAY that is lived -/
def ndH (nK : Nat) (d ru gr : Int) (tr now : Nat → Int) : Prop := now 0 = d ∧ now 1 = ru ∧ now 2 = gr ∧ ∀ k, k < nK → now (3 + k) = tr k ∧ 0 ≤ tr k ∧ tr k ≤ 9
theorem gM2_0 {oC oR : Option (List Int)} {cy : Int} {nW : Nat} {kO cA clmK pcK : Nat → Int} {d : Int} {tr : Nat → Int} : gM2 oC oR cy nW kO cA clmK pcK d tr 0 = gR oC oR cy nW kO cA clmK pcK d tr := by
  funext w s r
  show (!bt 0 w && gR oC oR cy nW kO cA clmK pcK d tr w s r) = _
  rw [bt_0]
  rfl
theorem wkM_0 {oC oR : Option (List Int)} {nW : Nat} {cy ls : Int} {kO cA clmK pcK : Nat → Int} {d : Int} {tr : Nat → Int} {ru gr A : Int} : wkM oC oR nW cy ls kO cA clmK pcK d tr ru gr A 0 300 = weS oC oR nW cy ls kO cA clmK pcK d tr ru gr A := by
  unfold wkM weS
  rw [gM2_0]
section DN
variable {nW nK : Nat} {cy ls d ru gr ar : Int} {oC oR oL : Option (List Int)} {kO cA clmK pcK comers code spans many bar kinds walkers cf ce codes now tr : Nat → Int}
theorem md_of {gaps : Nat → Int} (hP : plH nW nK cy ls oC oR kO cA clmK pcK comers code spans ar) (hM : pmH nW nK cy ls oC oR oL kO cA clmK pcK many bar kinds walkers cf ce codes) (hd : 0 ≤ d ∧ d ≤ 999) (hn : ndH nK d ru gr tr now) (hg : ∀ s, s < 300 → gaps s = gpS oC d cy s) : mdH nW nK cy ls d oC oR oL kO cA clmK pcK many bar kinds walkers cf ce codes now gaps tr := ⟨hM, hP.1, hP.2.1, hP.2.2.1, hP.2.2.2.1, hP.2.2.2.2.1, hP.2.2.2.2.2.2.1.2, hP.2.2.2.2.2.2.2.1.2, hd, hn.1, hn.2.2.2, hg⟩
/-- a DAY that is laid by cars and walked -/
def dnO (nW : Nat) (cy ls : Int) (oC oR : Option (List Int)) (kO cA clmK pcK : Nat → Int) (d : Int) (tr : Nat → Int) (ru gr A H : Int) (isCar gaps isH cr wt go hm pr2 ci isG : Nat → Int) : Prop := dF nW cA (twf nW kO tr) (abf A) cy ls ru gr (wkM oC oR nW cy ls kO cA clmK pcK d tr ru gr A H 300) isH cr wt go hm pr2 ci isG ∧ (∀ j, j < 320 → isCar j = b2 (decide (carV oC d cy j = 1))) ∧ ∀ j, j < 300 → gaps j = gpS oC d cy j
theorem dn_x {tk ask red sg qp : Int} {isCar gaps isG isH cr wt go hm pr2 ci pile : Nat → Int} (hP : plH nW nK cy ls oC oR kO cA clmK pcK comers code spans ar) (hM : pmH nW nK cy ls oC oR oL kO cA clmK pcK many bar kinds walkers cf ce codes) (hd : 0 ≤ d ∧ d ≤ 999) (hn : ndH nK d ru gr tr now) (hg0 : 1 ≤ gr) (hg1 : gr ≤ 60) (hr : 0 ≤ ru ∧ ru ≤ 2) : ∃ v16 v17 v18 v19 v20 v21 v22 v23 v24 f33 f27 f7 f28 f29 f8 f25 f26 f30 f31 f32, F_X10_dayNow tk ask red sg qp many bar kinds walkers cf ce codes now isCar gaps isG isH cr wt go hm pr2 ci pile = (v16, v17, v18, v19, v20, v21, v22, v23, v24, f33, f27, f7, f28, f29, f8, f25, f26, f30, f31, f32) ∧ dnO nW cy ls oC oR kO cA clmK pcK d tr ru gr 0 0 f8 f7 f25 f26 f27 f28 f29 f30 f31 f32 := by
  obtain ⟨t, q, r, p, g, i, e1, e2, e3⟩ := mc_x (tk := tk) (ask := ask) (red := red) (qp := qp) (kinds := kinds) (walkers := walkers) (isCar := isCar) (gaps := gaps) (waits := wt) (goes := go) (harms := hm) (pile := pile) hd (by have := hP.2.2.1; omega) hP.2.2.1.2 hM.2.2.1 hn.1 hM.2.2.2.2.2.2.1 hP.2.2.2.2.2.2.1.2
  unfold F_X10_dayNow
  rw [e1, lf_p_e, lf_p_e, lf_p_e, lf_p_e, lf_p_e, show now (Int.toNat (1 : Int)) = ru from hn.2.1, show now (Int.toNat (2 : Int)) = gr from hn.2.2.1]
  obtain ⟨b1, b2', b3, b4, b5, b6, b7, b11, b16, e70, e71, e72, e73, e74, e55, e58, e59, e117, e, h⟩ := day_x (tk := t) (ask := q) (sg := sg) (qp := r) (isG := isG) (isH := isH) (cr := cr) (wt := wt) (go := go) (hm := hm) (pr2 := pr2) (ci := ci) (pile := p) (A := 0) (H := 0) (md_of hP hM hd hn e3) rg_0 rg_0 hg0 hg1 hr
  rw [e, lf_p_e, lf_p_e, lf_p_e, lf_p_e, lf_p_e, lf_p_e, lf_p_e, lf_p_e, lf_p_e, lf_p_e, lf_p_e, lf_p_e, lf_p_e, lf_p_e, lf_p_e, lf_p_e, lf_p_e]
  exact ⟨_, _, _, _, _, _, _, _, _, _, _, _, _, _, _, _, _, _, _, _, rfl, h, e2, e3⟩
end DN
end
section
/-! 8v -/
/-! what acts keep, on both sides -/
def rXi (next : Int) (i : Nat) : Nat := ((next + 39 - (i : Int)) % 20).toNat
def mXi (newest : Int) (i : Nat) : Nat := ((newest + 40 - (i : Int)) % 20).toNat
/-- bounds of what acts change -/
def stB (nK : Nat) (d ru gr : Int) (tr : Nat → Int) : Prop := (0 ≤ d ∧ d ≤ 999) ∧ (0 ≤ ru ∧ ru ≤ 2) ∧ (1 ≤ gr ∧ gr ≤ 60) ∧ ∀ k, k < nK → 0 ≤ tr k ∧ tr k ≤ 9
def hsH (nK : Nat) (next count : Int) (rD rR rG : Nat → Int) (rF : Nat → Nat → Int) (newest und : Int) (kept : Nat → Int) : Prop := ((0 ≤ next ∧ next ≤ 19) ∧ (0 ≤ newest ∧ newest ≤ 19) ∧ count = und ∧ (0 ≤ count ∧ count ≤ 20)) ∧ ∀ i : Nat, (i : Int) < count → stB nK (rD (rXi next i)) (rR (rXi next i)) (rG (rXi next i)) (rF (rXi next i)) ∧ ndH nK (rD (rXi next i)) (rR (rXi next i)) (rG (rXi next i)) (rF (rXi next i)) (fun j => kept (9 * mXi newest i + j))
theorem hs_0 {nK nK2 : Nat} {next count : Int} {rD rR rG : Nat → Int} {rF : Nat → Nat → Int} {newest und : Int} {kept : Nat → Int} (h : hsH nK next count rD rR rG rF newest und kept) : hsH nK2 next 0 rD rR rG rF newest 0 kept := ⟨⟨h.1.1, h.1.2.1, rfl, by decide, by decide⟩, fun i hi => absurd hi (by omega)⟩
theorem cpy_6 {F G : Nat → Int} {k : Nat} (h : k < 6) : lf_cpy F G 0 0 6 k = F k := by
  unfold lf_cpy
  rw [if_pos (show (0 : Int).toNat ≤ k ∧ k < (0 : Int).toNat + (6 : Int).toNat from ⟨Nat.zero_le _, h⟩)]
  show F (0 + (k - 0)) = F k
  rw [Nat.zero_add, Nat.sub_zero]
theorem kp_run {und nw : Int} {now : Nat → Int} (h0 : 0 ≤ und ∧ und ≤ 20) (hn : 0 ≤ nw) : ∀ (f l : Nat) (a2 : Nat → Int), l ≤ 9 → 9 - l < f → ∃ K, F_X10_keeps_15 und now f nw (l : Int) a2 = (min (und + 1) 20, nw, K) ∧ (∀ j, l ≤ j → j < 9 → K (9 * nw.toNat + j) = now j) ∧ ∀ i, i < 9 * nw.toNat + l ∨ 9 * nw.toNat + 9 ≤ i → K i = a2 i := by
  intro f
  induction f with
  | zero => intro l a2 h1 h2; omega
  | succ f ih =>
    intro l a2 h1 h2
    have e0 : F_X10_keeps_15 und now (f + 1) nw (l : Int) a2 = F_X10_keeps_15b und now (F_X10_keeps_15 und now f) nw (l : Int) a2 := rfl
    rw [e0]
    unfold F_X10_keeps_15b
    by_cases q : l = 9
    · rw [if_pos (by omega)]
      refine ⟨a2, ?_, fun j h3 h4 => absurd h4 (by omega), fun _ _ => rfl⟩
      by_cases q2 : (20 : Int) ≤ und
      · rw [if_pos q2, show min (und + 1) 20 = und from by omega]
      · rw [if_neg q2, show min (und + 1) 20 = und + 1 from by omega]
    · rw [if_neg (by omega), Int.toNat_natCast]
      obtain ⟨K, e, e1, e2⟩ := ih (l + 1) (lf_up a2 (((9 : Int) * nw) + (l : Int)) (now l)) (by omega) (by omega)
      refine ⟨K, e, fun j h3 h4 => ?_, fun i hi => ?_⟩
      · by_cases q3 : j = l
        · rw [q3, e2 _ (by omega), lf_up_y (by omega)]
        · exact e1 j (by omega) h4
      · rw [e2 i (by omega), lf_up_o (by omega)]
theorem kp_m {und nw : Int} {now kept : Nat → Int} (h0 : 0 ≤ und ∧ und ≤ 20) (hn : 0 ≤ nw ∧ nw ≤ 19) : ∃ K, F_X10_keeps und nw now kept = (min (und + 1) 20, (nw + 1) % 20, K) ∧ (∀ j, j < 9 → K (9 * ((nw + 1) % 20).toNat + j) = now j) ∧ ∀ i, i < 9 * ((nw + 1) % 20).toNat ∨ 9 * ((nw + 1) % 20).toNat + 9 ≤ i → K i = kept i := by
  unfold F_X10_keeps
  rw [lo_rem (by omega) (by omega) (by decide) (by decide)]
  obtain ⟨K, e, e1, e2⟩ := kp_run (now := now) h0 (show 0 ≤ (nw + 1) % 20 from by omega) 11 0 kept (by decide) (by decide)
  exact ⟨K, e, fun j hj => e1 j (Nat.zero_le _) hj, fun i hi => e2 i (by omega)⟩
/-- an act is kept on both sides -/
theorem hs_keep {nK : Nat} {next count newest und d ru gr : Int} {rD rR rG tr now kept tX : Nat → Int} {rF : Nat → Nat → Int} (hk : nK ≤ 6) (h : hsH nK next count rD rR rG rF newest und kept) (hB : stB nK d ru gr tr) (hn : ndH nK d ru gr tr now) (hX : ∀ k, k < nK → tX k = tr k) : ∃ n2 c2 D2 R2 G2 F2 u2 w2 K2, F_X9_act d ru gr tX rD rR rG rF next count = (n2, c2, D2, R2, G2, F2) ∧ F_X10_keeps und newest now kept = (u2, w2, K2) ∧ hsH nK n2 c2 D2 R2 G2 F2 w2 u2 K2 := by
  obtain ⟨⟨⟨a1, a2⟩, ⟨a3, a4⟩, a5, a6, a7⟩, hR⟩ := h
  obtain ⟨K, e, e1, e2⟩ := kp_m (now := now) (kept := kept) (und := und) (nw := newest) ⟨by omega, by omega⟩ ⟨a3, a4⟩
  unfold F_X9_act F_X2_keep F_X6_copy
  rw [lf_b_e, lf_p_e, lf_p_e, lf_p_e, lf_p_e, lf_p_e, lo_rem (by omega) (by omega) (by decide) (by decide), e]
  refine ⟨_, _, _, _, _, _, _, _, K, rfl, rfl, ⟨⟨by omega, by omega⟩, ⟨by omega, by omega⟩, by omega, by omega, by omega⟩, fun i hi => ?_⟩
  have key : ∀ i : Nat, rXi ((next + 1) % 20) i = if i = 0 then next.toNat else if i < 20 then rXi next (i - 1) else rXi ((next + 1) % 20) i := by
    intro i
    unfold rXi
    by_cases q : i = 0
    · rw [if_pos q]
      omega
    · rw [if_neg q]
      by_cases q2 : i < 20
      · rw [if_pos q2]
        omega
      · rw [if_neg q2]
  have key2 : ∀ i : Nat, i < 20 → mXi ((newest + 1) % 20) i = if i = 0 then ((newest + 1) % 20).toNat else mXi newest (i - 1) := by
    intro i hi
    unfold mXi
    by_cases q : i = 0
    · rw [if_pos q]
      omega
    · rw [if_neg q]
      omega
  have hi20 : i < 20 := by omega
  rw [key i, key2 i hi20]
  by_cases q : i = 0
  · rw [if_pos q, if_pos q]
    have eF : ∀ k, k < nK → lf_upR rF next (lf_cpy tX (rF (Int.toNat next)) (0 : Int) (0 : Int) (6 : Int)) next.toNat k = tr k := by
      intro k hk2
      show (if next.toNat = next.toNat then lf_cpy tX (rF (Int.toNat next)) (0 : Int) (0 : Int) (6 : Int) else rF next.toNat) k = tr k
      rw [if_pos rfl, cpy_6 (by omega)]
      exact hX k hk2
    rw [lf_up_y rfl, lf_up_y rfl, lf_up_y rfl]
    refine ⟨⟨hB.1, hB.2.1, hB.2.2.1, fun k hk2 => ?_⟩, ?_, ?_, ?_, fun k hk2 => ?_⟩
    · rw [eF k hk2]
      exact hB.2.2.2 k hk2
    · show K (9 * ((newest + 1) % 20).toNat + 0) = d
      rw [e1 0 (by decide)]
      exact hn.1
    · show K (9 * ((newest + 1) % 20).toNat + 1) = ru
      rw [e1 1 (by decide)]
      exact hn.2.1
    · show K (9 * ((newest + 1) % 20).toNat + 2) = gr
      rw [e1 2 (by decide)]
      exact hn.2.2.1
    · rw [eF k hk2]
      show K (9 * ((newest + 1) % 20).toNat + (3 + k)) = tr k ∧ _
      rw [e1 (3 + k) (by omega)]
      exact hn.2.2.2 k hk2
  · rw [if_neg q, if_pos hi20, if_neg q]
    have hr := hR (i - 1) (by omega)
    have ne1 : ¬ rXi next (i - 1) = next.toNat := by
      unfold rXi
      omega
    have eF : lf_upR rF next (lf_cpy tX (rF (Int.toNat next)) (0 : Int) (0 : Int) (6 : Int)) (rXi next (i - 1)) = rF (rXi next (i - 1)) := if_neg ne1
    rw [lf_up_o ne1, lf_up_o ne1, lf_up_o ne1, eF]
    have eK : ∀ j, j < 9 → K (9 * mXi newest (i - 1) + j) = kept (9 * mXi newest (i - 1) + j) := by
      intro j hj
      refine e2 _ ?_
      have : ¬ mXi newest (i - 1) = ((newest + 1) % 20).toNat := by
        unfold mXi
        omega
      omega
    obtain ⟨b1, b2', b3, b4⟩ := hr.2
    refine ⟨hr.1, ?_, ?_, ?_, fun k hk2 => ?_⟩
    · show K (9 * mXi newest (i - 1) + 0) = _
      rw [eK 0 (by decide)]
      exact b1
    · show K (9 * mXi newest (i - 1) + 1) = _
      rw [eK 1 (by decide)]
      exact b2'
    · show K (9 * mXi newest (i - 1) + 2) = _
      rw [eK 2 (by decide)]
      exact b3
    · show K (9 * mXi newest (i - 1) + (3 + k)) = _ ∧ _
      rw [eK (3 + k) (by omega)]
      exact b4 k hk2
theorem un_run {und nw : Int} {refu kept : Nat → Int} (hn : 0 ≤ nw ∧ nw ≤ 19) : ∀ (f l : Nat) (a3 : Nat → Int), l ≤ 9 → 9 - l < f → ∃ N, F_X10_undo_21 und nw refu kept f (l : Int) a3 = ((1 : Int), und - 1, (nw + 19) % 20, refu, N) ∧ (∀ j, l ≤ j → j < 9 → N j = kept (9 * nw.toNat + j)) ∧ ∀ j, j < l → N j = a3 j := by
  intro f
  induction f with
  | zero => intro l a3 h1 h2; omega
  | succ f ih =>
    intro l a3 h1 h2
    have e0 : F_X10_undo_21 und nw refu kept (f + 1) (l : Int) a3 = F_X10_undo_21b und nw refu kept (F_X10_undo_21 und nw refu kept f) (l : Int) a3 := rfl
    rw [e0]
    unfold F_X10_undo_21b
    by_cases q : l = 9
    · rw [if_pos (by omega), lo_rem (by omega) (by omega) (by decide) (by decide), show (nw + 20 - 1) % 20 = (nw + 19) % 20 from by omega]
      exact ⟨a3, rfl, fun j h3 h4 => absurd h4 (by omega), fun _ _ => rfl⟩
    · rw [if_neg (by omega)]
      obtain ⟨N, e, e1, e2⟩ := ih (l + 1) (lf_up a3 (l : Int) (kept (Int.toNat (((9 : Int) * nw) + (l : Int))))) (by omega) (by omega)
      refine ⟨N, e, fun j h3 h4 => ?_, fun j hj => ?_⟩
      · by_cases q3 : j = l
        · rw [q3, e2 l (Nat.lt_succ_self l), lf_up_y (by omega), show Int.toNat (((9 : Int) * nw) + (l : Int)) = 9 * nw.toNat + l from by omega]
        · exact e1 j (by omega) h4
      · rw [e2 j (by omega), lf_up_o (by omega)]
/-- what was kept comes back on both sides -/
theorem hs_back {nK : Nat} {next count newest und d ru gr : Int} {rD rR rG now kept tX refu : Nat → Int} {rF : Nat → Nat → Int} (hk : nK ≤ 6) (h : hsH nK next count rD rR rG rF newest und kept) (h0 : ¬ count = 0) : ∃ n2 d2 ru2 gr2 t2 w2 N2, F_X2_giveBack rD rR rG rF next count d ru gr tX = ((1 : Int), n2, count - 1, d2, ru2, gr2, t2) ∧ F_X10_undo und newest refu now kept = ((1 : Int), und - 1, w2, refu, N2) ∧ hsH nK n2 (count - 1) rD rR rG rF w2 (und - 1) kept ∧ stB nK d2 ru2 gr2 t2 ∧ ndH nK d2 ru2 gr2 t2 N2 := by
  obtain ⟨⟨⟨a1, a2⟩, ⟨a3, a4⟩, a5, a6, a7⟩, hR⟩ := h
  obtain ⟨N, e, e1, e2⟩ := un_run (und := und) (refu := refu) (kept := kept) (nw := newest) ⟨a3, a4⟩ 11 0 now (by decide) (by decide)
  unfold F_X2_giveBack F_X10_undo F_X6_copy
  have e' : F_X10_undo_21 und newest refu kept 11 (0 : Int) now = ((1 : Int), und - 1, (newest + 19) % 20, refu, N) := e
  rw [if_neg h0, if_neg (show ¬ und = 0 from by omega), lf_b_e, lo_rem (by omega) (by omega) (by decide) (by decide), e']
  have er : ((next + 20 - 1) % 20).toNat = rXi next 0 := by
    unfold rXi
    omega
  have em : newest.toNat = mXi newest 0 := by
    unfold mXi
    omega
  have h1 := hR 0 (by omega)
  rw [er]
  refine ⟨_, _, _, _, _, _, N, rfl, rfl, ⟨⟨⟨by omega, by omega⟩, ⟨by omega, by omega⟩, by omega, by omega, by omega⟩, fun i hi => ?_⟩, ⟨h1.1.1, h1.1.2.1, h1.1.2.2.1, fun k hk2 => ?_⟩, ?_, ?_, ?_, fun k hk2 => ?_⟩
  · have h2 := hR (i + 1) (by omega)
    rw [show rXi ((next + 20 - 1) % 20) i = rXi next (i + 1) from by unfold rXi; omega, show mXi ((newest + 19) % 20) i = mXi newest (i + 1) from by unfold mXi; omega]
    exact h2
  · rw [cpy_6 (by omega)]
    exact h1.1.2.2.2 k hk2
  · rw [e1 0 (Nat.zero_le _) (by decide), em]
    exact h1.2.1
  · rw [e1 1 (Nat.zero_le _) (by decide), em]
    exact h1.2.2.1
  · rw [e1 2 (Nat.zero_le _) (by decide), em]
    exact h1.2.2.2.1
  · rw [e1 (3 + k) (Nat.zero_le _) (by omega), em, cpy_6 (by omega)]
    exact h1.2.2.2.2 k hk2
end
section
/-! 8w -/
/-! a DAY that is lived, on both sides -/
section LV
variable {nW nK : Nat} {cy ls d ru gr ar A : Int} {oC oR oL : Option (List Int)} {kO cA clmK pcK comers code spans many bar kinds walkers cf ce codes now tr : Nat → Int}
theorem sf_l {sd : Int} {str cars gaps known left leaves : Nat → Int} {pressed crossed went harmed : Int} (h : sfH oC oR nW nK cy ls kO cA clmK pcK sd str ru gr A cars gaps known left leaves pressed crossed went harmed) (h0 : 0 ≤ sd) (h1 : 0 ≤ ru) : SFd oC sd cy cars gaps ∧ SFl oC oR nW cy ls kO cA clmK pcK sd str ru gr A left leaves pressed crossed went harmed := by
  rcases h with r | ⟨_, _, h3, _, r | h5⟩
  · omega
  · omega
  · exact ⟨h3, h5⟩
theorem we_z (hP : plH nW nK cy ls oC oR kO cA clmK pcK comers code spans ar) : zOK nW cA (weS oC oR nW cy ls kO cA clmK pcK d tr ru gr A) := zOK_S (fun w hw => (hP.2.2.2.1 w hw).2)
/-- what the class tells of the DAY that is laid out -/
theorem tc_x {left leaves : Nat → Int} {pressed crossed went harmed what : Int} (hP : plH nW nK cy ls oC oR kO cA clmK pcK comers code spans ar) (hS : SFl oC oR nW cy ls kO cA clmK pcK d tr ru gr A left leaves pressed crossed went harmed) (hA : rg A) (hg0 : 0 ≤ gr) (hg1 : gr ≤ 60) (hw : 0 ≤ what ∧ what ≤ 5) : F_X7_told (nW : Int) cA A left leaves pressed crossed went harmed what = tdS nW cA (twf nW kO tr) (abf A) cy ls ru gr (weS oC oR nW cy ls kO cA clmK pcK d tr ru gr A) what := by
  obtain ⟨s1, s2, s3, s4, s5, s6⟩ := hS
  refine td_c (we_z hP) hP.1 hA (fun _ _ => rfl) (fun j hj => ⟨s1 j hj, ?_⟩) s2 s3 s4 s5 s6 hw
  rw [s1 j hj]
  exact (lef_b hg0 hg1 (by have := hP.2.2.1; omega) (j + 1)).1
theorem tc_0 {left leaves : Nat → Int} {pressed crossed went harmed : Int} (hP : plH nW nK cy ls oC oR kO cA clmK pcK comers code spans ar) (hS : SFl oC oR nW cy ls kO cA clmK pcK d tr ru gr A left leaves pressed crossed went harmed) (hA : rg A) : F_X7_told_a0_0 (nW : Int) cA A leaves = tdS nW cA (twf nW kO tr) (abf A) cy ls ru gr (weS oC oR nW cy ls kO cA clmK pcK d tr ru gr A) 0 := td_c0 (we_z hP) hP.1 hA (fun _ _ => rfl) hS.2.2.2.2.2
theorem ln_B (hP : plH nW nK cy ls oC oR kO cA clmK pcK comers code spans ar) (hd : 0 ≤ d ∧ d ≤ 999) (ht : ∀ k, k < nK → 0 ≤ tr k ∧ tr k ≤ 9) : lnB nW nK d kO cA clmK pcK (wt0 cA (abf A) (weS oC oR nW cy ls kO cA clmK pcK d tr ru gr A)) tr := ⟨hP.1, hP.2.1, hd, fun w hw => ⟨(hP.2.2.2.1 w hw).1, (hP.2.2.2.1 w hw).2, wt0_b (we_z hP) w hw⟩, hP.2.2.2.2.1, ht⟩
theorem lnS_cg {tr2 wt : Nat → Int} {ab : Nat → Bool} (hk : ∀ w, w < nW → 0 ≤ kO w ∧ kO w < (nK : Int)) (h : ∀ k, k < nK → tr k = tr2 k) : ∀ n, n ≤ nW → ∀ k, k < nK → lnS oL d cA clmK pcK kO wt ab tr n k = lnS oL d cA clmK pcK kO wt ab tr2 n k
  | 0, _, k, hk2 => h k hk2
  | n + 1, hn, k, hk2 => by
    have ih := lnS_cg (tr2 := tr2) (wt := wt) (ab := ab) hk h n (by omega)
    rw [lnS_s, lnS_s]
    by_cases a : ab n = true
    · rw [if_pos a, if_pos a]
      exact ih k hk2
    · rw [if_neg a, if_neg a]
      have hh := hk n (by omega)
      have e := ih (kO n).toNat (by omega)
      by_cases q : k = (kO n).toNat
      · rw [q, upn_y, upn_y, e]
      · rw [upn_o q, upn_o q]
        exact ih k hk2
/-- laid, told, passed: the class's -/
theorem lv_c {facts stack cars gaps known str left leaves tX : Nat → Int} {d1 ru1 gr1 A1 pressed crossed went harmed : Int} (hP : plH nW nK cy ls oC oR kO cA clmK pcK comers code spans ar) (hL : cdX code spans 4 oL ∧ cdG false 123 oL) (hS : sfH oC oR nW nK cy ls kO cA clmK pcK d1 str ru1 gr1 A1 cars gaps known left leaves pressed crossed went harmed) (hB : stB nK d ru gr tr) (hX : ∀ k, k < nK → tX k = tr k) (hA : rg A) : ∃ f2 s2 c2 g2 t2 k2 l2 v2 pr2 cr2 we2 ha2 t3 f3 s3, F_X7_lay facts stack cy ls (nK : Int) clmK pcK (nW : Int) kO cA comers code spans d1 str ru1 gr1 A1 ar cars gaps known left leaves pressed crossed went harmed d tX ru gr A = (d, ru, gr, A, pr2, cr2, we2, ha2, f2, s2, c2, g2, t2, k2, l2, v2) ∧ sfH oC oR nW nK cy ls kO cA clmK pcK d t2 ru gr A c2 g2 k2 l2 v2 pr2 cr2 we2 ha2 ∧ SFd oC d cy c2 g2 ∧ SFl oC oR nW cy ls kO cA clmK pcK d tr ru gr A l2 v2 pr2 cr2 we2 ha2 ∧ F_X7_pass f2 s2 clmK pcK (nW : Int) kO cA code spans d A v2 d tX = (d + 1, t3, f3, s3) ∧ ∀ k, k < nK → t3 k = lnS oL d cA clmK pcK kO (wt0 cA (abf A) (weS oC oR nW cy ls kO cA clmK pcK d tr ru gr A)) (abf A) tr nW k := by
  obtain ⟨b1, b2', b3, b4⟩ := hB
  have htX : ∀ k, k < nK → 0 ≤ tX k ∧ tX k ≤ 9 := fun k hk => by
    rw [hX k hk]
    exact b4 k hk
  obtain ⟨f2, s2, c2, g2, t2, k2, l2, v2, pr2, cr2, we2, ha2, e, e1, hsf, q2, q1⟩ := ly_x (facts := facts) (stack := stack) hP hS b1 htX b2'.1 (show 0 ≤ gr ∧ gr ≤ 60 from ⟨by omega, b3.2⟩) hA
  have ecg : twf nW kO tX = twf nW kO tr := twf_cg (fun w hw => (hP.2.2.2.1 w hw).1) hX
  have q3 := SFl_cg ecg q2
  have hLB := ln_B (d := d) (tr := tr) (ru := ru) (gr := gr) (A := A) hP b1 b4
  have hLX : lnB nW nK d kO cA clmK pcK (wt0 cA (abf A) (weS oC oR nW cy ls kO cA clmK pcK d tr ru gr A)) tX := ⟨hLB.1, hLB.2.1, hLB.2.2.1, hLB.2.2.2.1, hLB.2.2.2.2.1, htX⟩
  obtain ⟨t3, f3, s3, p1, p2⟩ := ps_x (facts := f2) (stack := s2) (leaves := v2) (A := A) (day := d) (ab := abf A) (oL := oL) (code := code) (spans := spans) hLX hA (fun _ _ => rfl) hL.1 hL.2 (fun w hw ha => wb_c (we_z hP) q3.2.2.2.2.2 hP.1 hw ha) b1
  exact ⟨f2, s2, c2, g2, t2, k2, l2, v2, pr2, cr2, we2, ha2, t3, f3, s3, e, hsf, q1, q3, p1, fun k hk => (p2 k hk).trans (lnS_cg (fun w hw => (hP.2.2.2.1 w hw).1) hX nW (Nat.le_refl _) k hk)⟩
/-- the model's -/
theorem lv_m {tk ask red sg qp : Int} {isCar gaps isG isH cr wt go hm pr2 ci pile : Nat → Int} (hP : plH nW nK cy ls oC oR kO cA clmK pcK comers code spans ar) (hM : pmH nW nK cy ls oC oR oL kO cA clmK pcK many bar kinds walkers cf ce codes) (hG : cdG false 123 oL) (hB : stB nK d ru gr tr) (hn : ndH nK d ru gr tr now) (hA : rg A) : ∃ v43 v17 v18 v19 v20 v21 v22 v23 v44 f46 now2 f27 f7 f28 f29 f8 f25 f26 f30 f31 f32, F_X10_dayGoes tk ask red sg qp many bar kinds walkers cf ce codes now isCar gaps isG isH cr wt go hm pr2 ci pile A = (tdS nW cA (twf nW kO tr) (abf A) cy ls ru gr (weS oC oR nW cy ls kO cA clmK pcK d tr ru gr A) 0, v43, v17, v18, v19, v20, v21, v22, v23, v44, f46, now2, f27, f7, f28, f29, f8, f25, f26, f30, f31, f32) ∧ ndH nK (d + 1) ru gr (lnS oL d cA clmK pcK kO (wt0 cA (abf A) (weS oC oR nW cy ls kO cA clmK pcK d tr ru gr A)) (abf A) tr nW) now2 := by
  obtain ⟨b1, b2', b3, b4⟩ := hB
  obtain ⟨t, q, r, p, g, i, e1, e2, e3⟩ := mc_x (tk := tk) (ask := ask) (red := red) (qp := qp) (kinds := kinds) (walkers := walkers) (isCar := isCar) (gaps := gaps) (waits := wt) (goes := go) (harms := hm) (pile := pile) b1 (by have := hP.2.2.1; omega) hP.2.2.1.2 hM.2.2.1 hn.1 hM.2.2.2.2.2.2.1 hP.2.2.2.2.2.2.1.2
  unfold F_X10_dayGoes
  rw [e1, lf_p_e, lf_p_e, lf_p_e, lf_p_e, lf_p_e, show now (Int.toNat (1 : Int)) = ru from hn.2.1, show now (Int.toNat (2 : Int)) = gr from hn.2.2.1]
  obtain ⟨c1, c2, c3, c4, c5, c6, c7, c11, c16, e70, e71, e72, e73, e74, e55, e58, e59, e117, e, h⟩ := day_x (tk := t) (ask := q) (sg := sg) (qp := r) (isG := isG) (isH := isH) (cr := cr) (wt := wt) (go := go) (hm := hm) (pr2 := pr2) (ci := ci) (pile := p) (A := A) (H := 0) (md_of hP hM b1 hn e3) hA rg_0 b3.1 b3.2 b2'
  rw [wkM_0] at h
  rw [e, lf_p_e, lf_p_e, lf_p_e, lf_p_e, lf_p_e, lf_p_e, lf_p_e, lf_p_e, lf_p_e, lf_p_e, lf_p_e, lf_p_e, lf_p_e, lf_p_e, lf_p_e, lf_p_e, lf_p_e, lf_b_e, td_m0 h (we_z hP) hM.1 hP.1]
  have hLB := ln_B (d := d) (tr := tr) (ru := ru) (gr := gr) (A := A) hP b1 b4
  obtain ⟨x1, x2, x3, x4, y1, y2, y3⟩ := lr_x (tk := e55) (ask := e58) (red := e59) (qp := e117) (A := A) (ab := abf A) (bar := bar) (gaps := g) (waits := c3) (go := c4) (hm := c5) (pile := c16) hLB hA (fun _ _ => rfl) hM.2.2.2.2.2.2.2.2 hG hM.1 hM.2.2.2.2.1 hM.2.2.2.2.2.1 (fun w hw => (h.1 w hw).2.2.1) hn.1 (fun k hk => (hn.2.2.2 k hk).1)
  have z0 : x3 0 = d := (y3 0 (by omega)).trans hn.1
  rw [y1, lf_p_e, lf_p_e, lf_p_e]
  refine ⟨_, _, _, _, _, _, _, _, _, _, _, _, _, _, _, _, _, _, _, _, _, rfl, ?_, ?_, ?_, fun k hk => ?_⟩
  · rw [lf_up_y (show 0 = Int.toNat (0 : Int) from rfl), show x3 (Int.toNat (0 : Int)) = d from z0, lo_add (by omega) (by omega) (by omega) (by omega) (by omega) (by omega)]
  · rw [lf_up_o (by decide)]
    exact (y3 1 (by omega)).trans hn.2.1
  · rw [lf_up_o (by decide)]
    exact (y3 2 (by omega)).trans hn.2.2.1
  · rw [lf_up_o (by omega), y2 k hk]
    exact ⟨rfl, lnS_b hLB nW k hk⟩
end LV
end
section
/-! 8x -/
/-! DAYS that are lived one behind the other -/
noncomputable def lvT (oC oR oL : Option (List Int)) (nW : Nat) (cy ls : Int) (kO cA clmK pcK : Nat → Int) (d ru gr : Int) (a : Nat → Int) (tr : Nat → Int) : Nat → Nat → Int
  | 0 => tr
  | k + 1 => lnS oL (d + (k : Int)) cA clmK pcK kO (wt0 cA (abf (a k)) (weS oC oR nW cy ls kO cA clmK pcK (d + (k : Int)) (lvT oC oR oL nW cy ls kO cA clmK pcK d ru gr a tr k) ru gr (a k))) (abf (a k)) (lvT oC oR oL nW cy ls kO cA clmK pcK d ru gr a tr k) nW
noncomputable def lvD (oC oR oL : Option (List Int)) (nW : Nat) (cy ls : Int) (kO cA clmK pcK : Nat → Int) (d ru gr : Int) (a : Nat → Int) (tr : Nat → Int) (k : Nat) (what : Int) : Int := tdS nW cA (twf nW kO (lvT oC oR oL nW cy ls kO cA clmK pcK d ru gr a tr k)) (abf (a k)) cy ls ru gr (weS oC oR nW cy ls kO cA clmK pcK (d + (k : Int)) (lvT oC oR oL nW cy ls kO cA clmK pcK d ru gr a tr k) ru gr (a k)) what
noncomputable def lvW (oC oR oL : Option (List Int)) (nW : Nat) (cy ls : Int) (kO cA clmK pcK : Nat → Int) (d ru gr : Int) (a : Nat → Int) (tr : Nat → Int) : Nat → Int
  | 0 => 0
  | k + 1 => lvW oC oR oL nW cy ls kO cA clmK pcK d ru gr a tr k + lvD oC oR oL nW cy ls kO cA clmK pcK d ru gr a tr k 0
theorem lvW_s {oC oR oL : Option (List Int)} {nW : Nat} {cy ls : Int} {kO cA clmK pcK : Nat → Int} {d ru gr : Int} {a tr : Nat → Int} {k : Nat} : lvW oC oR oL nW cy ls kO cA clmK pcK d ru gr a tr (k + 1) = lvW oC oR oL nW cy ls kO cA clmK pcK d ru gr a tr k + lvD oC oR oL nW cy ls kO cA clmK pcK d ru gr a tr k 0 := rfl
section DL
variable {nW nK : Nat} {cy ls d ru gr ar : Int} {oC oR oL : Option (List Int)} {kO cA clmK pcK comers code spans many bar kinds walkers cf ce codes now tr : Nat → Int} {a : Nat → Int}
theorem lvT_b (hP : plH nW nK cy ls oC oR kO cA clmK pcK comers code spans ar) (hd : 0 ≤ d) (ht : ∀ k, k < nK → 0 ≤ tr k ∧ tr k ≤ 9) : ∀ n : Nat, d + (n : Int) ≤ 1000 → ∀ k, k < nK → 0 ≤ lvT oC oR oL nW cy ls kO cA clmK pcK d ru gr a tr n k ∧ lvT oC oR oL nW cy ls kO cA clmK pcK d ru gr a tr n k ≤ 9
  | 0, _ => ht
  | n + 1, h => lnS_b (ln_B hP (by omega) (lvT_b hP hd ht n (by omega))) nW
theorem lvD_b (hP : plH nW nK cy ls oC oR kO cA clmK pcK comers code spans ar) (n : Nat) : 0 ≤ lvD oC oR oL nW cy ls kO cA clmK pcK d ru gr a tr n 0 ∧ lvD oC oR oL nW cy ls kO cA clmK pcK d ru gr a tr n 0 ≤ 3600 := by
  have h := snm_b nW (wt0_b (ab := abf (a n)) (we_z (d := d + (n : Int)) (tr := lvT oC oR oL nW cy ls kO cA clmK pcK d ru gr a tr n) (ru := ru) (gr := gr) (A := a n) hP))
  have hn := hP.1
  show 0 ≤ snm _ nW ∧ snm _ nW ≤ 3600
  exact ⟨h.1, by omega⟩
theorem lvW_b (hP : plH nW nK cy ls oC oR kO cA clmK pcK comers code spans ar) : ∀ n : Nat, 0 ≤ lvW oC oR oL nW cy ls kO cA clmK pcK d ru gr a tr n ∧ lvW oC oR oL nW cy ls kO cA clmK pcK d ru gr a tr n ≤ 3600 * (n : Int)
  | 0 => ⟨Int.le_refl _, by show (0 : Int) ≤ 3600 * ((0 : Nat) : Int); omega⟩
  | n + 1 => by
    have ih := lvW_b hP n
    have hb := lvD_b (oL := oL) (cy := cy) (ls := ls) (d := d) (ru := ru) (gr := gr) (a := a) (tr := tr) hP n
    rw [lvW_s]
    omega
/-- days: the model's loop -/
theorem dm_run {refu : Nat → Int} {n : Nat} (hP : plH nW nK cy ls oC oR kO cA clmK pcK comers code spans ar) (hM : pmH nW nK cy ls oC oR oL kO cA clmK pcK many bar kinds walkers cf ce codes) (hG : cdG false 123 oL) (hB : stB nK d ru gr tr) (hn : n ≤ 30) (hdn : d + (n : Int) ≤ 999) : ∀ (f k : Nat) (c82 c83 c55 c58 c59 c70 c71 c72 c73 c74 c117 : Int) (a1 a2 a6 a10 a12 a13 a14 a15 a16 a17 a18 a19 a21 : Nat → Int), k ≤ n → n - k < f → ndH nK (d + (k : Int)) ru gr (lvT oC oR oL nW cy ls kO cA clmK pcK d ru gr (fun _ => 0) tr k) a1 → (∃ O, O = F_X10_days_25 refu many bar kinds walkers cf ce codes (n : Int) f c82 c83 a2 (lvW oC oR oL nW cy ls kO cA clmK pcK d ru gr (fun _ => 0) tr k) (k : Int) c55 c58 c59 c70 c71 c72 c73 c74 c117 a1 a6 a10 a12 a13 a14 a15 a16 a17 a18 a19 a21 ∧ O.1 = lvW oC oR oL nW cy ls kO cA clmK pcK d ru gr (fun _ => 0) tr n ∧ O.2.2.2.2.2.2.2.2.2.1 = c82 ∧ O.2.2.2.2.2.2.2.2.2.2.1 = c83 ∧ ndH nK (d + (n : Int)) ru gr (lvT oC oR oL nW cy ls kO cA clmK pcK d ru gr (fun _ => 0) tr n) O.2.2.2.2.2.2.2.2.2.2.2.2.1 ∧ O.2.2.2.2.2.2.2.2.2.2.2.2.2.1 = a2 ∧ O.2.2.2.2.2.2.2.2.2.2.2.2.2.2.1 = refu) := by
  intro f
  induction f with
  | zero => intro k c82 c83 c55 c58 c59 c70 c71 c72 c73 c74 c117 a1 a2 a6 a10 a12 a13 a14 a15 a16 a17 a18 a19 a21 h1 h2; omega
  | succ f ih =>
    intro k c82 c83 c55 c58 c59 c70 c71 c72 c73 c74 c117 a1 a2 a6 a10 a12 a13 a14 a15 a16 a17 a18 a19 a21 h1 h2 h3
    have e0 : F_X10_days_25 refu many bar kinds walkers cf ce codes (n : Int) (f + 1) c82 c83 a2 (lvW oC oR oL nW cy ls kO cA clmK pcK d ru gr (fun _ => 0) tr k) (k : Int) c55 c58 c59 c70 c71 c72 c73 c74 c117 a1 a6 a10 a12 a13 a14 a15 a16 a17 a18 a19 a21 = F_X10_days_25b refu many bar kinds walkers cf ce codes (n : Int) (F_X10_days_25 refu many bar kinds walkers cf ce codes (n : Int) f) c82 c83 a2 (lvW oC oR oL nW cy ls kO cA clmK pcK d ru gr (fun _ => 0) tr k) (k : Int) c55 c58 c59 c70 c71 c72 c73 c74 c117 a1 a6 a10 a12 a13 a14 a15 a16 a17 a18 a19 a21 := rfl
    rw [e0]
    unfold F_X10_days_25b
    by_cases q : k = n
    · rw [if_pos (by omega)]
      subst q
      exact ⟨_, rfl, rfl, rfl, rfl, h3, rfl, rfl⟩
    · have hTb := lvT_b (oL := oL) (cy := cy) (ls := ls) (ru := ru) (gr := gr) (a := fun _ => 0) (tr := tr) hP hB.1.1 hB.2.2.2 k (by omega)
      have hBk : stB nK (d + (k : Int)) ru gr (lvT oC oR oL nW cy ls kO cA clmK pcK d ru gr (fun _ => 0) tr k) := ⟨⟨by have := hB.1.1; omega, by omega⟩, hB.2.1, hB.2.2.1, hTb⟩
      obtain ⟨v43, v17, v18, v19, v20, v21, v22, v23, v44, f46, now2, f27, f7, f28, f29, f8, f25, f26, f30, f31, f32, e, hN⟩ := lv_m (tk := c55) (ask := c58) (red := c59) (sg := c74) (qp := c117) (isCar := a15) (gaps := a12) (isG := a21) (isH := a16) (cr := a17) (wt := a10) (go := a13) (hm := a14) (pr2 := a18) (ci := a19) (pile := a6) (A := 0) hP hM hG hBk h3 rg_0
      have hw := lvW_b (oL := oL) (cy := cy) (ls := ls) (d := d) (ru := ru) (gr := gr) (a := fun _ => 0) (tr := tr) hP k
      have hd0 := lvD_b (oL := oL) (cy := cy) (ls := ls) (d := d) (ru := ru) (gr := gr) (a := fun _ => 0) (tr := tr) hP k
      unfold lvD at hd0
      dsimp only at hd0
      rw [if_neg (by omega), e, lf_p_e, lf_p_e, lf_p_e, lf_p_e, lf_p_e, lf_p_e, lf_p_e, lf_p_e, lf_p_e, lf_p_e, lf_p_e, lf_p_e, lf_p_e, lf_p_e, lf_p_e, lf_p_e, lf_p_e, lf_p_e, lf_p_e, lf_p_e, lf_p_e, lo_add (by omega) (by omega) (by omega) (by omega) (by omega) (by omega)]
      have hN' : ndH nK (d + ((k + 1 : Nat) : Int)) ru gr (lvT oC oR oL nW cy ls kO cA clmK pcK d ru gr (fun _ => 0) tr (k + 1)) now2 := by
        rw [show d + ((k + 1 : Nat) : Int) = d + (k : Int) + 1 from by omega]
        exact hN
      exact ih (k + 1) c82 c83 v43 v17 v18 v19 v20 v21 v22 v23 v44 now2 a2 f46 f27 f7 f28 f29 f8 f25 f26 f30 f31 f32 (by omega) (by omega) hN'
/-- days: the class's loop -/
theorem dc_run {refu : Nat → Int} {n : Nat} (hP : plH nW nK cy ls oC oR kO cA clmK pcK comers code spans ar) (hL : cdX code spans 4 oL ∧ cdG false 123 oL) (hB : stB nK d ru gr tr) (hn : n ≤ 30) (hdn : d + (n : Int) ≤ 999) : ∀ (f k : Nat) (c1 c2 sd ru1 gr1 A1 pr cr we ha : Int) (rD rR rG : Nat → Int) (rF : Nat → Nat → Int) (a6 facts stack cars gaps str known left leaves : Nat → Int), k ≤ n → n - k < f → (∀ j, j < nK → a6 j = lvT oC oR oL nW cy ls kO cA clmK pcK d ru gr (fun _ => 0) tr k j) → sfH oC oR nW nK cy ls kO cA clmK pcK sd str ru1 gr1 A1 cars gaps known left leaves pr cr we ha → (∃ O, O = F_X9_days_22 cy ls (nK : Int) clmK pcK (nW : Int) kO cA comers code spans ru gr ar refu (n : Int) f c1 c2 rD rR rG rF (lvW oC oR oL nW cy ls kO cA clmK pcK d ru gr (fun _ => 0) tr k) (k : Int) (d + (k : Int)) sd ru1 gr1 A1 pr cr we ha a6 facts stack cars gaps str known left leaves ∧ O.1 = lvW oC oR oL nW cy ls kO cA clmK pcK d ru gr (fun _ => 0) tr n ∧ O.2.1 = d + (n : Int) ∧ O.2.2.1 = c1 ∧ O.2.2.2.1 = c2 ∧ (∀ j, j < nK → O.2.2.2.2.1 j = lvT oC oR oL nW cy ls kO cA clmK pcK d ru gr (fun _ => 0) tr n j) ∧ O.2.2.2.2.2.1 = 0 ∧ O.2.2.2.2.2.2.1 = 0 ∧ O.2.2.2.2.2.2.2.1 = 0 ∧ O.2.2.2.2.2.2.2.2.1 = refu ∧ sfH oC oR nW nK cy ls kO cA clmK pcK O.2.2.2.2.2.2.2.2.2.1 O.2.2.2.2.2.2.2.2.2.2.2.2.2.2.2.2.2.2.2.2.2.1 O.2.2.2.2.2.2.2.2.2.2.1 O.2.2.2.2.2.2.2.2.2.2.2.1 O.2.2.2.2.2.2.2.2.2.2.2.2.1 O.2.2.2.2.2.2.2.2.2.2.2.2.2.2.2.2.2.2.2.1 O.2.2.2.2.2.2.2.2.2.2.2.2.2.2.2.2.2.2.2.2.1 O.2.2.2.2.2.2.2.2.2.2.2.2.2.2.2.2.2.2.2.2.2.2.1 O.2.2.2.2.2.2.2.2.2.2.2.2.2.2.2.2.2.2.2.2.2.2.2.1 O.2.2.2.2.2.2.2.2.2.2.2.2.2.2.2.2.2.2.2.2.2.2.2.2.1 O.2.2.2.2.2.2.2.2.2.2.2.2.2.1 O.2.2.2.2.2.2.2.2.2.2.2.2.2.2.1 O.2.2.2.2.2.2.2.2.2.2.2.2.2.2.2.1 O.2.2.2.2.2.2.2.2.2.2.2.2.2.2.2.2.1 ∧ O.2.2.2.2.2.2.2.2.2.2.2.2.2.2.2.2.2.2.2.2.2.2.2.2.2.1 = rD ∧ O.2.2.2.2.2.2.2.2.2.2.2.2.2.2.2.2.2.2.2.2.2.2.2.2.2.2.1 = rR ∧ O.2.2.2.2.2.2.2.2.2.2.2.2.2.2.2.2.2.2.2.2.2.2.2.2.2.2.2.1 = rG ∧ O.2.2.2.2.2.2.2.2.2.2.2.2.2.2.2.2.2.2.2.2.2.2.2.2.2.2.2.2 = rF) := by
  intro f
  induction f with
  | zero => intro k c1 c2 sd ru1 gr1 A1 pr cr we ha rD rR rG rF a6 facts stack cars gaps str known left leaves h1 h2; omega
  | succ f ih =>
    intro k c1 c2 sd ru1 gr1 A1 pr cr we ha rD rR rG rF a6 facts stack cars gaps str known left leaves h1 h2 h3 h4
    have e0 : F_X9_days_22 cy ls (nK : Int) clmK pcK (nW : Int) kO cA comers code spans ru gr ar refu (n : Int) (f + 1) c1 c2 rD rR rG rF (lvW oC oR oL nW cy ls kO cA clmK pcK d ru gr (fun _ => 0) tr k) (k : Int) (d + (k : Int)) sd ru1 gr1 A1 pr cr we ha a6 facts stack cars gaps str known left leaves = F_X9_days_22b cy ls (nK : Int) clmK pcK (nW : Int) kO cA comers code spans ru gr ar refu (n : Int) (F_X9_days_22 cy ls (nK : Int) clmK pcK (nW : Int) kO cA comers code spans ru gr ar refu (n : Int) f) c1 c2 rD rR rG rF (lvW oC oR oL nW cy ls kO cA clmK pcK d ru gr (fun _ => 0) tr k) (k : Int) (d + (k : Int)) sd ru1 gr1 A1 pr cr we ha a6 facts stack cars gaps str known left leaves := rfl
    rw [e0]
    unfold F_X9_days_22b
    by_cases q : k = n
    · rw [if_pos (by omega)]
      subst q
      exact ⟨_, rfl, rfl, rfl, rfl, rfl, h3, rfl, rfl, rfl, rfl, h4, rfl, rfl, rfl, rfl⟩
    · have hTb := lvT_b (oL := oL) (cy := cy) (ls := ls) (ru := ru) (gr := gr) (a := fun _ => 0) (tr := tr) hP hB.1.1 hB.2.2.2 k (by omega)
      have hBk : stB nK (d + (k : Int)) ru gr (lvT oC oR oL nW cy ls kO cA clmK pcK d ru gr (fun _ => 0) tr k) := ⟨⟨by have := hB.1.1; omega, by omega⟩, hB.2.1, hB.2.2.1, hTb⟩
      obtain ⟨f2, s2, c2', g2, t2, k2, l2, v2, pr2, cr2, we2, ha2, t3, f3, s3, e, x1, x2, x3, x4, x5⟩ := lv_c (facts := facts) (stack := stack) (A := 0) hP hL h4 hBk h3 rg_0
      have hw := lvW_b (oL := oL) (cy := cy) (ls := ls) (d := d) (ru := ru) (gr := gr) (a := fun _ => 0) (tr := tr) hP k
      have hd0 := lvD_b (oL := oL) (cy := cy) (ls := ls) (d := d) (ru := ru) (gr := gr) (a := fun _ => 0) (tr := tr) hP k
      unfold lvD at hd0
      dsimp only at hd0
      unfold F_X9_layToday
      rw [if_neg (by omega), e, lf_p_e, lf_p_e, lf_p_e, lf_p_e, lf_p_e, lf_p_e, lf_p_e, lf_p_e, lf_p_e, lf_p_e, lf_p_e, lf_p_e, lf_p_e, lf_p_e, lf_p_e, lf_p_e, lf_p_e, lf_p_e, lf_p_e, lf_p_e, lf_p_e, lf_p_e, lf_p_e, lf_p_e, lf_p_e, lf_p_e, lf_p_e, lf_p_e, lf_p_e, lf_p_e, lf_b_e, tc_0 hP x3 rg_0, x4, lf_p_e, lf_p_e, lf_p_e, lo_add (by omega) (by omega) (by omega) (by omega) (by omega) (by omega)]
      have e5 : d + (k : Int) + 1 = d + ((k + 1 : Nat) : Int) := by omega
      rw [e5]
      exact ih (k + 1) c1 c2 (d + (k : Int)) ru gr 0 pr2 cr2 we2 ha2 rD rR rG rF t3 f3 s3 c2' g2 t2 k2 l2 v2 (by omega) (by omega) x5 x1
end DL
end
section
/-! 8y -/
/-! what is drawn, on both sides -/
def dwS (s : Nat) : Nat := (1103515245 * s + 12345) % 2147483648
theorem oi64 {a : Nat} (h : a < 9223372036854775808) : (Int64.ofInt (a : Int)).toInt = (a : Int) := by
  have e : (2 : Int) ^ 63 = 9223372036854775808 := by decide
  exact Int64.toInt_ofInt_of_le (by omega) (by omega)
theorem ol_land {a : Nat} (h : a < 9223372036854775808) : lf_ol lf_land (a : Int) (2147483647 : Int) = ((a % 2147483648 : Nat) : Int) := by
  show (Int64.ofInt (a : Int) &&& Int64.ofInt (2147483647 : Int)).toInt = _
  have e : Int64.ofInt (a : Int) &&& Int64.ofInt (2147483647 : Int) = Int64.ofInt ((a &&& 2147483647 : Nat) : Int) := by
    rw [← Int64.toBitVec_inj]
    show BitVec.ofInt 64 (a : Int) &&& BitVec.ofInt 64 ((2147483647 : Nat) : Int) = BitVec.ofInt 64 ((a &&& 2147483647 : Nat) : Int)
    rw [BitVec.ofInt_natCast, BitVec.ofInt_natCast, BitVec.ofInt_natCast, BitVec.ofNat_and]
  have e2 : a &&& 2147483647 = a % 2147483648 := Nat.and_two_pow_sub_one_eq_mod a 31
  rw [e, e2, oi64 (by omega)]
theorem olr_n {a b : Nat} (h : a < 9223372036854775808) (hb : b < 9223372036854775808) : lf_ol lf_lrem (a : Int) (b : Int) = ((a % b : Nat) : Int) := by
  show (Int64.ofInt (a : Int) % Int64.ofInt (b : Int)).toInt = _
  rw [Int64.toInt_mod, oi64 h, oi64 hb]
  rfl
theorem old_n {a b : Nat} (h : a < 9223372036854775808) (hb : b < 9223372036854775808) : lf_ol lf_ldiv (a : Int) (b : Int) = ((a / b : Nat) : Int) := by
  have e63 : (2 : Int) ^ 63 = 9223372036854775808 := by decide
  show (Int64.ofInt (a : Int) / Int64.ofInt (b : Int)).toInt = _
  have h1 := Nat.div_le_self a b
  rw [Int64.toInt_div, oi64 h, oi64 hb]
  show Int.bmod ((a / b : Nat) : Int) (2 ^ 64) = ((a / b : Nat) : Int)
  generalize a / b = q at h1 ⊢
  exact Int.bmod_eq_of_le (by omega) (by omega)
theorem dw_a {s : Nat} (hs : s < 2147483648) : lf_ol lf_ladd (lf_ol lf_lmul (1103515245 : Int) (s : Int)) (12345 : Int) = ((1103515245 * s + 12345 : Nat) : Int) := by
  have e63 : (2 : Int) ^ 63 = 9223372036854775808 := by decide
  have em : lf_ol lf_lmul (1103515245 : Int) (s : Int) = ((1103515245 * s : Nat) : Int) := by
    show (Int64.ofInt ((1103515245 : Nat) : Int) * Int64.ofInt (s : Int)).toInt = _
    rw [Int64.toInt_mul, oi64 (by decide), oi64 (by omega)]
    show Int.bmod (((1103515245 : Nat) : Int) * (s : Int)) (2 ^ 64) = _
    rw [← Int.natCast_mul]
    exact Int.bmod_eq_of_le (by omega) (by omega)
  rw [em]
  show (Int64.ofInt ((1103515245 * s : Nat) : Int) + Int64.ofInt ((12345 : Nat) : Int)).toInt = _
  rw [Int64.toInt_add, oi64 (by omega), oi64 (by decide)]
  exact Int.bmod_eq_of_le (by omega) (by omega)
/-- the class's next number, the model's -/
theorem dw_x {s : Nat} (hs : s < 2147483648) : lf_ol lf_land (lf_ol lf_ladd (lf_ol lf_lmul (1103515245 : Int) (s : Int)) (12345 : Int)) (2147483647 : Int) = (dwS s : Int) := by
  rw [dw_a hs, ol_land (by omega)]
  rfl
theorem dw_m {s : Nat} (hs : s < 2147483648) : lf_ol lf_lrem (lf_ol lf_ladd (lf_ol lf_lmul (1103515245 : Int) (s : Int)) (12345 : Int)) (2147483648 : Int) = (dwS s : Int) := by
  rw [dw_a hs]
  exact olr_n (b := 2147483648) (by omega) (by decide)
theorem dw_l (s : Nat) : dwS s < 2147483648 := Nat.mod_lt _ (by decide)
theorem dw_v {s : Nat} (hs : s < 2147483648) : lf_ol lf_lrem (lf_ol lf_ldiv (s : Int) (64 : Int)) (100 : Int) = ((s / 64 % 100 : Nat) : Int) := by
  have e := old_n (a := s) (b := 64) (by omega) (by decide)
  have e' : lf_ol lf_ldiv (s : Int) (64 : Int) = ((s / 64 : Nat) : Int) := e
  rw [e']
  exact olr_n (b := 100) (by omega) (by decide)
theorem dw_2 {s : Nat} (hs : s < 2147483648) : F_X10_drawOf_a0_100 (s : Int) = (((dwS s / 64 % 100 : Nat) : Int), (dwS s : Int)) := by
  unfold F_X10_drawOf_a0_100
  rw [dw_m hs, dw_v (dw_l s), l2i_6 (by omega) (by omega)]
/-- who is away: the class's -/
def dwA (away : Int) (s0 : Nat) : Nat → Nat × (Nat → Bool)
  | 0 => (s0, fun _ => false)
  | k + 1 => (dwS (dwA away s0 k).1, fun w => (dwA away s0 k).2 w || (decide (w = k) && decide (((dwS (dwA away s0 k).1 / 64 % 100 : Nat) : Int) < away)))
theorem dwA_l {away : Int} {s0 : Nat} (h : s0 < 2147483648) : ∀ k, (dwA away s0 k).1 < 2147483648
  | 0 => h
  | k + 1 => dw_l _
theorem da_x {away : Int} {s0 nW : Nat} (hs : s0 < 2147483648) (hn : nW ≤ 12) : ∀ (f k : Nat) (l1 : Int), k ≤ nW → nW - k < f → rg l1 → (∀ w, w < 12 → bt l1 w = (dwA away s0 k).2 w) → ∃ A, F_X9_drawAbsent_4 away (nW : Int) f l1 (k : Int) ((dwA away s0 k).1 : Int) = (A, ((dwA away s0 nW).1 : Int)) ∧ rg A ∧ ∀ w, w < 12 → bt A w = (dwA away s0 nW).2 w := by
  intro f
  induction f with
  | zero => intro k l1 h1 h2; omega
  | succ f ih =>
    intro k l1 h1 h2 h3 h4
    have e0 : F_X9_drawAbsent_4 away (nW : Int) (f + 1) l1 (k : Int) ((dwA away s0 k).1 : Int) = F_X9_drawAbsent_4b away (nW : Int) (F_X9_drawAbsent_4 away (nW : Int) f) l1 (k : Int) ((dwA away s0 k).1 : Int) := rfl
    rw [e0]
    unfold F_X9_drawAbsent_4b F_X9_drawAbsent_65
    by_cases q : k = nW
    · rw [if_pos (by omega), q]
      rw [q] at h4
      exact ⟨l1, rfl, h3, h4⟩
    · have hl := dwA_l (away := away) hs k
      rw [if_neg (by omega), dw_x hl, dw_v (dw_l _)]
      have e1 : (dwA away s0 (k + 1)).1 = dwS (dwA away s0 k).1 := rfl
      have e2 : ∀ w, (dwA away s0 (k + 1)).2 w = ((dwA away s0 k).2 w || (decide (w = k) && decide (((dwS (dwA away s0 k).1 / 64 % 100 : Nat) : Int) < away))) := fun _ => rfl
      by_cases y : away ≤ ((dwS (dwA away s0 k).1 / 64 % 100 : Nat) : Int)
      · rw [if_pos (cmp_ge.mpr y)]
        have hx := ih (k + 1) l1 (by omega) (by omega) h3 (fun w hw => by
          rw [h4 w hw, e2, decide_eq_false (show ¬ ((dwS (dwA away s0 k).1 / 64 % 100 : Nat) : Int) < away from by omega), Bool.and_false, Bool.or_false])
        rw [e1] at hx
        exact hx
      · rw [if_neg (fun r => y (cmp_ge.mp r))]
        have ha := bt_add (w := k) h3 (by omega)
        have hx := ih (k + 1) _ (by omega) (by omega) ha.1 (fun w hw => by
          rw [ha.2, h4 w hw, e2, decide_eq_true (show ((dwS (dwA away s0 k).1 / 64 % 100 : Nat) : Int) < away from by omega), Bool.and_true]
          by_cases z : w = k
          · rw [z, decide_eq_true rfl]
          · rw [decide_eq_false z, decide_eq_false (fun r => z r.symm)])
        rw [e1] at hx
        exact hx
end
