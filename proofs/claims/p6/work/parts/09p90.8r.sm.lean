/-! the model holds the record of a crossing: a statement told -/
theorem cod_L {g : Nat → Int} {n p q : Nat} {i al : Int} {c : CD} (hp2 : p ≤ n) (e : (cod g n i al p c).1 = .inr q) : ∃ L, codM g n i al p = .inr (q, L) := by
  have h1 : rlC (cod g n i al p c) (codM g n i al p) c := by
    unfold cod codM
    by_cases x : i = 4
    · rw [if_pos x, if_pos x]
      exact sum_r 6 p c hp2
    · rw [if_neg x, if_neg x]
      exact test_r 6 p c hp2
  cases em9 : codM g n i al p with
  | inl r =>
    rw [em9] at h1
    have h1' : (cod g n i al p c).1 = .inl r := h1
    rw [h1'] at e
    cases e
  | inr z =>
    rw [em9] at h1
    obtain ⟨q2, L⟩ := z
    have h1' : cod g n i al p c = (.inr q2, ems c (L.map toC)) := h1
    rw [h1'] at e
    cases e
    exact ⟨L, rfl⟩
def cdT (cf ce cs : Nat → Int) (size : Int) (k : Nat) (o : Option (List Int)) : Prop := match o with
  | none => cf k = -1
  | some L => ∃ i : Nat, cf k = (i : Int) ∧ ce k = (i : Int) + (L.length : Int) ∧ (i : Int) + (L.length : Int) ≤ size ∧ ∀ j, j < L.length → cs (i + j) = L.getD j 0
theorem cdT_w {cf ce cs cf2 ce2 cs2 : Nat → Int} {size size2 : Int} {k : Nat} {o : Option (List Int)} (h : cdT cf ce cs size k o) (hs : size ≤ size2) (h1 : cf2 k = cf k) (h2 : ce2 k = ce k) (hc : ∀ j, j < size.toNat → cs2 j = cs j) : cdT cf2 ce2 cs2 size2 k o := by
  cases o with
  | none =>
    show cf2 k = -1
    rw [h1]
    exact h
  | some L =>
    obtain ⟨i, a1, a2, a3, a4⟩ := h
    refine ⟨i, by rw [h1, a1], by rw [h2, a2], by omega, fun j hj => ?_⟩
    rw [hc (i + j) (by omega)]
    exact a4 j hj
/-- the model's draft holds the record -/
def prM (pr : PR) (nk nw : Nat) (kd tr wk cf ce cs : Nat → Int) (size away : Int) : Prop := (pr.1.length = nk ∧ pr.2.1.length = nw) ∧ (∀ j, j < nk → kd (2 * j) = (pr.1.getD j (0, 0, 0)).1 ∧ kd (2 * j + 1) = (pr.1.getD j (0, 0, 0)).2.1 ∧ tr j = (pr.1.getD j (0, 0, 0)).2.2) ∧ (∀ w, w < nw → wk (2 * w) = (pr.2.1.getD w (0, 0)).1 ∧ wk (2 * w + 1) = (pr.2.1.getD w (0, 0)).2) ∧ (cdT cf ce cs size 0 pr.2.2.1 ∧ cdT cf ce cs size 1 pr.2.2.2.1 ∧ cdT cf ce cs size 2 pr.2.2.2.2.1) ∧ away = pr.2.2.2.2.2 ∧ 0 ≤ size
/-- nothing of what stands has been touched -/
def frM (kd0 wk0 cf0 ce0 cs0 kd wk cf ce cs : Nat → Int) : Prop := (∀ j, 12 ≤ j → kd j = kd0 j) ∧ (∀ j, 24 ≤ j → wk j = wk0 j) ∧ (∀ j, 3 ≤ j → cf j = cf0 j) ∧ (∀ j, 3 ≤ j → ce j = ce0 j) ∧ ∀ j, 1600 ≤ j → cs j = cs0 j
theorem frM_r {kd wk cf ce cs : Nat → Int} : frM kd wk cf ce cs kd wk cf ce cs := ⟨fun _ _ => rfl, fun _ _ => rfl, fun _ _ => rfl, fun _ _ => rfl, fun _ _ => rfl⟩
section PM
variable {pr : PR} {nk nw : Nat} {kd tr wk cf ce cs : Nat → Int} {sz aw : Int}
theorem pm_k {a b c : Int} (hX : prM pr nk nw kd tr wk cf ce cs sz aw) : prM (pr.1 ++ [(a, b, c)], pr.2) (nk + 1) nw (lf_up (lf_up kd ((2 : Int) * (nk : Int)) a) (((2 : Int) * (nk : Int)) + (1 : Int)) b) (lf_up tr (nk : Int) c) wk cf ce cs sz aw := by
  obtain ⟨⟨i1, i2⟩, x1, x2⟩ := hX
  have el : (pr.1 ++ [(a, b, c)]).length = nk + 1 := by
    rw [List.length_append, i1]
    rfl
  refine ⟨⟨el, i2⟩, fun j hj => ?_, x2⟩
  show _ = ((pr.1 ++ [(a, b, c)]).getD j (0, 0, 0)).1 ∧ _ = ((pr.1 ++ [(a, b, c)]).getD j (0, 0, 0)).2.1 ∧ _ = ((pr.1 ++ [(a, b, c)]).getD j (0, 0, 0)).2.2
  rw [gd_ap, i1]
  by_cases q : j < nk
  · rw [if_pos q, lf_up_o (by omega), lf_up_o (by omega), lf_up_o (by omega), lf_up_o (by omega), lf_up_o (by omega)]
    exact x1 j q
  · have e : j = nk := by omega
    subst e
    rw [if_neg q, if_pos rfl, lf_up_o (by omega), lf_up_y (by omega), lf_up_y (by omega), lf_up_y (by omega)]
    exact ⟨rfl, rfl, rfl⟩
theorem pm_c {a b : Int} (hX : prM pr nk nw kd tr wk cf ce cs sz aw) : prM (pr.1, pr.2.1 ++ [(a, b)], pr.2.2) nk (nw + 1) kd tr (lf_up (lf_up wk ((2 : Int) * (nw : Int)) a) (((2 : Int) * (nw : Int)) + (1 : Int)) b) cf ce cs sz aw := by
  obtain ⟨⟨i1, i2⟩, x1, x2, x3⟩ := hX
  have el : (pr.2.1 ++ [(a, b)]).length = nw + 1 := by
    rw [List.length_append, i2]
    rfl
  refine ⟨⟨i1, el⟩, x1, fun w hw => ?_, x3⟩
  show _ = ((pr.2.1 ++ [(a, b)]).getD w (0, 0)).1 ∧ _ = ((pr.2.1 ++ [(a, b)]).getD w (0, 0)).2
  rw [gd_ap, i2]
  by_cases q : w < nw
  · rw [if_pos q, lf_up_o (by omega), lf_up_o (by omega), lf_up_o (by omega), lf_up_o (by omega)]
    exact x2 w q
  · have e : w = nw := by omega
    subst e
    rw [if_neg q, if_pos rfl, lf_up_o (by omega), lf_up_y (by omega), lf_up_y (by omega)]
    exact ⟨rfl, rfl⟩
theorem pm_5 {v : Int} (hX : prM pr nk nw kd tr wk cf ce cs sz aw) : prM (pr.1, pr.2.1, pr.2.2.1, pr.2.2.2.1, pr.2.2.2.2.1, v) nk nw kd tr wk cf ce cs sz v := by
  obtain ⟨x1, x2, x3, x4, x5, x6⟩ := hX
  exact ⟨x1, x2, x3, x4, rfl, x6⟩
theorem cdT_n {cs2 : Nat → Int} {L : List Int} {k : Nat} (hs : 0 ≤ sz) (hc : ∀ j, j < L.length → cs2 (sz.toNat + j) = L.getD j 0) : cdT (lf_up cf (k : Int) sz) (lf_up ce (k : Int) (sz + (L.length : Int))) cs2 (sz + (L.length : Int)) k (some L) := by
  refine ⟨sz.toNat, ?_, ?_, by omega, hc⟩
  · rw [lf_up_y (by omega)]
    omega
  · rw [lf_up_y (by omega)]
    omega
theorem pm_0 {cs2 : Nat → Int} {L : List Int} (hX : prM pr nk nw kd tr wk cf ce cs sz aw) (hc : ∀ j, j < L.length → cs2 (sz.toNat + j) = L.getD j 0) (hc2 : ∀ j, j < sz.toNat → cs2 j = cs j) : prM (pr.1, pr.2.1, some L, pr.2.2.2) nk nw kd tr wk (lf_up cf (0 : Int) sz) (lf_up ce (0 : Int) (sz + (L.length : Int))) cs2 (sz + (L.length : Int)) aw := by
  obtain ⟨x1, x2, x3, x4, x5, x6⟩ := hX
  exact ⟨x1, x2, x3, ⟨cdT_n (k := 0) x6 hc, cdT_w x4.2.1 (by omega) rfl rfl hc2, cdT_w x4.2.2 (by omega) rfl rfl hc2⟩, x5, by omega⟩
theorem pm_1 {cs2 : Nat → Int} {L : List Int} (hX : prM pr nk nw kd tr wk cf ce cs sz aw) (hc : ∀ j, j < L.length → cs2 (sz.toNat + j) = L.getD j 0) (hc2 : ∀ j, j < sz.toNat → cs2 j = cs j) : prM (pr.1, pr.2.1, pr.2.2.1, some L, pr.2.2.2.2) nk nw kd tr wk (lf_up cf (1 : Int) sz) (lf_up ce (1 : Int) (sz + (L.length : Int))) cs2 (sz + (L.length : Int)) aw := by
  obtain ⟨x1, x2, x3, x4, x5, x6⟩ := hX
  exact ⟨x1, x2, x3, ⟨cdT_w x4.1 (by omega) rfl rfl hc2, cdT_n (k := 1) x6 hc, cdT_w x4.2.2 (by omega) rfl rfl hc2⟩, x5, by omega⟩
theorem pm_2 {cs2 : Nat → Int} {L : List Int} (hX : prM pr nk nw kd tr wk cf ce cs sz aw) (hc : ∀ j, j < L.length → cs2 (sz.toNat + j) = L.getD j 0) (hc2 : ∀ j, j < sz.toNat → cs2 j = cs j) : prM (pr.1, pr.2.1, pr.2.2.1, pr.2.2.2.1, some L, pr.2.2.2.2.2) nk nw kd tr wk (lf_up cf (2 : Int) sz) (lf_up ce (2 : Int) (sz + (L.length : Int))) cs2 (sz + (L.length : Int)) aw := by
  obtain ⟨x1, x2, x3, x4, x5, x6⟩ := hX
  exact ⟨x1, x2, x3, ⟨cdT_w x4.1 (by omega) rfl rfl hc2, cdT_w x4.2.1 (by omega) rfl rfl hc2, cdT_n (k := 2) x6 hc⟩, x5, by omega⟩
end PM
def stP (kd0 wk0 cf0 ce0 cs0 : Nat → Int) (S : ST) (st : PL) (pr : PR) (O : Int × Int × Int × Int × Int × Int × Int × Int × Int × Int × Int × Int × Int × (Nat → Int) × (Nat → Int) × (Nat → Int) × (Nat → Int) × (Nat → Int) × (Nat → Int) × (Nat → Int) × (Nat → Int) × (Nat → Int) × (Nat → Int)) : Prop := frM kd0 wk0 cf0 ce0 cs0 O.2.2.2.2.2.2.2.2.2.2.2.2.2.2.2.2.2.2.2.2.2.1 O.2.2.2.2.2.2.2.2.2.2.2.2.2.2.2.2.2.2.2.2.1 O.2.2.2.2.2.2.2.2.2.2.2.2.2.1 O.2.2.2.2.2.2.2.2.2.2.2.2.2.2.2.2.1 O.2.2.2.2.2.2.2.2.2.2.2.2.2.2.2.2.2.1 ∧ ∀ q, S = .inr q → prM pr st.1.length st.2.1.length O.2.2.2.2.2.2.2.2.2.2.2.2.2.2.2.2.2.2.2.2.2.1 O.2.2.2.2.2.2.2.2.2.2.2.2.2.2.2.2.2.2.2.2.2.2 O.2.2.2.2.2.2.2.2.2.2.2.2.2.2.2.2.2.2.2.2.1 O.2.2.2.2.2.2.2.2.2.2.2.2.2.1 O.2.2.2.2.2.2.2.2.2.2.2.2.2.2.2.2.1 O.2.2.2.2.2.2.2.2.2.2.2.2.2.2.2.2.2.1 O.2.2.2.2.2.2.1 O.2.2.2.2.2.1
theorem stP_fin {g : Nat → Int} {n : Nat} {s : ST} {st : PL} {pr : PR} {k ya ye yb yp np aw cod0 x1 x2 x3 x4 x5 : Int} {kd0 wk0 cf0 ce0 cs0 cf a1 a2 a3 a4 M N wk kd tr : Nat → Int} (hF : frM kd0 wk0 cf0 ce0 cs0 kd wk cf a3 a4) (hok : ∀ q, s = .inr q → prM pr st.1.length st.2.1.length kd tr wk cf a3 a4 cod0 aw) : stP kd0 wk0 cf0 ce0 cs0 (sb s (sp_need g n 59)) st pr (lf_p (F_X10_asksSign_a0_59 ya (n : Int) yb yp g) (fun v172 t_v173 => (lf_p t_v173 (fun v173 v174 => (v172, ye, v173, v174, np, aw, cod0, (lf_o lf_iadd k (1 : Int)), x1, x2, x3, x4, x5, cf, a1, a2, a3, a4, M, N, wk, kd, tr))))) := by
  generalize F_X10_asksSign_a0_59 ya (n : Int) yb yp g = Z
  obtain ⟨z1, z2, z3⟩ := Z
  rw [lf_p_e, lf_p_e]
  refine ⟨hF, fun q e => ?_⟩
  obtain ⟨p0, e0, e1⟩ := sb_in e
  exact hok p0 e0
theorem st_2 {g M N kd tr wk cf ce cs qc qwt : Nat → Int} {n p : Nat} {xa xe np aw cod0 x1 x2 x3 x4 x5 k : Int} {Ks Ws : List (List Int)} {t0 t1 t2 : Bool} {c : CD} {pr : PR} {w1 w2 w3 w4 w5 w6 w7 w8 w9 w10 w11 w12 w13 w14 w15 w16 w17 w18 w19 w20 w21 w22 w23 w24 w25 w26 w27 w28 w29 w30 : Nat → Int} {vnot vand vor vall vmin vmax v1 v2 v3 v4 v5 v6 v7 v8 v9 v10 v11 v12 v13 : Nat → Int} (hn : n ≤ 1600) (hm : mw w1 w2 w3 w4 w5 w6 w7 w8 w9 w10 w11 w12 w13 w14 w15 w16 w17 w18 w19 w20 w21 w22 w23 w24 w25 w26 w27 w28 w29 w30) (hq : qw v1 v2 v3 v4 v5 v6 v7 v8 v9 v10 v11 v12 v13) (hnot : wa vnot W_not) (hand : wa vand W_and) (hor : wa vor W_or) (hall : wa vall W_all) (hmin : wa vmin W_min) (hmax : wa vmax W_max) (h : mp g n p xa xe) (hN : mnm M N Ks Ws) (hf : mtf cf t0 t1 t2) (hc : 0 ≤ cod0) (hcp : cod0 ≤ (p : Int)) (hk : 0 ≤ k ∧ k < 80) (hM9 : prM pr Ks.length Ws.length kd tr wk cf ce cs cod0 aw) : stP kd wk cf ce cs (sb (sp_st g n p (Ks, Ws, t0, t1, t2, c)).1 (sp_need g n 59)) (sp_st g n p (Ks, Ws, t0, t1, t2, c)).2 (sp_px g n p (Ks, Ws, t0, t1, t2, c) pr) (F_X10_statementTold (tx_a g n p : Int) (n : Int) xe (0 : Int) (-1 : Int) np aw cod0 k x1 x2 x3 x4 x5 g w1 w2 w3 w4 w5 w6 w7 w8 w9 w10 w11 w12 w13 w14 w15 w16 w17 w18 w19 w20 w21 w22 w23 w24 w25 w26 w27 w28 w29 w30 M N kd tr wk cf ce cs vnot vand vor vall vmin vmax v1 v2 v3 v4 v5 v6 v7 v8 v9 v10 v11 v12 v13 qc qwt) := by
  have h0 := mp_a h
  have hpn := h.1
  have ew : wl g n ws_0 p = wlf g n p [W_kind, W_comes, W_car, W_red, W_learns, W_away] 0 := (wlf_1 ws_0 0).symm
  have f5 : ∀ q, (.inl (5, (tx_a g n p : Int)) : ST) = .inr q → False := fun q r => by cases r
  have hv5 : sv n (.inl (5, (tx_a g n p : Int)) : ST) := sv_l (by decide)
  unfold F_X10_statementTold
  rw [if_neg (by omega)]
  rw [F_X10_takes_r4_1 hn (W := W_kind) rfl hm.2.2.2.2.1 h0]
  rw [wlf_c] at ew
  cases c0 : wh g n W_kind p with
  | true =>
    rw [c0, if_pos rfl] at ew
    have ew' : wl g n ws_0 p = 0 := ew
    have hk1 := (wh_k c0).1
    have hle := tx_e_le (f := g) hpn
    have hme := mp_tok hpn hk1 (Or.inl rfl)
    rw [if_pos rfl, lf_p_e, lf_p_e, if_neg (show ¬ (1 : Int) = 0 from by decide)]
    by_cases hl : Ks.length < 6
    · have es : sp_st g n p (Ks, Ws, t0, t1, t2, c) = ((sp_k3 g n Ks Ws p).2, (Ks ++ [wd g n (tx_e g n p)], Ws, t0, t1, t2, c)) := by
        unfold sp_st
        rw [ew', if_pos rfl]
        exact if_pos hl
      rw [es]
      have hkt := kt_2 (np := np) (bg := (tx_a g n p : Int)) (kd := kd) (tr := tr) hn hm hpn hme hN hl
      generalize F_X10_kindTold (tx_e g n p : Int) (n : Int) (tx_e g n p : Int) (0 : Int) (-1 : Int) np g w1 w2 w3 w4 w5 w6 w7 w8 w9 w10 w11 w12 w13 w14 w15 w16 w17 w18 w19 w20 w21 w22 w23 w24 w25 w26 w27 w28 w29 w30 M N kd tr (tx_a g n p : Int) = R at hkt ⊢
      obtain ⟨r1, r2, r3, r4, r5, r6, r7, r8, r9⟩ := R
      rw [lf_p_e, lf_p_e, lf_p_e, lf_p_e, lf_p_e, lf_p_e, lf_p_e, lf_p_e]
      refine stP_fin ⟨hkt.1, fun _ _ => rfl, fun _ _ => rfl, fun _ _ => rfl, fun _ _ => rfl⟩ (fun q e => ?_)
      obtain ⟨u1, u2⟩ := hkt.2 q e
      have u1 : r8 = _ := u1
      have u2 : r9 = _ := u2
      have ex : sp_px g n p (Ks, Ws, t0, t1, t2, c) pr = (pr.1 ++ [((sp_k1 g n Ks Ws p).1, (sp_k2 g n Ks Ws p).1, (sp_k3 g n Ks Ws p).1)], pr.2) := by
        unfold sp_px
        rw [ew']
        exact if_pos rfl
      rw [ex, u1, u2]
      show prM _ (Ks ++ [_]).length Ws.length _ _ _ _ _ _ _ _
      rw [List.length_append]
      exact pm_k hM9
    · have es : sp_st g n p (Ks, Ws, t0, t1, t2, c) = (.inl (5, (tx_a g n p : Int)), (Ks, Ws, t0, t1, t2, c)) := by
        unfold sp_st
        rw [ew', if_pos rfl]
        exact if_neg hl
      have hM : M 0 = 6 := by
        have a1 := hN.1
        have a2 := hN.2.2.2.2.2.2.1
        omega
      rw [es, kt_f hM, lf_p_e, lf_p_e, lf_p_e, lf_p_e, lf_p_e, lf_p_e, lf_p_e, lf_p_e]
      exact stP_fin frM_r (fun q e => (f5 q e).elim)
  | false =>
    rw [c0, if_neg (show ¬ false = true from fun r => Bool.noConfusion r)] at ew
    rw [if_neg (show ¬ false = true from fun r => Bool.noConfusion r), lf_p_e, lf_p_e, if_pos rfl]
    rw [F_X10_takes_r5_1 hn (W := W_comes) rfl hm.2.2.2.2.2.2.2.2.1 h0]
    rw [wlf_c] at ew
    cases c1 : wh g n W_comes p with
    | true =>
      rw [c1, if_pos rfl] at ew
      have ew' : wl g n ws_0 p = 1 := ew
      have hk1 := (wh_k c1).1
      have hle := tx_e_le (f := g) hpn
      have hme := mp_tok hpn hk1 (Or.inl rfl)
      rw [if_pos rfl, lf_p_e, lf_p_e, if_neg (show ¬ (1 : Int) = 0 from by decide)]
      by_cases hl : Ws.length < 12
      · have es : sp_st g n p (Ks, Ws, t0, t1, t2, c) = ((sp_c3 g n Ks Ws p).2, (Ks, Ws ++ [wd g n (tx_e g n p)], t0, t1, t2, c)) := by
          unfold sp_st
          rw [ew', if_neg (show ¬ (1 : Int) = 0 from by decide), if_pos rfl]
          exact if_pos hl
        rw [es]
        have hkt := wt_2 (np := np) (bg := (tx_a g n p : Int)) (wk := wk) hn hm hpn hme hN hl
        generalize F_X10_walkerTold (tx_e g n p : Int) (n : Int) (tx_e g n p : Int) (0 : Int) (-1 : Int) np g w1 w2 w3 w4 w5 w6 w7 w8 w9 w10 w11 w12 w13 w14 w15 w16 w17 w18 w19 w20 w21 w22 w23 w24 w25 w26 w27 w28 w29 w30 M N wk (tx_a g n p : Int) = R at hkt ⊢
        obtain ⟨r1, r2, r3, r4, r5, r6, r7, r8⟩ := R
        rw [lf_p_e, lf_p_e, lf_p_e, lf_p_e, lf_p_e, lf_p_e, lf_p_e]
        refine stP_fin ⟨fun _ _ => rfl, hkt.1, fun _ _ => rfl, fun _ _ => rfl, fun _ _ => rfl⟩ (fun q e => ?_)
        have u1 : r8 = _ := hkt.2 q e
        have ex : sp_px g n p (Ks, Ws, t0, t1, t2, c) pr = (pr.1, pr.2.1 ++ [((sp_c2 g n Ks Ws p).1, (sp_c3 g n Ks Ws p).1)], pr.2.2) := by
          unfold sp_px
          rw [ew', if_neg (show ¬ (1 : Int) = 0 from by decide)]
          exact if_pos rfl
        rw [ex, u1]
        show prM _ Ks.length (Ws ++ [_]).length _ _ _ _ _ _ _ _
        rw [List.length_append]
        exact pm_c hM9
      · have es : sp_st g n p (Ks, Ws, t0, t1, t2, c) = (.inl (5, (tx_a g n p : Int)), (Ks, Ws, t0, t1, t2, c)) := by
          unfold sp_st
          rw [ew', if_neg (show ¬ (1 : Int) = 0 from by decide), if_pos rfl]
          exact if_neg hl
        have hM : M 1 = 12 := by
          have a1 := hN.2.1
          have a2 := hN.2.2.2.2.2.2.2
          omega
        rw [es, wt_f hM, lf_p_e, lf_p_e, lf_p_e, lf_p_e, lf_p_e, lf_p_e, lf_p_e]
        exact stP_fin frM_r (fun q e => (f5 q e).elim)
    | false =>
      rw [c1, if_neg (show ¬ false = true from fun r => Bool.noConfusion r)] at ew
      rw [if_neg (show ¬ false = true from fun r => Bool.noConfusion r), lf_p_e, lf_p_e, if_pos rfl]
      rw [F_X10_takes_1 hn (W := W_car) rfl hm.2.2.2.2.2.2.2.2.2.2.2.1 h0]
      rw [wlf_c] at ew
      cases c2 : wh g n W_car p with
      | true =>
        rw [c2, if_pos rfl] at ew
        have ew' : wl g n ws_0 p = 2 := ew
        have hk1 := (wh_k c2).1
        have hle := tx_e_le (f := g) hpn
        have hme := mp_tok hpn hk1 (Or.inl rfl)
        rw [if_pos rfl, lf_p_e, lf_p_e, if_neg (show ¬ (1 : Int) = 0 from by decide)]
        cases ht : t0 with
        | true =>
          have hcf : ¬ cf 0 = -1 := hf.1.mp ht
          have es : sp_st g n p (Ks, Ws, t0, t1, t2, c) = (.inl (5, (tx_a g n p : Int)), (Ks, Ws, t0, t1, t2, c)) := by
            unfold sp_st
            rw [ew', if_neg (show ¬ (2 : Int) = 0 from by decide), if_neg (show ¬ (2 : Int) = 1 from by decide), if_pos rfl]
            exact if_pos ht
          rw [ht] at es
          rw [es, ct_0n hcf, lf_p_e, lf_p_e, lf_p_e, lf_p_e, lf_p_e, lf_p_e, lf_p_e, lf_p_e, lf_p_e, lf_p_e, lf_p_e, lf_p_e, lf_p_e, lf_p_e]
          exact stP_fin frM_r (fun q e => (f5 q e).elim)
        | false =>
          have hcf : cf 0 = -1 := Decidable.byContradiction (fun r => Bool.noConfusion (ht.symm.trans (hf.1.mpr r)))
          have es : sp_st g n p (Ks, Ws, t0, t1, t2, c) = ((cod g n 0 7 (tx_e g n p) c).1, (Ks, Ws, true, t1, t2, (cod g n 0 7 (tx_e g n p) c).2)) := by
            unfold sp_st
            rw [ew', if_neg (show ¬ (2 : Int) = 0 from by decide), if_neg (show ¬ (2 : Int) = 1 from by decide), if_pos rfl]
            exact if_neg (fun r => Bool.noConfusion (ht.symm.trans r))
          rw [ht] at es
          have ec : (cod g n 0 7 (tx_e g n p) c) = sTest g n 7 6 (tx_e g n p) c := if_neg (by decide)
          rw [es]
          have hct := kc_0 (cs := cs) (ce := ce) (qc := qc) (qwt := qwt) (x1 := x1) (x2 := x2) (x3 := x3) (x4 := x4) (x5 := x5) (bg := (tx_a g n p : Int)) hn hq hnot hand hor hall hmin hmax hme hc hcf (by have h8 : p < tx_e g n p := tx_e_gt' (by omega); omega)
          generalize F_X10_codesTold_a0_0 (tx_e g n p : Int) (n : Int) (tx_e g n p : Int) (0 : Int) (-1 : Int) cod0 x1 x2 x3 x4 x5 g cf ce cs vnot vand vor vall vmin vmax v1 v2 v3 v4 v5 v6 v7 v8 v9 v10 v11 v12 v13 qc qwt (tx_a g n p : Int) = R at hct ⊢
          obtain ⟨r1, r2, r3, r4, r5, r6, r7, r8, r9, r10, r11, r12, r13, r14, r15⟩ := R
          rw [lf_p_e, lf_p_e, lf_p_e, lf_p_e, lf_p_e, lf_p_e, lf_p_e, lf_p_e, lf_p_e, lf_p_e, lf_p_e, lf_p_e, lf_p_e, lf_p_e]
          refine stP_fin ⟨fun _ _ => rfl, fun _ _ => rfl, hct.1.1, hct.1.2.1, hct.1.2.2⟩ (fun q e => ?_)
          obtain ⟨L, m1⟩ := cod_L hle e
          obtain ⟨u1, u2, u3, u4, u5⟩ := hct.2 q L m1
          have u1 : r11 = lf_up cf (0 : Int) cod0 := u1
          have u2 : r14 = lf_up ce (0 : Int) (cod0 + (L.length : Int)) := u2
          have u3 : r5 = cod0 + (L.length : Int) := u3
          have e7 : lstM (codM g n 0 7 (tx_e g n p)) = L := by
            rw [m1]
            rfl
          have ex : sp_px g n p (Ks, Ws, false, t1, t2, c) pr = (pr.1, pr.2.1, some L, pr.2.2.2) := by
            unfold sp_px
            rw [ew', if_neg (show ¬ (2 : Int) = 0 from by decide), if_neg (show ¬ (2 : Int) = 1 from by decide), if_pos rfl, e7]
          rw [ex, u1, u2, u3]
          exact pm_0 hM9 u4 u5
      | false =>
        rw [c2, if_neg (show ¬ false = true from fun r => Bool.noConfusion r)] at ew
        rw [if_neg (show ¬ false = true from fun r => Bool.noConfusion r), lf_p_e, lf_p_e, if_pos rfl]
        rw [F_X10_takes_1 hn (W := W_red) rfl hm.2.2.2.2.2.2.2.2.2.2.2.2.1 h0]
        rw [wlf_c] at ew
        cases c3 : wh g n W_red p with
        | true =>
          rw [c3, if_pos rfl] at ew
          have ew' : wl g n ws_0 p = 3 := ew
          have hk1 := (wh_k c3).1
          have hle := tx_e_le (f := g) hpn
          have hme := mp_tok hpn hk1 (Or.inl rfl)
          rw [if_pos rfl, lf_p_e, lf_p_e, if_neg (show ¬ (1 : Int) = 0 from by decide)]
          cases ht : t1 with
          | true =>
            have hcf : ¬ cf 1 = -1 := hf.2.1.mp ht
            have es : sp_st g n p (Ks, Ws, t0, t1, t2, c) = (.inl (5, (tx_a g n p : Int)), (Ks, Ws, t0, t1, t2, c)) := by
              unfold sp_st
              rw [ew', if_neg (show ¬ (3 : Int) = 0 from by decide), if_neg (show ¬ (3 : Int) = 1 from by decide), if_neg (show ¬ (3 : Int) = 2 from by decide), if_pos rfl]
              exact if_pos ht
            rw [ht] at es
            rw [es, ct_1n hcf, lf_p_e, lf_p_e, lf_p_e, lf_p_e, lf_p_e, lf_p_e, lf_p_e, lf_p_e, lf_p_e, lf_p_e, lf_p_e, lf_p_e, lf_p_e, lf_p_e]
            exact stP_fin frM_r (fun q e => (f5 q e).elim)
          | false =>
            have hcf : cf 1 = -1 := Decidable.byContradiction (fun r => Bool.noConfusion (ht.symm.trans (hf.2.1.mpr r)))
            have es : sp_st g n p (Ks, Ws, t0, t1, t2, c) = ((cod g n 2 507 (tx_e g n p) c).1, (Ks, Ws, t0, true, t2, (cod g n 2 507 (tx_e g n p) c).2)) := by
              unfold sp_st
              rw [ew', if_neg (show ¬ (3 : Int) = 0 from by decide), if_neg (show ¬ (3 : Int) = 1 from by decide), if_neg (show ¬ (3 : Int) = 2 from by decide), if_pos rfl]
              exact if_neg (fun r => Bool.noConfusion (ht.symm.trans r))
            rw [ht] at es
            have ec : (cod g n 2 507 (tx_e g n p) c) = sTest g n 507 6 (tx_e g n p) c := if_neg (by decide)
            rw [es]
            have hct := kc_1 (cs := cs) (ce := ce) (qc := qc) (qwt := qwt) (x1 := x1) (x2 := x2) (x3 := x3) (x4 := x4) (x5 := x5) (bg := (tx_a g n p : Int)) hn hq hnot hand hor hall hmin hmax hme hc hcf (by have h8 : p < tx_e g n p := tx_e_gt' (by omega); omega)
            generalize F_X10_codesTold_a0_1 (tx_e g n p : Int) (n : Int) (tx_e g n p : Int) (0 : Int) (-1 : Int) cod0 x1 x2 x3 x4 x5 g cf ce cs vnot vand vor vall vmin vmax v1 v2 v3 v4 v5 v6 v7 v8 v9 v10 v11 v12 v13 qc qwt (tx_a g n p : Int) = R at hct ⊢
            obtain ⟨r1, r2, r3, r4, r5, r6, r7, r8, r9, r10, r11, r12, r13, r14, r15⟩ := R
            rw [lf_p_e, lf_p_e, lf_p_e, lf_p_e, lf_p_e, lf_p_e, lf_p_e, lf_p_e, lf_p_e, lf_p_e, lf_p_e, lf_p_e, lf_p_e, lf_p_e]
            refine stP_fin ⟨fun _ _ => rfl, fun _ _ => rfl, hct.1.1, hct.1.2.1, hct.1.2.2⟩ (fun q e => ?_)
            obtain ⟨L, m1⟩ := cod_L hle e
            obtain ⟨u1, u2, u3, u4, u5⟩ := hct.2 q L m1
            have u1 : r11 = lf_up cf (1 : Int) cod0 := u1
            have u2 : r14 = lf_up ce (1 : Int) (cod0 + (L.length : Int)) := u2
            have u3 : r5 = cod0 + (L.length : Int) := u3
            have e7 : lstM (codM g n 2 507 (tx_e g n p)) = L := by
              rw [m1]
              rfl
            have ex : sp_px g n p (Ks, Ws, t0, false, t2, c) pr = (pr.1, pr.2.1, pr.2.2.1, some L, pr.2.2.2.2) := by
              unfold sp_px
              rw [ew', if_neg (show ¬ (3 : Int) = 0 from by decide), if_neg (show ¬ (3 : Int) = 1 from by decide), if_neg (show ¬ (3 : Int) = 2 from by decide), if_pos rfl, e7]
            rw [ex, u1, u2, u3]
            exact pm_1 hM9 u4 u5
        | false =>
          rw [c3, if_neg (show ¬ false = true from fun r => Bool.noConfusion r)] at ew
          rw [if_neg (show ¬ false = true from fun r => Bool.noConfusion r), lf_p_e, lf_p_e, if_pos rfl]
          rw [F_X10_takes_r6_1 hn (W := W_learns) rfl hm.2.2.2.2.2.2.2.2.2.2.2.2.2.1 h0]
          rw [wlf_c] at ew
          cases c4 : wh g n W_learns p with
          | true =>
            rw [c4, if_pos rfl] at ew
            have ew' : wl g n ws_0 p = 4 := ew
            have hk1 := (wh_k c4).1
            have hle := tx_e_le (f := g) hpn
            have hme := mp_tok hpn hk1 (Or.inl rfl)
            rw [if_pos rfl, lf_p_e, lf_p_e, if_neg (show ¬ (1 : Int) = 0 from by decide)]
            cases ht : t2 with
            | true =>
              have hcf : ¬ cf 2 = -1 := hf.2.2.mp ht
              have es : sp_st g n p (Ks, Ws, t0, t1, t2, c) = (.inl (5, (tx_a g n p : Int)), (Ks, Ws, t0, t1, t2, c)) := by
                unfold sp_st
                rw [ew', if_neg (show ¬ (4 : Int) = 0 from by decide), if_neg (show ¬ (4 : Int) = 1 from by decide), if_neg (show ¬ (4 : Int) = 2 from by decide), if_neg (show ¬ (4 : Int) = 3 from by decide), if_pos rfl]
                exact if_pos ht
              rw [ht] at es
              rw [es, ct_2n hcf, lf_p_e, lf_p_e, lf_p_e, lf_p_e, lf_p_e, lf_p_e, lf_p_e, lf_p_e, lf_p_e, lf_p_e, lf_p_e, lf_p_e, lf_p_e, lf_p_e]
              exact stP_fin frM_r (fun q e => (f5 q e).elim)
            | false =>
              have hcf : cf 2 = -1 := Decidable.byContradiction (fun r => Bool.noConfusion (ht.symm.trans (hf.2.2.mpr r)))
              have es : sp_st g n p (Ks, Ws, t0, t1, t2, c) = ((cod g n 4 123 (tx_e g n p) c).1, (Ks, Ws, t0, t1, true, (cod g n 4 123 (tx_e g n p) c).2)) := by
                unfold sp_st
                rw [ew', if_neg (show ¬ (4 : Int) = 0 from by decide), if_neg (show ¬ (4 : Int) = 1 from by decide), if_neg (show ¬ (4 : Int) = 2 from by decide), if_neg (show ¬ (4 : Int) = 3 from by decide), if_pos rfl]
                exact if_neg (fun r => Bool.noConfusion (ht.symm.trans r))
              rw [ht] at es
              have ec : (cod g n 4 123 (tx_e g n p) c) = sSum g n 123 6 (tx_e g n p) c := if_pos rfl
              rw [es]
              have hct := kc_2 (cs := cs) (ce := ce) (qc := qc) (qwt := qwt) (x1 := x1) (x2 := x2) (x3 := x3) (x4 := x4) (x5 := x5) (bg := (tx_a g n p : Int)) hn hq hmin hmax hme hc hcf (by have h8 : p < tx_e g n p := tx_e_gt' (by omega); omega)
              generalize F_X10_codesTold_a0_2 (tx_e g n p : Int) (n : Int) (tx_e g n p : Int) (0 : Int) (-1 : Int) cod0 x1 x2 x3 x4 x5 g cf ce cs vmin vmax v1 v2 v3 v4 v5 v6 v7 v8 v9 v10 v11 v12 v13 qc qwt (tx_a g n p : Int) = R at hct ⊢
              obtain ⟨r1, r2, r3, r4, r5, r6, r7, r8, r9, r10, r11, r12, r13, r14, r15⟩ := R
              rw [lf_p_e, lf_p_e, lf_p_e, lf_p_e, lf_p_e, lf_p_e, lf_p_e, lf_p_e, lf_p_e, lf_p_e, lf_p_e, lf_p_e, lf_p_e, lf_p_e]
              refine stP_fin ⟨fun _ _ => rfl, fun _ _ => rfl, hct.1.1, hct.1.2.1, hct.1.2.2⟩ (fun q e => ?_)
              obtain ⟨L, m1⟩ := cod_L hle e
              obtain ⟨u1, u2, u3, u4, u5⟩ := hct.2 q L m1
              have u1 : r11 = lf_up cf (2 : Int) cod0 := u1
              have u2 : r14 = lf_up ce (2 : Int) (cod0 + (L.length : Int)) := u2
              have u3 : r5 = cod0 + (L.length : Int) := u3
              have e7 : lstM (codM g n 4 123 (tx_e g n p)) = L := by
                rw [m1]
                rfl
              have ex : sp_px g n p (Ks, Ws, t0, t1, false, c) pr = (pr.1, pr.2.1, pr.2.2.1, pr.2.2.2.1, some L, pr.2.2.2.2.2) := by
                unfold sp_px
                rw [ew', if_neg (show ¬ (4 : Int) = 0 from by decide), if_neg (show ¬ (4 : Int) = 1 from by decide), if_neg (show ¬ (4 : Int) = 2 from by decide), if_neg (show ¬ (4 : Int) = 3 from by decide), if_pos rfl, e7]
              rw [ex, u1, u2, u3]
              exact pm_2 hM9 u4 u5
          | false =>
            rw [c4, if_neg (show ¬ false = true from fun r => Bool.noConfusion r)] at ew
            rw [if_neg (show ¬ false = true from fun r => Bool.noConfusion r), lf_p_e, lf_p_e, if_pos rfl]
            have es1 : (sp_st g n p (Ks, Ws, t0, t1, t2, c)).1 = (sp_nb g n ws_1 0 100 p).2 ∧ (sp_st g n p (Ks, Ws, t0, t1, t2, c)).2 = (Ks, Ws, t0, t1, t2, c) ∧ ∀ q5, (sp_nb g n ws_1 0 100 p).2 = .inr q5 → sp_px g n p (Ks, Ws, t0, t1, t2, c) pr = (pr.1, pr.2.1, pr.2.2.1, pr.2.2.2.1, pr.2.2.2.2.1, (sp_nb g n ws_1 0 100 p).1) := by
              rw [wlf_c] at ew
              cases c5 : wh g n W_away p with
              | true =>
                rw [c5, if_pos rfl] at ew
                have ew' : wl g n ws_0 p = 5 := ew
                have es : sp_st g n p (Ks, Ws, t0, t1, t2, c) = ((sp_nb g n ws_1 0 100 p).2, (Ks, Ws, t0, t1, t2, c)) := by
                  unfold sp_st
                  rw [ew', if_neg (show ¬ (5 : Int) = 0 from by decide), if_neg (show ¬ (5 : Int) = 1 from by decide), if_neg (show ¬ (5 : Int) = 2 from by decide), if_neg (show ¬ (5 : Int) = 3 from by decide), if_neg (show ¬ (5 : Int) = 4 from by decide), if_pos rfl]
                rw [es]
                refine ⟨rfl, rfl, fun q5 r5 => ?_⟩
                unfold sp_px
                rw [ew', if_neg (show ¬ (5 : Int) = 0 from by decide), if_neg (show ¬ (5 : Int) = 1 from by decide), if_neg (show ¬ (5 : Int) = 2 from by decide), if_neg (show ¬ (5 : Int) = 3 from by decide), if_neg (show ¬ (5 : Int) = 4 from by decide)]
                exact if_pos rfl
              | false =>
                rw [c5, if_neg (show ¬ false = true from fun r => Bool.noConfusion r)] at ew
                have ew' : wl g n ws_0 p = -1 := ew
                have es : sp_st g n p (Ks, Ws, t0, t1, t2, c) = (.inl (1, (tx_a g n p : Int)), (Ks, Ws, t0, t1, t2, c)) := by
                  unfold sp_st
                  rw [ew', if_neg (show ¬ (-1 : Int) = 0 from by decide), if_neg (show ¬ (-1 : Int) = 1 from by decide), if_neg (show ¬ (-1 : Int) = 2 from by decide), if_neg (show ¬ (-1 : Int) = 3 from by decide), if_neg (show ¬ (-1 : Int) = 4 from by decide), if_neg (show ¬ (-1 : Int) = 5 from by decide)]
                rw [es]
                have e1 : sp_w g n ws_1 p = .inl (1, (tx_a g n p : Int)) := (sp_w1 W_away).trans (if_neg (fun r => Bool.noConfusion (c5.symm.trans r)))
                have e2 : (sp_nb g n ws_1 0 100 p).2 = .inl (1, (tx_a g n p : Int)) := by
                  unfold sp_nb
                  rw [e1]
                exact ⟨e2.symm, rfl, fun q5 r5 => by
                  rw [e2] at r5
                  cases r5⟩
            rw [es1.1, es1.2.1]
            have ha := F_X10_asks_r4_s (W := W_away) (s := .inr p) (xb := 0) (xp := -1) hn rfl hm.2.2.2.2.2.2.2.2.2.2.2.2.2.2.1 hpn ⟨rfl, rfl, h0⟩
            generalize F_X10_asks_r4 (tx_a g n p : Int) (n : Int) xe (0 : Int) (-1 : Int) g w15 = R at ha ⊢
            obtain ⟨r1, r2, r3, r4⟩ := R
            rw [lf_p_e, lf_p_e, lf_p_e, F_X10_number_a0_0_a1_100_g]
            have ha' : rm g n (sp_w g n ws_1 p) r1 r2 r3 r4 := ha
            have hb := gM_s hn (sp_w_v ws_1 hpn) ha' 0 100 0
            generalize gM r1 (n : Int) r2 r3 r4 g (0 : Int) (100 : Int) = R at hb ⊢
            obtain ⟨q1, q2, q3, q4, q5⟩ := R
            rw [lf_p_e, lf_p_e, lf_p_e, lf_p_e]
            refine stP_fin frM_r (fun q e => ?_)
            have hv9 : q1 = (sp_nb g n ws_1 0 100 p).1 := hb.2 q e
            rw [es1.2.2 q e, ← hv9]
            exact pm_5 hM9
