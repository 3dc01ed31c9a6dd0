/-- what crossing answers, and what stands behind it -/
def tellN (Mz Nz bar : Nat → Int) (isc : Int) (O : Int × Int × Int × Int × Int × Int × Int × Int × Int × Int × Int × Int × Int × Int × Int × Int × Int × Int × Int × Int × (Nat → Int) × (Nat → Int) × (Nat → Int) × (Nat → Int) × (Nat → Int) × (Nat → Int) × (Nat → Int) × (Nat → Int) × (Nat → Int) × (Nat → Int) × (Nat → Int) × (Nat → Int) × (Nat → Int)) (r : Sum (Int × Int) (Nat × PL)) : Prop := match r with
  | .inl q => O.1 = -1 ∧ O.2.2.2.2.2.1 = q.1 ∧ O.2.2.2.2.2.2.1 = q.2 ∧ (∀ j, 2 ≤ j → O.2.2.2.2.2.2.2.2.2.2.2.2.2.2.2.2.2.2.2.2.1 j = Mz j) ∧ (∀ j, 24 ≤ j → O.2.2.2.2.2.2.2.2.2.2.2.2.2.2.2.2.2.2.2.2.2.2.2.2.1 j = Nz j) ∧ O.2.2.2.2.2.2.2.2.2.2.2.2.2.2.2.2.2.2.2.2.2.2.1 = bar ∧ O.2.2.2.2.2.2.2.2.2.2.2.2.1 = isc
  | .inr x => O.1 = (x.1 : Int) ∧ O.2.2.2.2.2.1 = 0 ∧ O.2.2.2.2.2.2.1 = -1 ∧ O.2.2.2.2.2.2.2.2.2.2.2.2.2.2.2.2.2.2.2.2.1 2 = (x.2.1.length : Int) ∧ O.2.2.2.2.2.2.2.2.2.2.2.2.2.2.2.2.2.2.2.2.1 3 = (x.2.2.1.length : Int) ∧ keptM O.2.2.2.2.2.2.2.2.2.2.2.2.2.2.2.2.2.2.2.2.2.2.2.2.1 24 x.2.1 ∧ keptM O.2.2.2.2.2.2.2.2.2.2.2.2.2.2.2.2.2.2.2.2.2.2.2.2.1 36 x.2.2.1 ∧ O.2.2.2.2.2.2.2.2.2.2.2.2.2.2.2.2.2.2.2.2.2.2.1 = sdB bar ∧ O.2.2.2.2.2.2.2.2.2.2.2.2.1 = 1 ∧ x.2.1.length ≤ 6 ∧ x.2.2.1.length ≤ 12
theorem kept_cp {N : Nat → Int} {fr : Nat} {L : List (List Int)} (h : keptM N fr L) (hl : fr + L.length ≤ 24) : keptM (cpA 24 24 0 N) (24 + fr) L := by
  intro i hi
  show (if 24 + 0 ≤ 24 + fr + i ∧ 24 + fr + i < 24 + 24 then N (24 + fr + i - 24) else N (24 + fr + i)) = _
  rw [if_pos (by omega), show 24 + fr + i - 24 = fr + i from by omega]
  exact h i hi
theorem mc2_loop {g refu now Mz Nz bar : Nat → Int} {n : Nat} {aw0 isc rm0 und : Int} {w1 w2 w3 w4 w5 w6 w7 w8 w9 w10 w11 w12 w13 w14 w15 w16 w17 w18 w19 w20 w21 w22 w23 w24 w25 w26 w27 w28 w29 w30 vnot vand vor vall vmin vmax v1 v2 v3 v4 v5 v6 v7 v8 v9 v10 v11 v12 v13 : Nat → Int} (hn : n ≤ 1600) (hg : ∀ k, k < n → 0 ≤ g k) (hm : mw w1 w2 w3 w4 w5 w6 w7 w8 w9 w10 w11 w12 w13 w14 w15 w16 w17 w18 w19 w20 w21 w22 w23 w24 w25 w26 w27 w28 w29 w30) (hq : qw v1 v2 v3 v4 v5 v6 v7 v8 v9 v10 v11 v12 v13) (hnot : wa vnot W_not) (hand : wa vand W_and) (hor : wa vor W_or) (hall : wa vall W_all) (hmin : wa vmin W_min) (hmax : wa vmax W_max) : ∀ (f f2 k p : Nat) (Ks Ws : List (List Int)) (t0 t1 t2 : Bool) (c : CD) (xa xe np aw cod0 x1 x2 x3 x4 x5 : Int) (M cf N wk kd ce cs tr qwt qc : Nat → Int), mp g n p xa xe → mnm M N Ks Ws → mtf cf t0 t1 t2 → 0 ≤ cod0 → cod0 ≤ (p : Int) → (∀ j, 2 ≤ j → M j = Mz j) → (∀ j, 24 ≤ j → N j = Nz j) → k ≤ 80 → 81 ≤ k + f → 82 ≤ k + f2 → tellN Mz Nz bar isc (F_X10_crossing_86 (n : Int) aw0 isc rm0 und g refu w1 w2 w3 w4 w5 w6 w7 w8 w9 w10 w11 w12 w13 w14 w15 w16 w17 w18 w19 w20 w21 w22 w23 w24 w25 w26 w27 w28 w29 w30 now vnot vand vor vall vmin vmax v1 v2 v3 v4 v5 v6 v7 v8 v9 v10 v11 v12 v13 f2 xa xe (0 : Int) (-1 : Int) M cf bar np aw cod0 (k : Int) x1 x2 x3 x4 x5 N wk kd ce cs tr qwt qc) (rcL g n f k p (Ks, Ws, t0, t1, t2, c)) := by
  intro f
  induction f with
  | zero => intro f2 k p Ks Ws t0 t1 t2 c xa xe np aw cod0 x1 x2 x3 x4 x5 M cf N wk kd ce cs tr qwt qc h hN hf hc hcp hM hNn h1 h2; omega
  | succ f ih =>
    intro f2 k p Ks Ws t0 t1 t2 c xa xe np aw cod0 x1 x2 x3 x4 x5 M cf N wk kd ce cs tr qwt qc h hN hf hc hcp hM hNn h1 h2 h3
    obtain ⟨f2, rfl⟩ : ∃ j, f2 = j + 2 := ⟨f2 - 2, by omega⟩
    have hpn := h.1
    have hM0 := hN.1
    have hM1 := hN.2.1
    have hKl := hN.2.2.2.2.2.2.1
    have hWl := hN.2.2.2.2.2.2.2
    show tellN Mz Nz bar isc (F_X10_crossing_86b (n : Int) aw0 isc rm0 und g refu w1 w2 w3 w4 w5 w6 w7 w8 w9 w10 w11 w12 w13 w14 w15 w16 w17 w18 w19 w20 w21 w22 w23 w24 w25 w26 w27 w28 w29 w30 now vnot vand vor vall vmin vmax v1 v2 v3 v4 v5 v6 v7 v8 v9 v10 v11 v12 v13 (F_X10_crossing_86 (n : Int) aw0 isc rm0 und g refu w1 w2 w3 w4 w5 w6 w7 w8 w9 w10 w11 w12 w13 w14 w15 w16 w17 w18 w19 w20 w21 w22 w23 w24 w25 w26 w27 w28 w29 w30 now vnot vand vor vall vmin vmax v1 v2 v3 v4 v5 v6 v7 v8 v9 v10 v11 v12 v13 (f2 + 1)) xa xe (0 : Int) (-1 : Int) M cf bar np aw cod0 (k : Int) x1 x2 x3 x4 x5 N wk kd ce cs tr qwt qc) _
    have flt : ∀ (q : Int × Int) (ya ye yb yp np aw cod0 kk x1 x2 x3 x4 x5 : Int) (M cf N wk kd ce cs tr qwt qc : Nat → Int), ¬ q.1 = 0 → yb = q.1 → yp = q.2 → (∀ j, 2 ≤ j → M j = Mz j) → (∀ j, 24 ≤ j → N j = Nz j) → tellN Mz Nz bar isc (F_X10_crossing_86 (n : Int) aw0 isc rm0 und g refu w1 w2 w3 w4 w5 w6 w7 w8 w9 w10 w11 w12 w13 w14 w15 w16 w17 w18 w19 w20 w21 w22 w23 w24 w25 w26 w27 w28 w29 w30 now vnot vand vor vall vmin vmax v1 v2 v3 v4 v5 v6 v7 v8 v9 v10 v11 v12 v13 (f2 + 1) ya ye yb yp M cf bar np aw cod0 kk x1 x2 x3 x4 x5 N wk kd ce cs tr qwt qc) (.inl q) := by
      intro q ya ye yb yp np aw cod0 kk x1 x2 x3 x4 x5 M cf N wk kd ce cs tr qwt qc h1 h2 h3 h4 h5
      show tellN Mz Nz bar isc (F_X10_crossing_86b (n : Int) aw0 isc rm0 und g refu w1 w2 w3 w4 w5 w6 w7 w8 w9 w10 w11 w12 w13 w14 w15 w16 w17 w18 w19 w20 w21 w22 w23 w24 w25 w26 w27 w28 w29 w30 now vnot vand vor vall vmin vmax v1 v2 v3 v4 v5 v6 v7 v8 v9 v10 v11 v12 v13 _ ya ye yb yp M cf bar np aw cod0 kk x1 x2 x3 x4 x5 N wk kd ce cs tr qwt qc) _
      unfold F_X10_crossing_86b
      rw [if_neg (show ¬ yb = 0 from fun r => h1 (h2.symm.trans r))]
      exact ⟨rfl, h2, h3, h4, h5, rfl, rfl⟩
    unfold F_X10_crossing_86b rcL
    rw [if_pos rfl, ml_look hn h, lf_p_e]
    by_cases q : tx_k g n p = 0
    · rw [if_pos ((lk_end hpn hg).mpr q), if_pos q, sd_1 hc (by omega)]
      rw [lf_p_e, lf_p_e, lf_p_e, lf_p_e, lf_p_e, lf_p_e, lf_p_e, lf_p_e]
      exact ⟨rfl, rfl, rfl, hM0, hM1, kept_cp hN.2.2.2.2.1 (by omega), kept_cp hN.2.2.2.2.2.1 (by omega), rfl, rfl, hKl, hWl⟩
    · rw [if_neg (fun r => q ((lk_end hpn hg).mp r)), if_neg q]
      by_cases q8 : 80 ≤ k
      · have hk8 : (k : Int) = 80 := by omega
        unfold F_X10_statementTold
        rw [if_pos q8, if_pos hk8, lf_p_e, lf_p_e, lf_p_e, lf_p_e, lf_p_e, lf_p_e, lf_p_e, lf_p_e, lf_p_e, lf_p_e, lf_p_e, lf_p_e, lf_p_e, lf_p_e, lf_p_e, lf_p_e, lf_p_e, lf_p_e, lf_p_e, lf_p_e, lf_p_e, lf_p_e]
        exact flt (5, (tx_a g n p : Int)) _ _ _ _ _ _ _ _ _ _ _ _ _ _ _ _ _ _ _ _ _ _ _ (show ¬ (5 : Int) = 0 from by decide) rfl rfl hM hNn
      · rw [if_neg q8]
        have hst := st_1 (M := M) (N := N) (kd := kd) (tr := tr) (wk := wk) (cf := cf) (ce := ce) (cs := cs) (qc := qc) (qwt := qwt) (np := np) (aw := aw) (cod0 := cod0) (x1 := x1) (x2 := x2) (x3 := x3) (x4 := x4) (x5 := x5) (k := (k : Int)) (c := c) hn hm hq hnot hand hor hall hmin hmax h hN hf hc hcp (by omega)
        have hfr := st_fr (g := g) (M := M) (N := N) (kd := kd) (tr := tr) (wk := wk) (cf := cf) (ce := ce) (cs := cs) (qc := qc) (qwt := qwt) (xa := (tx_a g n p : Int)) (n := (n : Int)) (xe := xe) (xb := (0 : Int)) (xp := (-1 : Int)) (np := np) (aw := aw) (cod0 := cod0) (x1 := x1) (x2 := x2) (x3 := x3) (x4 := x4) (x5 := x5) (k := (k : Int)) (w1 := w1) (w2 := w2) (w3 := w3) (w4 := w4) (w5 := w5) (w6 := w6) (w7 := w7) (w8 := w8) (w9 := w9) (w10 := w10) (w11 := w11) (w12 := w12) (w13 := w13) (w14 := w14) (w15 := w15) (w16 := w16) (w17 := w17) (w18 := w18) (w19 := w19) (w20 := w20) (w21 := w21) (w22 := w22) (w23 := w23) (w24 := w24) (w25 := w25) (w26 := w26) (w27 := w27) (w28 := w28) (w29 := w29) (w30 := w30) (vnot := vnot) (vand := vand) (vor := vor) (vall := vall) (vmin := vmin) (vmax := vmax) (v1 := v1) (v2 := v2) (v3 := v3) (v4 := v4) (v5 := v5) (v6 := v6) (v7 := v7) (v8 := v8) (v9 := v9) (v10 := v10) (v11 := v11) (v12 := v12) (v13 := v13) (by omega) (by omega) (by omega) (by omega) rfl rfl
        have hsv : sv n (sb (sp_st g n p (Ks, Ws, t0, t1, t2, c)).1 (sp_need g n 59)) := sp_st_sv hpn
        generalize F_X10_statementTold (tx_a g n p : Int) (n : Int) xe (0 : Int) (-1 : Int) np aw cod0 (k : Int) x1 x2 x3 x4 x5 g w1 w2 w3 w4 w5 w6 w7 w8 w9 w10 w11 w12 w13 w14 w15 w16 w17 w18 w19 w20 w21 w22 w23 w24 w25 w26 w27 w28 w29 w30 M N kd tr wk cf ce cs vnot vand vor vall vmin vmax v1 v2 v3 v4 v5 v6 v7 v8 v9 v10 v11 v12 v13 qc qwt = R at hst hfr ⊢
        obtain ⟨r1, r2, r3, r4, r5, r6, r7, r8, r9, r10, r11, r12, r13, r14, r15, r16, r17, r18, r19, r20, r21, r22, r23⟩ := R
        rw [lf_p_e, lf_p_e, lf_p_e, lf_p_e, lf_p_e, lf_p_e, lf_p_e, lf_p_e, lf_p_e, lf_p_e, lf_p_e, lf_p_e, lf_p_e, lf_p_e, lf_p_e, lf_p_e, lf_p_e, lf_p_e, lf_p_e, lf_p_e, lf_p_e, lf_p_e]
        obtain ⟨hr, hok⟩ := hst
        have hM' : ∀ j, 2 ≤ j → r19 j = Mz j := fun j hj => (hfr.1 j hj).trans (hM j hj)
        have hN' : ∀ j, 24 ≤ j → r20 j = Nz j := fun j hj => (hfr.2 j hj).trans (hNn j hj)
        cases e : sb (sp_st g n p (Ks, Ws, t0, t1, t2, c)).1 (sp_need g n 59) with
        | inl z =>
          rw [e] at hr hsv
          exact flt z _ _ _ _ _ _ _ _ _ _ _ _ _ _ _ _ _ _ _ _ _ _ _ hsv hr.1 hr.2 hM' hN'
        | inr p2 =>
          rw [e] at hr
          obtain ⟨a1, a2, a3, a4, a5⟩ := hok p2 e
          have a1' : r8 = (k : Int) + 1 := a1
          obtain ⟨b1, b2, b3⟩ := hr
          have b1' : r3 = 0 := b1
          have b2' : r4 = -1 := b2
          subst b1'
          subst b2'
          subst a1'
          show tellN Mz Nz bar isc _ (rcL g n f (k + 1) p2 (sp_st g n p (Ks, Ws, t0, t1, t2, c)).2)
          generalize sp_st g n p (Ks, Ws, t0, t1, t2, c) = Y at a2 a3 ⊢
          obtain ⟨Y0, K2, W2, u0, u1, u2, c2⟩ := Y
          have ek : ((k : Int) + 1) = ((k + 1 : Nat) : Int) := rfl
          rw [ek]
          exact ih (f2 + 1) (k + 1) p2 K2 W2 u0 u1 u2 c2 _ _ _ _ _ _ _ _ _ _ _ _ _ _ _ _ _ _ _ _ b3 a2 a3 a4 a5 hM' hN' (by omega) (by omega) (by omega)
/-- crossing: its answer and what stands -/
theorem mc2_1 {g refu now M cf bar N wk kd ce cs tr qwt qc cd : Nat → Int} {n : Nat} {np aw0 isc rm0 und x1 x2 x3 x4 x5 : Int} {w1 w2 w3 w4 w5 w6 w7 w8 w9 w10 w11 w12 w13 w14 w15 w16 w17 w18 w19 w20 w21 w22 w23 w24 w25 w26 w27 w28 w29 w30 vnot vand vor vall vmin vmax v1 v2 v3 v4 v5 v6 v7 v8 v9 v10 v11 v12 v13 : Nat → Int} (hn : n ≤ 1600) (hg : ∀ k, k < n → 0 ≤ g k) (hm : mw w1 w2 w3 w4 w5 w6 w7 w8 w9 w10 w11 w12 w13 w14 w15 w16 w17 w18 w19 w20 w21 w22 w23 w24 w25 w26 w27 w28 w29 w30) (hq : qw v1 v2 v3 v4 v5 v6 v7 v8 v9 v10 v11 v12 v13) (hnot : wa vnot W_not) (hand : wa vand W_and) (hor : wa vor W_or) (hall : wa vall W_all) (hmin : wa vmin W_min) (hmax : wa vmax W_max) : ∃ bar1, (∀ j, 4 ≤ j → bar1 j = bar j) ∧ (∀ x, rcT g n cd = .inr x → bar1 0 = (sp_1a g n (.inr 0)).1 ∧ bar1 1 = (sp_1b g n (.inr 0)).1 ∧ bar1 2 = (sp_1c g n (.inr 0)).1 ∧ bar1 3 = (sp_1d g n (.inr 0)).1) ∧ tellN M N bar1 isc (F_X10_crossing (n : Int) np aw0 isc x1 rm0 und x2 x3 x4 x5 g refu w1 w2 w3 w4 w5 w6 w7 w8 w9 w10 w11 w12 w13 w14 w15 w16 w17 w18 w19 w20 w21 w22 w23 w24 w25 w26 w27 w28 w29 w30 M N bar kd tr wk cf ce cs now vnot vand vor vall vmin vmax v1 v2 v3 v4 v5 v6 v7 v8 v9 v10 v11 v12 v13 qc qwt) (rcT g n cd) := by
  unfold F_X10_crossing
  have h0 : mp g n 0 (0 : Int) (-1 : Int) := ⟨Nat.zero_le _, ⟨0, rfl, Nat.le_refl _, Nat.zero_le _, rfl⟩, (by decide), ⟨fun r => absurd r (by decide), fun r => absurd rfl r.1⟩⟩
  have hb := bt_s (bar := bar) (s := .inr 0) (xb := 0) (xp := -1) hn hm (Nat.zero_le n) ⟨rfl, rfl, h0⟩
  have hbf := bt_fr (g := g) (bar := bar) (w1 := w1) (w2 := w2) (w3 := w3) (w4 := w4) (xa := (0 : Int)) (n := (n : Int)) (xe := (-1 : Int)) (xb := (0 : Int)) (xp := (-1 : Int))
  have hsv : sv n (sb (sp_1d g n (.inr 0)).2 (sp_need g n 59)) := sv_sb (sp_1d_v (Nat.zero_le n)) (fun _ hp => sp_need_v _ hp)
  have hM2 : ∀ j, 2 ≤ j → lf_up (lf_up M (0 : Int) (0 : Int)) (1 : Int) (0 : Int) j = M j := fun j hj => (lf_up_o (by omega)).trans (lf_up_o (by omega))
  unfold rcT
  generalize F_X10_barTold (0 : Int) (n : Int) (-1 : Int) (0 : Int) (-1 : Int) g w1 w2 w3 w4 bar = R at hb hbf ⊢
  obtain ⟨r1, r2, r3, r4, r5⟩ := R
  rw [lf_p_e, lf_p_e, lf_p_e, lf_p_e]
  obtain ⟨hr, hbar⟩ := hb
  refine ⟨r5, hbf, ?_⟩
  cases e : sb (sp_1d g n (.inr 0)).2 (sp_need g n 59) with
  | inl z =>
    rw [e] at hr hsv
    refine ⟨fun x r => (by cases r), ?_⟩
    show tellN M N r5 isc (F_X10_crossing_86b (n : Int) aw0 isc rm0 und g refu w1 w2 w3 w4 w5 w6 w7 w8 w9 w10 w11 w12 w13 w14 w15 w16 w17 w18 w19 w20 w21 w22 w23 w24 w25 w26 w27 w28 w29 w30 now vnot vand vor vall vmin vmax v1 v2 v3 v4 v5 v6 v7 v8 v9 v10 v11 v12 v13 _ r1 r2 r3 r4 _ _ _ _ _ _ _ _ _ _ _ _ _ _ _ _ _ _ _ _) (.inl z)
    unfold F_X10_crossing_86b
    rw [if_neg (show ¬ r3 = 0 from fun r => hsv (hr.1.symm.trans r))]
    exact ⟨rfl, hr.1, hr.2, hM2, fun _ _ => rfl, rfl, rfl⟩
  | inr p =>
    rw [e] at hr
    refine ⟨fun x r => hbar p e, ?_⟩
    obtain ⟨b1, b2, b3⟩ := hr
    have b1' : r3 = 0 := b1
    have b2' : r4 = -1 := b2
    subst b1'
    subst b2'
    exact mc2_loop hn hg hm hq hnot hand hor hall hmin hmax 81 3203 1 p [] [] false false false (0, cd) _ _ _ _ _ _ _ _ _ _ _ _ _ _ _ _ _ _ _ _ b3 mnm_0 mtf_s (Int.le_refl _) (by omega) hM2 (fun _ _ => rfl) (by decide) (by decide) (by decide)
