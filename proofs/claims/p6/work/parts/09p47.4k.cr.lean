theorem sp_st_sv {g : Nat → Int} {n p : Nat} {st : PL} (hp : p ≤ n) : sv n (sb (sp_st g n p st).1 (sp_need g n 59)) := by
  refine sv_sb ?_ (fun _ hq => sp_need_v _ hq)
  have hle := tx_e_le (f := g) hp
  have v5 : sv n (.inl (5, (tx_a g n p : Int)) : ST) := sv_l (by decide)
  unfold sp_st
  split
  · split
    · exact sp_k3_v _ _ hp
    · exact v5
  · split
    · split
      · exact sp_c3_v _ _ hp
      · exact v5
    · split
      · split
        · exact v5
        · exact (cod_ok _ _ hle).1
      · split
        · split
          · exact v5
          · exact (cod_ok _ _ hle).1
        · split
          · split
            · exact v5
            · exact (cod_ok _ _ hle).1
          · split
            · exact sp_nb_v _ _ _ hp
            · exact sv_l (by decide)
theorem mnm_0 {M N : Nat → Int} : mnm (lf_up (lf_up M 0 0) 1 0) N [] [] := ⟨rfl, rfl, fun j hj => absurd hj (Nat.not_lt_zero j), fun j hj => absurd hj (Nat.not_lt_zero j), fun j hj => absurd hj (Nat.not_lt_zero j), fun j hj => absurd hj (Nat.not_lt_zero j), Nat.zero_le 6, Nat.zero_le 12⟩
theorem mtf_s {A : Nat → Int} : mtf (lf_up (lf_up (lf_up A 0 (-1)) 1 (-1)) 2 (-1)) false false false := ⟨⟨fun r => Bool.noConfusion r, fun r => absurd rfl r⟩, ⟨fun r => Bool.noConfusion r, fun r => absurd rfl r⟩, ⟨fun r => Bool.noConfusion r, fun r => absurd rfl r⟩⟩
theorem tx_k0 {g : Nat → Int} {n p : Nat} (h : tx_k g n p = 0) : n ≤ tx_a g n p := by
  rcases tx_k_so (g := g) (n := n) (p := p) with r | r
  · omega
  · rw [r] at h
    unfold tx_so at h
    (repeat' split at h) <;> omega
theorem tx_k0' {g : Nat → Int} {n p : Nat} (h : n ≤ tx_a g n p) : tx_k g n p = 0 := by
  have e : tx_so g n (tx_a g n p) = 0 := by
    unfold tx_so
    (repeat' split) <;> omega
  rw [tx_k_no rfl (fun r => by have := r.2.2.2; omega), e]
theorem lk_end {g : Nat → Int} {n p : Nat} (hp : p ≤ n) (hg : ∀ k, k < n → 0 ≤ g k) : lk g n p = -1 ↔ tx_k g n p = 0 := by
  unfold lk
  by_cases q : tx_a g n p < n
  · rw [if_pos q]
    have h1 := hg _ q
    have h2 : ¬ tx_k g n p = 0 := fun r => by
      have h3 := tx_k0 r
      omega
    exact ⟨fun r => by omega, fun r => absurd r h2⟩
  · rw [if_neg q]
    exact ⟨fun _ => tx_k0' (by omega), fun _ => rfl⟩
/-- what crossing answers -/
def tellM (O : Int × Int × Int × Int × Int × Int × Int × Int × Int × Int × Int × Int × Int × Int × Int × Int × Int × Int × Int × Int × (Nat → Int) × (Nat → Int) × (Nat → Int) × (Nat → Int) × (Nat → Int) × (Nat → Int) × (Nat → Int) × (Nat → Int) × (Nat → Int) × (Nat → Int) × (Nat → Int) × (Nat → Int) × (Nat → Int)) (r : Sum (Int × Int) (Nat × PL)) : Prop := match r with
  | .inl q => O.1 = -1 ∧ O.2.2.2.2.2.1 = q.1 ∧ O.2.2.2.2.2.2.1 = q.2
  | .inr x => O.1 = (x.1 : Int) ∧ O.2.2.2.2.2.1 = 0 ∧ O.2.2.2.2.2.2.1 = -1
theorem mc_loop {g refu now : Nat → Int} {n : Nat} {aw0 isc rm0 und : Int} {w1 w2 w3 w4 w5 w6 w7 w8 w9 w10 w11 w12 w13 w14 w15 w16 w17 w18 w19 w20 w21 w22 w23 w24 w25 w26 w27 w28 w29 w30 vnot vand vor vall vmin vmax v1 v2 v3 v4 v5 v6 v7 v8 v9 v10 v11 v12 v13 : Nat → Int} (hn : n ≤ 1600) (hg : ∀ k, k < n → 0 ≤ g k) (hm : mw w1 w2 w3 w4 w5 w6 w7 w8 w9 w10 w11 w12 w13 w14 w15 w16 w17 w18 w19 w20 w21 w22 w23 w24 w25 w26 w27 w28 w29 w30) (hq : qw v1 v2 v3 v4 v5 v6 v7 v8 v9 v10 v11 v12 v13) (hnot : wa vnot W_not) (hand : wa vand W_and) (hor : wa vor W_or) (hall : wa vall W_all) (hmin : wa vmin W_min) (hmax : wa vmax W_max) : ∀ (f f2 k p : Nat) (Ks Ws : List (List Int)) (t0 t1 t2 : Bool) (c : CD) (xa xe np aw cod0 x1 x2 x3 x4 x5 : Int) (M cf bar N wk kd ce cs tr qwt qc : Nat → Int), mp g n p xa xe → mnm M N Ks Ws → mtf cf t0 t1 t2 → 0 ≤ cod0 → cod0 ≤ (p : Int) → k ≤ 80 → 81 ≤ k + f → 82 ≤ k + f2 → tellM (F_X10_crossing_86 (n : Int) aw0 isc rm0 und g refu w1 w2 w3 w4 w5 w6 w7 w8 w9 w10 w11 w12 w13 w14 w15 w16 w17 w18 w19 w20 w21 w22 w23 w24 w25 w26 w27 w28 w29 w30 now vnot vand vor vall vmin vmax v1 v2 v3 v4 v5 v6 v7 v8 v9 v10 v11 v12 v13 f2 xa xe (0 : Int) (-1 : Int) M cf bar np aw cod0 (k : Int) x1 x2 x3 x4 x5 N wk kd ce cs tr qwt qc) (rcL g n f k p (Ks, Ws, t0, t1, t2, c)) := by
  intro f
  induction f with
  | zero => intro f2 k p Ks Ws t0 t1 t2 c xa xe np aw cod0 x1 x2 x3 x4 x5 M cf bar N wk kd ce cs tr qwt qc h hN hf hc hcp h1 h2; omega
  | succ f ih =>
    intro f2 k p Ks Ws t0 t1 t2 c xa xe np aw cod0 x1 x2 x3 x4 x5 M cf bar N wk kd ce cs tr qwt qc h hN hf hc hcp h1 h2 h3
    obtain ⟨f2, rfl⟩ : ∃ j, f2 = j + 2 := ⟨f2 - 2, by omega⟩
    have hpn := h.1
    show tellM (F_X10_crossing_86b (n : Int) aw0 isc rm0 und g refu w1 w2 w3 w4 w5 w6 w7 w8 w9 w10 w11 w12 w13 w14 w15 w16 w17 w18 w19 w20 w21 w22 w23 w24 w25 w26 w27 w28 w29 w30 now vnot vand vor vall vmin vmax v1 v2 v3 v4 v5 v6 v7 v8 v9 v10 v11 v12 v13 (F_X10_crossing_86 (n : Int) aw0 isc rm0 und g refu w1 w2 w3 w4 w5 w6 w7 w8 w9 w10 w11 w12 w13 w14 w15 w16 w17 w18 w19 w20 w21 w22 w23 w24 w25 w26 w27 w28 w29 w30 now vnot vand vor vall vmin vmax v1 v2 v3 v4 v5 v6 v7 v8 v9 v10 v11 v12 v13 (f2 + 1)) xa xe (0 : Int) (-1 : Int) M cf bar np aw cod0 (k : Int) x1 x2 x3 x4 x5 N wk kd ce cs tr qwt qc) _
    have flt : ∀ (q : Int × Int) (ya ye yb yp np aw cod0 kk x1 x2 x3 x4 x5 : Int) (M cf bar N wk kd ce cs tr qwt qc : Nat → Int), ¬ q.1 = 0 → yb = q.1 → yp = q.2 → tellM (F_X10_crossing_86 (n : Int) aw0 isc rm0 und g refu w1 w2 w3 w4 w5 w6 w7 w8 w9 w10 w11 w12 w13 w14 w15 w16 w17 w18 w19 w20 w21 w22 w23 w24 w25 w26 w27 w28 w29 w30 now vnot vand vor vall vmin vmax v1 v2 v3 v4 v5 v6 v7 v8 v9 v10 v11 v12 v13 (f2 + 1) ya ye yb yp M cf bar np aw cod0 kk x1 x2 x3 x4 x5 N wk kd ce cs tr qwt qc) (.inl q) := by
      intro q ya ye yb yp np aw cod0 kk x1 x2 x3 x4 x5 M cf bar N wk kd ce cs tr qwt qc h1 h2 h3
      show tellM (F_X10_crossing_86b (n : Int) aw0 isc rm0 und g refu w1 w2 w3 w4 w5 w6 w7 w8 w9 w10 w11 w12 w13 w14 w15 w16 w17 w18 w19 w20 w21 w22 w23 w24 w25 w26 w27 w28 w29 w30 now vnot vand vor vall vmin vmax v1 v2 v3 v4 v5 v6 v7 v8 v9 v10 v11 v12 v13 _ ya ye yb yp M cf bar np aw cod0 kk x1 x2 x3 x4 x5 N wk kd ce cs tr qwt qc) _
      unfold F_X10_crossing_86b
      rw [if_neg (show ¬ yb = 0 from fun r => h1 (h2.symm.trans r))]
      exact ⟨rfl, h2, h3⟩
    unfold F_X10_crossing_86b rcL
    rw [if_pos rfl, ml_look hn h, lf_p_e]
    by_cases q : tx_k g n p = 0
    · rw [if_pos ((lk_end hpn hg).mpr q), if_pos q]
      generalize F_X10_stands cod0 M N bar kd tr wk cf ce cs now = R
      obtain ⟨r1, r2, r3, r4, r5, r6, r7, r8, r9⟩ := R
      rw [lf_p_e, lf_p_e, lf_p_e, lf_p_e, lf_p_e, lf_p_e, lf_p_e, lf_p_e]
      exact ⟨rfl, rfl, rfl⟩
    · rw [if_neg (fun r => q ((lk_end hpn hg).mp r)), if_neg q]
      by_cases q8 : 80 ≤ k
      · have hk8 : (k : Int) = 80 := by omega
        unfold F_X10_statementTold
        rw [if_pos q8, if_pos hk8, lf_p_e, lf_p_e, lf_p_e, lf_p_e, lf_p_e, lf_p_e, lf_p_e, lf_p_e, lf_p_e, lf_p_e, lf_p_e, lf_p_e, lf_p_e, lf_p_e, lf_p_e, lf_p_e, lf_p_e, lf_p_e, lf_p_e, lf_p_e, lf_p_e, lf_p_e]
        exact flt (5, (tx_a g n p : Int)) _ _ _ _ _ _ _ _ _ _ _ _ _ _ _ _ _ _ _ _ _ _ _ _ (show ¬ (5 : Int) = 0 from by decide) rfl rfl
      · rw [if_neg q8]
        have hst := st_1 (M := M) (N := N) (kd := kd) (tr := tr) (wk := wk) (cf := cf) (ce := ce) (cs := cs) (qc := qc) (qwt := qwt) (np := np) (aw := aw) (cod0 := cod0) (x1 := x1) (x2 := x2) (x3 := x3) (x4 := x4) (x5 := x5) (k := (k : Int)) (c := c) hn hm hq hnot hand hor hall hmin hmax h hN hf hc hcp (by omega)
        have hsv : sv n (sb (sp_st g n p (Ks, Ws, t0, t1, t2, c)).1 (sp_need g n 59)) := sp_st_sv hpn
        generalize F_X10_statementTold (tx_a g n p : Int) (n : Int) xe (0 : Int) (-1 : Int) np aw cod0 (k : Int) x1 x2 x3 x4 x5 g w1 w2 w3 w4 w5 w6 w7 w8 w9 w10 w11 w12 w13 w14 w15 w16 w17 w18 w19 w20 w21 w22 w23 w24 w25 w26 w27 w28 w29 w30 M N kd tr wk cf ce cs vnot vand vor vall vmin vmax v1 v2 v3 v4 v5 v6 v7 v8 v9 v10 v11 v12 v13 qc qwt = R at hst ⊢
        obtain ⟨r1, r2, r3, r4, r5, r6, r7, r8, r9, r10, r11, r12, r13, r14, r15, r16, r17, r18, r19, r20, r21, r22, r23⟩ := R
        rw [lf_p_e, lf_p_e, lf_p_e, lf_p_e, lf_p_e, lf_p_e, lf_p_e, lf_p_e, lf_p_e, lf_p_e, lf_p_e, lf_p_e, lf_p_e, lf_p_e, lf_p_e, lf_p_e, lf_p_e, lf_p_e, lf_p_e, lf_p_e, lf_p_e, lf_p_e]
        obtain ⟨hr, hok⟩ := hst
        cases e : sb (sp_st g n p (Ks, Ws, t0, t1, t2, c)).1 (sp_need g n 59) with
        | inl z =>
          rw [e] at hr hsv
          exact flt z _ _ _ _ _ _ _ _ _ _ _ _ _ _ _ _ _ _ _ _ _ _ _ _ hsv hr.1 hr.2
        | inr p2 =>
          rw [e] at hr
          obtain ⟨a1, a2, a3, a4, a5⟩ := hok p2 e
          have a1' : r8 = (k : Int) + 1 := a1
          obtain ⟨b1, b2, b3⟩ := hr
          have b1' : r3 = 0 := b1
          have b2' : r4 = -1 := b2
          subst b1'
          subst b2'
          subst a1'
          show tellM _ (rcL g n f (k + 1) p2 (sp_st g n p (Ks, Ws, t0, t1, t2, c)).2)
          generalize sp_st g n p (Ks, Ws, t0, t1, t2, c) = Y at a2 a3 ⊢
          obtain ⟨Y0, K2, W2, u0, u1, u2, c2⟩ := Y
          have ek : ((k : Int) + 1) = ((k + 1 : Nat) : Int) := rfl
          rw [ek]
          exact ih (f2 + 1) (k + 1) p2 K2 W2 u0 u1 u2 c2 _ _ _ _ _ _ _ _ _ _ _ _ _ _ _ _ _ _ _ _ _ b3 a2 a3 a4 a5 (by omega) (by omega) (by omega)
/-- crossing answers as the text tells -/
theorem mc_1 {g refu now M cf bar N wk kd ce cs tr qwt qc cd : Nat → Int} {n : Nat} {np aw0 isc rm0 und x1 x2 x3 x4 x5 : Int} {w1 w2 w3 w4 w5 w6 w7 w8 w9 w10 w11 w12 w13 w14 w15 w16 w17 w18 w19 w20 w21 w22 w23 w24 w25 w26 w27 w28 w29 w30 vnot vand vor vall vmin vmax v1 v2 v3 v4 v5 v6 v7 v8 v9 v10 v11 v12 v13 : Nat → Int} (hn : n ≤ 1600) (hg : ∀ k, k < n → 0 ≤ g k) (hm : mw w1 w2 w3 w4 w5 w6 w7 w8 w9 w10 w11 w12 w13 w14 w15 w16 w17 w18 w19 w20 w21 w22 w23 w24 w25 w26 w27 w28 w29 w30) (hq : qw v1 v2 v3 v4 v5 v6 v7 v8 v9 v10 v11 v12 v13) (hnot : wa vnot W_not) (hand : wa vand W_and) (hor : wa vor W_or) (hall : wa vall W_all) (hmin : wa vmin W_min) (hmax : wa vmax W_max) : tellM (F_X10_crossing (n : Int) np aw0 isc x1 rm0 und x2 x3 x4 x5 g refu w1 w2 w3 w4 w5 w6 w7 w8 w9 w10 w11 w12 w13 w14 w15 w16 w17 w18 w19 w20 w21 w22 w23 w24 w25 w26 w27 w28 w29 w30 M N bar kd tr wk cf ce cs now vnot vand vor vall vmin vmax v1 v2 v3 v4 v5 v6 v7 v8 v9 v10 v11 v12 v13 qc qwt) (rcT g n cd) := by
  unfold F_X10_crossing
  have h0 : mp g n 0 (0 : Int) (-1 : Int) := ⟨Nat.zero_le _, ⟨0, rfl, Nat.le_refl _, Nat.zero_le _, rfl⟩, (by decide), ⟨fun r => absurd r (by decide), fun r => absurd rfl r.1⟩⟩
  have hb := bt_s (bar := bar) (s := .inr 0) (xb := 0) (xp := -1) hn hm (Nat.zero_le n) ⟨rfl, rfl, h0⟩
  have hsv : sv n (sb (sp_1d g n (.inr 0)).2 (sp_need g n 59)) := sv_sb (sp_1d_v (Nat.zero_le n)) (fun _ hp => sp_need_v _ hp)
  unfold rcT
  generalize F_X10_barTold (0 : Int) (n : Int) (-1 : Int) (0 : Int) (-1 : Int) g w1 w2 w3 w4 bar = R at hb ⊢
  obtain ⟨r1, r2, r3, r4, r5⟩ := R
  rw [lf_p_e, lf_p_e, lf_p_e, lf_p_e]
  obtain ⟨hr, _⟩ := hb
  cases e : sb (sp_1d g n (.inr 0)).2 (sp_need g n 59) with
  | inl z =>
    rw [e] at hr hsv
    show tellM (F_X10_crossing_86b (n : Int) aw0 isc rm0 und g refu w1 w2 w3 w4 w5 w6 w7 w8 w9 w10 w11 w12 w13 w14 w15 w16 w17 w18 w19 w20 w21 w22 w23 w24 w25 w26 w27 w28 w29 w30 now vnot vand vor vall vmin vmax v1 v2 v3 v4 v5 v6 v7 v8 v9 v10 v11 v12 v13 _ r1 r2 r3 r4 _ _ _ _ _ _ _ _ _ _ _ _ _ _ _ _ _ _ _ _) (.inl z)
    unfold F_X10_crossing_86b
    rw [if_neg (show ¬ r3 = 0 from fun r => hsv (hr.1.symm.trans r))]
    exact ⟨rfl, hr.1, hr.2⟩
  | inr p =>
    rw [e] at hr
    obtain ⟨b1, b2, b3⟩ := hr
    have b1' : r3 = 0 := b1
    have b2' : r4 = -1 := b2
    subst b1'
    subst b2'
    exact mc_loop hn hg hm hq hnot hand hor hall hmin hmax 81 3203 1 p [] [] false false false (0, cd) _ _ _ _ _ _ _ _ _ _ _ _ _ _ _ _ _ _ _ _ _ b3 mnm_0 mtf_s (Int.le_refl _) (by omega) (by decide) (by decide) (by decide)
