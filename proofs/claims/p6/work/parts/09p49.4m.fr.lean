theorem lf_pI {α β γ : Type} {Q : γ → Prop} {a : α × β} {G : α → β → γ} (h : ∀ x y, Q (G x y)) : Q (lf_p a G) := h a.1 a.2
theorem lf_bI {α γ : Type} {Q : γ → Prop} {a : α} {G : α → γ} (h : ∀ x, Q (G x)) : Q (lf_b a G) := h a
theorem lf_pK {α β γ : Type} {P : α × β → Prop} {Q : γ → Prop} {a : α × β} {G : α → β → γ} (ha : P a) (h : ∀ x y, P (x, y) → Q (G x y)) : Q (lf_p a G) := h a.1 a.2 ha
theorem lf_iI {γ : Type} {Q : γ → Prop} {c : Prop} {dc : Decidable c} {x y : γ} (h1 : c → Q x) (h2 : ¬ c → Q y) : Q (@ite γ c dc x y) := by
  by_cases h : c
  · rw [if_pos h]
    exact h1 h
  · rw [if_neg h]
    exact h2 h
theorem lf_up_o {F : Nat → Int} {i v : Int} {j : Nat} (h : ¬ j = i.toNat) : lf_up F i v j = F j := if_neg h
theorem lf_up_y {F : Nat → Int} {i v : Int} {j : Nat} (h : j = i.toNat) : lf_up F i v j = v := if_pos h
def kfr (M N : Nat → Int) (O : Int × Int × Int × Int × Int × (Nat → Int) × (Nat → Int) × (Nat → Int) × (Nat → Int)) : Prop := (∀ j, 2 ≤ j → O.2.2.2.2.2.1 j = M j) ∧ ∀ j, 24 ≤ j → O.2.2.2.2.2.2.1 j = N j
def wfr (M N : Nat → Int) (O : Int × Int × Int × Int × Int × (Nat → Int) × (Nat → Int) × (Nat → Int)) : Prop := (∀ j, 2 ≤ j → O.2.2.2.2.2.1 j = M j) ∧ ∀ j, 24 ≤ j → O.2.2.2.2.2.2.1 j = N j
theorem kt_fr {g M N kd tr : Nat → Int} {xa n xe xb xp np bg : Int} {w1 w2 w3 w4 w5 w6 w7 w8 w9 w10 w11 w12 w13 w14 w15 w16 w17 w18 w19 w20 w21 w22 w23 w24 w25 w26 w27 w28 w29 w30 : Nat → Int} (h0 : 0 ≤ M 0) (h1 : M 0 ≤ 6) : kfr M N (F_X10_kindTold xa n xe xb xp np g w1 w2 w3 w4 w5 w6 w7 w8 w9 w10 w11 w12 w13 w14 w15 w16 w17 w18 w19 w20 w21 w22 w23 w24 w25 w26 w27 w28 w29 w30 M N kd tr bg) := by
  unfold F_X10_kindTold
  repeat' (first | (with_reducible refine lf_pI (Q := kfr M N) (fun _ _ => ?_)) | (with_reducible refine lf_iI (Q := kfr M N) (fun _ => ?_) (fun _ => ?_)))
  all_goals first | exact ⟨fun _ _ => rfl, fun _ _ => rfl⟩ | exact ⟨fun j hj => lf_up_o (by omega), fun j hj => lf_up_o (by omega)⟩
theorem wt_fr {g M N wk : Nat → Int} {xa n xe xb xp np bg : Int} {w1 w2 w3 w4 w5 w6 w7 w8 w9 w10 w11 w12 w13 w14 w15 w16 w17 w18 w19 w20 w21 w22 w23 w24 w25 w26 w27 w28 w29 w30 : Nat → Int} (h0 : 0 ≤ M 1) (h1 : M 1 < 12) : wfr M N (F_X10_walkerTold xa n xe xb xp np g w1 w2 w3 w4 w5 w6 w7 w8 w9 w10 w11 w12 w13 w14 w15 w16 w17 w18 w19 w20 w21 w22 w23 w24 w25 w26 w27 w28 w29 w30 M N wk bg) := by
  unfold F_X10_walkerTold
  repeat' (first | (with_reducible refine lf_pI (Q := wfr M N) (fun _ _ => ?_)) | (with_reducible refine lf_bI (Q := wfr M N) (fun _ => ?_)) | (with_reducible refine lf_iI (Q := wfr M N) (fun _ => ?_) (fun _ => ?_)))
  all_goals first | exact ⟨fun _ _ => rfl, fun _ _ => rfl⟩ | exact ⟨fun j hj => lf_up_o (by omega), fun j hj => lf_up_o (by omega)⟩
def bfr (bar : Nat → Int) (O : Int × Int × Int × Int × (Nat → Int)) : Prop := ∀ j, 4 ≤ j → O.2.2.2.2 j = bar j
theorem bt_fr {g bar w1 w2 w3 w4 : Nat → Int} {xa n xe xb xp : Int} : bfr bar (F_X10_barTold xa n xe xb xp g w1 w2 w3 w4 bar) := by
  unfold F_X10_barTold
  repeat' (first | (with_reducible refine lf_pI (Q := bfr bar) (fun _ _ => ?_)) | (with_reducible refine lf_bI (Q := bfr bar) (fun _ => ?_)) | (with_reducible refine lf_iI (Q := bfr bar) (fun _ => ?_) (fun _ => ?_)))
  all_goals exact fun j hj => (lf_up_o (by omega)).trans ((lf_up_o (by omega)).trans ((lf_up_o (by omega)).trans (lf_up_o (by omega))))
/-- what statementTold leaves alone -/
def sfr (M N : Nat → Int) (O : Int × Int × Int × Int × Int × Int × Int × Int × Int × Int × Int × Int × Int × (Nat → Int) × (Nat → Int) × (Nat → Int) × (Nat → Int) × (Nat → Int) × (Nat → Int) × (Nat → Int) × (Nat → Int) × (Nat → Int) × (Nat → Int)) : Prop := (∀ j, 2 ≤ j → O.2.2.2.2.2.2.2.2.2.2.2.2.2.2.2.2.2.2.1 j = M j) ∧ ∀ j, 24 ≤ j → O.2.2.2.2.2.2.2.2.2.2.2.2.2.2.2.2.2.2.2.1 j = N j
theorem st_fr {g M N kd tr wk cf ce cs qc qwt : Nat → Int} {xa n xe xb xp np aw cod0 x1 x2 x3 x4 x5 k : Int} {w1 w2 w3 w4 w5 w6 w7 w8 w9 w10 w11 w12 w13 w14 w15 w16 w17 w18 w19 w20 w21 w22 w23 w24 w25 w26 w27 w28 w29 w30 vnot vand vor vall vmin vmax v1 v2 v3 v4 v5 v6 v7 v8 v9 v10 v11 v12 v13 : Nat → Int} (h0 : 0 ≤ M 0) (h1 : M 0 ≤ 6) (h2 : 0 ≤ M 1) (h3 : M 1 ≤ 12) (hb : xb = 0) (hp : xp = -1) : sfr M N (F_X10_statementTold xa n xe xb xp np aw cod0 k x1 x2 x3 x4 x5 g w1 w2 w3 w4 w5 w6 w7 w8 w9 w10 w11 w12 w13 w14 w15 w16 w17 w18 w19 w20 w21 w22 w23 w24 w25 w26 w27 w28 w29 w30 M N kd tr wk cf ce cs vnot vand vor vall vmin vmax v1 v2 v3 v4 v5 v6 v7 v8 v9 v10 v11 v12 v13 qc qwt) := by
  subst hb
  subst hp
  unfold F_X10_statementTold
  refine lf_iI (Q := sfr M N) (fun _ => ⟨fun _ _ => rfl, fun _ _ => rfl⟩) (fun _ => ?_)
  refine lf_pI (Q := sfr M N) (fun _ _ => ?_)
  refine lf_pI (Q := sfr M N) (fun _ _ => ?_)
  refine lf_iI (Q := sfr M N) (fun _ => ?_) (fun _ => ?_)
  · refine lf_pI (Q := sfr M N) (fun _ _ => ?_)
    refine lf_pI (Q := sfr M N) (fun _ _ => ?_)
    refine lf_iI (Q := sfr M N) (fun _ => ?_) (fun _ => ?_)
    · repeat' (first | (with_reducible refine lf_pI (Q := sfr M N) (fun _ _ => ?_)) | (with_reducible refine lf_iI (Q := sfr M N) (fun _ => ?_) (fun _ => ?_)))
      all_goals exact ⟨fun _ _ => rfl, fun _ _ => rfl⟩
    · by_cases q : M 1 = 12
      · rw [wt_f q, lf_p_e, lf_p_e, lf_p_e, lf_p_e, lf_p_e, lf_p_e, lf_p_e]
        refine lf_pI (Q := sfr M N) (fun _ _ => ?_)
        refine lf_pI (Q := sfr M N) (fun _ _ => ?_)
        exact ⟨fun _ _ => rfl, fun _ _ => rfl⟩
      · generalize hR : F_X10_walkerTold _ _ _ _ _ _ _ _ _ _ _ _ _ _ _ _ _ _ _ _ _ _ _ _ _ _ _ _ _ _ _ _ _ _ _ _ _ _ _ _ _ = R
        have hw : wfr M N R := by
          rw [← hR]
          exact wt_fr h2 (by omega)
        obtain ⟨r1, r2, r3, r4, r5, r6, r7, r8⟩ := R
        rw [lf_p_e, lf_p_e, lf_p_e, lf_p_e, lf_p_e, lf_p_e, lf_p_e]
        refine lf_pI (Q := sfr M N) (fun _ _ => ?_)
        refine lf_pI (Q := sfr M N) (fun _ _ => ?_)
        exact hw
  · generalize hR : F_X10_kindTold _ _ _ _ _ _ _ _ _ _ _ _ _ _ _ _ _ _ _ _ _ _ _ _ _ _ _ _ _ _ _ _ _ _ _ _ _ _ _ _ _ _ = R
    have hw : kfr M N R := by
      rw [← hR]
      exact kt_fr h0 h1
    obtain ⟨r1, r2, r3, r4, r5, r6, r7, r8, r9⟩ := R
    rw [lf_p_e, lf_p_e, lf_p_e, lf_p_e, lf_p_e, lf_p_e, lf_p_e, lf_p_e]
    refine lf_pI (Q := sfr M N) (fun _ _ => ?_)
    refine lf_pI (Q := sfr M N) (fun _ _ => ?_)
    exact hw
/-! what stands: copies -/
def cpA (off n l : Nat) (A : Nat → Int) : Nat → Int := fun j => if off + l ≤ j ∧ j < off + n then A (j - off) else A j
theorem cpA_s {off n l : Nat} {A : Nat → Int} (h : l < n) (ho : n ≤ off) : cpA off n (l + 1) (lf_up A ((off : Int) + (l : Int)) (A (Int.toNat (l : Int)))) = cpA off n l A := by
  funext j
  unfold cpA lf_up
  rw [Int.toNat_natCast, show ((off : Int) + (l : Int)).toNat = off + l from by omega]
  by_cases q : off + l ≤ j ∧ j < off + n
  · rw [if_pos q]
    by_cases q2 : off + (l + 1) ≤ j ∧ j < off + n
    · rw [if_pos q2, if_neg (by omega)]
    · have e : j = off + l := by omega
      rw [if_neg q2, if_pos e, e, show off + l - off = l from by omega]
  · rw [if_neg q, if_neg (by omega), if_neg (by omega)]
theorem cpA_e {off n : Nat} {A : Nat → Int} : cpA off n n A = A := by
  funext j
  unfold cpA
  rw [if_neg (by omega)]
def cpB (off n l : Nat) (T A : Nat → Int) : Nat → Int := fun j => if off + l ≤ j ∧ j < off + n then T (j - off) else A j
theorem cpB_s {off n l : Nat} {T A : Nat → Int} (h : l < n) : cpB off n (l + 1) T (lf_up A ((off : Int) + (l : Int)) (T (Int.toNat (l : Int)))) = cpB off n l T A := by
  funext j
  unfold cpB lf_up
  rw [Int.toNat_natCast, show ((off : Int) + (l : Int)).toNat = off + l from by omega]
  by_cases q : off + l ≤ j ∧ j < off + n
  · rw [if_pos q]
    by_cases q2 : off + (l + 1) ≤ j ∧ j < off + n
    · rw [if_pos q2]
    · have e : j = off + l := by omega
      rw [if_neg q2, if_pos e, e, show off + l - off = l from by omega]
  · rw [if_neg q, if_neg (by omega), if_neg (by omega)]
theorem cpB_e {off n : Nat} {T A : Nat → Int} : cpB off n n T A = A := by
  funext j
  unfold cpB
  rw [if_neg (by omega)]
theorem sd_246 {tr a1 a2 a3 a4 a5 a6 a7 a9 : Nat → Int} : ∀ (f l : Nat) (a8 : Nat → Int), l ≤ 6 → 6 - l < f → F_X10_stands_246 tr f a1 a2 a3 a4 a5 a6 a7 a8 a9 (l : Int) = (a1, a2, a3, a4, a5, a6, a7, cpB 3 6 l tr a8, a9) := by
  intro f
  induction f with
  | zero => intro l a8 h1 h2; omega
  | succ f ih =>
    intro l a8 h1 h2
    show F_X10_stands_246b tr (F_X10_stands_246 tr f) a1 a2 a3 a4 a5 a6 a7 a8 a9 (l : Int) = _
    unfold F_X10_stands_246b
    by_cases q : (6 : Int) ≤ (l : Int)
    · have e : l = 6 := by omega
      rw [if_pos q, e, cpB_e]
    · rw [if_neg q, show ((l : Int) + (1 : Int)) = ((l + 1 : Nat) : Int) from rfl, ih (l + 1) _ (by omega) (by omega)]
      rw [show ((3 : Int) + (l : Int)) = (((3 : Nat) : Int) + (l : Int)) from rfl, cpB_s (by omega)]
theorem sd_183 {tr now a1 a2 a3 a4 a5 a6 a7 : Nat → Int} {c : Nat} : ∀ (f l : Nat) (a9 : Nat → Int), l ≤ c → c ≤ 1600 → c - l < f → F_X10_stands_183 (c : Int) tr now f a1 a2 a3 a4 a5 a6 a7 (l : Int) a9 = (a1, a2, a3, a4, a5, a6, a7, cpB 3 6 0 tr (lf_up (lf_up (lf_up now (0 : Int) (0 : Int)) (1 : Int) (a4 2)) (2 : Int) (a4 1)), cpA 1600 c l a9) := by
  intro f
  induction f with
  | zero => intro l a9 h1 h0 h2; omega
  | succ f ih =>
    intro l a9 h1 h0 h2
    show F_X10_stands_183b (c : Int) tr now (F_X10_stands_183 (c : Int) tr now f) a1 a2 a3 a4 a5 a6 a7 (l : Int) a9 = _
    unfold F_X10_stands_183b
    by_cases q : (c : Int) ≤ (l : Int)
    · have e : l = c := by omega
      rw [if_pos q, e, cpA_e]
      exact sd_246 8 0 _ (by decide) (by decide)
    · rw [if_neg q, show ((l : Int) + (1 : Int)) = ((l + 1 : Nat) : Int) from rfl, ih (l + 1) _ (by omega) h0 (by omega)]
      rw [show ((1600 : Int) + (l : Int)) = (((1600 : Nat) : Int) + (l : Int)) from rfl, cpA_s (by omega) h0]
def sdB (bar : Nat → Int) : Nat → Int := lf_up (lf_up (lf_up (lf_up bar (4 : Int) (bar 0)) (5 : Int) (bar 1)) (6 : Int) (bar 2)) (7 : Int) (bar 3)
def sdC (cf : Nat → Int) : Nat → Int := lf_up (lf_up (lf_up cf (3 : Int) (cf 0)) (4 : Int) (cf 1)) (5 : Int) (cf 2)
theorem sd_105 {tr cf ce cs now a1 a2 a3 a4 : Nat → Int} {c : Nat} (hc : c ≤ 1600) : ∀ (f l : Nat) (a5 : Nat → Int), l ≤ 12 → 12 - l < f → F_X10_stands_105 (c : Int) tr cf ce cs now f a1 a2 a3 a4 (l : Int) a5 = (a1, a2, a3, a4, cpA 12 12 l a5, sdC cf, sdC ce, cpB 3 6 0 tr (lf_up (lf_up (lf_up now (0 : Int) (0 : Int)) (1 : Int) (a4 2)) (2 : Int) (a4 1)), cpA 1600 c 0 cs) := by
  intro f
  induction f with
  | zero => intro l a5 h1 h2; omega
  | succ f ih =>
    intro l a5 h1 h2
    show F_X10_stands_105b (c : Int) tr cf ce cs now (F_X10_stands_105 (c : Int) tr cf ce cs now f) a1 a2 a3 a4 (l : Int) a5 = _
    unfold F_X10_stands_105b
    by_cases q : (12 : Int) ≤ (l : Int)
    · have e : l = 12 := by omega
      rw [if_pos q, e, cpA_e]
      exact sd_183 1602 0 _ (Nat.zero_le _) hc (by omega)
    · rw [if_neg q, show ((l : Int) + (1 : Int)) = ((l + 1 : Nat) : Int) from rfl, ih (l + 1) _ (by omega) (by omega)]
      rw [show ((12 : Int) + (l : Int)) = (((12 : Nat) : Int) + (l : Int)) from rfl, cpA_s (by omega) (by omega)]
theorem sd_34 {bar kd tr cf ce cs now a1 : Nat → Int} {c : Nat} (hc : c ≤ 1600) : ∀ (f l : Nat) (a2 a3 : Nat → Int), l ≤ 24 → 24 - l < f → F_X10_stands_34 (c : Int) bar kd tr cf ce cs now f a1 (l : Int) a2 a3 = (a1, cpA 24 24 l a2, cpA 24 24 l a3, sdB bar, cpA 12 12 0 kd, sdC cf, sdC ce, cpB 3 6 0 tr (lf_up (lf_up (lf_up now (0 : Int) (0 : Int)) (1 : Int) (sdB bar 2)) (2 : Int) (sdB bar 1)), cpA 1600 c 0 cs) := by
  intro f
  induction f with
  | zero => intro l a2 a3 h1 h2; omega
  | succ f ih =>
    intro l a2 a3 h1 h2
    show F_X10_stands_34b (c : Int) bar kd tr cf ce cs now (F_X10_stands_34 (c : Int) bar kd tr cf ce cs now f) a1 (l : Int) a2 a3 = _
    unfold F_X10_stands_34b
    by_cases q : (24 : Int) ≤ (l : Int)
    · have e : l = 24 := by omega
      rw [if_pos q, e, cpA_e, cpA_e]
      exact sd_105 hc 14 0 _ (by decide) (by decide)
    · rw [if_neg q, show ((l : Int) + (1 : Int)) = ((l + 1 : Nat) : Int) from rfl, ih (l + 1) _ _ (by omega) (by omega)]
      rw [show ((24 : Int) + (l : Int)) = (((24 : Nat) : Int) + (l : Int)) from rfl, cpA_s (by omega) (by omega), cpA_s (by omega) (by omega)]
/-- what stands behind a crossing -/
theorem sd_1 {M N bar kd tr wk cf ce cs now : Nat → Int} {x : Int} (h0 : 0 ≤ x) (h1 : x ≤ 1600) : F_X10_stands x M N bar kd tr wk cf ce cs now = (lf_up (lf_up M (2 : Int) (M 0)) (3 : Int) (M 1), cpA 24 24 0 N, cpA 24 24 0 wk, sdB bar, cpA 12 12 0 kd, sdC cf, sdC ce, cpB 3 6 0 tr (lf_up (lf_up (lf_up now (0 : Int) (0 : Int)) (1 : Int) (sdB bar 2)) (2 : Int) (sdB bar 1)), cpA 1600 x.toNat 0 cs) := by
  obtain ⟨c, rfl⟩ := Int.eq_ofNat_of_zero_le h0
  rw [Int.toNat_natCast]
  exact sd_34 (by omega) 26 0 _ _ (by decide) (by decide)
