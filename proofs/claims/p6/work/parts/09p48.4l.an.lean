/-- what a text's reading answers -/
def ansR (r : Sum (Int × Int) (Nat × PL)) : Int := match r with
  | .inl _ => -1
  | .inr x => (x.1 : Int)
theorem rcL_v {g : Nat → Int} {n : Nat} : ∀ (f k p : Nat) (st : PL) (q : Int × Int), p ≤ n → k ≤ 80 → 81 ≤ k + f → rcL g n f k p st = .inl q → ¬ q.1 = 0 := by
  intro f
  induction f with
  | zero => intro k p st q hp h1 h2; omega
  | succ f ih =>
    intro k p st q hp h1 h2 h
    unfold rcL at h
    by_cases c : tx_k g n p = 0
    · rw [if_pos c] at h
      cases h
    · rw [if_neg c] at h
      by_cases c8 : 80 ≤ k
      · rw [if_pos c8] at h
        cases h
        show ¬ (5 : Int) = 0
        decide
      · rw [if_neg c8] at h
        have hsv : sv n (sb (sp_st g n p st).1 (sp_need g n 59)) := sp_st_sv hp
        cases e : sb (sp_st g n p st).1 (sp_need g n 59) with
        | inl z =>
          rw [e] at h hsv
          have h' : (Sum.inl z : Sum (Int × Int) (Nat × PL)) = .inl q := h
          cases h'
          exact hsv
        | inr p2 =>
          rw [e] at h hsv
          exact ih (k + 1) p2 _ q hsv (by omega) (by omega) h
theorem rcT_v {g cd : Nat → Int} {n : Nat} (q : Int × Int) (h : rcT g n cd = .inl q) : ¬ q.1 = 0 := by
  unfold rcT at h
  have hsv : sv n (sb (sp_1d g n (.inr 0)).2 (sp_need g n 59)) := sv_sb (sp_1d_v (Nat.zero_le n)) (fun _ hp => sp_need_v _ hp)
  cases e : sb (sp_1d g n (.inr 0)).2 (sp_need g n 59) with
  | inl z =>
    rw [e] at h hsv
    have h' : (Sum.inl z : Sum (Int × Int) (Nat × PL)) = .inl q := h
    cases h'
    exact hsv
  | inr p =>
    rw [e] at h hsv
    exact rcL_v 81 1 p _ q hsv (by decide) (by decide) h
theorem cx_1 {g calm pace trusts kindOf comesAt comers names code spans t rf : Nat → Int} {s x1 x2 x3 x4 al x5 x6 x7 x8 x9 x10 : Int} {pl sp : Nat} (h0 : 0 ≤ s) (h1 : s ≤ 1600) : (F_X9_crossing g s pl sp calm pace trusts kindOf comesAt comers names code spans x1 x2 x3 t x4 al x5 x6 x7 x8 x9 x10 rf).1 = ansR (rcT g s.toNat code) := by
  obtain ⟨n, rfl⟩ := Int.eq_ofNat_of_zero_le h0
  have hn : n ≤ 1600 := by omega
  rw [Int.toNat_natCast]
  have h := cl_rc (g := g) (calm := calm) (pace := pace) (trusts := trusts) (kindOf := kindOf) (comesAt := comesAt) (comers := comers) (names := names) (code := code) (spans := spans) (al := al) hn
  have hv := fun q => rcT_v (g := g) (cd := code) (n := n) q
  unfold F_X9_crossing F_X9_takeTape
  rw [lf_b_e]
  generalize F_X5_readCrossing g al calm pace trusts kindOf comesAt comers names code spans (n : Int) = R at h ⊢
  obtain ⟨r1, r2, r3, r4, r5, r6, r7, r8, r9, r10, r11, r12, r13, r14, r15, r16, r17, r18, r19, r20, r21, r22, r23, r24, r25⟩ := R
  rw [lf_p_e, lf_p_e, lf_p_e, lf_p_e, lf_p_e, lf_p_e, lf_p_e, lf_p_e, lf_p_e, lf_p_e, lf_p_e, lf_p_e, lf_p_e, lf_p_e, lf_p_e, lf_p_e, lf_p_e, lf_p_e, lf_p_e, lf_p_e, lf_p_e, lf_p_e, lf_p_e, lf_p_e]
  cases e : rcT g n code with
  | inl q =>
    rw [e] at h
    have h6 : r6 = q.1 := h.1
    rw [if_neg (show ¬ r6 = 0 from fun z => hv q e (h6.symm.trans z))]
    unfold F_X9_refuse
    rw [lf_p_e]
    rfl
  | inr x =>
    rw [e] at h
    have h6 : r6 = 0 := h.1
    rw [if_pos h6, lf_b_e, lf_b_e]
    exact h.2.2.2.2.2.2.1
theorem mx_1 {g refu now M cf bar N wk kd ce cs tr qwt qc : Nat → Int} {s np aw0 isc rm0 und x1 x2 x3 x4 x5 : Int} {w1 w2 w3 w4 w5 w6 w7 w8 w9 w10 w11 w12 w13 w14 w15 w16 w17 w18 w19 w20 w21 w22 w23 w24 w25 w26 w27 w28 w29 w30 vnot vand vor vall vmin vmax v1 v2 v3 v4 v5 v6 v7 v8 v9 v10 v11 v12 v13 : Nat → Int} (cd : Nat → Int) (h0 : 0 ≤ s) (h1 : s ≤ 1600) (hg : ∀ k, k < 1600 → 0 ≤ g k) (hm : mw w1 w2 w3 w4 w5 w6 w7 w8 w9 w10 w11 w12 w13 w14 w15 w16 w17 w18 w19 w20 w21 w22 w23 w24 w25 w26 w27 w28 w29 w30) (hq : qw v1 v2 v3 v4 v5 v6 v7 v8 v9 v10 v11 v12 v13) (hnot : wa vnot W_not) (hand : wa vand W_and) (hor : wa vor W_or) (hall : wa vall W_all) (hmin : wa vmin W_min) (hmax : wa vmax W_max) : (F_X10_crossing s np aw0 isc x1 rm0 und x2 x3 x4 x5 g refu w1 w2 w3 w4 w5 w6 w7 w8 w9 w10 w11 w12 w13 w14 w15 w16 w17 w18 w19 w20 w21 w22 w23 w24 w25 w26 w27 w28 w29 w30 M N bar kd tr wk cf ce cs now vnot vand vor vall vmin vmax v1 v2 v3 v4 v5 v6 v7 v8 v9 v10 v11 v12 v13 qc qwt).1 = ansR (rcT g s.toNat cd) := by
  obtain ⟨n, rfl⟩ := Int.eq_ofNat_of_zero_le h0
  have hn : n ≤ 1600 := by omega
  rw [Int.toNat_natCast]
  have h := mc_1 (np := np) (aw0 := aw0) (isc := isc) (rm0 := rm0) (und := und) (x1 := x1) (x2 := x2) (x3 := x3) (x4 := x4) (x5 := x5) (refu := refu) (now := now) (M := M) (cf := cf) (bar := bar) (N := N) (wk := wk) (kd := kd) (ce := ce) (cs := cs) (tr := tr) (qwt := qwt) (qc := qc) (cd := cd) hn (fun k hk => hg k (by omega)) hm hq hnot hand hor hall hmin hmax
  cases e : rcT g n cd with
  | inl q =>
    rw [e] at h
    exact h.1
  | inr x =>
    rw [e] at h
    exact h.1
/-- the tape behind feed -/
def fdT (g : Nat → Int) (s p0 p1 p2 p3 p4 : Int) : Nat → Int := if (s + (20 : Int)) ≤ (1600 : Int) then (lf_up (lf_up (lf_up (lf_up (lf_up (lf_up (lf_up (lf_up (lf_up (lf_up (lf_up (lf_up (lf_up (lf_up (lf_up (lf_up (lf_up (lf_up (lf_up (lf_up g s (lf_o lf_iand (lf_o lf_ishr p0 (24 : Int)) (255 : Int))) (s + (1 : Int)) (lf_o lf_iand (lf_o lf_ishr p0 (16 : Int)) (255 : Int))) ((s + (1 : Int)) + (1 : Int)) (lf_o lf_iand (lf_o lf_ishr p0 (8 : Int)) (255 : Int))) (((s + (1 : Int)) + (1 : Int)) + (1 : Int)) (lf_o lf_iand (lf_o lf_ishr p0 (0 : Int)) (255 : Int))) ((((s + (1 : Int)) + (1 : Int)) + (1 : Int)) + (1 : Int)) (lf_o lf_iand (lf_o lf_ishr p1 (24 : Int)) (255 : Int))) (((((s + (1 : Int)) + (1 : Int)) + (1 : Int)) + (1 : Int)) + (1 : Int)) (lf_o lf_iand (lf_o lf_ishr p1 (16 : Int)) (255 : Int))) ((((((s + (1 : Int)) + (1 : Int)) + (1 : Int)) + (1 : Int)) + (1 : Int)) + (1 : Int)) (lf_o lf_iand (lf_o lf_ishr p1 (8 : Int)) (255 : Int))) (((((((s + (1 : Int)) + (1 : Int)) + (1 : Int)) + (1 : Int)) + (1 : Int)) + (1 : Int)) + (1 : Int)) (lf_o lf_iand (lf_o lf_ishr p1 (0 : Int)) (255 : Int))) ((((((((s + (1 : Int)) + (1 : Int)) + (1 : Int)) + (1 : Int)) + (1 : Int)) + (1 : Int)) + (1 : Int)) + (1 : Int)) (lf_o lf_iand (lf_o lf_ishr p2 (24 : Int)) (255 : Int))) (((((((((s + (1 : Int)) + (1 : Int)) + (1 : Int)) + (1 : Int)) + (1 : Int)) + (1 : Int)) + (1 : Int)) + (1 : Int)) + (1 : Int)) (lf_o lf_iand (lf_o lf_ishr p2 (16 : Int)) (255 : Int))) ((((((((((s + (1 : Int)) + (1 : Int)) + (1 : Int)) + (1 : Int)) + (1 : Int)) + (1 : Int)) + (1 : Int)) + (1 : Int)) + (1 : Int)) + (1 : Int)) (lf_o lf_iand (lf_o lf_ishr p2 (8 : Int)) (255 : Int))) (((((((((((s + (1 : Int)) + (1 : Int)) + (1 : Int)) + (1 : Int)) + (1 : Int)) + (1 : Int)) + (1 : Int)) + (1 : Int)) + (1 : Int)) + (1 : Int)) + (1 : Int)) (lf_o lf_iand (lf_o lf_ishr p2 (0 : Int)) (255 : Int))) ((((((((((((s + (1 : Int)) + (1 : Int)) + (1 : Int)) + (1 : Int)) + (1 : Int)) + (1 : Int)) + (1 : Int)) + (1 : Int)) + (1 : Int)) + (1 : Int)) + (1 : Int)) + (1 : Int)) (lf_o lf_iand (lf_o lf_ishr p3 (24 : Int)) (255 : Int))) (((((((((((((s + (1 : Int)) + (1 : Int)) + (1 : Int)) + (1 : Int)) + (1 : Int)) + (1 : Int)) + (1 : Int)) + (1 : Int)) + (1 : Int)) + (1 : Int)) + (1 : Int)) + (1 : Int)) + (1 : Int)) (lf_o lf_iand (lf_o lf_ishr p3 (16 : Int)) (255 : Int))) ((((((((((((((s + (1 : Int)) + (1 : Int)) + (1 : Int)) + (1 : Int)) + (1 : Int)) + (1 : Int)) + (1 : Int)) + (1 : Int)) + (1 : Int)) + (1 : Int)) + (1 : Int)) + (1 : Int)) + (1 : Int)) + (1 : Int)) (lf_o lf_iand (lf_o lf_ishr p3 (8 : Int)) (255 : Int))) (((((((((((((((s + (1 : Int)) + (1 : Int)) + (1 : Int)) + (1 : Int)) + (1 : Int)) + (1 : Int)) + (1 : Int)) + (1 : Int)) + (1 : Int)) + (1 : Int)) + (1 : Int)) + (1 : Int)) + (1 : Int)) + (1 : Int)) + (1 : Int)) (lf_o lf_iand (lf_o lf_ishr p3 (0 : Int)) (255 : Int))) ((((((((((((((((s + (1 : Int)) + (1 : Int)) + (1 : Int)) + (1 : Int)) + (1 : Int)) + (1 : Int)) + (1 : Int)) + (1 : Int)) + (1 : Int)) + (1 : Int)) + (1 : Int)) + (1 : Int)) + (1 : Int)) + (1 : Int)) + (1 : Int)) + (1 : Int)) (lf_o lf_iand (lf_o lf_ishr p4 (24 : Int)) (255 : Int))) (((((((((((((((((s + (1 : Int)) + (1 : Int)) + (1 : Int)) + (1 : Int)) + (1 : Int)) + (1 : Int)) + (1 : Int)) + (1 : Int)) + (1 : Int)) + (1 : Int)) + (1 : Int)) + (1 : Int)) + (1 : Int)) + (1 : Int)) + (1 : Int)) + (1 : Int)) + (1 : Int)) (lf_o lf_iand (lf_o lf_ishr p4 (16 : Int)) (255 : Int))) ((((((((((((((((((s + (1 : Int)) + (1 : Int)) + (1 : Int)) + (1 : Int)) + (1 : Int)) + (1 : Int)) + (1 : Int)) + (1 : Int)) + (1 : Int)) + (1 : Int)) + (1 : Int)) + (1 : Int)) + (1 : Int)) + (1 : Int)) + (1 : Int)) + (1 : Int)) + (1 : Int)) + (1 : Int)) (lf_o lf_iand (lf_o lf_ishr p4 (8 : Int)) (255 : Int))) (((((((((((((((((((s + (1 : Int)) + (1 : Int)) + (1 : Int)) + (1 : Int)) + (1 : Int)) + (1 : Int)) + (1 : Int)) + (1 : Int)) + (1 : Int)) + (1 : Int)) + (1 : Int)) + (1 : Int)) + (1 : Int)) + (1 : Int)) + (1 : Int)) + (1 : Int)) + (1 : Int)) + (1 : Int)) + (1 : Int)) (lf_o lf_iand (lf_o lf_ishr p4 (0 : Int)) (255 : Int))) else g
theorem fx_1 {g rf : Nat → Int} {s p0 p1 p2 p3 p4 : Int} : (F_X9_feed g s rf p0 p1 p2 p3 p4).2.2.1 = fdT g s p0 p1 p2 p3 p4 := by
  unfold F_X9_feed fdT
  by_cases q : (s + (20 : Int)) ≤ (1600 : Int)
  · rw [if_pos q, if_pos q]
    unfold F_X9_putBytes_f_0_1580 F_X9_putBytes_f_0_1584 F_X9_putBytes_f_0_1588 F_X9_putBytes_f_0_1592 F_X9_putBytes_f_0_1596
    rw [lf_p_e, lf_p_e, lf_p_e, lf_p_e, lf_p_e]
  · rw [if_neg q, if_neg q]
    unfold F_X9_refuse
    rw [lf_p_e]
theorem fd_0 {k : Nat} {rf A : Nat → Int} {c p0 p1 p2 p3 p4 : Int} : F_X10_feed_28 rf p0 p1 p2 p3 p4 (k + 21) (0 : Int) c A = F_X10_feed_28 rf p0 p1 p2 p3 p4 (k + 20) (1 : Int) (c + (1 : Int)) (lf_up A c (lf_o lf_iand (lf_o lf_ishr p0 (24 : Int)) (255 : Int))) := by
  show F_X10_feed_28b rf p0 p1 p2 p3 p4 (F_X10_feed_28 rf p0 p1 p2 p3 p4 (k + 20)) (0 : Int) c A = _
  unfold F_X10_feed_28b F_X10_feed_81
  rw [if_neg (show ¬ (20 : Int) ≤ 0 from by decide), if_neg (show ¬ (4 : Int) ≤ 0 from by decide), show ((8 : Int) * ((3 : Int) - (lf_o lf_irem (0 : Int) (4 : Int)))) = 24 from by decide, show ((0 : Int) + (1 : Int)) = 1 from by decide]
theorem fd_1 {k : Nat} {rf A : Nat → Int} {c p0 p1 p2 p3 p4 : Int} : F_X10_feed_28 rf p0 p1 p2 p3 p4 (k + 20) (1 : Int) c A = F_X10_feed_28 rf p0 p1 p2 p3 p4 (k + 19) (2 : Int) (c + (1 : Int)) (lf_up A c (lf_o lf_iand (lf_o lf_ishr p0 (16 : Int)) (255 : Int))) := by
  show F_X10_feed_28b rf p0 p1 p2 p3 p4 (F_X10_feed_28 rf p0 p1 p2 p3 p4 (k + 19)) (1 : Int) c A = _
  unfold F_X10_feed_28b F_X10_feed_81
  rw [if_neg (show ¬ (20 : Int) ≤ 1 from by decide), if_neg (show ¬ (4 : Int) ≤ 1 from by decide), show ((8 : Int) * ((3 : Int) - (lf_o lf_irem (1 : Int) (4 : Int)))) = 16 from by decide, show ((1 : Int) + (1 : Int)) = 2 from by decide]
theorem fd_2 {k : Nat} {rf A : Nat → Int} {c p0 p1 p2 p3 p4 : Int} : F_X10_feed_28 rf p0 p1 p2 p3 p4 (k + 19) (2 : Int) c A = F_X10_feed_28 rf p0 p1 p2 p3 p4 (k + 18) (3 : Int) (c + (1 : Int)) (lf_up A c (lf_o lf_iand (lf_o lf_ishr p0 (8 : Int)) (255 : Int))) := by
  show F_X10_feed_28b rf p0 p1 p2 p3 p4 (F_X10_feed_28 rf p0 p1 p2 p3 p4 (k + 18)) (2 : Int) c A = _
  unfold F_X10_feed_28b F_X10_feed_81
  rw [if_neg (show ¬ (20 : Int) ≤ 2 from by decide), if_neg (show ¬ (4 : Int) ≤ 2 from by decide), show ((8 : Int) * ((3 : Int) - (lf_o lf_irem (2 : Int) (4 : Int)))) = 8 from by decide, show ((2 : Int) + (1 : Int)) = 3 from by decide]
theorem fd_3 {k : Nat} {rf A : Nat → Int} {c p0 p1 p2 p3 p4 : Int} : F_X10_feed_28 rf p0 p1 p2 p3 p4 (k + 18) (3 : Int) c A = F_X10_feed_28 rf p0 p1 p2 p3 p4 (k + 17) (4 : Int) (c + (1 : Int)) (lf_up A c (lf_o lf_iand (lf_o lf_ishr p0 (0 : Int)) (255 : Int))) := by
  show F_X10_feed_28b rf p0 p1 p2 p3 p4 (F_X10_feed_28 rf p0 p1 p2 p3 p4 (k + 17)) (3 : Int) c A = _
  unfold F_X10_feed_28b F_X10_feed_81
  rw [if_neg (show ¬ (20 : Int) ≤ 3 from by decide), if_neg (show ¬ (4 : Int) ≤ 3 from by decide), show ((8 : Int) * ((3 : Int) - (lf_o lf_irem (3 : Int) (4 : Int)))) = 0 from by decide, show ((3 : Int) + (1 : Int)) = 4 from by decide]
theorem fd_4 {k : Nat} {rf A : Nat → Int} {c p0 p1 p2 p3 p4 : Int} : F_X10_feed_28 rf p0 p1 p2 p3 p4 (k + 17) (4 : Int) c A = F_X10_feed_28 rf p0 p1 p2 p3 p4 (k + 16) (5 : Int) (c + (1 : Int)) (lf_up A c (lf_o lf_iand (lf_o lf_ishr p1 (24 : Int)) (255 : Int))) := by
  show F_X10_feed_28b rf p0 p1 p2 p3 p4 (F_X10_feed_28 rf p0 p1 p2 p3 p4 (k + 16)) (4 : Int) c A = _
  unfold F_X10_feed_28b F_X10_feed_81
  rw [if_neg (show ¬ (20 : Int) ≤ 4 from by decide), if_pos (show (4 : Int) ≤ 4 from by decide), if_neg (show ¬ (8 : Int) ≤ 4 from by decide), show ((8 : Int) * ((3 : Int) - (lf_o lf_irem (4 : Int) (4 : Int)))) = 24 from by decide, show ((4 : Int) + (1 : Int)) = 5 from by decide]
theorem fd_5 {k : Nat} {rf A : Nat → Int} {c p0 p1 p2 p3 p4 : Int} : F_X10_feed_28 rf p0 p1 p2 p3 p4 (k + 16) (5 : Int) c A = F_X10_feed_28 rf p0 p1 p2 p3 p4 (k + 15) (6 : Int) (c + (1 : Int)) (lf_up A c (lf_o lf_iand (lf_o lf_ishr p1 (16 : Int)) (255 : Int))) := by
  show F_X10_feed_28b rf p0 p1 p2 p3 p4 (F_X10_feed_28 rf p0 p1 p2 p3 p4 (k + 15)) (5 : Int) c A = _
  unfold F_X10_feed_28b F_X10_feed_81
  rw [if_neg (show ¬ (20 : Int) ≤ 5 from by decide), if_pos (show (4 : Int) ≤ 5 from by decide), if_neg (show ¬ (8 : Int) ≤ 5 from by decide), show ((8 : Int) * ((3 : Int) - (lf_o lf_irem (5 : Int) (4 : Int)))) = 16 from by decide, show ((5 : Int) + (1 : Int)) = 6 from by decide]
theorem fd_6 {k : Nat} {rf A : Nat → Int} {c p0 p1 p2 p3 p4 : Int} : F_X10_feed_28 rf p0 p1 p2 p3 p4 (k + 15) (6 : Int) c A = F_X10_feed_28 rf p0 p1 p2 p3 p4 (k + 14) (7 : Int) (c + (1 : Int)) (lf_up A c (lf_o lf_iand (lf_o lf_ishr p1 (8 : Int)) (255 : Int))) := by
  show F_X10_feed_28b rf p0 p1 p2 p3 p4 (F_X10_feed_28 rf p0 p1 p2 p3 p4 (k + 14)) (6 : Int) c A = _
  unfold F_X10_feed_28b F_X10_feed_81
  rw [if_neg (show ¬ (20 : Int) ≤ 6 from by decide), if_pos (show (4 : Int) ≤ 6 from by decide), if_neg (show ¬ (8 : Int) ≤ 6 from by decide), show ((8 : Int) * ((3 : Int) - (lf_o lf_irem (6 : Int) (4 : Int)))) = 8 from by decide, show ((6 : Int) + (1 : Int)) = 7 from by decide]
theorem fd_7 {k : Nat} {rf A : Nat → Int} {c p0 p1 p2 p3 p4 : Int} : F_X10_feed_28 rf p0 p1 p2 p3 p4 (k + 14) (7 : Int) c A = F_X10_feed_28 rf p0 p1 p2 p3 p4 (k + 13) (8 : Int) (c + (1 : Int)) (lf_up A c (lf_o lf_iand (lf_o lf_ishr p1 (0 : Int)) (255 : Int))) := by
  show F_X10_feed_28b rf p0 p1 p2 p3 p4 (F_X10_feed_28 rf p0 p1 p2 p3 p4 (k + 13)) (7 : Int) c A = _
  unfold F_X10_feed_28b F_X10_feed_81
  rw [if_neg (show ¬ (20 : Int) ≤ 7 from by decide), if_pos (show (4 : Int) ≤ 7 from by decide), if_neg (show ¬ (8 : Int) ≤ 7 from by decide), show ((8 : Int) * ((3 : Int) - (lf_o lf_irem (7 : Int) (4 : Int)))) = 0 from by decide, show ((7 : Int) + (1 : Int)) = 8 from by decide]
theorem fd_8 {k : Nat} {rf A : Nat → Int} {c p0 p1 p2 p3 p4 : Int} : F_X10_feed_28 rf p0 p1 p2 p3 p4 (k + 13) (8 : Int) c A = F_X10_feed_28 rf p0 p1 p2 p3 p4 (k + 12) (9 : Int) (c + (1 : Int)) (lf_up A c (lf_o lf_iand (lf_o lf_ishr p2 (24 : Int)) (255 : Int))) := by
  show F_X10_feed_28b rf p0 p1 p2 p3 p4 (F_X10_feed_28 rf p0 p1 p2 p3 p4 (k + 12)) (8 : Int) c A = _
  unfold F_X10_feed_28b F_X10_feed_81
  rw [if_neg (show ¬ (20 : Int) ≤ 8 from by decide), if_pos (show (4 : Int) ≤ 8 from by decide), if_pos (show (8 : Int) ≤ 8 from by decide), if_neg (show ¬ (12 : Int) ≤ 8 from by decide), show ((8 : Int) * ((3 : Int) - (lf_o lf_irem (8 : Int) (4 : Int)))) = 24 from by decide, show ((8 : Int) + (1 : Int)) = 9 from by decide]
theorem fd_9 {k : Nat} {rf A : Nat → Int} {c p0 p1 p2 p3 p4 : Int} : F_X10_feed_28 rf p0 p1 p2 p3 p4 (k + 12) (9 : Int) c A = F_X10_feed_28 rf p0 p1 p2 p3 p4 (k + 11) (10 : Int) (c + (1 : Int)) (lf_up A c (lf_o lf_iand (lf_o lf_ishr p2 (16 : Int)) (255 : Int))) := by
  show F_X10_feed_28b rf p0 p1 p2 p3 p4 (F_X10_feed_28 rf p0 p1 p2 p3 p4 (k + 11)) (9 : Int) c A = _
  unfold F_X10_feed_28b F_X10_feed_81
  rw [if_neg (show ¬ (20 : Int) ≤ 9 from by decide), if_pos (show (4 : Int) ≤ 9 from by decide), if_pos (show (8 : Int) ≤ 9 from by decide), if_neg (show ¬ (12 : Int) ≤ 9 from by decide), show ((8 : Int) * ((3 : Int) - (lf_o lf_irem (9 : Int) (4 : Int)))) = 16 from by decide, show ((9 : Int) + (1 : Int)) = 10 from by decide]
theorem fd_10 {k : Nat} {rf A : Nat → Int} {c p0 p1 p2 p3 p4 : Int} : F_X10_feed_28 rf p0 p1 p2 p3 p4 (k + 11) (10 : Int) c A = F_X10_feed_28 rf p0 p1 p2 p3 p4 (k + 10) (11 : Int) (c + (1 : Int)) (lf_up A c (lf_o lf_iand (lf_o lf_ishr p2 (8 : Int)) (255 : Int))) := by
  show F_X10_feed_28b rf p0 p1 p2 p3 p4 (F_X10_feed_28 rf p0 p1 p2 p3 p4 (k + 10)) (10 : Int) c A = _
  unfold F_X10_feed_28b F_X10_feed_81
  rw [if_neg (show ¬ (20 : Int) ≤ 10 from by decide), if_pos (show (4 : Int) ≤ 10 from by decide), if_pos (show (8 : Int) ≤ 10 from by decide), if_neg (show ¬ (12 : Int) ≤ 10 from by decide), show ((8 : Int) * ((3 : Int) - (lf_o lf_irem (10 : Int) (4 : Int)))) = 8 from by decide, show ((10 : Int) + (1 : Int)) = 11 from by decide]
theorem fd_11 {k : Nat} {rf A : Nat → Int} {c p0 p1 p2 p3 p4 : Int} : F_X10_feed_28 rf p0 p1 p2 p3 p4 (k + 10) (11 : Int) c A = F_X10_feed_28 rf p0 p1 p2 p3 p4 (k + 9) (12 : Int) (c + (1 : Int)) (lf_up A c (lf_o lf_iand (lf_o lf_ishr p2 (0 : Int)) (255 : Int))) := by
  show F_X10_feed_28b rf p0 p1 p2 p3 p4 (F_X10_feed_28 rf p0 p1 p2 p3 p4 (k + 9)) (11 : Int) c A = _
  unfold F_X10_feed_28b F_X10_feed_81
  rw [if_neg (show ¬ (20 : Int) ≤ 11 from by decide), if_pos (show (4 : Int) ≤ 11 from by decide), if_pos (show (8 : Int) ≤ 11 from by decide), if_neg (show ¬ (12 : Int) ≤ 11 from by decide), show ((8 : Int) * ((3 : Int) - (lf_o lf_irem (11 : Int) (4 : Int)))) = 0 from by decide, show ((11 : Int) + (1 : Int)) = 12 from by decide]
theorem fd_12 {k : Nat} {rf A : Nat → Int} {c p0 p1 p2 p3 p4 : Int} : F_X10_feed_28 rf p0 p1 p2 p3 p4 (k + 9) (12 : Int) c A = F_X10_feed_28 rf p0 p1 p2 p3 p4 (k + 8) (13 : Int) (c + (1 : Int)) (lf_up A c (lf_o lf_iand (lf_o lf_ishr p3 (24 : Int)) (255 : Int))) := by
  show F_X10_feed_28b rf p0 p1 p2 p3 p4 (F_X10_feed_28 rf p0 p1 p2 p3 p4 (k + 8)) (12 : Int) c A = _
  unfold F_X10_feed_28b F_X10_feed_81
  rw [if_neg (show ¬ (20 : Int) ≤ 12 from by decide), if_pos (show (4 : Int) ≤ 12 from by decide), if_pos (show (8 : Int) ≤ 12 from by decide), if_pos (show (12 : Int) ≤ 12 from by decide), if_neg (show ¬ (16 : Int) ≤ 12 from by decide), show ((8 : Int) * ((3 : Int) - (lf_o lf_irem (12 : Int) (4 : Int)))) = 24 from by decide, show ((12 : Int) + (1 : Int)) = 13 from by decide]
theorem fd_13 {k : Nat} {rf A : Nat → Int} {c p0 p1 p2 p3 p4 : Int} : F_X10_feed_28 rf p0 p1 p2 p3 p4 (k + 8) (13 : Int) c A = F_X10_feed_28 rf p0 p1 p2 p3 p4 (k + 7) (14 : Int) (c + (1 : Int)) (lf_up A c (lf_o lf_iand (lf_o lf_ishr p3 (16 : Int)) (255 : Int))) := by
  show F_X10_feed_28b rf p0 p1 p2 p3 p4 (F_X10_feed_28 rf p0 p1 p2 p3 p4 (k + 7)) (13 : Int) c A = _
  unfold F_X10_feed_28b F_X10_feed_81
  rw [if_neg (show ¬ (20 : Int) ≤ 13 from by decide), if_pos (show (4 : Int) ≤ 13 from by decide), if_pos (show (8 : Int) ≤ 13 from by decide), if_pos (show (12 : Int) ≤ 13 from by decide), if_neg (show ¬ (16 : Int) ≤ 13 from by decide), show ((8 : Int) * ((3 : Int) - (lf_o lf_irem (13 : Int) (4 : Int)))) = 16 from by decide, show ((13 : Int) + (1 : Int)) = 14 from by decide]
theorem fd_14 {k : Nat} {rf A : Nat → Int} {c p0 p1 p2 p3 p4 : Int} : F_X10_feed_28 rf p0 p1 p2 p3 p4 (k + 7) (14 : Int) c A = F_X10_feed_28 rf p0 p1 p2 p3 p4 (k + 6) (15 : Int) (c + (1 : Int)) (lf_up A c (lf_o lf_iand (lf_o lf_ishr p3 (8 : Int)) (255 : Int))) := by
  show F_X10_feed_28b rf p0 p1 p2 p3 p4 (F_X10_feed_28 rf p0 p1 p2 p3 p4 (k + 6)) (14 : Int) c A = _
  unfold F_X10_feed_28b F_X10_feed_81
  rw [if_neg (show ¬ (20 : Int) ≤ 14 from by decide), if_pos (show (4 : Int) ≤ 14 from by decide), if_pos (show (8 : Int) ≤ 14 from by decide), if_pos (show (12 : Int) ≤ 14 from by decide), if_neg (show ¬ (16 : Int) ≤ 14 from by decide), show ((8 : Int) * ((3 : Int) - (lf_o lf_irem (14 : Int) (4 : Int)))) = 8 from by decide, show ((14 : Int) + (1 : Int)) = 15 from by decide]
theorem fd_15 {k : Nat} {rf A : Nat → Int} {c p0 p1 p2 p3 p4 : Int} : F_X10_feed_28 rf p0 p1 p2 p3 p4 (k + 6) (15 : Int) c A = F_X10_feed_28 rf p0 p1 p2 p3 p4 (k + 5) (16 : Int) (c + (1 : Int)) (lf_up A c (lf_o lf_iand (lf_o lf_ishr p3 (0 : Int)) (255 : Int))) := by
  show F_X10_feed_28b rf p0 p1 p2 p3 p4 (F_X10_feed_28 rf p0 p1 p2 p3 p4 (k + 5)) (15 : Int) c A = _
  unfold F_X10_feed_28b F_X10_feed_81
  rw [if_neg (show ¬ (20 : Int) ≤ 15 from by decide), if_pos (show (4 : Int) ≤ 15 from by decide), if_pos (show (8 : Int) ≤ 15 from by decide), if_pos (show (12 : Int) ≤ 15 from by decide), if_neg (show ¬ (16 : Int) ≤ 15 from by decide), show ((8 : Int) * ((3 : Int) - (lf_o lf_irem (15 : Int) (4 : Int)))) = 0 from by decide, show ((15 : Int) + (1 : Int)) = 16 from by decide]
theorem fd_16 {k : Nat} {rf A : Nat → Int} {c p0 p1 p2 p3 p4 : Int} : F_X10_feed_28 rf p0 p1 p2 p3 p4 (k + 5) (16 : Int) c A = F_X10_feed_28 rf p0 p1 p2 p3 p4 (k + 4) (17 : Int) (c + (1 : Int)) (lf_up A c (lf_o lf_iand (lf_o lf_ishr p4 (24 : Int)) (255 : Int))) := by
  show F_X10_feed_28b rf p0 p1 p2 p3 p4 (F_X10_feed_28 rf p0 p1 p2 p3 p4 (k + 4)) (16 : Int) c A = _
  unfold F_X10_feed_28b F_X10_feed_81
  rw [if_neg (show ¬ (20 : Int) ≤ 16 from by decide), if_pos (show (4 : Int) ≤ 16 from by decide), if_pos (show (8 : Int) ≤ 16 from by decide), if_pos (show (12 : Int) ≤ 16 from by decide), if_pos (show (16 : Int) ≤ 16 from by decide), show ((8 : Int) * ((3 : Int) - (lf_o lf_irem (16 : Int) (4 : Int)))) = 24 from by decide, show ((16 : Int) + (1 : Int)) = 17 from by decide]
theorem fd_17 {k : Nat} {rf A : Nat → Int} {c p0 p1 p2 p3 p4 : Int} : F_X10_feed_28 rf p0 p1 p2 p3 p4 (k + 4) (17 : Int) c A = F_X10_feed_28 rf p0 p1 p2 p3 p4 (k + 3) (18 : Int) (c + (1 : Int)) (lf_up A c (lf_o lf_iand (lf_o lf_ishr p4 (16 : Int)) (255 : Int))) := by
  show F_X10_feed_28b rf p0 p1 p2 p3 p4 (F_X10_feed_28 rf p0 p1 p2 p3 p4 (k + 3)) (17 : Int) c A = _
  unfold F_X10_feed_28b F_X10_feed_81
  rw [if_neg (show ¬ (20 : Int) ≤ 17 from by decide), if_pos (show (4 : Int) ≤ 17 from by decide), if_pos (show (8 : Int) ≤ 17 from by decide), if_pos (show (12 : Int) ≤ 17 from by decide), if_pos (show (16 : Int) ≤ 17 from by decide), show ((8 : Int) * ((3 : Int) - (lf_o lf_irem (17 : Int) (4 : Int)))) = 16 from by decide, show ((17 : Int) + (1 : Int)) = 18 from by decide]
theorem fd_18 {k : Nat} {rf A : Nat → Int} {c p0 p1 p2 p3 p4 : Int} : F_X10_feed_28 rf p0 p1 p2 p3 p4 (k + 3) (18 : Int) c A = F_X10_feed_28 rf p0 p1 p2 p3 p4 (k + 2) (19 : Int) (c + (1 : Int)) (lf_up A c (lf_o lf_iand (lf_o lf_ishr p4 (8 : Int)) (255 : Int))) := by
  show F_X10_feed_28b rf p0 p1 p2 p3 p4 (F_X10_feed_28 rf p0 p1 p2 p3 p4 (k + 2)) (18 : Int) c A = _
  unfold F_X10_feed_28b F_X10_feed_81
  rw [if_neg (show ¬ (20 : Int) ≤ 18 from by decide), if_pos (show (4 : Int) ≤ 18 from by decide), if_pos (show (8 : Int) ≤ 18 from by decide), if_pos (show (12 : Int) ≤ 18 from by decide), if_pos (show (16 : Int) ≤ 18 from by decide), show ((8 : Int) * ((3 : Int) - (lf_o lf_irem (18 : Int) (4 : Int)))) = 8 from by decide, show ((18 : Int) + (1 : Int)) = 19 from by decide]
theorem fd_19 {k : Nat} {rf A : Nat → Int} {c p0 p1 p2 p3 p4 : Int} : F_X10_feed_28 rf p0 p1 p2 p3 p4 (k + 2) (19 : Int) c A = F_X10_feed_28 rf p0 p1 p2 p3 p4 (k + 1) (20 : Int) (c + (1 : Int)) (lf_up A c (lf_o lf_iand (lf_o lf_ishr p4 (0 : Int)) (255 : Int))) := by
  show F_X10_feed_28b rf p0 p1 p2 p3 p4 (F_X10_feed_28 rf p0 p1 p2 p3 p4 (k + 1)) (19 : Int) c A = _
  unfold F_X10_feed_28b F_X10_feed_81
  rw [if_neg (show ¬ (20 : Int) ≤ 19 from by decide), if_pos (show (4 : Int) ≤ 19 from by decide), if_pos (show (8 : Int) ≤ 19 from by decide), if_pos (show (12 : Int) ≤ 19 from by decide), if_pos (show (16 : Int) ≤ 19 from by decide), show ((8 : Int) * ((3 : Int) - (lf_o lf_irem (19 : Int) (4 : Int)))) = 0 from by decide, show ((19 : Int) + (1 : Int)) = 20 from by decide]
theorem fd_20 {k : Nat} {rf A : Nat → Int} {c p0 p1 p2 p3 p4 : Int} : F_X10_feed_28 rf p0 p1 p2 p3 p4 (k + 1) (20 : Int) c A = (c, c, rf, A) := by
  show F_X10_feed_28b rf p0 p1 p2 p3 p4 (F_X10_feed_28 rf p0 p1 p2 p3 p4 k) (20 : Int) c A = _
  unfold F_X10_feed_28b
  rw [if_pos (show (20 : Int) ≤ 20 from by decide)]
theorem fm_1 {g rf : Nat → Int} {s p0 p1 p2 p3 p4 : Int} : (F_X10_feed s g rf p0 p1 p2 p3 p4).2.2.2 = fdT g s p0 p1 p2 p3 p4 := by
  unfold F_X10_feed fdT
  by_cases q : (s + (20 : Int)) ≤ (1600 : Int)
  · rw [if_pos q, if_pos q, show (1602 : Nat) = 1581 + 21 from rfl, fd_0, fd_1, fd_2, fd_3, fd_4, fd_5, fd_6, fd_7, fd_8, fd_9, fd_10, fd_11, fd_12, fd_13, fd_14, fd_15, fd_16, fd_17, fd_18, fd_19, fd_20]
  · rw [if_neg q, if_neg q]
