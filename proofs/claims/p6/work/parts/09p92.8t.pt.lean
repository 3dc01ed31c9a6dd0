/-! a crossing that stands, on both sides: one plan -/
theorem mem_gd : ∀ (L : List Int) (c : Int), c ∈ L → ∃ j, j < L.length ∧ L.getD j 0 = c
  | [], c, h => by cases h
  | a :: L, c, h => by
    rcases List.mem_cons.mp h with r | r
    · exact ⟨0, Nat.zero_lt_succ _, r.symm⟩
    · obtain ⟨j, h1, h2⟩ := mem_gd L c r
      exact ⟨j + 1, Nat.succ_lt_succ h1, h2⟩
theorem us_run {code spans : Nat → Int} : ∀ (f : Nat) (l : Int), spans 3 - l < (f : Int) → 0 ≤ l → F_X4_uses_7 code spans (2 : Int) (-9 : Int) f l = 0 → ∀ j : Nat, l ≤ (j : Int) → (j : Int) < spans 3 → ¬ code j = -9 := by
  intro f
  induction f with
  | zero => intro l h1 h0 _ j h2 h3; omega
  | succ f ih =>
    intro l h1 h0 h j h2 h3
    have e : F_X4_uses_7b code spans (2 : Int) (-9 : Int) (F_X4_uses_7 code spans (2 : Int) (-9 : Int) f) l = 0 := h
    unfold F_X4_uses_7b at e
    have e3 : spans (Int.toNat ((2 : Int) + (1 : Int))) = spans 3 := rfl
    rw [e3] at e
    by_cases q : spans 3 ≤ l
    · omega
    · rw [if_neg q] at e
      by_cases q2 : code (Int.toNat l) = -9
      · rw [if_pos q2] at e
        exact absurd e (by decide)
      · rw [if_neg q2] at e
        by_cases q3 : (j : Int) = l
        · have : l.toNat = j := by omega
          rw [this] at q2
          exact q2
        · exact ih (l + 1) (by omega) (by omega) e j (by omega) h3
theorem us_x {code spans : Nat → Int} {o : Option (List Int)} (h : cdX code spans 2 o) (hu : F_X4_uses code spans (2 : Int) (-9 : Int) = 0) : no48 o := by
  cases o with
  | none => exact True.intro
  | some L =>
    obtain ⟨i, h1, h2, h3, h4⟩ := h
    intro c hc r
    obtain ⟨j, hj, e⟩ := mem_gd L c hc
    have hu' : F_X4_uses_7 code spans (2 : Int) (-9 : Int) 1602 (spans 2) = 0 := hu
    have := us_run 1602 (spans 2) (by rw [show spans 3 = (i : Int) + (L.length : Int) from h2, h1]; omega) (by rw [h1]; omega) hu' (i + j) (by rw [h1]; omega) (by rw [show spans 3 = (i : Int) + (L.length : Int) from h2]; omega)
    rw [h4 j hj, e, r] at this
    exact this (by decide)
def tellY (O : Int × Nat × Nat × Int × Int × Int × Int × Int × Int × Int × Int × Int × Int × Int × Int × Int × Int × Int × Int × (Nat → Int) × (Nat → Int) × (Nat → Int) × (Nat → Int) × (Nat → Int) × (Nat → Int) × (Nat → Int) × (Nat → Int) × (Nat → Int) × Int × Int × Int × (Nat → Int) × Int × Int × Int × Nat × Int × Int × Int × Int × (Nat → Int)) (x1 x2 x3 : Int) (t : Nat → Int) (x4 : Int) (x6 x7 x8 x9 x10 : Int) (x11 : Int) (r : Sum (Int × Int) (Nat × PL)) (pr : PR) : Prop := match r with
  | .inl _ => O.2.2.2.2.2.2.2.2.2.2.2.2.2.2.2.2.2.2.2.2.2.2.2.2.2.2.2.2.1 = x1 ∧ O.2.2.2.2.2.2.2.2.2.2.2.2.2.2.2.2.2.2.2.2.2.2.2.2.2.2.2.2.2.1 = x2 ∧ O.2.2.2.2.2.2.2.2.2.2.2.2.2.2.2.2.2.2.2.2.2.2.2.2.2.2.2.2.2.2.1 = x3 ∧ O.2.2.2.2.2.2.2.2.2.2.2.2.2.2.2.2.2.2.2.2.2.2.2.2.2.2.2.2.2.2.2.1 = t ∧ O.2.2.2.2.2.2.2.2.2.2.2.2.2.2.2.2.2.2.2.2.2.2.2.2.2.2.2.2.2.2.2.2.1 = x4 ∧ O.2.2.2.2.2.2.2.2.2.2.2.2.2.2.2.2.2.2.2.2.2.2.2.2.2.2.2.2.2.2.2.2.2.1 = x10 ∧ O.2.2.2.2.2.2.2.2.2.2.2.2.2.2.2.2.2.2.2.2.2.2.2.2.2.2.2.2.2.2.2.2.2.2.1 = x11 ∧ O.2.2.2.2.2.2.2.2.2.2.2.2.2.2.2.2.2.2.2.2.2.2.2.2.2.2.2.2.2.2.2.2.2.2.2.2.1 = x6 ∧ O.2.2.2.2.2.2.2.2.2.2.2.2.2.2.2.2.2.2.2.2.2.2.2.2.2.2.2.2.2.2.2.2.2.2.2.2.2.1 = x7 ∧ O.2.2.2.2.2.2.2.2.2.2.2.2.2.2.2.2.2.2.2.2.2.2.2.2.2.2.2.2.2.2.2.2.2.2.2.2.2.2.1 = x8 ∧ O.2.2.2.2.2.2.2.2.2.2.2.2.2.2.2.2.2.2.2.2.2.2.2.2.2.2.2.2.2.2.2.2.2.2.2.2.2.2.2.1 = x9
  | .inr x => prI pr x.2.1.length x.2.2.1.length ∧ prX pr O.2.2.2.2.2.2.2.2.2.2.2.2.2.2.2.2.2.2.2.1 O.2.2.2.2.2.2.2.2.2.2.2.2.2.2.2.2.2.2.2.2.1 O.2.2.2.2.2.2.2.2.2.2.2.2.2.2.2.2.2.2.2.2.2.2.1 O.2.2.2.2.2.2.2.2.2.2.2.2.2.2.2.2.2.2.2.2.2.2.2.1 O.2.2.2.2.2.2.2.2.2.2.2.2.2.2.2.2.2.2.2.2.2.2.2.2.1 O.2.2.2.2.2.2.2.2.2.2.2.2.2.2.2.2.2.2.2.2.2.2.2.2.2.1 O.2.2.2.2.2.2.2.2.2.2.2.2.2.2.2.2.2.2.2.2.2.2.2.2.2.2.1 O.2.2.2.2.2.2.2.2.2.2.2.2.2.2.2.2.2.2.2.2.2.2.2.2.2.2.2.1 O.2.2.2.2.2.2.2.2.2.2.2.2.2.2.2.2.2.2.1 O.2.2.2.2.2.2.2.2.2.2.2.2.2.2.1 ∧ O.2.2.2.2.2.2.2.2.2.2.2.2.2.2.2.2.2.2.1 ≤ 1600 ∧ O.2.2.2.2.2.2.2.2.2.2.2.2.2.2.2.2.2.2.2.2.2.2.2.2.2.2.2.2.1 = 0 ∧ O.2.2.2.2.2.2.2.2.2.2.2.2.2.2.2.2.2.2.2.2.2.2.2.2.2.2.2.2.2.1 = O.2.2.2.2.2.2.2.2.2.2.2.2.1 ∧ O.2.2.2.2.2.2.2.2.2.2.2.2.2.2.2.2.2.2.2.2.2.2.2.2.2.2.2.2.2.2.1 = O.2.2.2.2.2.2.2.2.2.2.2.1 ∧ (∀ k, k < 6 → O.2.2.2.2.2.2.2.2.2.2.2.2.2.2.2.2.2.2.2.2.2.2.2.2.2.2.2.2.2.2.2.1 k = O.2.2.2.2.2.2.2.2.2.2.2.2.2.2.2.2.2.2.2.2.2.2.2.2.1 k) ∧ (O.2.2.2.2.2.2.2.2.2.2.2.2.2.2.2.2.2.2.2.2.2.2.2.2.2.2.2.2.2.2.2.2.2.2.2.2.2.1 = 0 → no48 pr.2.2.2.1) ∧ O.2.2.2.2.2.2.2.2.2.2.2.2.2.2.2.2.2.2.2.2.2.2.2.2.2.2.2.2.2.2.2.2.2.2.2.2.1 = -1 ∧ O.2.2.2.2.2.2.2.2.2.2.2.2.2.2.2.2.2.2.2.2.2.2.2.2.2.2.2.2.2.2.2.2.1 = 0 ∧ O.2.2.2.2.2.2.2.2.2.2.2.2.2.2.2.2.2.2.2.2.2.2.2.2.2.2.2.2.2.2.2.2.2.1 = 0 ∧ O.2.2.2.2.2.2.2.2.2.2.2.2.2.2.2.2.2.2.2.2.2.2.2.2.2.2.2.2.2.2.2.2.2.2.1 = 0 ∧ O.2.2.2.2.2.2.2.2.2.2.2.2.2.2.2.2.2.2.2.2.2.2.2.2.2.2.2.2.2.2.2.2.2.2.2.2.2.2.1 = 0 ∧ O.2.2.2.2.2.2.2.2.2.2.2.2.2.2.2.2.2.2.2.2.2.2.2.2.2.2.2.2.2.2.2.2.2.2.2.2.2.2.2.1 = 0
theorem cx6 {g calm pace trusts kindOf comesAt comers names code spans t rf : Nat → Int} {s x1 x2 x3 x4 al x5 x6 x7 x8 x9 x10 : Int} {pl sp : Nat} (h0 : 0 ≤ s) (h1 : s ≤ 1600) : tellY (F_X9_crossing g s pl sp calm pace trusts kindOf comesAt comers names code spans x1 x2 x3 t x4 al x5 x6 x7 x8 x9 x10 rf) x1 x2 x3 t x4 x5 x6 x7 x8 x9 x10 (rcT g s.toNat code) (rpT g s.toNat code) := by
  obtain ⟨n, rfl⟩ := Int.eq_ofNat_of_zero_le h0
  have hn : n ≤ 1600 := by omega
  rw [Int.toNat_natCast]
  have h := cl_rc (g := g) (calm := calm) (pace := pace) (trusts := trusts) (kindOf := kindOf) (comesAt := comesAt) (comers := comers) (names := names) (code := code) (spans := spans) (al := al) hn
  have hp := cl_rp (g := g) (calm := calm) (pace := pace) (trusts := trusts) (kindOf := kindOf) (comesAt := comesAt) (comers := comers) (names := names) (code := code) (spans := spans) (al := al) hn
  have hv := fun q => rcT_v (g := g) (cd := code) (n := n) q
  unfold F_X9_crossing F_X9_takeTape
  rw [lf_b_e]
  generalize F_X5_readCrossing g al calm pace trusts kindOf comesAt comers names code spans (n : Int) = R at h hp ⊢
  obtain ⟨r1, r2, r3, r4, r5, r6, r7, r8, r9, r10, r11, r12, r13, r14, r15, r16, r17, r18, r19, r20, r21, r22, r23, r24, r25⟩ := R
  rw [lf_p_e, lf_p_e, lf_p_e, lf_p_e, lf_p_e, lf_p_e, lf_p_e, lf_p_e, lf_p_e, lf_p_e, lf_p_e, lf_p_e, lf_p_e, lf_p_e, lf_p_e, lf_p_e, lf_p_e, lf_p_e, lf_p_e, lf_p_e, lf_p_e, lf_p_e, lf_p_e, lf_p_e]
  generalize rpT g n code = pr at hp ⊢
  cases e : rcT g n code with
  | inl q =>
    rw [e] at h
    have h6 : r6 = q.1 := h.1
    rw [if_neg (show ¬ r6 = 0 from fun z => hv q e (h6.symm.trans z))]
    unfold F_X9_refuse
    rw [lf_p_e]
    exact ⟨rfl, rfl, rfl, rfl, rfl, rfl, rfl, rfl, rfl, rfl, rfl⟩
  | inr x =>
    rw [e] at h hp
    obtain ⟨a1, a2, a3, a4, a5, a6, a7, a8, a9, a10⟩ := h
    have h6 : r6 = 0 := a1
    obtain ⟨hI, hX, hs⟩ := hp
    have hs' : r16 ≤ 1600 := hs
    rw [if_pos h6, lf_b_e, lf_b_e]
    refine ⟨hI, hX, hs, rfl, rfl, rfl, fun k hk => ?_, fun hu => ?_, rfl, rfl, rfl, rfl, rfl, rfl⟩
    · show F_X6_begin t r22 k = r22 k
      unfold F_X6_begin lf_cpy
      rw [if_pos (show (0 : Int).toNat ≤ k ∧ k < (0 : Int).toNat + (6 : Int).toNat from ⟨Nat.zero_le _, by omega⟩)]
      show r22 ((0 : Nat) + (k - 0)) = r22 k
      rw [Nat.zero_add, Nat.sub_zero]
    · exact us_x (cdS_X hX.2.2.2.1.2.1 hs') hu
/-- one plan on both sides -/
theorem pl_tie {pr : PR} {nk nw : Nat} {comers spans calm pace trusts kindOf comesAt code many bar kinds walkers cf ce codes now : Nat → Int} {size away cy ls ar : Int} (hI : prI pr nk nw) (hX : prX pr comers spans calm pace trusts kindOf comesAt code size away) (hs : size ≤ 1600) (hQ : stQr pr nk nw kinds walkers cf ce codes now) (har : ar = 0 → no48 pr.2.2.2.1) (hcy : 10 ≤ cy ∧ cy ≤ 120) (h3 : many 3 = (nw : Int)) (h2 : many 2 = (nk : Int)) (hb4 : bar 4 = cy) (hb7 : bar 7 = ls) : plH nw nk cy ls pr.2.2.1 pr.2.2.2.1 kindOf comesAt calm pace comers code spans ar ∧ pmH nw nk cy ls pr.2.2.1 pr.2.2.2.1 pr.2.2.2.2.1 kindOf comesAt calm pace many bar kinds walkers cf ce codes ∧ (cdX code spans 4 pr.2.2.2.2.1 ∧ cdG false 123 pr.2.2.2.2.1) ∧ (∀ k, k < nk → now (3 + k) = trusts k ∧ 0 ≤ trusts k ∧ trusts k ≤ 9) := by
  obtain ⟨⟨i1, i2, i3, i4⟩, i5, i6, ⟨g1, g2, g3⟩, i8⟩ := hI
  obtain ⟨x1, x2, x3, ⟨c1, c2, c3⟩, x5, x6⟩ := hX
  obtain ⟨q1, q2, q3, q4, q5⟩ := hQ
  have hk : ∀ w, w < nw → kindOf w = (pr.2.1.getD w (0, 0)).1 ∧ comesAt w = (pr.2.1.getD w (0, 0)).2 := fun w hw => x2 w (by omega)
  have ht : ∀ j, j < nk → calm j = (pr.1.getD j (0, 0, 0)).1 ∧ pace j = (pr.1.getD j (0, 0, 0)).2.1 ∧ trusts j = (pr.1.getD j (0, 0, 0)).2.2 := fun j hj => x1 j (by omega)
  rw [i2] at x3
  refine ⟨⟨i4, i3, hcy, fun w hw => ?_, fun k hk2 => ?_, fun s => ⟨(x3 s).1, fun w hw => ?_⟩, ⟨cdS_X c1 hs, g1⟩, ⟨cdS_X c2 hs, g2⟩, har⟩, ⟨h3, h2, hb4, hb7, fun w hw => ?_, fun k hk2 => ?_, q3, q4, q5⟩, ⟨cdS_X c3 hs, g3⟩, fun k hk2 => ?_⟩
  · rw [(hk w hw).1, (hk w hw).2]
    exact i6 w hw
  · rw [(ht k hk2).1, (ht k hk2).2.1]
    exact ⟨(i5 k hk2).1, (i5 k hk2).2.1⟩
  · rw [(x3 s).2 w hw]
    by_cases q : w < nw
    · rw [(hk w q).2]
    · rw [decide_eq_false q, Bool.false_and, Bool.false_and]
  · rw [(hk w hw).1, (hk w hw).2]
    exact q2 w hw
  · rw [(ht k hk2).1, (ht k hk2).2.1]
    exact ⟨(q1 k hk2).1, (q1 k hk2).2.1⟩
  · rw [(ht k hk2).2.2]
    exact ⟨(q1 k hk2).2.2, (i5 k hk2).2.2⟩
