/-! the class reads a text -/
theorem sbv_in {s : ST} {f : Nat → Int × ST} {d : Int} {q : Nat} (h : (sbv s f d).2 = .inr q) : ∃ p, s = .inr p ∧ (f p).2 = .inr q := by
  cases s with
  | inl x => cases h
  | inr p => exact ⟨p, rfl, h⟩
theorem sb_in {s : ST} {f : Nat → ST} {q : Nat} (h : sb s f = .inr q) : ∃ p, s = .inr p ∧ f p = .inr q := by
  cases s with
  | inl x => cases h
  | inr p => exact ⟨p, rfl, h⟩
theorem sp_w_gt {g : Nat → Int} {n p q : Nat} {ws : List (List Int)} (h : sp_w g n ws p = .inr q) : p < q := by
  unfold sp_w at h
  split at h
  · cases h
  · rename_i k
    cases h
    exact tx_e_gt' (by have := wl_k k; omega)
theorem sp_nb_gt {g : Nat → Int} {n p q : Nat} {ws : List (List Int)} {lo hi : Int} (h : (sp_nb g n ws lo hi p).2 = .inr q) : p < q := by
  unfold sp_nb at h
  cases e : sp_w g n ws p with
  | inl x => rw [e] at h; cases h
  | inr p2 =>
    rw [e] at h
    have h1 := sp_w_gt e
    have h2 := sp_num_gt (show (sp_num g n lo hi p2).2 = .inr q from h)
    omega
theorem sp_new_gt {g : Nat → Int} {n p q : Nat} {Ks Ws : List (List Int)} (h : sp_new g n Ks Ws p = .inr q) : p < q ∧ isNm g n p = true := by
  unfold sp_new at h
  split at h
  · rename_i k
    split at h
    · cases h
      exact ⟨tx_e_gt' (by have := (isNm_W k).1; omega), k⟩
    · cases h
  · cases h
theorem sp_kn_gt {g : Nat → Int} {n p q : Nat} {Ks : List (List Int)} (h : (sp_kn g n Ks p).2 = .inr q) : p < q := by
  unfold sp_kn at h
  split at h
  · rename_i k
    split at h
    · cases h
    · cases h
      exact tx_e_gt' (by have := (isNm_W k).1; omega)
  · cases h
theorem sp_k3_gt {g : Nat → Int} {n p q : Nat} {Ks Ws : List (List Int)} (h : (sp_k3 g n Ks Ws p).2 = .inr q) : tx_e g n p < q ∧ isNm g n (tx_e g n p) = true ∧ ∃ p1, sp_k0 g n Ks Ws p = .inr p1 := by
  obtain ⟨p3, e3, h3⟩ := sbv_in h
  obtain ⟨p2, e2, h2⟩ := sbv_in e3
  obtain ⟨p1, e1, h1⟩ := sbv_in e2
  have l0 := sp_new_gt e1
  have l1 := sp_nb_gt h1
  have l2 := sp_nb_gt h2
  have l3 := sp_nb_gt h3
  exact ⟨by have := l0.1; omega, l0.2, p1, e1⟩
theorem sp_c3_gt {g : Nat → Int} {n p q : Nat} {Ks Ws : List (List Int)} (h : (sp_c3 g n Ks Ws p).2 = .inr q) : tx_e g n p < q ∧ isNm g n (tx_e g n p) = true ∧ ∃ p1, sp_k0 g n Ks Ws p = .inr p1 := by
  obtain ⟨p3, e3, h3⟩ := sbv_in h
  obtain ⟨p2, e2, h2⟩ := sbv_in e3
  obtain ⟨p1, e1, h1⟩ := sb_in e2
  have l0 := sp_new_gt e1
  have l1 := sp_w_gt h1
  have l2 := sp_kn_gt h2
  have l3 := sp_nb_gt h3
  exact ⟨by have := l0.1; omega, l0.2, p1, e1⟩
def ap9 (c : Int × Int × Int × Int × Int) (al sz : Int) (sp cd : Nat → Int) : Int × Int × Int × Int × Int × Int × Int × (Nat → Int) × (Nat → Int) := (c.1, c.2.1, c.2.2.1, al, c.2.2.2.1, c.2.2.2.2, sz, sp, cd)
/-- the code of a statement -/
def cod (g : Nat → Int) (n : Nat) (i : Int) (al : Int) (p : Nat) (c : CD) : ST × CD := if i = 4 then sSum g n al 6 p c else sTest g n al 6 p c
theorem cod_ok {g : Nat → Int} {n : Nat} {i al : Int} : okR n (cod g n i al) := by
  intro p c hp
  unfold cod
  split
  · exact sSum_ok 6 p c hp
  · exact sTest_ok 6 p c hp
theorem cod_G {g : Nat → Int} {n : Nat} {i al : Int} (hn : n ≤ 1600) : okG n (cod g n i al) := by
  intro p c hp h0 h1
  unfold cod
  split
  · exact sSum_G hn 6 p c hp h0 h1
  · exact sTest_G hn 6 p c hp h0 h1
theorem cl_code1 {g : Nat → Int} {n p : Nat} {c : CD} {sp : Nat → Int} {al0 al i : Int} (hn : n ≤ 1600) (hp : p ≤ n) (h : sp (Int.toNat (i + 1)) ≤ sp (Int.toNat i)) : ∃ d : CD, F_X5_codeStatement g (n : Int) (tx_a g n p : Int) (tx_e g n p : Int) al0 c.2 c.1 sp (0 : Int) (-1 : Int) i al = ap9 (cst g n (cod g n i al (tx_e g n p) c).1) al d.1 (lf_up (lf_up sp i c.1) (i + 1) d.1) d.2 ∧ ∀ q, (cod g n i al (tx_e g n p) c).1 = .inr q → d = (cod g n i al (tx_e g n p) c).2 := by
  unfold F_X5_codeStatement F_X5_codeStatement_80 cod
  rw [if_pos h, cl_mve hn hp, lf_p_e, lf_p_e]
  by_cases q : i = 4
  · rw [if_pos q, if_pos q]
    obtain ⟨d, e1, e2⟩ := su_0 (al := al) hn (.inr (tx_e g n p)) c (tx_e_le hp)
    have e3 : F_X5_sum_a0_0 g (n : Int) (tx_a g n (tx_e g n p) : Int) (tx_e g n (tx_e g n p) : Int) (tx_k g n (tx_e g n p) : Int) al c.2 c.1 (0 : Int) (-1 : Int) = ap5 (cst g n (sSum g n al 6 (tx_e g n p) c).1) d := e1
    rw [e3]
    exact ⟨d, rfl, e2⟩
  · rw [if_neg q, if_neg q]
    obtain ⟨d, e1, e2⟩ := te_0 (al := al) hn (.inr (tx_e g n p)) c (tx_e_le hp)
    have e3 : F_X5_test_a0_0 g (n : Int) (tx_a g n (tx_e g n p) : Int) (tx_e g n (tx_e g n p) : Int) (tx_k g n (tx_e g n p) : Int) al c.2 c.1 (0 : Int) (-1 : Int) = ap5 (cst g n (sTest g n al 6 (tx_e g n p) c).1) d := e1
    rw [e3]
    exact ⟨d, rfl, e2⟩
theorem cl_code5 {g : Nat → Int} {n : Nat} {c : CD} {sp : Nat → Int} {al0 al i a e : Int} (h : ¬ sp (Int.toNat (i + 1)) ≤ sp (Int.toNat i)) : F_X5_codeStatement g (n : Int) a e al0 c.2 c.1 sp (0 : Int) (-1 : Int) i al = ap9 (cst g n (.inl (5, a))) al0 c.1 sp c.2 := by
  unfold F_X5_codeStatement
  rw [if_neg h, cl_fail0]
  rfl
/-- what has been told: names of kinds, of walkers, whether car, red, learns; what is coded -/
abbrev PL : Type := List (List Int) × List (List Int) × Bool × Bool × Bool × CD
def sp_st (g : Nat → Int) (n p : Nat) (st : PL) : ST × PL := if wl g n ws_0 p = 0 then (if st.1.length < 6 then ((sp_k3 g n st.1 st.2.1 p).2, (st.1 ++ [wd g n (tx_e g n p)], st.2)) else (.inl (5, (tx_a g n p : Int)), st)) else if wl g n ws_0 p = 1 then (if st.2.1.length < 12 then ((sp_c3 g n st.1 st.2.1 p).2, (st.1, st.2.1 ++ [wd g n (tx_e g n p)], st.2.2)) else (.inl (5, (tx_a g n p : Int)), st)) else if wl g n ws_0 p = 2 then (if st.2.2.1 = true then (.inl (5, (tx_a g n p : Int)), st) else ((cod g n 0 7 (tx_e g n p) st.2.2.2.2.2).1, (st.1, st.2.1, true, st.2.2.2.1, st.2.2.2.2.1, (cod g n 0 7 (tx_e g n p) st.2.2.2.2.2).2))) else if wl g n ws_0 p = 3 then (if st.2.2.2.1 = true then (.inl (5, (tx_a g n p : Int)), st) else ((cod g n 2 507 (tx_e g n p) st.2.2.2.2.2).1, (st.1, st.2.1, st.2.2.1, true, st.2.2.2.2.1, (cod g n 2 507 (tx_e g n p) st.2.2.2.2.2).2))) else if wl g n ws_0 p = 4 then (if st.2.2.2.2.1 = true then (.inl (5, (tx_a g n p : Int)), st) else ((cod g n 4 123 (tx_e g n p) st.2.2.2.2.2).1, (st.1, st.2.1, st.2.2.1, st.2.2.2.1, true, (cod g n 4 123 (tx_e g n p) st.2.2.2.2.2).2))) else if wl g n ws_0 p = 5 then ((sp_nb g n ws_1 0 100 p).2, st) else (.inl (1, (tx_a g n p : Int)), st)
def rcL (g : Nat → Int) (n : Nat) : Nat → Nat → Nat → PL → Sum (Int × Int) (Nat × PL)
  | 0, _, _, _ => .inl (0, 0)
  | f + 1, k, p, st => if tx_k g n p = 0 then .inr (k, st) else if 80 ≤ k then .inl (5, (tx_a g n p : Int)) else match sb (sp_st g n p st).1 (sp_need g n 59) with
    | .inl q => .inl q
    | .inr p2 => rcL g n f (k + 1) p2 (sp_st g n p st).2
abbrev RO : Type := Int × Int × Int × Int × Int × Int × Int × Int × Int × Int × Int × Int × Int × Int × Int × Int × (Nat → Int) × (Nat → Int) × (Nat → Int) × (Nat → Int) × (Nat → Int) × (Nat → Int) × (Nat → Int) × (Nat → Int) × (Nat → Int)
/-- what the output tells -/
def tellR (cy gr ru le : Int) (o : RO) (r : Sum (Int × Int) (Nat × PL)) : Prop := match r with
  | .inl q => o.2.2.2.2.2.1 = q.1 ∧ o.2.2.2.2.2.2.1 = q.2
  | .inr x => o.2.2.2.2.2.1 = 0 ∧ o.2.2.2.2.2.2.1 = -1 ∧ o.2.2.2.2.2.2.2.1 = cy ∧ o.2.2.2.2.2.2.2.2.1 = gr ∧ o.2.2.2.2.2.2.2.2.2.1 = ru ∧ o.2.2.2.2.2.2.2.2.2.2.1 = le ∧ o.2.2.2.2.2.2.2.2.2.2.2.2.1 = (x.1 : Int) ∧ o.2.2.2.2.2.2.2.2.2.2.2.2.2.1 = (x.2.1.length : Int) ∧ o.2.2.2.2.2.2.2.2.2.2.2.2.2.2.1 = (x.2.2.1.length : Int) ∧ nms o.2.2.2.2.2.2.2.2.2.2.2.2.2.2.2.2.2.2.1 x.2.1 x.2.2.1
theorem rc_146 {g : Nat → Int} {n : Nat} {s : ST} (hn : n ≤ 1600) (hv : sv n s) (cy gr ru le cnt : Int) (K : Int → Int → Int → Int → Int → Int → Int → Int → Int → Int → (Nat → Int) → (Nat → Int) → Int → Int → Int → Int → Int → Int → (Nat → Int) → (Nat → Int) → (Nat → Int) → (Nat → Int) → (Nat → Int) → (Nat → Int) → (Nat → Int) → RO) (ki : Int) (A5 A6 A7 A8 : Nat → Int) (wa : Int) (A2 A9 A10 : Nat → Int) (al sz : Int) (A3 A11 : Nat → Int) (aw : Int) : F_X5_readCrossing_146 g (n : Int) cy gr ru le cnt K (cst g n s).1 (cst g n s).2.1 (cst g n s).2.2.1 (cst g n s).2.2.2.1 (cst g n s).2.2.2.2 ki A5 A6 A7 A8 wa A2 A9 A10 al sz A3 A11 aw = K (n : Int) (cst g n (sb s (sp_need g n 59))).1 (cst g n (sb s (sp_need g n 59))).2.1 (cst g n (sb s (sp_need g n 59))).2.2.1 (cst g n (sb s (sp_need g n 59))).2.2.2.1 (cst g n (sb s (sp_need g n 59))).2.2.2.2 cy gr ru le A2 A3 (cnt + 1) al aw ki wa sz A5 A6 A7 A8 A9 A10 A11 := by
  unfold F_X5_readCrossing_146
  rw [cl_need_s hn hv, lf_pc]
  repeat rw [lf_p2]
theorem rc_0 {g : Nat → Int} {n m : Nat} {f q cy gr ru le cnt al aw ki wa sz : Int} {A2 A3 A5 A6 A7 A8 A9 A10 A11 : Nat → Int} : (F_X5_readCrossing_18 g (m + 1) (n : Int) (n : Int) (n : Int) (0 : Int) f q cy gr ru le A2 A3 cnt al aw ki wa sz A5 A6 A7 A8 A9 A10 A11).2.2.2.2.2.1 = f ∧ (F_X5_readCrossing_18 g (m + 1) (n : Int) (n : Int) (n : Int) (0 : Int) f q cy gr ru le A2 A3 cnt al aw ki wa sz A5 A6 A7 A8 A9 A10 A11).2.2.2.2.2.2.1 = q := by
  have e : F_X5_readCrossing_18 g (m + 1) (n : Int) (n : Int) (n : Int) (0 : Int) f q cy gr ru le A2 A3 cnt al aw ki wa sz A5 A6 A7 A8 A9 A10 A11 = F_X5_readCrossing_174 cnt (n : Int) (n : Int) (n : Int) (0 : Int) al f q cy gr ru le aw ki wa sz A2 A3 A5 A6 A7 A8 A9 A10 A11 := by
    show F_X5_readCrossing_18b g _ (n : Int) (n : Int) (n : Int) (0 : Int) f q cy gr ru le A2 A3 cnt al aw ki wa sz A5 A6 A7 A8 A9 A10 A11 = _
    unfold F_X5_readCrossing_18b F_X5_readCrossing_158
    rw [if_pos rfl, if_pos rfl]
  rw [e]
  exact ⟨rfl, rfl⟩
/-- whether each of the three has been told, by what its span holds -/
def tf (A : Nat → Int) (t0 t1 t2 : Bool) : Prop := (t0 = true ↔ ¬ A 1 ≤ A 0) ∧ (t1 = true ↔ ¬ A 3 ≤ A 2) ∧ (t2 = true ↔ ¬ A 5 ≤ A 4)
