/-- the whole text, as it is to be read -/
def rcT (g : Nat → Int) (n : Nat) (cd : Nat → Int) : Sum (Int × Int) (Nat × PL) := match sb (sp_1d g n (.inr 0)).2 (sp_need g n 59) with
  | .inl q => .inl q
  | .inr p => rcL g n 81 1 p ([], [], false, false, false, (0, cd))
theorem cl_begin {g comers spans : Nat → Int} {n : Nat} (hn : n ≤ 1600) : F_X5_begin g comers spans (n : Int) = ((n : Int), (tx_a g n 0 : Int), (tx_e g n 0 : Int), (tx_k g n 0 : Int), lf_fl comers 200 0, lf_fl spans 6 0) := by
  unfold F_X5_begin F_X4_clear
  rw [lf_p_e, show min (n : Int) (1600 : Int) = (n : Int) from by omega]
  have e : F_X5_moveTo g (n : Int) (0 : Int) = ((tx_a g n 0 : Int), (tx_e g n 0 : Int), (tx_k g n 0 : Int)) := cl_mv (p := 0) hn (Nat.zero_le n)
  rw [e, lf_p_e, lf_p_e]
theorem nms_0 (N : Nat → Int) : nms N [] [] := ⟨fun j hj => absurd hj (Nat.not_lt_zero j), fun j hj => absurd hj (Nat.not_lt_zero j), fun j hj => absurd hj (Nat.not_lt_zero j), fun j hj => absurd hj (Nat.not_lt_zero j), Nat.zero_le 6, Nat.zero_le 12⟩
theorem tf_fl (A : Nat → Int) : tf (lf_fl A 6 0) false false false := ⟨⟨fun r => Bool.noConfusion r, fun r => absurd (Int.le_refl 0) r⟩, ⟨fun r => Bool.noConfusion r, fun r => absurd (Int.le_refl 0) r⟩, ⟨fun r => Bool.noConfusion r, fun r => absurd (Int.le_refl 0) r⟩⟩
theorem rc_start {g code : Nat → Int} {n p : Nat} {cy gr ru le : Int} (hn : n ≤ 1600) (hp : p ≤ n) (al aw : Int) (A2 A3 A5 A6 A7 A8 A9 A10 : Nat → Int) (h3 : tf A3 false false false) : tellR cy gr ru le (F_X5_readCrossing_18 g 81 (n : Int) (tx_a g n p : Int) (tx_e g n p : Int) (tx_k g n p : Int) (0 : Int) (-1 : Int) cy gr ru le A2 A3 (1 : Int) al aw (0 : Int) (0 : Int) (0 : Int) A5 A6 A7 A8 A9 A10 code) (rcL g n 81 1 p ([], [], false, false, false, (0, code))) := by
  have h := rc_loop (g := g) (cy := cy) (gr := gr) (ru := ru) (le := le) hn 81 1 p ([], [], false, false, false, (0, code)) al aw A2 A3 A5 A6 A7 A8 A9 A10 hp (by omega) (by omega) (nms_0 _) h3 (Int.le_refl 0) (by show (0 : Int) ≤ _; omega)
  have e1 : ((1 : Nat) : Int) = (1 : Int) := rfl
  have e2 : (((([], [], false, false, false, (0, code)) : PL).1.length : Nat) : Int) = (0 : Int) := rfl
  have e4 : (([], [], false, false, false, (0, code)) : PL).2.2.2.2.2.1 = (0 : Int) := rfl
  have e5 : (([], [], false, false, false, (0, code)) : PL).2.2.2.2.2.2 = code := rfl
  rw [e1, e2, e4, e5] at h
  exact h
theorem cl_rc1 {g calm pace trusts kindOf comesAt comers names code spans : Nat → Int} {n : Nat} {al : Int} {s1 : ST} {cy gr ru le : Int} (hn : n ≤ 1600) (e1 : F_X5_firstStatement g (n : Int) (tx_a g n 0 : Int) (tx_e g n 0 : Int) (tx_k g n 0 : Int) (0 : Int) (-1 : Int) = ap5 (cst g n s1) (cy, gr, ru, le)) (hv1 : sv n s1) : F_X5_readCrossing g al calm pace trusts kindOf comesAt comers names code spans (n : Int) = F_X5_readCrossing_18 g 81 (n : Int) (cst g n (sb s1 (sp_need g n 59))).1 (cst g n (sb s1 (sp_need g n 59))).2.1 (cst g n (sb s1 (sp_need g n 59))).2.2.1 (cst g n (sb s1 (sp_need g n 59))).2.2.2.1 (cst g n (sb s1 (sp_need g n 59))).2.2.2.2 cy gr ru le (lf_fl comers 200 0) (lf_fl spans 6 0) (1 : Int) al (0 : Int) (0 : Int) (0 : Int) (0 : Int) names calm pace trusts kindOf comesAt code := by
  unfold F_X5_readCrossing
  rw [cl_begin hn, lf_p_e, lf_p_e, lf_p_e, lf_p_e, lf_p_e, e1, lf_pa, lf_p_e, lf_p_e, lf_p_e, lf_p_e, lf_p_e, lf_p_e, lf_p_e, cl_need_s hn hv1, lf_pc]
  repeat rw [lf_p2]
theorem cl_rc {g calm pace trusts kindOf comesAt comers names code spans : Nat → Int} {n : Nat} {al : Int} (hn : n ≤ 1600) : tellR (sp_1a g n (.inr 0)).1 (sp_1b g n (.inr 0)).1 (sp_1c g n (.inr 0)).1 (sp_1d g n (.inr 0)).1 (F_X5_readCrossing g al calm pace trusts kindOf comesAt comers names code spans (n : Int)) (rcT g n code) := by
  have hv : sv n (.inr 0) := Nat.zero_le n
  have hv1 : sv n (sp_1d g n (.inr 0)).2 := sp_1d_v hv
  rw [cl_rc1 hn (cl_first (s := .inr 0) hn hv) hv1]
  unfold rcT
  have hv2 : sv n (sb (sp_1d g n (.inr 0)).2 (sp_need g n 59)) := sp_need_sv hv1
  generalize (sp_1a g n (.inr 0)).1 = cy
  generalize (sp_1b g n (.inr 0)).1 = gr
  generalize (sp_1c g n (.inr 0)).1 = ru
  generalize (sp_1d g n (.inr 0)).1 = le
  generalize sb (sp_1d g n (.inr 0)).2 (sp_need g n 59) = s2 at hv2
  cases s2 with
  | inl q => exact rc_0 (m := 80)
  | inr p => exact rc_start hn hv2 _ _ _ _ _ _ _ _ _ _ (tf_fl _)
