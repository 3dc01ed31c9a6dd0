theorem sp_num_lo {g : Nat → Int} {n p : Nat} {lo hi : Int} : lo ≤ (sp_num g n lo hi p).1 := by
  unfold sp_num
  by_cases k : tx_k g n p = 2
  · rw [if_pos k]
    by_cases k2 : tx_e g n p - tx_a g n p ≤ 4
    · rw [if_pos k2]
      by_cases k3 : dval g (tx_e g n p - tx_a g n p) (tx_a g n p) 0 < lo ∨ hi < dval g (tx_e g n p - tx_a g n p) (tx_a g n p) 0
      · rw [if_pos k3]
        exact Int.le_refl _
      · rw [if_neg k3]
        show lo ≤ dval g (tx_e g n p - tx_a g n p) (tx_a g n p) 0
        omega
    · rw [if_neg k2]
      exact Int.le_refl _
  · rw [if_neg k]
    exact Int.le_refl _
theorem sp_1a_lo {g : Nat → Int} {n : Nat} : 10 ≤ (sp_1a g n (.inr 0)).1 := by
  show 10 ≤ (sp_nb g n ws_3 10 120 0).1
  unfold sp_nb
  cases sp_w g n ws_3 0 with
  | inl q => exact Int.le_refl _
  | inr p => exact sp_num_lo
/-- what the class's crossing tells -/
def tellX (g : Nat → Int) (n : Nat) (O : Int × Nat × Nat × Int × Int × Int × Int × Int × Int × Int × Int × Int × Int × Int × Int × Int × Int × Int × Int × (Nat → Int) × (Nat → Int) × (Nat → Int) × (Nat → Int) × (Nat → Int) × (Nat → Int) × (Nat → Int) × (Nat → Int) × (Nat → Int) × Int × Int × Int × (Nat → Int) × Int × Int × Int × Nat × Int × Int × Int × Int × (Nat → Int)) (r : Sum (Int × Int) (Nat × PL)) : Prop := match r with
  | .inl q => O.1 = -1 ∧ O.2.2.2.2.2.2.2.2.1 = q.1 ∧ O.2.2.2.2.2.2.2.2.2.1 = q.2
  | .inr x => O.1 = (x.1 : Int) ∧ O.2.2.2.2.2.2.2.2.1 = 0 ∧ O.2.2.2.2.2.2.2.2.2.1 = -1 ∧ O.2.2.2.2.2.2.2.2.2.2.1 = (sp_1a g n (.inr 0)).1 ∧ O.2.2.2.2.2.2.2.2.2.2.2.1 = (sp_1b g n (.inr 0)).1 ∧ O.2.2.2.2.2.2.2.2.2.2.2.2.1 = (sp_1c g n (.inr 0)).1 ∧ O.2.2.2.2.2.2.2.2.2.2.2.2.2.1 = (sp_1d g n (.inr 0)).1 ∧ O.2.2.2.2.2.2.2.2.2.2.2.2.2.2.2.2.1 = (x.2.1.length : Int) ∧ O.2.2.2.2.2.2.2.2.2.2.2.2.2.2.2.2.2.1 = (x.2.2.1.length : Int) ∧ nms O.2.2.2.2.2.2.2.2.2.2.2.2.2.2.2.2.2.2.2.2.2.1 x.2.1 x.2.2.1
theorem cx5 {g calm pace trusts kindOf comesAt comers names code spans t rf : Nat → Int} {s x1 x2 x3 x4 al x5 x6 x7 x8 x9 x10 : Int} {pl sp : Nat} (h0 : 0 ≤ s) (h1 : s ≤ 1600) : tellX g s.toNat (F_X9_crossing g s pl sp calm pace trusts kindOf comesAt comers names code spans x1 x2 x3 t x4 al x5 x6 x7 x8 x9 x10 rf) (rcT g s.toNat code) := by
  obtain ⟨n, rfl⟩ := Int.eq_ofNat_of_zero_le h0
  have hn : n ≤ 1600 := by omega
  rw [Int.toNat_natCast]
  have h := cl_rc (g := g) (calm := calm) (pace := pace) (trusts := trusts) (kindOf := kindOf) (comesAt := comesAt) (comers := comers) (names := names) (code := code) (spans := spans) (al := al) hn
  have hv := fun q => rcT_v (g := g) (cd := code) (n := n) q
  unfold F_X9_crossing F_X9_takeTape
  rw [lf_b_e]
  generalize F_X5_readCrossing g al calm pace trusts kindOf comesAt comers names code spans (n : Int) = R at h ⊢
  obtain ⟨r1, r2, r3, r4, r5, r6, r7, r8, r9, r10, r11, r12, r13, r14, r15, r16, r17, r18, r19, r20, r21, r22, r23, r24, r25⟩ := R
  rw [lf_p_e, lf_p_e, lf_p_e, lf_p_e, lf_p_e, lf_p_e, lf_p_e, lf_p_e, lf_p_e, lf_p_e, lf_p_e, lf_p_e, lf_p_e, lf_p_e, lf_p_e, lf_p_e, lf_p_e, lf_p_e, lf_p_e, lf_p_e, lf_p_e, lf_p_e, lf_p_e, lf_p_e]
  cases e : rcT g n code with
  | inl q =>
    rw [e] at h
    have h6 : r6 = q.1 := h.1
    have h7 : r7 = q.2 := h.2
    rw [if_neg (show ¬ r6 = 0 from fun z => hv q e (h6.symm.trans z))]
    unfold F_X9_refuse
    rw [lf_p_e]
    exact ⟨rfl, h6, h7⟩
  | inr x =>
    rw [e] at h
    obtain ⟨a1, a2, a3, a4, a5, a6, a7, a8, a9, a10⟩ := h
    have h6 : r6 = 0 := a1
    rw [if_pos h6, lf_b_e, lf_b_e]
    exact ⟨a7, a1, a2, a3, a4, a5, a6, a8, a9, a10⟩
/-! image -/
theorem ix_l {k : Int} {t : Nat → Int} : ∀ (f : Nat) (l : Int) (A : Nat → Int), 0 ≤ l → l ≤ k → k - l < (f : Int) → (F_X9_image_61 k t f A l).1 = 4 + k + 1 := by
  intro f
  induction f with
  | zero => intro l A h0 h1 h2; omega
  | succ f ih =>
    intro l A h0 h1 h2
    show (F_X9_image_61b k t (F_X9_image_61 k t f) A l).1 = _
    unfold F_X9_image_61b
    by_cases q : k ≤ l
    · rw [if_pos q, lf_b_e]
    · rw [if_neg q]
      exact ih (l + 1) _ (by omega) (by omega) (by omega)
theorem ix_1 {k d r gr : Int} {t oc : Nat → Int} (h0 : 0 ≤ k) (h1 : k ≤ 6) : (F_X9_image k d r gr t oc).1 = k + 5 := by
  have := ix_l (k := k) (t := t) 8 0 (lf_up (lf_up (lf_up (lf_up oc (0 : Int) (lf_o lf_ishr d (8 : Int))) (1 : Int) (lf_o lf_iand d (255 : Int))) (2 : Int) r) (3 : Int) gr) (Int.le_refl _) h0 (by omega)
  have e : (F_X9_image k d r gr t oc).1 = 4 + k + 1 := this
  omega
theorem im_l {k : Int} {M now : Nat → Int} (hM : M 2 = k) : ∀ (f : Nat) (v l : Int) (A : Nat → Int), 0 ≤ l → l ≤ k → k - l < (f : Int) → (F_X10_image_55 M now f v A l).1 = v + (k - l) + 1 := by
  intro f
  induction f with
  | zero => intro v l A h0 h1 h2; omega
  | succ f ih =>
    intro v l A h0 h1 h2
    show (F_X10_image_55b M now (F_X10_image_55 M now f) v A l).1 = _
    unfold F_X10_image_55b F_X10_writes_f_octets_0_10
    rw [lf_b_e]
    by_cases q : M 2 ≤ l
    · rw [if_pos q, lf_b_e, lf_p_e]
      show v + 1 = v + (k - l) + 1
      omega
    · rw [if_neg q, lf_b_e, lf_p_e, ih (v + 1) (l + 1) _ (by omega) (by omega) (by omega)]
      omega
theorem im_1 {k : Int} {M now oc : Nat → Int} (hM : M 2 = k) (h0 : 0 ≤ k) (h1 : k ≤ 6) : (F_X10_image M now oc).1 = k + 5 := by
  unfold F_X10_image
  rw [show F_X10_writes_f_octets_0_10 (0 : Int) oc (lf_o lf_idiv (now (Int.toNat (0 : Int))) (256 : Int)) = ((0 : Int) + (1 : Int), lf_up oc (0 : Int) (lf_o lf_idiv (now (Int.toNat (0 : Int))) (256 : Int))) from rfl, lf_p_e]
  unfold F_X10_writes_f_octets_0_10
  rw [lf_p_e, lf_p_e, lf_p_e, im_l hM 8 _ 0 _ (Int.le_refl _) h0 (by omega)]
  omega
