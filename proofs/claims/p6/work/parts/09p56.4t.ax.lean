/-- fault and place behind the class's ask -/
def afx (a b : Int) (O : Int × Int × Int × Int × Int × Int × Nat × Int × Int × Int × Int × Int × Int × Int × Int × (Nat → Int) × (Nat → Int) × (Nat → Int) × Int × Int × Int × Int × Int × Int × Int × Int × (Nat → Int) × (Nat → Int) × (Nat → Int) × (Nat → Int) × (Nat → Int) × (Nat → Int) × (Nat → Int) × (Nat → Int)) : Prop := O.2.2.2.2.2.2.2.1 = a ∧ O.2.2.2.2.2.2.2.2.1 = b
theorem ax_0 {g co code spans z_plan_calm z_plan_pace z_plan_kindOf z_plan_comesAt z_plan_comers z_plan_code z_plan_spans z_now_trusts z_machine_facts z_machine_stack z_street_trusts z_street_cars z_street_gaps z_street_known z_street_left z_street_leaves : Nat → Int} {cy fa pl z_plan_least z_plan_kinds z_plan_walkers z_spare_cycle z_spare_away z_spare_statements z_spare_kinds z_spare_walkers z_spare_size z_now_day z_now_rule z_now_green z_reader_length z_reader_at z_reader_behind z_reader_sort z_reader_allowed z_street_day z_street_rule z_street_green z_street_absent z_street_asksReds z_street_pressed z_street_crossed z_street_went z_street_harmed : Int} {z_spare z_reader_plan : Nat} {n : Nat} (hc : cy ≤ 0) : afx fa pl (F_X9_ask g (n : Int) cy z_plan_least z_plan_kinds z_plan_calm z_plan_pace z_plan_walkers z_plan_kindOf z_plan_comesAt z_plan_comers z_plan_code z_plan_spans z_spare z_spare_cycle z_spare_away z_spare_statements z_spare_kinds z_spare_walkers co code z_spare_size spans z_now_day z_now_rule z_now_green z_now_trusts z_machine_facts z_machine_stack z_reader_plan z_reader_length z_reader_at z_reader_behind z_reader_sort z_reader_allowed fa pl z_street_day z_street_trusts z_street_rule z_street_green z_street_absent z_street_asksReds z_street_cars z_street_gaps z_street_known z_street_left z_street_leaves z_street_pressed z_street_crossed z_street_went z_street_harmed) := by
  unfold F_X9_ask F_X9_takeTape F_X9_stands
  rw [lf_b_e, lf_b_e, if_pos hc, if_pos rfl]
  exact ⟨rfl, rfl⟩
theorem ax_1 {g co code spans z_plan_calm z_plan_pace z_plan_kindOf z_plan_comesAt z_plan_comers z_plan_code z_plan_spans z_now_trusts z_machine_facts z_machine_stack z_street_trusts z_street_cars z_street_gaps z_street_known z_street_left z_street_leaves : Nat → Int} {cy fa pl z_plan_least z_plan_kinds z_plan_walkers z_spare_cycle z_spare_away z_spare_statements z_spare_kinds z_spare_walkers z_spare_size z_now_day z_now_rule z_now_green z_reader_length z_reader_at z_reader_behind z_reader_sort z_reader_allowed z_street_day z_street_rule z_street_green z_street_absent z_street_asksReds z_street_pressed z_street_crossed z_street_went z_street_harmed : Int} {z_spare z_reader_plan : Nat} {n : Nat} (hn : n ≤ 1600) (hc : ¬ cy ≤ 0) : afx (cst g n (rqS g n (0, code))).2.2.2.1 (cst g n (rqS g n (0, code))).2.2.2.2 (F_X9_ask g (n : Int) cy z_plan_least z_plan_kinds z_plan_calm z_plan_pace z_plan_walkers z_plan_kindOf z_plan_comesAt z_plan_comers z_plan_code z_plan_spans z_spare z_spare_cycle z_spare_away z_spare_statements z_spare_kinds z_spare_walkers co code z_spare_size spans z_now_day z_now_rule z_now_green z_now_trusts z_machine_facts z_machine_stack z_reader_plan z_reader_length z_reader_at z_reader_behind z_reader_sort z_reader_allowed fa pl z_street_day z_street_trusts z_street_rule z_street_green z_street_absent z_street_asksReds z_street_cars z_street_gaps z_street_known z_street_left z_street_leaves z_street_pressed z_street_crossed z_street_went z_street_harmed) := by
  have h := cl_rq (g := g) (comers := co) (code := code) (spans := spans) hn
  unfold F_X9_ask F_X9_takeTape F_X9_stands
  rw [lf_b_e, lf_b_e, if_neg hc, if_neg (show ¬ (1 : Int) = 0 from by decide)]
  generalize F_X5_readQuestion g co code spans (n : Int) = R at h ⊢
  obtain ⟨r1, r2, r3, r4, r5, r6, r7, r8, r9, r10, r11⟩ := R
  rw [lf_p_e, lf_p_e, lf_p_e, lf_p_e, lf_p_e, lf_p_e, lf_p_e, lf_p_e, lf_p_e, lf_p_e]
  have h6 : r6 = (cst g n (rqS g n (0, code))).2.2.2.1 := h.1
  have h7 : r7 = (cst g n (rqS g n (0, code))).2.2.2.2 := h.2
  generalize (cst g n (rqS g n (0, code))).2.2.2.1 = A at h6 ⊢
  generalize (cst g n (rqS g n (0, code))).2.2.2.2 = B at h7 ⊢
  subst h6
  subst h7
  refine lf_iI (Q := afx r6 r7) (fun _ => ?_) (fun _ => ⟨rfl, rfl⟩)
  repeat' (with_reducible refine lf_pI (Q := afx r6 r7) (fun _ _ => ?_))
  exact ⟨rfl, rfl⟩
