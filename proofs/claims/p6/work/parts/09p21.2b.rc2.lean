theorem tf_0 {A : Nat → Int} {t0 t1 t2 : Bool} {x y : Int} (h : tf A t0 t1 t2) (hx : x < y) : tf (lf_up (lf_up A 0 x) (0 + 1) y) true t1 t2 := by
  refine ⟨⟨fun _ => ?_, fun _ => rfl⟩, h.2.1, h.2.2⟩
  show ¬ y ≤ x
  omega
theorem tf_1 {A : Nat → Int} {t0 t1 t2 : Bool} {x y : Int} (h : tf A t0 t1 t2) (hx : x < y) : tf (lf_up (lf_up A 2 x) (2 + 1) y) t0 true t2 := by
  refine ⟨h.1, ⟨fun _ => ?_, fun _ => rfl⟩, h.2.2⟩
  show ¬ y ≤ x
  omega
theorem tf_2 {A : Nat → Int} {t0 t1 t2 : Bool} {x y : Int} (h : tf A t0 t1 t2) (hx : x < y) : tf (lf_up (lf_up A 4 x) (4 + 1) y) t0 t1 true := by
  refine ⟨h.1, h.2.1, ⟨fun _ => ?_, fun _ => rfl⟩⟩
  show ¬ y ≤ x
  omega
theorem lf_p9 {γ : Type} (c : Int × Int × Int × Int × Int) (al sz : Int) (sp cd : Nat → Int) (G : Int → Int × Int × Int × Int × Int × Int × (Nat → Int) × (Nat → Int) → γ) : lf_p (ap9 c al sz sp cd) G = G c.1 (c.2.1, c.2.2.1, al, c.2.2.2.1, c.2.2.2.2, sz, sp, cd) := rfl
theorem sv_le {n q : Nat} {s : ST} (h : sv n s) (e : s = .inr q) : q ≤ n := by rw [e] at h; exact h
theorem rc_loop {g : Nat → Int} {n : Nat} {cy gr ru le : Int} (hn : n ≤ 1600) : ∀ (f k p : Nat) (st : PL) (al aw : Int) (A2 A3 A5 A6 A7 A8 A9 A10 : Nat → Int), p ≤ n → k ≤ 80 → 81 ≤ k + f → nms A5 st.1 st.2.1 → tf A3 st.2.2.1 st.2.2.2.1 st.2.2.2.2.1 → 0 ≤ st.2.2.2.2.2.1 → st.2.2.2.2.2.1 ≤ (p : Int) → tellR cy gr ru le (F_X5_readCrossing_18 g f (n : Int) (tx_a g n p : Int) (tx_e g n p : Int) (tx_k g n p : Int) (0 : Int) (-1 : Int) cy gr ru le A2 A3 (k : Int) al aw (st.1.length : Int) (st.2.1.length : Int) st.2.2.2.2.2.1 A5 A6 A7 A8 A9 A10 st.2.2.2.2.2.2) (rcL g n f k p st) := by
  intro f
  induction f with
  | zero => intro k p st al aw A2 A3 A5 A6 A7 A8 A9 A10 h1 h2 h3; omega
  | succ f ih =>
    intro k p st al aw A2 A3 A5 A6 A7 A8 A9 A10 h1 h2 h3 h4 h5 h6 h7
    show tellR cy gr ru le (F_X5_readCrossing_18b g (F_X5_readCrossing_18 g f) (n : Int) (tx_a g n p : Int) (tx_e g n p : Int) (tx_k g n p : Int) (0 : Int) (-1 : Int) cy gr ru le A2 A3 (k : Int) al aw (st.1.length : Int) (st.2.1.length : Int) st.2.2.2.2.2.1 A5 A6 A7 A8 A9 A10 st.2.2.2.2.2.2) _
    unfold F_X5_readCrossing_18b rcL
    by_cases k0 : tx_k g n p = 0
    · rw [if_pos (by omega), if_pos k0]
      unfold F_X5_readCrossing_158 F_X5_readCrossing_174
      rw [if_pos (by omega)]
      exact ⟨rfl, rfl, rfl, rfl, rfl, rfl, rfl, rfl, rfl, h4⟩
    · rw [if_neg (by omega), if_neg k0]
      by_cases k1 : 80 ≤ k
      · rw [if_pos (by omega), if_pos k1]
        unfold F_X5_readCrossing_158 F_X5_readCrossing_174
        rw [if_neg (by omega), cl_fail0, lf_p_e]
        exact ⟨rfl, rfl⟩
      · rw [if_neg (by omega), if_neg k1, lf_b_e, cl_w_0, wl_c]
        have hlt : p < tx_e g n p := tx_e_gt' k0
        have hle := tx_e_le (f := g) h1
        have key : ∀ (s : ST) (st2 : PL) (ki wa : Int) (d : CD) (al2 aw2 : Int) (B2 B3 B5 B6 B7 B8 B9 B10 : Nat → Int), sv n s → (∀ q, s = .inr q → p ≤ q ∧ ki = (st2.1.length : Int) ∧ wa = (st2.2.1.length : Int) ∧ d = st2.2.2.2.2.2 ∧ nms B5 st2.1 st2.2.1 ∧ tf B3 st2.2.2.1 st2.2.2.2.1 st2.2.2.2.2.1 ∧ 0 ≤ d.1 ∧ d.1 ≤ (q : Int)) → tellR cy gr ru le (F_X5_readCrossing_146 g (n : Int) cy gr ru le (k : Int) (F_X5_readCrossing_18 g f) (cst g n s).1 (cst g n s).2.1 (cst g n s).2.2.1 (cst g n s).2.2.2.1 (cst g n s).2.2.2.2 ki B5 B6 B7 B8 wa B2 B9 B10 al2 d.1 B3 d.2 aw2) (match sb s (sp_need g n 59) with
            | .inl q => .inl q
            | .inr p2 => rcL g n f (k + 1) p2 st2) := by
          intro s st2 ki wa d al2 aw2 B2 B3 B5 B6 B7 B8 B9 B10 hv hx
          rw [rc_146 hn hv]
          have hv2 : sv n (sb s (sp_need g n 59)) := sp_need_sv hv
          cases e : sb s (sp_need g n 59) with
          | inl q =>
            obtain ⟨f', rfl⟩ : ∃ f', f = f' + 1 := ⟨f - 1, by omega⟩
            exact rc_0
          | inr p2 =>
            rw [e] at hv2
            obtain ⟨p1, es, e2⟩ := sb_in e
            obtain ⟨x1, x2, x3, x4, x5, x6, x7, x8⟩ := hx p1 es
            have x9 := sp_need_gt e2
            subst x2
            subst x3
            subst x4
            have := ih (k + 1) p2 st2 al2 aw2 B2 B3 B5 B6 B7 B8 B9 B10 hv2 (by omega) (by omega) x5 x6 x7 (by omega)
            rw [show ((k + 1 : Nat) : Int) = (k : Int) + 1 from by omega] at this
            exact this
        obtain ⟨Ks, Ws, t0, t1, t2, c⟩ := st
        have h4 : nms A5 Ks Ws := h4
        have h5 : tf A3 t0 t1 t2 := h5
        have h6 : 0 ≤ c.1 := h6
        have h7 : c.1 ≤ (p : Int) := h7
        show tellR cy gr ru le _ (match sb (sp_st g n p (Ks, Ws, t0, t1, t2, c)).1 (sp_need g n 59) with
            | .inl q => .inl q
            | .inr p2 => rcL g n f (k + 1) p2 (sp_st g n p (Ks, Ws, t0, t1, t2, c)).2)
        by_cases w0 : wl g n ws_0 p = 0
        · rw [if_pos w0]
          by_cases l0 : Ks.length < 6
          · have e9 : sp_st g n p (Ks, Ws, t0, t1, t2, c) = ((sp_k3 g n Ks Ws p).2, (Ks ++ [wd g n (tx_e g n p)], Ws, t0, t1, t2, c)) := by
              unfold sp_st
              rw [if_pos w0]
              exact if_pos l0
            rw [e9]
            show tellR cy gr ru le (lf_p (F_X5_kindStatement g (n : Int) (tx_a g n p : Int) (tx_e g n p : Int) (Ks.length : Int) A6 A7 A8 (Ws.length : Int) A5 (0 : Int) (-1 : Int)) _) _
            rw [cl_kind hn h1 h4 l0, lf_pa, lf_p_e, lf_p_e, lf_p_e, lf_p_e, lf_p_e, lf_p_e, lf_p_e, lf_p_e]
            refine key (sp_k3 g n Ks Ws p).2 (Ks ++ [wd g n (tx_e g n p)], Ws, t0, t1, t2, c) _ _ c _ _ _ _ _ _ _ _ _ _ (sp_k3_v Ks Ws h1) (fun q e => ?_)
            obtain ⟨y1, y2, p1, y3⟩ := sp_k3_gt e
            refine ⟨by omega, ?_, rfl, rfl, ?_, h5, h6, by omega⟩
            · show (Ks.length : Int) + 1 = ((Ks ++ [wd g n (tx_e g n p)]).length : Int)
              rw [List.length_append]
              show (Ks.length : Int) + 1 = ((Ks.length + 1 : Nat) : Int)
              omega
            · show nms (nN A5 Ks.length (wd g n (tx_e g n p)) (sp_k0 g n Ks Ws p)) (Ks ++ [wd g n (tx_e g n p)]) Ws
              rw [y3]
              exact nms_k1 (isNm_W y2).2 h4 l0
          · have e9 : sp_st g n p (Ks, Ws, t0, t1, t2, c) = (.inl (5, (tx_a g n p : Int)), (Ks, Ws, t0, t1, t2, c)) := by
              unfold sp_st
              rw [if_pos w0]
              exact if_neg l0
            have e8 : (Ks.length : Int) = 6 := by have := h4.2.2.2.2.1; omega
            rw [e9]
            show tellR cy gr ru le (lf_p (F_X5_kindStatement g (n : Int) (tx_a g n p : Int) (tx_e g n p : Int) (Ks.length : Int) A6 A7 A8 (Ws.length : Int) A5 (0 : Int) (-1 : Int)) _) _
            rw [e8, cl_kind5, lf_pa, lf_p_e, lf_p_e, lf_p_e, lf_p_e, lf_p_e, lf_p_e, lf_p_e, lf_p_e]
            exact key (.inl (5, (tx_a g n p : Int))) (Ks, Ws, t0, t1, t2, c) _ _ c _ _ _ _ _ _ _ _ _ _ (sv_l (by decide)) (fun q e => by cases e)
        · rw [if_neg w0]
          by_cases w1 : wl g n ws_0 p = 1
          · rw [if_pos w1]
            by_cases l0 : Ws.length < 12
            · have e9 : sp_st g n p (Ks, Ws, t0, t1, t2, c) = ((sp_c3 g n Ks Ws p).2, (Ks, Ws ++ [wd g n (tx_e g n p)], t0, t1, t2, c)) := by
                unfold sp_st
                rw [if_neg w0, if_pos w1]
                exact if_pos l0
              rw [e9]
              show tellR cy gr ru le (lf_p (F_X5_comesStatement g (n : Int) (tx_a g n p : Int) (tx_e g n p : Int) (Ks.length : Int) (Ws.length : Int) A9 A10 A2 A5 (0 : Int) (-1 : Int)) _) _
              rw [cl_comes hn h1 h4 l0, lf_pa, lf_p_e, lf_p_e, lf_p_e, lf_p_e, lf_p_e, lf_p_e, lf_p_e, lf_p_e]
              refine key (sp_c3 g n Ks Ws p).2 (Ks, Ws ++ [wd g n (tx_e g n p)], t0, t1, t2, c) _ _ c _ _ _ _ _ _ _ _ _ _ (sp_c3_v Ks Ws h1) (fun q e => ?_)
              obtain ⟨y1, y2, p1, y3⟩ := sp_c3_gt e
              refine ⟨by omega, rfl, ?_, rfl, ?_, h5, h6, by omega⟩
              · show (Ws.length : Int) + 1 = ((Ws ++ [wd g n (tx_e g n p)]).length : Int)
                rw [List.length_append]
                show (Ws.length : Int) + 1 = ((Ws.length + 1 : Nat) : Int)
                omega
              · show nms (nN A5 (6 + Ws.length) (wd g n (tx_e g n p)) (sp_k0 g n Ks Ws p)) Ks (Ws ++ [wd g n (tx_e g n p)])
                rw [y3]
                exact nms_w1 (isNm_W y2).2 h4 l0
            · have e9 : sp_st g n p (Ks, Ws, t0, t1, t2, c) = (.inl (5, (tx_a g n p : Int)), (Ks, Ws, t0, t1, t2, c)) := by
                unfold sp_st
                rw [if_neg w0, if_pos w1]
                exact if_neg l0
              have e8 : (Ws.length : Int) = 12 := by have := h4.2.2.2.2.2; omega
              rw [e9]
              show tellR cy gr ru le (lf_p (F_X5_comesStatement g (n : Int) (tx_a g n p : Int) (tx_e g n p : Int) (Ks.length : Int) (Ws.length : Int) A9 A10 A2 A5 (0 : Int) (-1 : Int)) _) _
              rw [e8, cl_comes5, lf_pa, lf_p_e, lf_p_e, lf_p_e, lf_p_e, lf_p_e, lf_p_e, lf_p_e, lf_p_e]
              exact key (.inl (5, (tx_a g n p : Int))) (Ks, Ws, t0, t1, t2, c) _ _ c _ _ _ _ _ _ _ _ _ _ (sv_l (by decide)) (fun q e => by cases e)
          · rw [if_neg w1]
            by_cases w2 : wl g n ws_0 p = 2
            · rw [if_pos w2]
              cases hb : t0 with
              | true =>
                rw [hb] at h5
                have e9 : sp_st g n p (Ks, Ws, true, t1, t2, c) = (.inl (5, (tx_a g n p : Int)), (Ks, Ws, true, t1, t2, c)) := by
                  unfold sp_st
                  rw [if_neg w0, if_neg w1, if_pos w2]
                  exact if_pos rfl
                rw [e9]
                show tellR cy gr ru le (lf_p (F_X5_codeStatement g (n : Int) (tx_a g n p : Int) (tx_e g n p : Int) al c.2 c.1 A3 (0 : Int) (-1 : Int) (0 : Int) (7 : Int)) _) _
                rw [cl_code5 (h5.1.mp rfl), lf_p9, lf_p_e, lf_p_e, lf_p_e, lf_p_e, lf_p_e, lf_p_e, lf_p_e]
                exact key (.inl (5, (tx_a g n p : Int))) (Ks, Ws, true, t1, t2, c) _ _ c _ _ _ _ _ _ _ _ _ _ (sv_l (by decide)) (fun q e => by cases e)
              | false =>
                rw [hb] at h5
                have e9 : sp_st g n p (Ks, Ws, false, t1, t2, c) = ((cod g n 0 7 (tx_e g n p) c).1, (Ks, Ws, true, t1, t2, (cod g n 0 7 (tx_e g n p) c).2)) := by
                  unfold sp_st
                  rw [if_neg w0, if_neg w1, if_pos w2]
                  exact if_neg (fun r => Bool.noConfusion r)
                rw [e9]
                have hs : A3 (Int.toNat ((0 : Int) + 1)) ≤ A3 (Int.toNat (0 : Int)) := Classical.byContradiction (fun r => Bool.noConfusion (h5.1.mpr r))
                obtain ⟨d, e1, e2⟩ := cl_code1 (g := g) (c := c) (al0 := al) (al := 7) (i := 0) hn h1 hs
                show tellR cy gr ru le (lf_p (F_X5_codeStatement g (n : Int) (tx_a g n p : Int) (tx_e g n p : Int) al c.2 c.1 A3 (0 : Int) (-1 : Int) (0 : Int) (7 : Int)) _) _
                rw [e1, lf_p9, lf_p_e, lf_p_e, lf_p_e, lf_p_e, lf_p_e, lf_p_e, lf_p_e]
                refine key (cod g n 0 7 (tx_e g n p) c).1 (Ks, Ws, true, t1, t2, (cod g n 0 7 (tx_e g n p) c).2) _ _ d _ _ _ _ _ _ _ _ _ _ (cod_ok _ c hle).1 (fun q e => ?_)
                have y1 := (cod_ok _ c hle).2 q e
                have y2 := cod_G hn _ c hle h6 (by omega) q e
                have y3 := e2 q e
                refine ⟨by omega, rfl, rfl, y3, h4, tf_0 h5 ?_, ?_, ?_⟩
                · rw [y3]; exact y2.1
                · rw [y3]; omega
                · rw [y3]; omega
            · rw [if_neg w2]
              by_cases w3 : wl g n ws_0 p = 3
              · rw [if_pos w3]
                cases hb : t1 with
                | true =>
                  rw [hb] at h5
                  have e9 : sp_st g n p (Ks, Ws, t0, true, t2, c) = (.inl (5, (tx_a g n p : Int)), (Ks, Ws, t0, true, t2, c)) := by
                    unfold sp_st
                    rw [if_neg w0, if_neg w1, if_neg w2, if_pos w3]
                    exact if_pos rfl
                  rw [e9]
                  show tellR cy gr ru le (lf_p (F_X5_codeStatement g (n : Int) (tx_a g n p : Int) (tx_e g n p : Int) al c.2 c.1 A3 (0 : Int) (-1 : Int) (2 : Int) (507 : Int)) _) _
                  rw [cl_code5 (h5.2.1.mp rfl), lf_p9, lf_p_e, lf_p_e, lf_p_e, lf_p_e, lf_p_e, lf_p_e, lf_p_e]
                  exact key (.inl (5, (tx_a g n p : Int))) (Ks, Ws, t0, true, t2, c) _ _ c _ _ _ _ _ _ _ _ _ _ (sv_l (by decide)) (fun q e => by cases e)
                | false =>
                  rw [hb] at h5
                  have e9 : sp_st g n p (Ks, Ws, t0, false, t2, c) = ((cod g n 2 507 (tx_e g n p) c).1, (Ks, Ws, t0, true, t2, (cod g n 2 507 (tx_e g n p) c).2)) := by
                    unfold sp_st
                    rw [if_neg w0, if_neg w1, if_neg w2, if_pos w3]
                    exact if_neg (fun r => Bool.noConfusion r)
                  rw [e9]
                  have hs : A3 (Int.toNat ((2 : Int) + 1)) ≤ A3 (Int.toNat (2 : Int)) := Classical.byContradiction (fun r => Bool.noConfusion (h5.2.1.mpr r))
                  obtain ⟨d, e1, e2⟩ := cl_code1 (g := g) (c := c) (al0 := al) (al := 507) (i := 2) hn h1 hs
                  show tellR cy gr ru le (lf_p (F_X5_codeStatement g (n : Int) (tx_a g n p : Int) (tx_e g n p : Int) al c.2 c.1 A3 (0 : Int) (-1 : Int) (2 : Int) (507 : Int)) _) _
                  rw [e1, lf_p9, lf_p_e, lf_p_e, lf_p_e, lf_p_e, lf_p_e, lf_p_e, lf_p_e]
                  refine key (cod g n 2 507 (tx_e g n p) c).1 (Ks, Ws, t0, true, t2, (cod g n 2 507 (tx_e g n p) c).2) _ _ d _ _ _ _ _ _ _ _ _ _ (cod_ok _ c hle).1 (fun q e => ?_)
                  have y1 := (cod_ok _ c hle).2 q e
                  have y2 := cod_G hn _ c hle h6 (by omega) q e
                  have y3 := e2 q e
                  refine ⟨by omega, rfl, rfl, y3, h4, tf_1 h5 ?_, ?_, ?_⟩
                  · rw [y3]; exact y2.1
                  · rw [y3]; omega
                  · rw [y3]; omega
              · rw [if_neg w3]
                by_cases w4 : wl g n ws_0 p = 4
                · rw [if_pos w4]
                  cases hb : t2 with
                  | true =>
                    rw [hb] at h5
                    have e9 : sp_st g n p (Ks, Ws, t0, t1, true, c) = (.inl (5, (tx_a g n p : Int)), (Ks, Ws, t0, t1, true, c)) := by
                      unfold sp_st
                      rw [if_neg w0, if_neg w1, if_neg w2, if_neg w3, if_pos w4]
                      exact if_pos rfl
                    rw [e9]
                    show tellR cy gr ru le (lf_p (F_X5_codeStatement g (n : Int) (tx_a g n p : Int) (tx_e g n p : Int) al c.2 c.1 A3 (0 : Int) (-1 : Int) (4 : Int) (123 : Int)) _) _
                    rw [cl_code5 (h5.2.2.mp rfl), lf_p9, lf_p_e, lf_p_e, lf_p_e, lf_p_e, lf_p_e, lf_p_e, lf_p_e]
                    exact key (.inl (5, (tx_a g n p : Int))) (Ks, Ws, t0, t1, true, c) _ _ c _ _ _ _ _ _ _ _ _ _ (sv_l (by decide)) (fun q e => by cases e)
                  | false =>
                    rw [hb] at h5
                    have e9 : sp_st g n p (Ks, Ws, t0, t1, false, c) = ((cod g n 4 123 (tx_e g n p) c).1, (Ks, Ws, t0, t1, true, (cod g n 4 123 (tx_e g n p) c).2)) := by
                      unfold sp_st
                      rw [if_neg w0, if_neg w1, if_neg w2, if_neg w3, if_pos w4]
                      exact if_neg (fun r => Bool.noConfusion r)
                    rw [e9]
                    have hs : A3 (Int.toNat ((4 : Int) + 1)) ≤ A3 (Int.toNat (4 : Int)) := Classical.byContradiction (fun r => Bool.noConfusion (h5.2.2.mpr r))
                    obtain ⟨d, e1, e2⟩ := cl_code1 (g := g) (c := c) (al0 := al) (al := 123) (i := 4) hn h1 hs
                    show tellR cy gr ru le (lf_p (F_X5_codeStatement g (n : Int) (tx_a g n p : Int) (tx_e g n p : Int) al c.2 c.1 A3 (0 : Int) (-1 : Int) (4 : Int) (123 : Int)) _) _
                    rw [e1, lf_p9, lf_p_e, lf_p_e, lf_p_e, lf_p_e, lf_p_e, lf_p_e, lf_p_e]
                    refine key (cod g n 4 123 (tx_e g n p) c).1 (Ks, Ws, t0, t1, true, (cod g n 4 123 (tx_e g n p) c).2) _ _ d _ _ _ _ _ _ _ _ _ _ (cod_ok _ c hle).1 (fun q e => ?_)
                    have y1 := (cod_ok _ c hle).2 q e
                    have y2 := cod_G hn _ c hle h6 (by omega) q e
                    have y3 := e2 q e
                    refine ⟨by omega, rfl, rfl, y3, h4, tf_2 h5 ?_, ?_, ?_⟩
                    · rw [y3]; exact y2.1
                    · rw [y3]; omega
                    · rw [y3]; omega
                · rw [if_neg w4]
                  by_cases w5 : wl g n ws_0 p = 5
                  · rw [if_pos w5]
                    have e9 : sp_st g n p (Ks, Ws, t0, t1, t2, c) = ((sp_nb g n ws_1 0 100 p).2, (Ks, Ws, t0, t1, t2, c)) := by
                      unfold sp_st
                      rw [if_neg w0, if_neg w1, if_neg w2, if_neg w3, if_neg w4]
                      exact if_pos w5
                    rw [e9, F_X5_numberBehind_a1_0_a2_100_s1_1 hn h1, lf_p_e, lf_pc]
                    repeat rw [lf_p2]
                    refine key (sp_nb g n ws_1 0 100 p).2 (Ks, Ws, t0, t1, t2, c) _ _ c _ _ _ _ _ _ _ _ _ _ (sp_nb_v ws_1 0 100 h1) (fun q e => ?_)
                    have y1 := sp_nb_gt e
                    exact ⟨by omega, rfl, rfl, rfl, h4, h5, h6, by omega⟩
                  · rw [if_neg w5]
                    have e9 : sp_st g n p (Ks, Ws, t0, t1, t2, c) = (.inl (1, (tx_a g n p : Int)), (Ks, Ws, t0, t1, t2, c)) := by
                      unfold sp_st
                      rw [if_neg w0, if_neg w1, if_neg w2, if_neg w3, if_neg w4]
                      exact if_neg w5
                    rw [e9, cl_fail0, lf_p_e]
                    exact key (.inl (1, (tx_a g n p : Int))) (Ks, Ws, t0, t1, t2, c) _ _ c _ _ _ _ _ _ _ _ _ _ (sv_l (by decide)) (fun q e => by cases e)
