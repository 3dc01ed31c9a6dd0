theorem eoD_le : ∀ (T : List Int) (o : Int), (eoD T o).2 ≤ o
  | [], _ => Int.le_refl _
  | x :: T, o => by
    show (if x < 60 then (x :: T, o) else eoD T (o - 1)).2 ≤ o
    by_cases q : x < 60
    · rw [if_pos q]
      exact Int.le_refl _
    · rw [if_neg q]
      have := eoD_le T (o - 1)
      omega
section QC
variable {g : Nat → Int} {n : Nat} {al : Int} {B : List Int} {o0 : Int} {d : Nat}
theorem qG_m {xe : Int} {S : ST} {p p1 : Nat} {R : Int × Int × Int × Int × Int × Int × Int × (Nat → Int) × (Nat → Int)} (h : p ≤ p1) (hq : qG g n al B o0 d xe S p1 R) : qG g n al B o0 d xe S p R := by
  rcases hq with ⟨a, P2, o2, p2, b, c, d⟩ | r | ⟨a, P2, o2, p2, b, c, d⟩
  · exact Or.inl ⟨a, P2, o2, p2, b, by omega, d⟩
  · exact Or.inr (Or.inl r)
  · exact Or.inr (Or.inr ⟨a, P2, o2, p2, b, by omega, d⟩)
theorem q_goes (hn : n ≤ 1600) (hB : ¬ (1 ≤ B.headD 0 ∧ B.headD 0 ≤ 4)) {w : Nat → Int} {xe : Int} : ∀ (f : Nat) (P : List Int) (o : Int) (p : Nat) (xa c : Int) (cd : Nat → Int), qS g n B o0 d P o p xa xe (0 : Int) (-1 : Int) c ((P ++ B).length : Int) o w → h6 P → n - p < f → qG g n al B o0 d xe (RR g n al false (stT P) o p) p (F_X10_qGoesOn_0 (n : Int) (0 : Int) (-1 : Int) (B.length : Int) g w f xa c ((P ++ B).length : Int) o cd) := by
  intro f
  induction f with
  | zero => intro P o p xa c cd h hP hf; omega
  | succ f ih =>
    intro P o p xa c cd h hP hf
    have hlen := q_len hn h
    have h0 := h
    obtain ⟨h1, h2, h3, h4, h5, h6', h7, h8, h9, h10, h11, h12⟩ := h
    have hl1 : (P ++ B).length = P.length + B.length := List.length_append
    have sw : F_X10_qBracket ((P ++ B).length : Int) (B.length : Int) w = brT P := q_bracket h12 (by omega)
    show qG g n al B o0 d xe (RR g n al false (stT P) o p) p (F_X10_qGoesOn_0b (n : Int) (0 : Int) (-1 : Int) (B.length : Int) g w (F_X10_qGoesOn_0 (n : Int) (0 : Int) (-1 : Int) (B.length : Int) g w f) xa c ((P ++ B).length : Int) o cd)
    rw [gGo_b, ml_look hn h7, lf_p_e]
    by_cases q : lk g n p = 41
    · have q' : tx_k g n p = 3 ∧ g (tx_a g n p) = 41 := (lk_sgn (by omega)).mp q
      have hlt : p < tx_e g n p := tx_e_gt' (by have := q'.1; omega)
      have hle := tx_e_le (f := g) h7.1
      rw [if_pos q, lf_b_e, sw]
      have main : (brT P = 20 ∨ brT P = 23 ∨ brT P = 24) → ∃ (x : Int) (Q : List Int) (c2 : Int) (cd2 : Nat → Int), F_X10_qDropsToBracket c ((P ++ B).length : Int) (B.length : Int) cd w = (c2, (((x :: Q) ++ B).length : Int), cd2) ∧ 0 ≤ c2 ∧ c2 + (Q.length : Int) + 1 = c + (P.length : Int) ∧ (((x :: Q) ++ B).length : Int) - 1 = ((Q ++ B).length : Int) ∧ ∀ (c' : Int) (cd' : Nat → Int), 0 ≤ c' → c' + (Q.length : Int) ≤ c + (P.length : Int) → qG g n al B o0 d xe (RR g n al false (stT P) o p) p (lf_p (F_X10_qEndsPart (0 : Int) c' ((Q ++ B).length : Int) (o - 1) (B.length : Int) cd' w) (fun v527 t_v528 => (lf_p t_v528 (fun v528 t_v529 => (lf_p t_v529 (fun v529 f530 => (F_X10_qGoesOn_0 (n : Int) (0 : Int) (-1 : Int) (B.length : Int) g w f ((tx_a g n p : Int) + (1 : Int)) v527 v528 v529 f530))))))) := by
        intro hb3
        obtain ⟨c2, cd2, e1, e2⟩ := q_drops (c := c) (cd := cd) h12 (by omega)
        rcases ok_dr h1 hP with r | ⟨x, Q, a1, a2, a3, a4, a5, a6⟩
        · omega
        rw [a1] at e1 e2
        have e2' : c2 + ((Q.length + 1 : Nat) : Int) = c + (P.length : Int) := e2
        have hl2 : (Q ++ B).length = Q.length + B.length := List.length_append
        have hpQ : pwl w (Q ++ B) := by
          have := drT_p P h12
          rw [a1] at this
          exact this.2
        refine ⟨x, Q, c2, cd2, e1, by omega, by omega, ?_, ?_⟩
        · show (((Q ++ B).length + 1 : Nat) : Int) - 1 = _
          omega
        · intro c' cd' hc0 hc1
          have hlq : o = o0 + (((stT Q).length + 1 : Nat) : Int) := by
            rw [h2, a4]
            rfl
          obtain ⟨c3, cd3, e3, e4⟩ := q_ends (c := c') (cd := cd') (o := o - 1) (T := Q) hpQ (by omega) (by omega) (by omega)
          obtain ⟨u1, u2, u3, u4, u5, u6⟩ := ok_eo (o - 1) a5
          have u7 := eoD_le Q (o - 1)
          have hl3 : ((eoD Q (o - 1)).1 ++ B).length = (eoD Q (o - 1)).1.length + B.length := List.length_append
          have eS : RR g n al false (stT P) o p = RR g n al false (stT (eoD Q (o - 1)).1) (eoD Q (o - 1)).2 (tx_e g n p) := by
            rw [RR_cl h7.1 q' (by rw [stT_br]; exact hb3), a4, show drT (x :: stT Q) = x :: stT Q from if_pos a2, show (x :: stT Q).tail = stT Q from rfl, u1, u2]
          rw [e3, lf_p_e, lf_p_e, lf_p_e, eS]
          refine qG_m (Nat.le_of_lt hlt) (ih (eoD Q (o - 1)).1 (eoD Q (o - 1)).2 (tx_e g n p) _ c3 cd3 ⟨u3, by omega, h3, by omega, by omega, by omega, mp_sgn h7 q'.1, rfl, rfl, rfl, rfl, eoD_p Q (o - 1) hpQ⟩ u4 (by omega))
      by_cases b1 : brT P = 20
      · obtain ⟨x, Q, c2, cd2, e1, e2, e3, e4, e5⟩ := main (Or.inl b1)
        rw [if_pos b1, e1, lf_p_e, lf_p_e, e4, lo_sub (by omega) (by omega) (by omega) (by omega) (by omega) (by omega)]
        exact e5 c2 cd2 e2 (by omega)
      · rw [if_neg b1, lf_b_e]
        by_cases b2 : brT P = 23
        · obtain ⟨x, Q, c2, cd2, e1, e2, e3, e4, e5⟩ := main (Or.inr (Or.inl b2))
          rw [if_pos b2, e1, lf_p_e, lf_p_e, e4, lo_sub (by omega) (by omega) (by omega) (by omega) (by omega) (by omega)]
          unfold F_X10_qCode
          rw [lf_p_e]
          exact e5 (c2 + 1) _ (by omega) (by omega)
        · rw [if_neg b2, lf_b_e]
          by_cases b3 : brT P = 24
          · obtain ⟨x, Q, c2, cd2, e1, e2, e3, e4, e5⟩ := main (Or.inr (Or.inr b3))
            rw [if_pos b3, e1, lf_p_e, lf_p_e, e4, lo_sub (by omega) (by omega) (by omega) (by omega) (by omega) (by omega)]
            unfold F_X10_qCode
            rw [lf_p_e]
            exact e5 (c2 + 1) _ (by omega) (by omega)
          · rw [if_neg b3]
            exact q_go hn hB h0 hP (fun r => by have := r.2; omega)
    · rw [if_neg q]
      exact q_go hn hB h0 hP (fun r => q ((lk_sgn (by omega)).mpr r.1))
end QC
/-! words of a sum -/
theorem wf_get {g : Nat → Int} {a e : Nat} : ∀ (ws : List (List Int)) (i j : Nat), wfind g a e ws i = (j : Int) → ∃ k, j = i + k ∧ k < ws.length ∧ wq g e (ws.getD k []) a = true
  | [], i, j, h => by
    have h' : (-1 : Int) = (j : Int) := h
    omega
  | w :: ws, i, j, h => by
    have h' : (if wq g e w a = true then (i : Int) else wfind g a e ws (i + 1)) = (j : Int) := h
    by_cases q : wq g e w a = true
    · rw [if_pos q] at h'
      exact ⟨0, by omega, Nat.zero_lt_succ _, q⟩
    · rw [if_neg q] at h'
      obtain ⟨k, k1, k2, k3⟩ := wf_get ws (i + 1) j h'
      exact ⟨k + 1, by omega, Nat.succ_lt_succ k2, k3⟩
theorem wl_get {g : Nat → Int} {n p : Nat} {ws : List (List Int)} {j : Nat} (h : wl g n ws p = (j : Int)) : wh g n (ws.getD j []) p = true := by
  unfold wl at h
  by_cases q : tx_k g n p = 1
  · rw [if_pos q] at h
    obtain ⟨k, k1, k2, k3⟩ := wf_get ws 0 j h
    have e : j = k := by omega
    subst e
    unfold wh
    rw [decide_eq_true q, k3]
    rfl
  · rw [if_neg q] at h
    omega
theorem wq_u {g : Nat → Int} {e : Nat} : ∀ (v w : List Int) (nx : Nat), wq g e v nx = true → wq g e w nx = true → v = w
  | [], [], _, _, _ => rfl
  | [], y :: w, nx, h1, h2 => by
    have l1 := wq_len [] nx h1
    have l2 := wq_len (y :: w) nx h2
    have l3 : (y :: w).length = w.length + 1 := rfl
    have l4 : ([] : List Int).length = 0 := rfl
    omega
  | x :: v, [], nx, h1, h2 => by
    have l1 := wq_len (x :: v) nx h1
    have l2 := wq_len [] nx h2
    have l3 : (x :: v).length = v.length + 1 := rfl
    have l4 : ([] : List Int).length = 0 := rfl
    omega
  | x :: v, y :: w, nx, h1, h2 => by
    unfold wq at h1 h2
    rw [Bool.and_eq_true] at h1 h2
    have a1 := h1.1
    have a2 := h2.1
    rw [Bool.and_eq_true] at a1 a2
    have b1 : g nx = x := of_decide_eq_true a1.2
    have b2 : g nx = y := of_decide_eq_true a2.2
    rw [← b1, ← b2, wq_u v w (nx + 1) h1.2 h2.2]
theorem wl_1 {g : Nat → Int} {n p : Nat} (W : List Int) : wl g n [W] p = if wh g n W p = true then 0 else -1 := by
  unfold wl wh wfind wfind
  by_cases q : tx_k g n p = 1
  · rw [if_pos q, decide_eq_true q, Bool.true_and]
    rfl
  · rw [if_neg q, decide_eq_false q]
    rfl
theorem wl_19 {g : Nat → Int} {n p : Nat} (h : ¬ wl g n ws_19 p = -1) : wl g n ws_20 p = -1 := by
  by_cases q : wl g n ws_20 p = -1
  · exact q
  · exfalso
    have h1 : wh g n W_kind p = true := by
      cases c : wh g n W_kind p with
      | true => rfl
      | false =>
        exact absurd ((wl_1 W_kind).trans (if_neg (fun r => Bool.noConfusion (c.symm.trans r)))) h
    have hb := wl_20 q
    obtain ⟨j, hj⟩ : ∃ j : Nat, wl g n ws_20 p = (j : Int) := ⟨(wl g n ws_20 p).toNat, by omega⟩
    have h2 := wl_get hj
    unfold wh at h1 h2
    rw [Bool.and_eq_true] at h1 h2
    have e := wq_u _ _ _ h1.2 h2.2
    have hlt : j < 12 := by omega
    have hd : (List.range 12).all (fun j => decide (¬ W_kind = ws_20.getD j [])) = true := by decide +kernel
    exact of_decide_eq_true (List.all_eq_true.mp hd j (List.mem_range.mpr hlt)) e
theorem q_aw {g : Nat → Int} {n p : Nat} {xa xe : Int} {v1 v2 v3 v4 v5 v6 v7 v8 v9 v10 v11 v12 v13 : Nat → Int} {r : Int} (hn : n ≤ 1600) (hq : qw v1 v2 v3 v4 v5 v6 v7 v8 v9 v10 v11 v12 v13) (h : mp g n p xa xe) (hr : wl g n ws_q p = r) (h0 : ¬ r = -1) : rm4 g n (.inr (tx_e g n p)) (F_X10_qAsksWord xa (n : Int) xe (0 : Int) (-1 : Int) g v1 v2 v3 v4 v5 v6 v7 v8 v9 v10 v11 v12 v13 r) := by
  have hb : 0 ≤ r ∧ r < 13 := by
    have hk := wl_k (fun e => h0 (hr.symm.trans e))
    unfold wl at hr
    rw [if_pos hk] at hr
    rcases wfind_le (g := g) (a := tx_a g n p) (e := tx_e g n p) ws_q 0 with r' | r'
    · omega
    · have : ((ws_q.length : Nat) : Int) = 13 := rfl
      exact ⟨by omega, by omega⟩
  obtain ⟨j, hj⟩ : ∃ j : Nat, r = (j : Int) := ⟨r.toNat, by omega⟩
  have hw : wh g n (ws_q.getD j []) p = true := wl_get (hr.trans hj)
  unfold F_X10_qAsksWord
  by_cases c0 : r = 0
  · have e : j = 0 := by omega
    subst e
    rw [if_pos c0]
    have e2 : sb (.inr p : ST) (sp_w g n [W_second]) = .inr (tx_e g n p) := (sp_w1 W_second).trans (if_pos hw)
    have := F_X10_asks_r6_s (W := W_second) (s := .inr p) (xb := 0) (xp := -1) hn rfl hq.1 h.1 ⟨rfl, rfl, h⟩
    rw [e2] at this
    exact this
  · rw [if_neg c0]
    by_cases c1 : r = 1
    · have e : j = 1 := by omega
      subst e
      rw [if_pos c1]
      have e2 : sb (.inr p : ST) (sp_w g n [W_day]) = .inr (tx_e g n p) := (sp_w1 W_day).trans (if_pos hw)
      have := F_X10_asks_s (W := W_day) (s := .inr p) (xb := 0) (xp := -1) hn rfl hq.2.1 h.1 ⟨rfl, rfl, h⟩
      rw [e2] at this
      exact this
    · rw [if_neg c1]
      by_cases c2 : r = 2
      · have e : j = 2 := by omega
        subst e
        rw [if_pos c2]
        have e2 : sb (.inr p : ST) (sp_w g n [W_phase]) = .inr (tx_e g n p) := (sp_w1 W_phase).trans (if_pos hw)
        have := F_X10_asks_r5_s (W := W_phase) (s := .inr p) (xb := 0) (xp := -1) hn rfl hq.2.2.1 h.1 ⟨rfl, rfl, h⟩
        rw [e2] at this
        exact this
      · rw [if_neg c2]
        by_cases c3 : r = 3
        · have e : j = 3 := by omega
          subst e
          rw [if_pos c3]
          have e2 : sb (.inr p : ST) (sp_w g n [W_waited]) = .inr (tx_e g n p) := (sp_w1 W_waited).trans (if_pos hw)
          have := F_X10_asks_r6_s (W := W_waited) (s := .inr p) (xb := 0) (xp := -1) hn rfl hq.2.2.2.1 h.1 ⟨rfl, rfl, h⟩
          rw [e2] at this
          exact this
        · rw [if_neg c3]
          by_cases c4 : r = 4
          · have e : j = 4 := by omega
            subst e
            rw [if_pos c4]
            have e2 : sb (.inr p : ST) (sp_w g n [W_calm]) = .inr (tx_e g n p) := (sp_w1 W_calm).trans (if_pos hw)
            have := F_X10_asks_r4_s (W := W_calm) (s := .inr p) (xb := 0) (xp := -1) hn rfl hq.2.2.2.2.1 h.1 ⟨rfl, rfl, h⟩
            rw [e2] at this
            exact this
          · rw [if_neg c4]
            by_cases c5 : r = 5
            · have e : j = 5 := by omega
              subst e
              rw [if_pos c5]
              have e2 : sb (.inr p : ST) (sp_w g n [W_pace]) = .inr (tx_e g n p) := (sp_w1 W_pace).trans (if_pos hw)
              have := F_X10_asks_r4_s (W := W_pace) (s := .inr p) (xb := 0) (xp := -1) hn rfl hq.2.2.2.2.2.1 h.1 ⟨rfl, rfl, h⟩
              rw [e2] at this
              exact this
            · rw [if_neg c5]
              by_cases c6 : r = 6
              · have e : j = 6 := by omega
                subst e
                rw [if_pos c6]
                have e2 : sb (.inr p : ST) (sp_w g n [W_trusts]) = .inr (tx_e g n p) := (sp_w1 W_trusts).trans (if_pos hw)
                have := F_X10_asks_r6_s (W := W_trusts) (s := .inr p) (xb := 0) (xp := -1) hn rfl hq.2.2.2.2.2.2.1 h.1 ⟨rfl, rfl, h⟩
                rw [e2] at this
                exact this
              · rw [if_neg c6]
                by_cases c7 : r = 7
                · have e : j = 7 := by omega
                  subst e
                  rw [if_pos c7]
                  have e2 : sb (.inr p : ST) (sp_w g n [W_gap]) = .inr (tx_e g n p) := (sp_w1 W_gap).trans (if_pos hw)
                  have := F_X10_asks_s (W := W_gap) (s := .inr p) (xb := 0) (xp := -1) hn rfl hq.2.2.2.2.2.2.2.1 h.1 ⟨rfl, rfl, h⟩
                  rw [e2] at this
                  exact this
                · rw [if_neg c7]
                  by_cases c8 : r = 8
                  · have e : j = 8 := by omega
                    subst e
                    rw [if_pos c8]
                    have e2 : sb (.inr p : ST) (sp_w g n [W_reds]) = .inr (tx_e g n p) := (sp_w1 W_reds).trans (if_pos hw)
                    have := F_X10_asks_r4_s (W := W_reds) (s := .inr p) (xb := 0) (xp := -1) hn rfl hq.2.2.2.2.2.2.2.2.1 h.1 ⟨rfl, rfl, h⟩
                    rw [e2] at this
                    exact this
                  · rw [if_neg c8]
                    by_cases c9 : r = 9
                    · have e : j = 9 := by omega
                      subst e
                      rw [if_pos c9]
                      have e2 : sb (.inr p : ST) (sp_w g n [W_number]) = .inr (tx_e g n p) := (sp_w1 W_number).trans (if_pos hw)
                      have := F_X10_asks_r6_s (W := W_number) (s := .inr p) (xb := 0) (xp := -1) hn rfl hq.2.2.2.2.2.2.2.2.2.1 h.1 ⟨rfl, rfl, h⟩
                      rw [e2] at this
                      exact this
                    · rw [if_neg c9]
                      by_cases c10 : r = 10
                      · have e : j = 10 := by omega
                        subst e
                        rw [if_pos c10]
                        have e2 : sb (.inr p : ST) (sp_w g n [W_went]) = .inr (tx_e g n p) := (sp_w1 W_went).trans (if_pos hw)
                        have := F_X10_asks_r4_s (W := W_went) (s := .inr p) (xb := 0) (xp := -1) hn rfl hq.2.2.2.2.2.2.2.2.2.2.1 h.1 ⟨rfl, rfl, h⟩
                        rw [e2] at this
                        exact this
                      · rw [if_neg c10]
                        by_cases c11 : r = 11
                        · have e : j = 11 := by omega
                          subst e
                          rw [if_pos c11]
                          have e2 : sb (.inr p : ST) (sp_w g n [W_harm]) = .inr (tx_e g n p) := (sp_w1 W_harm).trans (if_pos hw)
                          have := F_X10_asks_r4_s (W := W_harm) (s := .inr p) (xb := 0) (xp := -1) hn rfl hq.2.2.2.2.2.2.2.2.2.2.2.1 h.1 ⟨rfl, rfl, h⟩
                          rw [e2] at this
                          exact this
                        · rw [if_neg c11]
                          have e : j = 12 := by omega
                          subst e
                          have e2 : sb (.inr p : ST) (sp_w g n [W_kind]) = .inr (tx_e g n p) := (sp_w1 W_kind).trans (if_pos hw)
                          have := F_X10_asks_r4_s (W := W_kind) (s := .inr p) (xb := 0) (xp := -1) hn rfl hq.2.2.2.2.2.2.2.2.2.2.2.2 h.1 ⟨rfl, rfl, h⟩
                          rw [e2] at this
                          exact this
theorem q_aw0 {g : Nat → Int} {xa n xe xb xp : Int} {v1 v2 v3 v4 v5 v6 v7 v8 v9 v10 v11 v12 v13 : Nat → Int} (h : ¬ xb = 0) : F_X10_qAsksWord xa n xe xb xp g v1 v2 v3 v4 v5 v6 v7 v8 v9 v10 v11 v12 v13 (12 : Int) = (xa, xe, xb, xp) := by
  unfold F_X10_qAsksWord
  rw [if_neg (show ¬ (12 : Int) = 0 from by decide), if_neg (show ¬ (12 : Int) = 1 from by decide), if_neg (show ¬ (12 : Int) = 2 from by decide), if_neg (show ¬ (12 : Int) = 3 from by decide), if_neg (show ¬ (12 : Int) = 4 from by decide), if_neg (show ¬ (12 : Int) = 5 from by decide), if_neg (show ¬ (12 : Int) = 6 from by decide), if_neg (show ¬ (12 : Int) = 7 from by decide), if_neg (show ¬ (12 : Int) = 8 from by decide), if_neg (show ¬ (12 : Int) = 9 from by decide), if_neg (show ¬ (12 : Int) = 10 from by decide), if_neg (show ¬ (12 : Int) = 11 from by decide)]
  unfold F_X10_asks_r4
  rw [if_neg h, lf_p_e, lf_p_e, lf_p_e]
theorem F_X10_asks_t {g w : Nat → Int} {W : List Int} {n p : Nat} {xa xe : Int} (hn : n ≤ 1600) (hW : W.length = 3) (hw : wa w W) (h : mp g n p xa xe) (c : wh g n W p = true) : F_X10_asks xa (n : Int) xe (0 : Int) (-1 : Int) g w = ((tx_e g n p : Int), (tx_e g n p : Int), (0 : Int), (-1 : Int)) := by
  unfold F_X10_asks
  rw [if_pos rfl, F_X10_takes_1 hn hW hw h, if_pos c, lf_p_e, lf_p_e, if_neg (show ¬ (1 : Int) = 0 from by decide)]
