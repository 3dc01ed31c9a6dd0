/-! the class's walk is the one described -/
section WR
variable {nW : Nat} {o : Option (List Int)} {d : Int} {cA clm pcw tw lf gp : Nat → Int} {ab : Nat → Bool} {clmK pcK kO code spans tr gaps left : Nat → Int} {ar : Int}
/-- what stands of a street for its walk -/
def wkH (nW : Nat) (o : Option (List Int)) (d : Int) (cA clm pcw tw lf gp clmK pcK kO code spans tr gaps left : Nat → Int) (ar : Int) : Prop := wkB nW cA clm pcw tw ∧ nW ≤ 12 ∧ (0 ≤ d ∧ d ≤ 999) ∧ (∀ s, s < 300 → (0 ≤ gp s ∧ gp s ≤ 20) ∧ gaps s = gp s ∧ left s = lf s) ∧ (∀ w, w < nW → clmK (kO w).toNat = clm w ∧ pcK (kO w).toNat = pcw w ∧ tr (kO w).toNat = tw w) ∧ cdX code spans 2 o ∧ cdG true 507 o ∧ (ar = 0 → no48 o)
theorem reds_n {s w : Nat} {z : wzT} (h : spI nW cA ab (s + 1) z) (hn : nW ≤ 12) (hw : w < nW) (hh : here cA ab s w z = true) : ∃ r : Nat, z.2.2 = (r : Int) ∧ r ≤ 11 ∧ z.2.1 w = 0 := by
  unfold here at hh
  rw [Bool.and_eq_true, Bool.and_eq_true] at hh
  have h3 := of_decide_eq_true hh.2
  have h30 := ((h.1 w).1).mp h3
  have h1 := cnf_le (fun w => decide (2 ≤ z.2.1 w)) nW
  have h2 := cnf_lt (f := fun w => decide (2 ≤ z.2.1 w)) (w := w) nW hw (decide_eq_false (by omega))
  have h4 := h.2
  exact ⟨z.2.2.toNat, by omega, by omega, h30⟩
theorem wk_step {K45 : Int → (Nat → Int) → Int → Int → Int → Int → Int → Int → (Nat → Int) → (Nat → Int) → (Nat → Int) → Int × Int × Int × (Nat → Int) × (Nat → Int) × (Nat → Int) × (Nat → Int)} {K87 : Int → Int → Int → Int → Int → Int → Int → Int → (Nat → Int) → (Nat → Int) → (Nat → Int) → (Nat → Int) → Int × Int × Int × (Nat → Int) × (Nat → Int) × (Nat → Int) × (Nat → Int)} {s w : Nat} {z : wzT} {l2 l3 l5 c14 c15 c16 : Int} {a1 a7 a10 a16 : Nat → Int} (hH : wkH nW o d cA clm pcw tw lf gp clmK pcK kO code spans tr gaps left ar) (hs : s < 300) (hw : w < nW) (hI : spI nW cA ab (s + 1) z) (hR : crH nW cA ab s z l2 c14 c15 c16 a1) (hk : kOK nW (gvS o d cA clm pcw tw gp) a7) : ∃ l2' c14' c15' c16' a1' a7' a10' a16', F_X7_walk_87b clmK pcK (nW : Int) kO cA code spans d tr ar gaps left (s : Int) K45 K87 l2 l3 l5 z.2.2 (w : Int) c14 c15 c16 a1 a7 a10 a16 = K87 l2' l3 l5 (wstep cA pcw ab lf gp (gvS o d cA clm pcw tw gp) s w z).2.2 ((w : Int) + (1 : Int)) c14' c15' c16' a1' a7' a10' a16' ∧ crH nW cA ab s (wstep cA pcw ab lf gp (gvS o d cA clm pcw tw gp) s w z) l2' c14' c15' c16' a1' ∧ kOK nW (gvS o d cA clm pcw tw gp) a7' := by
  obtain ⟨hB, hn, hd, hg, hwk, hX, hG, har⟩ := hH
  obtain ⟨g1, g2, g3⟩ := hg s hs
  obtain ⟨w1, w2, w3⟩ := hwk w hw
  have hat := bt_at hR.1.1 (w := w) (by omega)
  have hbit := hR.1.2 w (by omega)
  rw [decide_eq_true hw, Bool.true_and] at hbit
  unfold F_X7_walk_87b
  rw [if_neg (by omega)]
  unfold wstep
  cases hh : here cA ab s w z with
  | false =>
    rw [if_pos (hat.mpr (hbit.trans hh)), if_neg (fun r => Bool.noConfusion r)]
    unfold F_X7_walk_230
    exact ⟨l2, c14, c15, c16, a1, a7, a10, a16, rfl, hR, hk⟩
  | true =>
    have hne : ¬ lf_o lf_iand l2 (lf_o lf_ishl (1 : Int) (w : Int)) = 0 := fun r => by
      have := (hat.mp r).symm.trans (hbit.trans hh)
      exact Bool.noConfusion this
    obtain ⟨r, hr, hr11, h0⟩ := reds_n hI hn hw hh
    rw [if_neg hne, if_pos rfl, Int.toNat_natCast, Int.toNat_natCast, g3, w2]
    by_cases c2 : pcw w ≤ lf s
    · rw [if_neg (by omega), if_pos c2]
      unfold F_X7_walk_214 F_X7_walk_230
      have hA := bt_add hR.2.1.1 (w := w) (by omega)
      refine ⟨_, _, _, _, _, _, _, _, rfl, ?_, hk⟩
      refine CR_up (v := 1) hw hn hR ⟨hA.1, fun u hu => ?_⟩ ⟨hR.2.2.1.1, fun u hu => ?_⟩ ⟨hR.2.2.2.1.1, fun u hu => ?_⟩ h0
      · rw [hA.2, decide_eq_true (show (1 : Int) = 1 from rfl), Bool.and_true]
      · rw [decide_eq_false (show ¬ (2 : Int) ≤ 1 from by decide), Bool.and_false, Bool.or_false]
      · rw [decide_eq_false (show ¬ (1 : Int) = 3 from by decide), Bool.and_false, Bool.or_false]
    · rw [if_pos (by omega), if_neg c2, hr]
      obtain ⟨kn2, f2, s2, e, hk2⟩ := go_x (facts := a10) (stack := a16) (clmK := clmK) (pcK := pcK) (kO := kO) (code := code) (spans := spans) (tr := tr) (gaps := gaps) (kn := a7) (ar := ar) (w := w) (s := s) (r := r) hB hn hw hs hr11 hd g1 g2 w1 w2 w3 hX hG har hk
      rw [e, lf_p_e, lf_p_e, lf_p_e]
      cases hgv : gvS o d cA clm pcw tw gp w s (r : Int) with
      | false =>
        rw [if_pos (show b2 false = 0 from rfl), if_neg (fun r => Bool.noConfusion r)]
        unfold F_X7_walk_230
        refine ⟨l2, c14, c15, c16, a1, kn2, f2, s2, ?_, hR, hk2⟩
        rw [hr]
      | true =>
        have hrp : lf_o lf_iadd (r : Int) (1 : Int) = (r : Int) + 1 := lo_add (by omega) (by omega) (by omega) (by omega) (by omega) (by omega)
        have hA := bt_add hR.2.2.1.1 (w := w) (by omega)
        rw [if_neg (show ¬ b2 true = 0 from by decide), if_pos rfl, g2]
        by_cases c4 : gp s < pcw w
        · have hA2 := bt_add hR.2.2.2.1.1 (w := w) (by omega)
          rw [if_neg (by omega), if_pos c4]
          unfold F_X7_walk_207 F_X7_walk_214 F_X7_walk_230
          rw [hrp]
          refine ⟨_, _, _, _, _, _, _, _, rfl, ?_, hk2⟩
          refine CR_up (v := 3) hw hn hR ⟨hR.2.1.1, fun u hu => ?_⟩ ⟨hA.1, fun u hu => ?_⟩ ⟨hA2.1, fun u hu => ?_⟩ h0
          · rw [decide_eq_false (show ¬ (3 : Int) = 1 from by decide), Bool.and_false, Bool.or_false]
          · rw [hA.2, decide_eq_true (show (2 : Int) ≤ 3 from by decide), Bool.and_true]
          · rw [hA2.2, decide_eq_true (show (3 : Int) = 3 from rfl), Bool.and_true]
        · have h00 := rg_or hR.2.2.2.1.1 rg_0
          rw [if_pos (by omega), if_neg c4]
          unfold F_X7_walk_207 F_X7_walk_214 F_X7_walk_230
          rw [hrp]
          refine ⟨_, _, _, _, _, _, _, _, rfl, ?_, hk2⟩
          refine CR_up (v := 2) hw hn hR ⟨hR.2.1.1, fun u hu => ?_⟩ ⟨hA.1, fun u hu => ?_⟩ ⟨h00.1, fun u hu => ?_⟩ h0
          · rw [decide_eq_false (show ¬ (2 : Int) = 1 from by decide), Bool.and_false, Bool.or_false]
          · rw [hA.2, decide_eq_true (show (2 : Int) ≤ 2 from by decide), Bool.and_true]
          · rw [h00.2, bt_0, decide_eq_false (show ¬ (2 : Int) = 3 from by decide), Bool.and_false]
theorem wk_row {K45 : Int → (Nat → Int) → Int → Int → Int → Int → Int → Int → (Nat → Int) → (Nat → Int) → (Nat → Int) → Int × Int × Int × (Nat → Int) × (Nat → Int) × (Nat → Int) × (Nat → Int)} {s : Nat} {z : wzT} {l3 l5 : Int} (hH : wkH nW o d cA clm pcw tw lf gp clmK pcK kO code spans tr gaps left ar) (hs : s < 300) (hI : spI nW cA ab (s + 1) z) : ∀ (f w : Nat) (l2 c14 c15 c16 : Int) (a1 a7 a10 a16 : Nat → Int), w ≤ nW → nW - w < f → crH nW cA ab s (wrow cA pcw ab lf gp (gvS o d cA clm pcw tw gp) s w z) l2 c14 c15 c16 a1 → kOK nW (gvS o d cA clm pcw tw gp) a7 → ∃ l2' c14' c15' c16' a1' a7' a10' a16', F_X7_walk_87 clmK pcK (nW : Int) kO cA code spans d tr ar gaps left (s : Int) K45 f l2 l3 l5 (wrow cA pcw ab lf gp (gvS o d cA clm pcw tw gp) s w z).2.2 (w : Int) c14 c15 c16 a1 a7 a10 a16 = K45 l3 a1' l2' ((s : Int) + (1 : Int)) (wrow cA pcw ab lf gp (gvS o d cA clm pcw tw gp) s nW z).2.2 c14' c15' c16' a7' a10' a16' ∧ crH nW cA ab s (wrow cA pcw ab lf gp (gvS o d cA clm pcw tw gp) s nW z) l2' c14' c15' c16' a1' ∧ kOK nW (gvS o d cA clm pcw tw gp) a7' := by
  intro f
  induction f with
  | zero => intro w l2 c14 c15 c16 a1 a7 a10 a16 h1 h2; omega
  | succ f ih =>
    intro w l2 c14 c15 c16 a1 a7 a10 a16 h1 h2 hR hk
    by_cases q : w = nW
    · subst q
      refine ⟨l2, c14, c15, c16, a1, a7, a10, a16, ?_, hR, hk⟩
      show F_X7_walk_87b clmK pcK (w : Int) kO cA code spans d tr ar gaps left (s : Int) K45 _ l2 l3 l5 _ (w : Int) c14 c15 c16 a1 a7 a10 a16 = _
      unfold F_X7_walk_87b
      rw [if_pos (Int.le_refl _)]
    · have hI2 := spI_row (pcw := pcw) (lf := lf) (gp := gp) (G := gvS o d cA clm pcw tw gp) w z h1 hI
      obtain ⟨l2', c14', c15', c16', a1', a7', a10', a16', e, e1, e2⟩ := wk_step (K45 := K45) (K87 := F_X7_walk_87 clmK pcK (nW : Int) kO cA code spans d tr ar gaps left (s : Int) K45 f) (w := w) (l3 := l3) (l5 := l5) (a10 := a10) (a16 := a16) hH hs (by omega) hI2 hR hk
      show ∃ l2' c14' c15' c16' a1' a7' a10' a16', F_X7_walk_87b clmK pcK (nW : Int) kO cA code spans d tr ar gaps left (s : Int) K45 (F_X7_walk_87 clmK pcK (nW : Int) kO cA code spans d tr ar gaps left (s : Int) K45 f) l2 l3 l5 (wrow cA pcw ab lf gp (gvS o d cA clm pcw tw gp) s w z).2.2 (w : Int) c14 c15 c16 a1 a7 a10 a16 = _ ∧ _
      rw [e]
      exact ih (w + 1) l2' c14' c15' c16' a1' a7' a10' a16' (by omega) (by omega) e1 e2
/-- where nobody is left it stays -/
theorem WS_stay {G : Nat → Nat → Int → Bool} {s : Nat} (h : ∀ w, w < nW → ab w = false → cA w < (s : Int) ∧ ¬ (wzS nW cA pcw ab lf gp G s).1 w = -1) : ∀ t, s ≤ t → wzS nW cA pcw ab lf gp G t = wzS nW cA pcw ab lf gp G s := by
  have st : ∀ (t k : Nat) (z : wzT), k ≤ nW → z = wzS nW cA pcw ab lf gp G s → wrow cA pcw ab lf gp G t k z = z := by
    intro t k z
    induction k with
    | zero => intro _ _; rfl
    | succ k ih =>
      intro hk hz
      show wstep cA pcw ab lf gp G t k (wrow cA pcw ab lf gp G t k z) = z
      rw [ih (by omega) hz]
      unfold wstep
      rw [if_neg]
      intro r
      unfold here at r
      rw [Bool.and_eq_true, Bool.and_eq_true] at r
      have ha : ab k = false := by
        have := r.1.2
        cases c : ab k
        · rfl
        · rw [c] at this
          exact Bool.noConfusion this
      have h2 := (h k (by omega) ha).2
      rw [hz] at r
      exact h2 (of_decide_eq_true r.2)
  intro t
  induction t with
  | zero =>
    intro ht
    have : s = 0 := by omega
    rw [this]
  | succ t ih =>
    intro ht
    by_cases q : s = t + 1
    · rw [q]
    · have e := ih (by omega)
      show wrow cA pcw ab lf gp G t nW (wzS nW cA pcw ab lf gp G t) = _
      rw [e]
      exact st t nW _ (Nat.le_refl _) rfl
/-- what its bits hold ahead of a second -/
def cqH (nW : Nat) (cA : Nat → Int) (ab : Nat → Bool) (s : Nat) (z : wzT) (l2 l3 c14 c15 c16 : Int) (a1 : Nat → Int) : Prop := (rg l2 ∧ ∀ w, w < 12 → bt l2 w = (decide (w < nW) && (decide (cA w < (s : Int)) && !ab w && decide (z.1 w = -1)))) ∧ (rg l3 ∧ ∀ w, w < 12 → bt l3 w = (decide (w < nW) && !ab w && decide ((s : Int) ≤ cA w))) ∧ (rg c14 ∧ ∀ w, w < 12 → bt c14 w = decide (z.2.1 w = 1)) ∧ (rg c15 ∧ ∀ w, w < 12 → bt c15 w = decide (2 ≤ z.2.1 w)) ∧ (rg c16 ∧ ∀ w, w < 12 → bt c16 w = decide (z.2.1 w = 3)) ∧ ∀ w, w < 12 → a1 w = z.1 w
theorem wk_run {comers : Nat → Int} (hH : wkH nW o d cA clm pcw tw lf gp clmK pcK kO code spans tr gaps left ar) (hC : cmB nW cA comers) : ∀ (f s : Nat) (l2 l3 c14 c15 c16 : Int) (a1 a7 a10 a16 : Nat → Int), s ≤ 300 → 300 - s < f → cqH nW cA ab s (wzS nW cA pcw ab lf gp (gvS o d cA clm pcw tw gp) s) l2 l3 c14 c15 c16 a1 → kOK nW (gvS o d cA clm pcw tw gp) a7 → ∃ c14' c15' c16' a1' a7' a10' a16', F_X7_walk_45 clmK pcK (nW : Int) kO cA comers code spans d tr ar gaps left f l3 a1 l2 (s : Int) (wzS nW cA pcw ab lf gp (gvS o d cA clm pcw tw gp) s).2.2 c14 c15 c16 a7 a10 a16 = (c14', c15', c16', a1', a7', a10', a16') ∧ ((rg c14' ∧ ∀ w, w < 12 → bt c14' w = decide ((wzS nW cA pcw ab lf gp (gvS o d cA clm pcw tw gp) 300).2.1 w = 1)) ∧ (rg c15' ∧ ∀ w, w < 12 → bt c15' w = decide (2 ≤ (wzS nW cA pcw ab lf gp (gvS o d cA clm pcw tw gp) 300).2.1 w)) ∧ (rg c16' ∧ ∀ w, w < 12 → bt c16' w = decide ((wzS nW cA pcw ab lf gp (gvS o d cA clm pcw tw gp) 300).2.1 w = 3)) ∧ ∀ w, w < 12 → a1' w = (wzS nW cA pcw ab lf gp (gvS o d cA clm pcw tw gp) 300).1 w) ∧ kOK nW (gvS o d cA clm pcw tw gp) a7' := by
  intro f
  induction f with
  | zero => intro s l2 l3 c14 c15 c16 a1 a7 a10 a16 h1 h2; omega
  | succ f ih =>
    intro s l2 l3 c14 c15 c16 a1 a7 a10 a16 h1 h2 hQ hk
    obtain ⟨q2, q3, q14, q15, q16, q1⟩ := hQ
    show ∃ c14' c15' c16' a1' a7' a10' a16', F_X7_walk_45b clmK pcK (nW : Int) kO cA comers code spans d tr ar gaps left (F_X7_walk_45 clmK pcK (nW : Int) kO cA comers code spans d tr ar gaps left f) l3 a1 l2 (s : Int) (wzS nW cA pcw ab lf gp (gvS o d cA clm pcw tw gp) s).2.2 c14 c15 c16 a7 a10 a16 = (c14', c15', c16', a1', a7', a10', a16') ∧ _
    unfold F_X7_walk_45b
    by_cases q : s = 300
    · subst q
      rw [if_pos (by decide)]
      exact ⟨c14, c15, c16, a1, a7, a10, a16, rfl, ⟨q14, q15, q16, q1⟩, hk⟩
    · rw [if_neg (by omega)]
      have hor := rg_or q2.1 q3.1
      have hn : nW ≤ 12 := hH.2.1
      by_cases z0 : lf_o lf_ior l2 l3 = 0
      · rw [if_pos z0]
        have hz := (bt_z hor.1).mp z0
        have hst := WS_stay (nW := nW) (cA := cA) (pcw := pcw) (ab := ab) (lf := lf) (gp := gp) (G := gvS o d cA clm pcw tw gp) (s := s) (fun w hw ha => by
          have hb := hz w (by omega)
          rw [hor.2, q2.2 w (by omega), q3.2 w (by omega), decide_eq_true hw, ha] at hb
          by_cases x : cA w < (s : Int)
          · refine ⟨x, fun r => ?_⟩
            rw [decide_eq_true x, decide_eq_true r] at hb
            exact Bool.noConfusion hb
          · rw [decide_eq_true (show (s : Int) ≤ cA w from by omega)] at hb
            rw [show (!false) = true from rfl, Bool.and_true, Bool.and_true, Bool.and_true, Bool.or_true] at hb
            exact Bool.noConfusion hb) 300 (by omega)
        rw [hst]
        exact ⟨c14, c15, c16, a1, a7, a10, a16, rfl, ⟨q14, q15, q16, q1⟩, hk⟩
      · rw [if_neg z0, lf_b_e]
        have hI := spI_S (nW := nW) (cA := cA) (pcw := pcw) (ab := ab) (lf := lf) (gp := gp) (G := gvS o d cA clm pcw tw gp) s
        have hcm := hC s
        have hco := rg_and hcm.1 q3.1
        have hth := rg_or q2.1 hco.1
        have haw := rg_andn q3.1 hco.1
        have hcb : ∀ w, w < 12 → bt (lf_o lf_iand (F_X4_comersIn comers (s : Int)) l3) w = (decide (w < nW) && !ab w && decide (cA w = (s : Int))) := by
          intro w hw
          rw [hco.2, hcm.2 w hw, q3.2 w hw]
          by_cases x : cA w = (s : Int)
          · rw [decide_eq_true x, decide_eq_true (show (s : Int) ≤ cA w from by omega)]
            cases decide (w < nW) <;> cases ab w <;> rfl
          · rw [decide_eq_false x, Bool.and_false, Bool.false_and, Bool.and_false]
        have hCR : crH nW cA ab s (wzS nW cA pcw ab lf gp (gvS o d cA clm pcw tw gp) s) (lf_o lf_ior l2 (lf_o lf_iand (F_X4_comersIn comers (s : Int)) l3)) c14 c15 c16 a1 := by
          refine ⟨⟨hth.1, fun w hw => ?_⟩, q14, q15, q16, q1⟩
          rw [hth.2, q2.2 w hw, hcb w hw]
          unfold here
          by_cases x : cA w = (s : Int)
          · have hm : (wzS nW cA pcw ab lf gp (gvS o d cA clm pcw tw gp) s).1 w = -1 := by
              rcases Decidable.em ((wzS nW cA pcw ab lf gp (gvS o d cA clm pcw tw gp) s).1 w = -1) with r | r
              · exact r
              · have := (hI.1 w).2.2 r
                omega
            rw [decide_eq_true x, decide_eq_false (show ¬ cA w < (s : Int) from by omega), decide_eq_true (show cA w ≤ (s : Int) from by omega), decide_eq_true hm]
            cases decide (w < nW) <;> cases ab w <;> rfl
          · rw [decide_eq_false x, Bool.and_false, Bool.or_false]
            by_cases y : cA w < (s : Int)
            · rw [decide_eq_true y, decide_eq_true (show cA w ≤ (s : Int) from by omega)]
            · rw [decide_eq_false y, decide_eq_false (show ¬ cA w ≤ (s : Int) from by omega)]
        obtain ⟨l2', c14', c15', c16', a1', a7', a10', a16', e, e1, e2⟩ := wk_row (K45 := F_X7_walk_45 clmK pcK (nW : Int) kO cA comers code spans d tr ar gaps left f) (l3 := lf_o lf_iand l3 (lf_o lf_ixor (lf_o lf_iand (F_X4_comersIn comers (s : Int)) l3) (-1 : Int))) (l5 := lf_o lf_iand (F_X4_comersIn comers (s : Int)) l3) (z := wzS nW cA pcw ab lf gp (gvS o d cA clm pcw tw gp) s) hH (by omega : s < 300) (spI_w hI) 14 0 _ c14 c15 c16 a1 a7 a10 a16 (Nat.zero_le _) (by omega) hCR hk
        have e' : F_X7_walk_87 clmK pcK (nW : Int) kO cA code spans d tr ar gaps left (s : Int) (F_X7_walk_45 clmK pcK (nW : Int) kO cA comers code spans d tr ar gaps left f) 14 (lf_o lf_ior l2 (lf_o lf_iand (F_X4_comersIn comers (s : Int)) l3)) (lf_o lf_iand l3 (lf_o lf_ixor (lf_o lf_iand (F_X4_comersIn comers (s : Int)) l3) (-1 : Int))) (lf_o lf_iand (F_X4_comersIn comers (s : Int)) l3) (wzS nW cA pcw ab lf gp (gvS o d cA clm pcw tw gp) s).2.2 (0 : Int) c14 c15 c16 a1 a7 a10 a16 = _ := e
        rw [e']
        refine ih (s + 1) l2' _ c14' c15' c16' a1' a7' a10' a16' (by omega) (by omega) ⟨⟨e1.1.1, fun w hw => ?_⟩, ⟨haw.1, fun w hw => ?_⟩, e1.2.1, e1.2.2.1, e1.2.2.2.1, e1.2.2.2.2⟩ e2
        · rw [e1.1.2 w hw]
          unfold here
          by_cases y : cA w ≤ (s : Int)
          · rw [decide_eq_true y, decide_eq_true (show cA w < ((s + 1 : Nat) : Int) from by omega)]
            rfl
          · rw [decide_eq_false y, decide_eq_false (show ¬ cA w < ((s + 1 : Nat) : Int) from by omega)]
            rfl
        · rw [haw.2, q3.2 w hw, hcb w hw]
          by_cases x : cA w = (s : Int)
          · rw [decide_eq_true x, decide_eq_true (show (s : Int) ≤ cA w from by omega), decide_eq_false (show ¬ ((s + 1 : Nat) : Int) ≤ cA w from by omega)]
            cases decide (w < nW) <;> cases ab w <;> rfl
          · rw [decide_eq_false x, Bool.and_false, Bool.not_false, Bool.and_true]
            by_cases y : (s : Int) ≤ cA w
            · rw [decide_eq_true y, decide_eq_true (show ((s + 1 : Nat) : Int) ≤ cA w from by omega)]
            · rw [decide_eq_false y, decide_eq_false (show ¬ ((s + 1 : Nat) : Int) ≤ cA w from by omega)]
/-- walk -/
theorem wk_x {comers kn facts stack leaves : Nat → Int} {A : Int} (hH : wkH nW o d cA clm pcw tw lf gp clmK pcK kO code spans tr gaps left ar) (hC : cmB nW cA comers) (hA : rg A) (hA2 : ∀ w, w < 12 → bt A w = ab w) (hk : kOK nW (gvS o d cA clm pcw tw gp) kn) : ∃ c14' c15' c16' a1' a7' a10' a16', F_X7_walk facts stack clmK pcK (nW : Int) kO cA comers code spans d tr A ar gaps kn left leaves = (c14', c15', c16', a1', a7', a10', a16') ∧ ((rg c14' ∧ ∀ w, w < 12 → bt c14' w = decide ((wzS nW cA pcw ab lf gp (gvS o d cA clm pcw tw gp) 300).2.1 w = 1)) ∧ (rg c15' ∧ ∀ w, w < 12 → bt c15' w = decide (2 ≤ (wzS nW cA pcw ab lf gp (gvS o d cA clm pcw tw gp) 300).2.1 w)) ∧ (rg c16' ∧ ∀ w, w < 12 → bt c16' w = decide ((wzS nW cA pcw ab lf gp (gvS o d cA clm pcw tw gp) 300).2.1 w = 3)) ∧ ∀ w, w < 12 → a1' w = (wzS nW cA pcw ab lf gp (gvS o d cA clm pcw tw gp) 300).1 w) ∧ kOK nW (gvS o d cA clm pcw tw gp) a7' := by
  have hn : nW ≤ 12 := hH.2.1
  have hall := rg_all hn
  have haw := rg_andn hall.1 hA
  unfold F_X7_walk
  rw [lf_b_e]
  refine wk_run hH hC 302 0 0 _ 0 0 0 _ kn facts stack (Nat.zero_le _) (by omega) ⟨⟨rg_0, fun w hw => ?_⟩, ⟨haw.1, fun w hw => ?_⟩, ⟨rg_0, fun w hw => bt_0 w⟩, ⟨rg_0, fun w hw => bt_0 w⟩, ⟨rg_0, fun w hw => bt_0 w⟩, fun w hw => ?_⟩ hk
  · rw [bt_0]
    by_cases x : w < nW
    · have := (hH.1 w x).1
      rw [decide_eq_false (show ¬ cA w < ((0 : Nat) : Int) from by omega), Bool.false_and, Bool.false_and, Bool.and_false]
    · rw [decide_eq_false x, Bool.false_and]
  · rw [haw.2, hall.2, hA2 w hw]
    by_cases x : w < nW
    · have := (hH.1 w x).1
      rw [decide_eq_true (show ((0 : Nat) : Int) ≤ cA w from by omega), Bool.and_true]
    · rw [decide_eq_false x, Bool.false_and, Bool.false_and]
  · show (if w < 12 then (-1 : Int) else leaves w) = -1
    rw [if_pos hw]
end WR
