/-! the model: who comes, the light -/
theorem pr_s {k : Nat} {cA tw : Nat → Int} {ab : Nat → Bool} {s bf : Int} : pr (k + 1) cA tw ab s bf = (pr k cA tw ab s bf || (decide (cA k = s) && !ab k && decide (0 < tw k) && decide (bf = 0))) := by
  unfold pr
  rw [List.range_succ, List.any_append]
  show (_ || ((decide (cA k = s) && !ab k && decide (0 < tw k) && decide (bf = 0)) || false)) = _
  rw [Bool.or_false]
def ndB (cA tw : Nat → Int) (ab : Nat → Bool) (s bf : Int) (w : Nat) : Bool := decide (cA w = s) && !ab w && decide (0 < tw w) && decide (bf = 0)
section AR
variable {nW : Nat} {cA tw kO : Nat → Int} {ab : Nat → Bool} {many walkers now isG : Nat → Int}
theorem ar_run {A bf : Int} {s : Nat} {c0 : Int} {h0 p0 : Nat → Int} (hn : nW ≤ 12) (hm : many 3 = (nW : Int)) (hw : ∀ w, w < nW → walkers (24 + 2 * w) = kO w ∧ walkers (25 + 2 * w) = cA w) (hk : ∀ w, w < nW → 0 ≤ kO w) (ht : ∀ w, w < nW → now (3 + (kO w).toNat) = tw w ∧ 0 ≤ tw w) (hA : rg A) (hA2 : ∀ w, w < 12 → bt A w = ab w) (hb : bf = 0 ↔ (s = 0 ∨ isG (s - 1) = 0)) : ∀ (f k : Nat) (c : Int) (h p : Nat → Int), k ≤ nW → nW - k < f → c = (if pr k cA tw ab (s : Int) bf = true then 1 else c0) → (∀ w, w < 12 → h w = (if w < k ∧ cA w = (s : Int) ∧ ab w = false then 1 else h0 w) ∧ p w = (if w < k ∧ ndB cA tw ab (s : Int) bf w = true then 1 else p0 w)) → ∃ c' h' p', F_X10_arrive_2 many walkers now isG (s : Int) A f (k : Int) c h p = (c', h', p') ∧ c' = (if pr nW cA tw ab (s : Int) bf = true then 1 else c0) ∧ ∀ w, w < 12 → h' w = (if w < nW ∧ cA w = (s : Int) ∧ ab w = false then 1 else h0 w) ∧ p' w = (if w < nW ∧ ndB cA tw ab (s : Int) bf w = true then 1 else p0 w) := by
  intro f
  induction f with
  | zero => intro k c h p h1 h2; omega
  | succ f ih =>
    intro k c h p h1 h2 h3 h4
    show ∃ c' h' p', F_X10_arrive_2b many walkers now isG (s : Int) A (F_X10_arrive_2 many walkers now isG (s : Int) A f) (k : Int) c h p = (c', h', p') ∧ _
    unfold F_X10_arrive_2b
    rw [lf_b_e, hm]
    by_cases q : k = nW
    · subst q
      rw [if_pos (Int.le_refl _)]
      exact ⟨c, h, p, rfl, h3, h4⟩
    · have hkn : k < nW := by omega
      obtain ⟨w1, w2⟩ := hw k hkn
      obtain ⟨t1, t2⟩ := ht k hkn
      have hk0 := hk k hkn
      have es : F_X10_secondOf walkers (k : Int) = cA k := by
        unfold F_X10_secondOf
        rw [show Int.toNat ((25 : Int) + ((2 : Int) * (k : Int))) = 25 + 2 * k from by omega, w2]
      have ek : F_X10_kindOf walkers (k : Int) = kO k := by
        unfold F_X10_kindOf
        rw [show Int.toNat ((24 : Int) + ((2 : Int) * (k : Int))) = 24 + 2 * k from by omega, w1]
      have et : F_X10_trustsOf now (kO k) = tw k := by
        unfold F_X10_trustsOf
        rw [show Int.toNat ((3 : Int) + kO k) = 3 + (kO k).toNat from by omega, t1]
      have ha := bt_bit (X := A) (w := k) hA.1 (by have := hA.2; omega) (by omega)
      rw [hA2 k (by omega)] at ha
      rw [if_neg (by omega), lf_b_e, es, ha, lf_b_e, ek, lf_b_e, et]
      -- one more
      have go : ∀ (x : Bool) (y : Bool) (c1 : Int) (h1' p1 : Nat → Int), (x = true ↔ (cA k = (s : Int) ∧ ab k = false)) → y = ndB cA tw ab (s : Int) bf k → c1 = (if y = true then 1 else c) → (∀ w, w < 12 → h1' w = if w = k ∧ x = true then 1 else h w) → (∀ w, w < 12 → p1 w = if w = k ∧ y = true then 1 else p w) → ∃ c' h' p', F_X10_arrive_80 (k : Int) (F_X10_arrive_2 many walkers now isG (s : Int) A f) h1' c1 p1 = (c', h', p') ∧ c' = (if pr nW cA tw ab (s : Int) bf = true then 1 else c0) ∧ ∀ w, w < 12 → h' w = (if w < nW ∧ cA w = (s : Int) ∧ ab w = false then 1 else h0 w) ∧ p' w = (if w < nW ∧ ndB cA tw ab (s : Int) bf w = true then 1 else p0 w) := by
        intro x y c1 h1' p1 hx hy hc hh hp
        unfold F_X10_arrive_80
        refine ih (k + 1) c1 h1' p1 (by omega) (by omega) ?_ (fun w hw => ⟨?_, ?_⟩)
        · rw [hc, h3, pr_s]
          show (if y = true then (1 : Int) else if pr k cA tw ab (s : Int) bf = true then 1 else c0) = if (pr k cA tw ab (s : Int) bf || ndB cA tw ab (s : Int) bf k) = true then 1 else c0
          rw [← hy]
          cases y <;> cases pr k cA tw ab (s : Int) bf <;> rfl
        · rw [hh w hw, (h4 w hw).1]
          by_cases e : w = k
          · subst e
            by_cases e2 : x = true
            · rw [if_pos ⟨rfl, e2⟩, if_pos ⟨by omega, (hx.mp e2).1, (hx.mp e2).2⟩]
            · rw [if_neg (fun r => e2 r.2), if_neg (fun r => by have := r.1; omega), if_neg (fun r => e2 (hx.mpr r.2))]
          · rw [if_neg (fun r => e r.1)]
            by_cases e3 : w < k ∧ cA w = (s : Int) ∧ ab w = false
            · rw [if_pos e3, if_pos ⟨by omega, e3.2⟩]
            · rw [if_neg e3, if_neg (fun r => e3 ⟨by omega, r.2⟩)]
        · rw [hp w hw, (h4 w hw).2]
          by_cases e : w = k
          · subst e
            by_cases e2 : y = true
            · rw [if_pos ⟨rfl, e2⟩, if_pos ⟨by omega, by rw [← hy]; exact e2⟩]
            · rw [if_neg (fun r => e2 r.2), if_neg (fun r => by have := r.1; omega), if_neg (fun r => e2 (by rw [hy]; exact r.2))]
          · rw [if_neg (fun r => e r.1)]
            by_cases e3 : w < k ∧ ndB cA tw ab (s : Int) bf w = true
            · rw [if_pos e3, if_pos ⟨by omega, e3.2⟩]
            · rw [if_neg e3, if_neg (fun r => e3 ⟨by omega, r.2⟩)]
      have up1 : ∀ (g : Nat → Int) (w : Nat), lf_up g (k : Int) (1 : Int) w = if w = k ∧ true = true then 1 else g w := by
        intro g w
        by_cases e : w = k
        · rw [lf_up_y (by omega), if_pos ⟨e, rfl⟩]
        · rw [lf_up_o (by omega), if_neg (fun r => e r.1)]
      have up0 : ∀ (g : Nat → Int) (w : Nat), g w = if w = k ∧ false = true then 1 else g w := by
        intro g w
        rw [if_neg (fun r => Bool.noConfusion r.2)]
      by_cases c1 : cA k = (s : Int)
      · rw [if_pos c1]
        cases c2 : ab k with
        | true =>
          rw [if_pos (show b2 true = 1 from rfl)]
          refine go false false c h p ⟨fun r => Bool.noConfusion r, fun r => Bool.noConfusion (c2.symm.trans r.2)⟩ ?_ rfl (fun w _ => up0 h w) (fun w _ => up0 p w)
          unfold ndB
          rw [c2, Bool.not_true, Bool.and_false, Bool.false_and, Bool.false_and]
        | false =>
          rw [if_neg (show ¬ b2 false = 1 from by decide)]
          have hx : true = true ↔ (cA k = (s : Int) ∧ ab k = false) := ⟨fun _ => ⟨c1, c2⟩, fun _ => rfl⟩
          unfold F_X10_arrive_68
          by_cases c3 : tw k = 0
          · rw [if_pos c3]
            refine go true false c _ p hx ?_ rfl (fun w _ => up1 h w) (fun w _ => up0 p w)
            unfold ndB
            rw [decide_eq_false (show ¬ 0 < tw k from by omega), Bool.and_false, Bool.false_and]
          · rw [if_neg c3]
            have yes : bf = 0 → ∃ c' h' p', F_X10_arrive_80 (k : Int) (F_X10_arrive_2 many walkers now isG (s : Int) A f) (lf_up h (k : Int) (1 : Int)) (1 : Int) (lf_up p (k : Int) (1 : Int)) = (c', h', p') ∧ c' = (if pr nW cA tw ab (s : Int) bf = true then 1 else c0) ∧ ∀ w, w < 12 → h' w = (if w < nW ∧ cA w = (s : Int) ∧ ab w = false then 1 else h0 w) ∧ p' w = (if w < nW ∧ ndB cA tw ab (s : Int) bf w = true then 1 else p0 w) := by
              intro hbf
              refine go true true 1 _ _ hx ?_ rfl (fun w _ => up1 h w) (fun w _ => up1 p w)
              unfold ndB
              rw [decide_eq_true c1, c2, decide_eq_true (show 0 < tw k from by omega), decide_eq_true hbf]
              rfl
            by_cases c4 : (s : Int) ≤ 0
            · rw [if_pos c4]
              exact yes (hb.mpr (Or.inl (by omega)))
            · rw [if_neg c4, show Int.toNat ((s : Int) - (1 : Int)) = s - 1 from by omega]
              by_cases c5 : isG (s - 1) = 0
              · rw [if_pos c5]
                exact yes (hb.mpr (Or.inr c5))
              · rw [if_neg c5]
                refine go true false c _ p hx ?_ rfl (fun w _ => up1 h w) (fun w _ => up0 p w)
                unfold ndB
                rw [decide_eq_false (show ¬ bf = 0 from fun r => by
                  rcases hb.mp r with z | z
                  · omega
                  · exact c5 z), Bool.and_false]
      · rw [if_neg c1]
        refine go false false c h p ⟨fun r => Bool.noConfusion r, fun r => absurd r.1 c1⟩ ?_ rfl (fun w _ => up0 h w) (fun w _ => up0 p w)
        unfold ndB
        rw [decide_eq_false c1, Bool.false_and, Bool.false_and, Bool.false_and]
end AR
/-- the light's cells -/
def mlS (ru : Int) (s : Nat) (z : lzT) (c70 c71 c72 c73 : Int) : Prop := (ru = 1 → c70 = b2 z.1 ∧ c71 = z.2.2.1 ∧ (-1 ≤ z.2.2.1 ∧ z.2.2.1 < (s : Int)) ∧ (-1 ≤ c72 ∧ c72 ≤ (s : Int) + 60) ∧ (s = 0 → c72 = -1) ∧ (0 < s → z.2.2.2 = max (c72 - (s : Int) + 2) 0)) ∧ (ru = 2 → c70 = b2 z.1 ∧ c73 = b2 z.2.1) ∧ (ru = 0 → s = 0 ∨ z.2.1 = true)
theorem li_x {nW : Nat} {cA tw : Nat → Int} {ab : Nat → Bool} {cy ls ru gr : Int} {bar : Nat → Int} {s : Nat} {z : lzT} {c70 c71 c72 c73 : Int} (hs : s < 300) (hb4 : bar 4 = cy) (hb7 : bar 7 = ls) (hcy : 1 ≤ cy) (hcy2 : cy ≤ 120) (hg0 : 1 ≤ gr) (hg1 : gr ≤ 60) (hr : 0 ≤ ru ∧ ru ≤ 2) (hz0 : s = 0 → z.2.2.2 = 0) (h : mlS ru s z c70 c71 c72 c73) : ∃ lit d70 d71 d72 d73 d74, F_X10_isLit (if pr nW cA tw ab (s : Int) z.2.2.2 = true then 1 else c70) c71 c72 c73 bar (s : Int) ru gr = (lit, d70, d71, d72, d73, d74) ∧ lit = b2 (decide (0 < (lst nW cA tw ab cy ls ru gr s z).2.2.2)) ∧ (0 < (lst nW cA tw ab cy ls ru gr s z).2.2.2 → d74 = (lst nW cA tw ab cy ls ru gr s z).2.2.2) ∧ mlS ru (s + 1) (lst nW cA tw ab cy ls ru gr s z) d70 d71 d72 d73 := by
  have hir : lf_o lf_irem (s : Int) cy = (s : Int) % cy := lo_rem (by omega) (by omega) hcy (by omega)
  have hm0 : 0 ≤ (s : Int) % cy := Int.emod_nonneg _ (by omega)
  have hm1 : (s : Int) % cy < cy := Int.emod_lt_of_pos _ (by omega)
  have hsub : lf_o lf_isub gr ((s : Int) % cy) = gr - (s : Int) % cy := lo_sub (by omega) (by omega) (by omega) (by omega) (by omega) (by omega)
  have hop : c70 = b2 z.1 → (if pr nW cA tw ab (s : Int) z.2.2.2 = true then (1 : Int) else c70) = b2 (lOp nW cA tw ab s z) := by
    intro e
    unfold lOp
    rw [e]
    cases z.1 <;> cases pr nW cA tw ab (s : Int) z.2.2.2 <;> rfl
  have hk : ∀ l : Bool, lC cy gr s l = if l = true then max (gr - (s : Int) % cy) 0 else 0 := fun _ => rfl
  unfold F_X10_isLit
  rw [hb4, hir, hsub]
  by_cases c0 : ru = 0
  · have n1 : ¬ ru = 1 := by omega
    have hlst : (lst nW cA tw ab cy ls ru gr s z).2.2.2 = max (gr - (s : Int) % cy) 0 ∧ (lst nW cA tw ab cy ls ru gr s z).2.1 = true := by
      unfold lst
      rw [if_neg n1]
      by_cases c : (s : Int) % cy = 0
      · rw [if_pos c]
        show lC cy gr s (decide (ru = 0) || lOp nW cA tw ab s z) = _ ∧ (decide (ru = 0) || lOp nW cA tw ab s z) = true
        rw [decide_eq_true c0, Bool.true_or]
        exact ⟨if_pos rfl, rfl⟩
      · rw [if_neg c]
        show lC cy gr s z.2.1 = _ ∧ z.2.1 = true
        have hz : z.2.1 = true := by
          rcases h.2.2 c0 with r | r
          · rw [r] at c
            exact absurd (Int.zero_emod cy) c
          · exact r
        rw [hz]
        exact ⟨if_pos rfl, rfl⟩
    rw [if_pos c0]
    rw [hlst.1]
    have hML : ∀ a b c d : Int, mlS ru (s + 1) (lst nW cA tw ab cy ls ru gr s z) a b c d := fun a b c d => ⟨fun r => by omega, fun r => by omega, fun _ => Or.inr hlst.2⟩
    by_cases c : gr ≤ (s : Int) % cy
    · rw [if_pos c]
      refine ⟨0, _, _, _, _, _, rfl, ?_, fun r => by omega, hML _ _ _ _⟩
      rw [decide_eq_false (by omega)]
      rfl
    · rw [if_neg c]
      refine ⟨1, _, _, _, _, _, rfl, ?_, fun r => by omega, hML _ _ _ _⟩
      rw [decide_eq_true (by omega)]
      rfl
  · rw [if_neg c0]
    by_cases c2 : ru = 2
    · have n1 : ¬ ru = 1 := by omega
      obtain ⟨e70, e73⟩ := h.2.1 c2
      rw [if_pos c2, hop e70]
      have h57 : ∀ (op l : Bool) (zz : lzT), zz.1 = op → zz.2.1 = l → zz.2.2.2 = lC cy gr s l → ∃ lit d70 d71 d72 d73 d74, F_X10_isLit_57 c71 c72 gr ((s : Int) % cy) (gr - (s : Int) % cy) (b2 op) (b2 l) = (lit, d70, d71, d72, d73, d74) ∧ lit = b2 (decide (0 < zz.2.2.2)) ∧ (0 < zz.2.2.2 → d74 = zz.2.2.2) ∧ mlS ru (s + 1) zz d70 d71 d72 d73 := by
        intro op l zz z1 z2 z3
        have hML : ∀ b c : Int, mlS ru (s + 1) zz (b2 op) b c (b2 l) := fun b c => ⟨fun r => by omega, fun _ => ⟨by rw [z1], by rw [z2]⟩, fun r => by omega⟩
        unfold F_X10_isLit_57 F_X10_isLit_74
        cases l with
        | false =>
          have z4 : zz.2.2.2 = 0 := z3
          rw [if_pos (show b2 false = 0 from rfl), z4]
          refine ⟨0, _, _, _, _, _, rfl, ?_, fun r => by omega, hML _ _⟩
          rw [decide_eq_false (by omega)]
          rfl
        | true =>
          have z4 : zz.2.2.2 = max (gr - (s : Int) % cy) 0 := z3
          rw [if_neg (show ¬ b2 true = 0 from by decide), z4]
          by_cases c : gr ≤ (s : Int) % cy
          · rw [if_pos c]
            refine ⟨0, _, _, _, _, _, rfl, ?_, fun r => by omega, hML _ _⟩
            rw [decide_eq_false (by omega)]
            rfl
          · rw [if_neg c]
            refine ⟨1, _, _, _, _, _, rfl, ?_, fun r => by omega, hML _ _⟩
            rw [decide_eq_true (by omega)]
            rfl
      by_cases c : (s : Int) % cy = 0
      · have el : lst nW cA tw ab cy ls ru gr s z = (false, decide (ru = 0) || lOp nW cA tw ab s z, z.2.2.1, lC cy gr s (decide (ru = 0) || lOp nW cA tw ab s z)) := by
          unfold lst
          rw [if_neg n1, if_pos c]
        rw [decide_eq_false c0, Bool.false_or] at el
        rw [if_pos c, el]
        exact h57 false _ _ rfl rfl rfl
      · have el : lst nW cA tw ab cy ls ru gr s z = (lOp nW cA tw ab s z, z.2.1, z.2.2.1, lC cy gr s z.2.1) := by
          unfold lst
          rw [if_neg n1, if_neg c]
        rw [if_neg c, el, e73]
        exact h57 _ _ _ rfl rfl rfl
    · have c1 : ru = 1 := by omega
      obtain ⟨e70, e71, ⟨l0, l1⟩, ⟨g0, g1⟩, gz, gs⟩ := h.1 c1
      rw [if_neg c2, hop e70, e71]
      have el : lst nW cA tw ab cy ls ru gr s z = (lOp nW cA tw ab s z && !lL ls s z (lOp nW cA tw ab s z), z.2.1, (if 0 < lLf gr z (lL ls s z (lOp nW cA tw ab s z)) then (s : Int) else z.2.2.1), lLf gr z (lL ls s z (lOp nW cA tw ab s z))) := by
        unfold lst
        rw [if_pos c1]
      rw [el]
      generalize lOp nW cA tw ab s z = op
      have w0 : lLf gr z false = max (z.2.2.2 - 1) 0 := if_neg (fun r => Bool.noConfusion r)
      have w1 : lLf gr z true = gr := if_pos rfl
      have e74 : ∀ t : Int, -1 ≤ t → t ≤ (s : Int) + 60 → lf_o lf_iadd (lf_o lf_isub t (s : Int)) (1 : Int) = t - (s : Int) + 1 := by
        intro t t0 t1
        rw [lo_sub (by omega) (by omega) (by omega) (by omega) (by omega) (by omega), lo_add (by omega) (by omega) (by omega) (by omega) (by omega) (by omega)]
      -- not lit anew
      have old : lL ls s z op = false → ∃ lit d70 d71 d72 d73 d74, F_X10_isLit_135 z.2.2.1 c73 (s : Int) ((s : Int) % cy) (gr - (s : Int) % cy) (b2 op) c72 = (lit, d70, d71, d72, d73, d74) ∧ lit = b2 (decide (0 < lLf gr z (lL ls s z op))) ∧ (0 < lLf gr z (lL ls s z op) → d74 = lLf gr z (lL ls s z op)) ∧ mlS ru (s + 1) (op && !lL ls s z op, z.2.1, (if 0 < lLf gr z (lL ls s z op) then (s : Int) else z.2.2.1), lLf gr z (lL ls s z op)) d70 d71 d72 d73 := by
        intro hL
        rw [hL, w0]
        have hbf : max (z.2.2.2 - 1) 0 = max (c72 - (s : Int) + 1) 0 := by
          by_cases q : s = 0
          · have := gz q
            have := hz0 q
            omega
          · have := gs (by omega)
            omega
        rw [hbf]
        unfold F_X10_isLit_135
        rw [e74 c72 g0 g1]
        by_cases c : (s : Int) ≤ c72
        · rw [if_pos c, if_pos (show 0 < max (c72 - (s : Int) + 1) 0 from by omega)]
          refine ⟨1, _, _, _, _, _, rfl, ?_, fun _ => by omega, ⟨fun _ => ⟨?_, rfl, ⟨by show (-1 : Int) ≤ (s : Int); omega, ?_⟩, ⟨g0, by omega⟩, fun r => absurd r (Nat.succ_ne_zero s), fun _ => ?_⟩, fun r => by omega, fun r => by omega⟩⟩
          · rw [decide_eq_true (by omega)]
            rfl
          · cases op <;> rfl
          · show (s : Int) < ((s + 1 : Nat) : Int)
            omega
          · show max (c72 - (s : Int) + 1) 0 = max (c72 - ((s + 1 : Nat) : Int) + 2) 0
            omega
        · rw [if_neg c, if_neg (show ¬ 0 < max (c72 - (s : Int) + 1) 0 from by omega)]
          refine ⟨0, _, _, _, _, _, rfl, ?_, fun r => by omega, ⟨fun _ => ⟨?_, rfl, ⟨l0, ?_⟩, ⟨g0, by omega⟩, fun r => absurd r (Nat.succ_ne_zero s), fun _ => ?_⟩, fun r => by omega, fun r => by omega⟩⟩
          · rw [decide_eq_false (by omega)]
            rfl
          · cases op <;> rfl
          · show z.2.2.1 < ((s + 1 : Nat) : Int)
            omega
          · show max (c72 - (s : Int) + 1) 0 = max (c72 - ((s + 1 : Nat) : Int) + 2) 0
            omega
      have hbf1 : z.2.2.2 ≤ 1 ↔ ¬ (s : Int) ≤ c72 := by
        by_cases q : s = 0
        · have := gz q
          have := hz0 q
          omega
        · have := gs (by omega)
          omega
      by_cases c : (s : Int) ≤ c72
      · rw [if_pos c]
        refine old ?_
        unfold lL
        rw [decide_eq_false (fun r => hbf1.mp r c), Bool.false_and, Bool.false_and]
      · rw [if_neg c]
        cases op with
        | false =>
          rw [if_pos (show b2 false = 0 from rfl)]
          refine old ?_
          unfold lL
          rw [Bool.and_false, Bool.false_and]
        | true =>
          rw [if_neg (show ¬ b2 true = 0 from by decide)]
          have h111 : ∃ lit d70 d71 d72 d73 d74, F_X10_isLit_111 (b2 true) z.2.2.1 c72 c73 bar (s : Int) gr ((s : Int) % cy) ((s : Int) - z.2.2.1 - 1) (gr - (s : Int) % cy) = (lit, d70, d71, d72, d73, d74) ∧ lit = b2 (decide (0 < lLf gr z (lL ls s z true))) ∧ (0 < lLf gr z (lL ls s z true) → d74 = lLf gr z (lL ls s z true)) ∧ mlS ru (s + 1) (true && !lL ls s z true, z.2.1, (if 0 < lLf gr z (lL ls s z true) then (s : Int) else z.2.2.1), lLf gr z (lL ls s z true)) d70 d71 d72 d73 := by
            unfold F_X10_isLit_111
            rw [show bar (Int.toNat (7 : Int)) = ls from hb7]
            by_cases c3 : (s : Int) - z.2.2.1 - 1 < ls
            · rw [if_pos c3]
              refine old ?_
              unfold lL
              rw [decide_eq_false (show ¬ ls ≤ (s : Int) - z.2.2.1 - 1 from by omega), Bool.and_false]
            · have hL : lL ls s z true = true := by
                unfold lL
                rw [decide_eq_true (hbf1.mpr c), decide_eq_true (show ls ≤ (s : Int) - z.2.2.1 - 1 from by omega)]
                rfl
              have es : lf_o lf_isub (lf_o lf_iadd (s : Int) gr) (1 : Int) = (s : Int) + gr - 1 := by
                rw [lo_add (by omega) (by omega) (by omega) (by omega) (by omega) (by omega), lo_sub (by omega) (by omega) (by omega) (by omega) (by omega) (by omega)]
              rw [if_neg c3, hL, w1, es]
              unfold F_X10_isLit_135
              rw [e74 ((s : Int) + gr - 1) (by omega) (by omega), if_pos (show (s : Int) ≤ (s : Int) + gr - 1 from by omega), if_pos (show 0 < gr from by omega)]
              refine ⟨1, _, _, _, _, _, rfl, ?_, fun _ => by omega, ⟨fun _ => ⟨rfl, rfl, ⟨by show (-1 : Int) ≤ (s : Int); omega, ?_⟩, ⟨by omega, by omega⟩, fun r => absurd r (Nat.succ_ne_zero s), fun _ => ?_⟩, fun r => by omega, fun r => by omega⟩⟩
              · rw [decide_eq_true (by omega)]
                rfl
              · show (s : Int) < ((s + 1 : Nat) : Int)
                omega
              · show gr = max ((s : Int) + gr - 1 - ((s + 1 : Nat) : Int) + 2) 0
                omega
          by_cases c4 : z.2.2.1 = -1
          · rw [if_pos c4]
            have e5 : (s : Int) - z.2.2.1 - 1 = (s : Int) := by omega
            rw [e5] at h111
            exact h111
          · rw [if_neg c4]
            have e5 : lf_o lf_isub (lf_o lf_isub (s : Int) z.2.2.1) (1 : Int) = (s : Int) - z.2.2.1 - 1 := by
              have e6 : lf_o lf_isub (s : Int) z.2.2.1 = (s : Int) - z.2.2.1 := lo_sub (by omega) (by omega) (by omega) (by omega) (by omega) (by omega)
              rw [e6]
              exact lo_sub (by omega) (by omega) (by omega) (by omega) (by omega) (by omega)
            rw [e5]
            exact h111
