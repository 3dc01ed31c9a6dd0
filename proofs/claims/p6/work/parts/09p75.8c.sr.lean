/-! the class's light is the one described -/
theorem pr_i {nW : Nat} {cA tw : Nat → Int} {ab : Nat → Bool} {s bf : Int} : pr nW cA tw ab s bf = true ↔ ∃ w, w < nW ∧ cA w = s ∧ ab w = false ∧ 0 < tw w ∧ bf = 0 := by
  unfold pr
  rw [List.any_eq_true]
  constructor
  · intro ⟨w, h1, h2⟩
    rw [Bool.and_eq_true, Bool.and_eq_true, Bool.and_eq_true] at h2
    refine ⟨w, List.mem_range.mp h1, of_decide_eq_true h2.1.1.1, ?_, of_decide_eq_true h2.1.2, of_decide_eq_true h2.2⟩
    have := h2.1.1.2
    cases c : ab w
    · rfl
    · rw [c] at this
      exact Bool.noConfusion this
  · intro ⟨w, h1, h2, h3, h4, h5⟩
    refine ⟨w, List.mem_range.mpr h1, ?_⟩
    rw [decide_eq_true h2, h3, decide_eq_true h4, decide_eq_true h5]
    rfl
theorem pr_n {nW : Nat} {cA tw : Nat → Int} {ab : Nat → Bool} {s bf : Int} : pr nW cA tw ab s bf = false ↔ ∀ w, w < nW → ¬ (cA w = s ∧ ab w = false ∧ 0 < tw w ∧ bf = 0) := by
  constructor
  · intro h w hw r
    have := pr_i.mpr ⟨w, hw, r⟩
    exact Bool.noConfusion (h.symm.trans this)
  · intro h
    cases c : pr nW cA tw ab s bf
    · rfl
    · obtain ⟨w, hw, r⟩ := pr_i.mp c
      exact absurd r (h w hw)
/-- who comes when, as bits -/
def cmB (nW : Nat) (cA comers : Nat → Int) : Prop := ∀ s : Nat, rg (F_X4_comersIn comers (s : Int)) ∧ ∀ w, w < 12 → bt (F_X4_comersIn comers (s : Int)) w = (decide (w < nW) && decide (cA w = (s : Int)))
def wiB (nW : Nat) (tw : Nat → Int) (ab : Nat → Bool) (l1 : Int) : Prop := rg l1 ∧ ∀ w, w < 12 → bt l1 w = (decide (w < nW) && decide (0 < tw w) && !ab w)
/-- who presses -/
def prS (nW : Nat) (cA tw : Nat → Int) (ab : Nat → Bool) (cy ls ru gr : Int) (w : Nat) : Bool := decide (w < nW) && !ab w && decide (0 < tw w) && decide ((lzS nW cA tw ab cy ls ru gr (cA w).toNat).2.2.2 = 0)
section SR
variable {nW : Nat} {cA tw : Nat → Int} {ab : Nat → Bool} {cy ls ru gr : Int} {comers : Nat → Int} {l1 : Int}
theorem sh_P {s : Nat} {bf : Int} (hC : cmB nW cA comers) (hW : wiB nW tw ab l1) (hn : nW ≤ 12) : rg (if bf = 0 then lf_o lf_iand (F_X4_comersIn comers (s : Int)) l1 else 0) ∧ (∀ w, w < 12 → bt (if bf = 0 then lf_o lf_iand (F_X4_comersIn comers (s : Int)) l1 else 0) w = (decide (w < nW) && !ab w && decide (0 < tw w) && decide (cA w = (s : Int)) && decide (bf = 0))) ∧ ((if bf = 0 then lf_o lf_iand (F_X4_comersIn comers (s : Int)) l1 else 0) = 0 ↔ pr nW cA tw ab (s : Int) bf = false) := by
  have h1 := hC s
  have h2 := rg_and h1.1 hW.1
  have hr : rg (if bf = 0 then lf_o lf_iand (F_X4_comersIn comers (s : Int)) l1 else 0) := by
    by_cases q : bf = 0
    · rw [if_pos q]
      exact h2.1
    · rw [if_neg q]
      exact rg_0
  have hb : ∀ w, w < 12 → bt (if bf = 0 then lf_o lf_iand (F_X4_comersIn comers (s : Int)) l1 else 0) w = (decide (w < nW) && !ab w && decide (0 < tw w) && decide (cA w = (s : Int)) && decide (bf = 0)) := by
    intro w hw
    by_cases q : bf = 0
    · rw [if_pos q, h2.2, h1.2 w hw, hW.2 w hw, decide_eq_true q, Bool.and_true]
      cases decide (w < nW) <;> cases ab w <;> cases decide (0 < tw w) <;> cases decide (cA w = (s : Int)) <;> rfl
    · rw [if_neg q, bt_0, decide_eq_false q, Bool.and_false]
  refine ⟨hr, hb, ?_⟩
  rw [bt_z hr, pr_n]
  constructor
  · intro h w hw r
    have := h w (by omega)
    rw [hb w (by omega), decide_eq_true hw, r.2.1, decide_eq_true r.2.2.1, decide_eq_true r.1, decide_eq_true r.2.2.2] at this
    exact Bool.noConfusion this
  · intro h w hw
    rw [hb w hw]
    by_cases q1 : w < nW
    · by_cases q2 : cA w = (s : Int)
      · cases q3 : ab w
        · by_cases q4 : 0 < tw w
          · by_cases q5 : bf = 0
            · exact absurd ⟨q2, q3, q4, q5⟩ (h w q1)
            · rw [decide_eq_false q5, Bool.and_false]
          · rw [decide_eq_false q4, Bool.and_false, Bool.false_and, Bool.false_and]
        · rw [Bool.not_true, Bool.and_false, Bool.false_and, Bool.false_and, Bool.false_and]
      · rw [decide_eq_false q2, Bool.and_false, Bool.false_and]
    · rw [decide_eq_false q1, Bool.false_and, Bool.false_and, Bool.false_and, Bool.false_and]
theorem sh_run (hC : cmB nW cA comers) (hW : wiB nW tw ab l1) (hn : nW ≤ 12) (hcy : 1 ≤ cy) (hcy2 : cy ≤ 120) (hg0 : 0 ≤ gr) (hg1 : gr ≤ 60) : ∀ (f s : Nat) (l3 c13 : Int) (a5 : Nat → Int), s ≤ 300 → 300 - s < f → (¬ ru = 1 → l3 = b2 (lzS nW cA tw ab cy ls ru gr s).2.1) → (∀ j, j < s → a5 j = lef nW cA tw ab cy ls ru gr j) → rg c13 → (∀ w, w < 12 → bt c13 w = (prS nW cA tw ab cy ls ru gr w && decide (cA w < (s : Int)))) → ∃ c a, F_X7_shine_20 cy ls comers ru gr f l1 (b2 (lzS nW cA tw ab cy ls ru gr s).1) l3 (lzS nW cA tw ab cy ls ru gr s).2.2.1 (s : Int) c13 a5 = (c, a) ∧ (∀ j, j < 300 → a j = lef nW cA tw ab cy ls ru gr j) ∧ rg c ∧ (∀ w, w < 12 → bt c w = (prS nW cA tw ab cy ls ru gr w && decide (cA w < 300))) := by
  intro f
  induction f with
  | zero => intro s l3 c13 a5 h1 h2; omega
  | succ f ih =>
    intro s l3 c13 a5 h1 h2 h3 h4 h5 h6
    show ∃ c a, F_X7_shine_20b cy ls comers ru gr (F_X7_shine_20 cy ls comers ru gr f) l1 (b2 (lzS nW cA tw ab cy ls ru gr s).1) l3 (lzS nW cA tw ab cy ls ru gr s).2.2.1 (s : Int) c13 a5 = (c, a) ∧ _
    by_cases q : s = 300
    · subst q
      unfold F_X7_shine_20b
      rw [if_pos (by decide)]
      exact ⟨c13, a5, rfl, h4, h5, h6⟩
    · have hs : s < 300 := by omega
      have hb := lef_b (nW := nW) (cA := cA) (tw := tw) (ab := ab) (ls := ls) (ru := ru) hg0 hg1 hcy s
      have hbf : (lzS nW cA tw ab cy ls ru gr s).2.2.2 = if s = 0 then 0 else a5 (s - 1) := by
        cases s with
        | zero => rfl
        | succ s => exact (h4 s (Nat.lt_succ_self s)).symm
      have hP := sh_P (s := s) (bf := (lzS nW cA tw ab cy ls ru gr s).2.2.2) hC hW hn
      obtain ⟨l3', e, e3⟩ := sh_step (K20 := F_X7_shine_20 cy ls comers ru gr f) (l1 := l1) (comers := comers) (c13 := c13) (ls := ls) (ru := ru) hs hcy hcy2 hg0 hg1 hb.1 hb.2 hbf h3 rfl hP.2.2
      rw [e]
      have hor := rg_or h5 hP.1
      refine ih (s + 1) l3' _ _ (by omega) (by omega) e3 (fun j hj => ?_) hor.1 (fun w hw => ?_)
      · by_cases qj : j = s
        · rw [lf_up_y (by omega), qj]
          rfl
        · rw [lf_up_o (by omega)]
          exact h4 j (by omega)
      · rw [hor.2, h6 w hw, hP.2.1 w hw]
        unfold prS
        by_cases q2 : cA w = (s : Int)
        · have e4 : (cA w).toNat = s := by omega
          rw [decide_eq_false (show ¬ cA w < (s : Int) from by omega), decide_eq_true q2, decide_eq_true (show cA w < ((s + 1 : Nat) : Int) from by omega), e4, Bool.and_false, Bool.false_or, Bool.and_true, Bool.and_true]
        · rw [decide_eq_false q2, Bool.and_false, Bool.false_and, Bool.or_false]
          by_cases q3 : cA w < (s : Int)
          · rw [decide_eq_true q3, decide_eq_true (show cA w < ((s + 1 : Nat) : Int) from by omega)]
          · rw [decide_eq_false q3, decide_eq_false (show ¬ cA w < ((s + 1 : Nat) : Int) from by omega)]
theorem wi_run {kO tr : Nat → Int} {A : Int} (hn : nW ≤ 12) (hA : rg A) (hA2 : ∀ w, w < 12 → bt A w = ab w) (ht : ∀ w, w < nW → tr (kO w).toNat = tw w) : ∀ (f w : Nat) (l : Int), w ≤ nW → nW - w < f → rg l → (∀ v, v < 12 → bt l v = (decide (v < w) && decide (0 < tw v))) → wiB nW tw ab (F_X7_willing_4 (nW : Int) kO tr A f l (w : Int)) := by
  intro f
  induction f with
  | zero => intro w l h1 h2; omega
  | succ f ih =>
    intro w l h1 h2 h3 h4
    show wiB nW tw ab (F_X7_willing_4b (nW : Int) kO tr A (F_X7_willing_4 (nW : Int) kO tr A f) l (w : Int))
    unfold F_X7_willing_4b F_X7_willing_38
    by_cases q : w = nW
    · rw [if_pos (by omega)]
      have h := rg_andn h3 hA
      refine ⟨h.1, fun v hv => ?_⟩
      rw [h.2, h4 v hv, hA2 v hv, q]
    · rw [if_neg (by omega), Int.toNat_natCast, ht w (by omega)]
      have hsh := rg_sh (w := w) (by omega)
      have hor := rg_or h3 hsh.1
      by_cases q2 : tw w ≤ 0
      · rw [if_pos q2]
        refine ih (w + 1) l (by omega) (by omega) h3 (fun v hv => ?_)
        rw [h4 v hv]
        by_cases q3 : v = w
        · rw [q3, decide_eq_false (show ¬ 0 < tw w from by omega), Bool.and_false, Bool.and_false]
        · by_cases q4 : v < w
          · rw [decide_eq_true q4, decide_eq_true (show v < w + 1 from by omega)]
          · rw [decide_eq_false q4, decide_eq_false (show ¬ v < w + 1 from by omega)]
      · rw [if_neg q2]
        refine ih (w + 1) _ (by omega) (by omega) hor.1 (fun v hv => ?_)
        rw [hor.2, h4 v hv, hsh.2]
        by_cases q3 : v = w
        · rw [q3, decide_eq_true (show w = w from rfl), decide_eq_true (show w < w + 1 from by omega), decide_eq_true (show 0 < tw w from by omega), Bool.or_true]
          rfl
        · rw [decide_eq_false (show ¬ w = v from fun r => q3 r.symm), Bool.or_false]
          by_cases q4 : v < w
          · rw [decide_eq_true q4, decide_eq_true (show v < w + 1 from by omega)]
          · rw [decide_eq_false q4, decide_eq_false (show ¬ v < w + 1 from by omega)]
/-- shine -/
theorem sh_x {kO tr a5 : Nat → Int} {A : Int} (hC : cmB nW cA comers) (hn : nW ≤ 12) (hA : rg A) (hA2 : ∀ w, w < 12 → bt A w = ab w) (ht : ∀ w, w < nW → tr (kO w).toNat = tw w) (hcA : ∀ w, w < nW → 0 ≤ cA w ∧ cA w < 200) (hcy : 1 ≤ cy) (hcy2 : cy ≤ 120) (hg0 : 0 ≤ gr) (hg1 : gr ≤ 60) : ∃ c a, F_X7_shine cy ls (nW : Int) kO comers tr ru gr A a5 = (c, a) ∧ (∀ j, j < 300 → a j = lef nW cA tw ab cy ls ru gr j) ∧ rg c ∧ (∀ w, w < 12 → bt c w = prS nW cA tw ab cy ls ru gr w) := by
  have hw : wiB nW tw ab (F_X7_willing (nW : Int) kO tr A) := wi_run hn hA hA2 ht 14 0 0 (Nat.zero_le _) (by omega) rg_0 (fun v hv => by
    rw [bt_0, decide_eq_false (Nat.not_lt_zero v), Bool.false_and])
  have hPn : ∀ w, prS nW cA tw ab cy ls ru gr w = true → w < nW := by
    intro w h
    unfold prS at h
    rw [Bool.and_eq_true, Bool.and_eq_true, Bool.and_eq_true] at h
    exact of_decide_eq_true h.1.1.1
  obtain ⟨c, a, e, e1, e2, e3⟩ := sh_run (ls := ls) (ru := ru) hC hw hn hcy hcy2 hg0 hg1 302 0 0 0 a5 (Nat.zero_le _) (by omega) (fun _ => rfl) (fun j hj => absurd hj (Nat.not_lt_zero j)) rg_0 (fun w hw => by
    rw [bt_0]
    cases h : prS nW cA tw ab cy ls ru gr w
    · rfl
    · have := hcA w (hPn w h)
      rw [decide_eq_false (show ¬ cA w < ((0 : Nat) : Int) from by omega)]
      rfl)
  unfold F_X7_shine
  rw [lf_b_e]
  refine ⟨c, a, e, e1, e2, fun w hw => ?_⟩
  rw [e3 w hw]
  cases h : prS nW cA tw ab cy ls ru gr w
  · rfl
  · have := hcA w (hPn w h)
    rw [decide_eq_true (show cA w < 300 from by omega)]
    rfl
end SR
