/-! see and on: what they answer -/
def rwO (g : Nat → Int) (w : Int) (l : Nat) : Bool := decide (g l < w) && (decide (g (l + 1) * 256 + g (l + 2) < 300) || decide (g (l + 1) * 256 + g (l + 2) = 65535))
def rwsO (g : Nat → Int) (w : Int) : Nat → Nat → Bool
  | 0, _ => true
  | m + 1, l => rwO g w l && rwsO g w m (l + 3)
def dvB : Bool := (List.range 1601).all (fun s => decide (lf_o lf_irem (s : Int) 3 = ((s % 3 : Nat) : Int)) && decide (lf_o lf_idiv (s : Int) 3 = ((s / 3 : Nat) : Int)))
theorem dv3 {s : Nat} (h : s ≤ 1600) : lf_o lf_irem (s : Int) 3 = ((s % 3 : Nat) : Int) ∧ lf_o lf_idiv (s : Int) 3 = ((s / 3 : Nat) : Int) := by
  have hd : dvB = true := by decide +kernel
  have := List.all_eq_true.mp hd s (List.mem_range.mpr (by omega))
  rw [Bool.and_eq_true] at this
  exact ⟨of_decide_eq_true this.1, of_decide_eq_true this.2⟩
theorem ac_l {g : Nat → Int} {w : Int} : ∀ (m l f : Nat), m < f → F_X8_accepts_22 g ((l + 3 * m : Nat) : Int) w f (l : Int) = b2 (rwsO g w m l) := by
  intro m
  induction m with
  | zero =>
    intro l f hf
    obtain ⟨k, rfl⟩ : ∃ k, f = k + 1 := ⟨f - 1, by omega⟩
    show F_X8_accepts_22b g ((l + 3 * 0 : Nat) : Int) w _ (l : Int) = 1
    unfold F_X8_accepts_22b
    rw [if_pos (by omega)]
  | succ m ih =>
    intro l f hf
    obtain ⟨k, rfl⟩ : ∃ k, f = k + 1 := ⟨f - 1, by omega⟩
    have e : l + 3 * (m + 1) = (l + 3) + 3 * m := by omega
    have t0 : Int.toNat (l : Int) = l := Int.toNat_natCast l
    have t1 : Int.toNat ((l : Int) + (1 : Int)) = l + 1 := by omega
    have t2 : Int.toNat ((l : Int) + (2 : Int)) = l + 2 := by omega
    show F_X8_accepts_22b g ((l + 3 * (m + 1) : Nat) : Int) w (F_X8_accepts_22 g ((l + 3 * (m + 1) : Nat) : Int) w k) (l : Int) = b2 (rwO g w l && rwsO g w m (l + 3))
    unfold F_X8_accepts_22b F_X8_accepts_70 F_X8_accepts_72
    rw [if_neg (by omega), t0, t1, t2]
    have hn : F_X8_accepts_22 g ((l + 3 * (m + 1) : Nat) : Int) w k ((l : Int) + (3 : Int)) = b2 (rwsO g w m (l + 3)) := by
      rw [e]
      exact ih (l + 3) k (by omega)
    rw [hn]
    unfold rwO
    by_cases q : w ≤ g l
    · rw [if_pos q, decide_eq_false (by omega), Bool.false_and, Bool.false_and]
      rfl
    · rw [if_neg q, decide_eq_true (by omega), Bool.true_and]
      by_cases q2 : g (l + 1) * 256 + g (l + 2) < 300
      · rw [if_pos q2, decide_eq_true q2, Bool.true_or, Bool.true_and]
      · rw [if_neg q2, decide_eq_false q2, Bool.false_or]
        by_cases q3 : g (l + 1) * 256 + g (l + 2) = 65535
        · rw [if_pos q3, decide_eq_true q3, Bool.true_and]
        · rw [if_neg q3, decide_eq_false q3, Bool.false_and]
          rfl
theorem ke_l {g : Nat → Int} {c : Int} : ∀ (f : Nat) (l : Int) (A B : Nat → Int), 0 ≤ l → l ≤ c → c - l < (f : Int) → (F_X8_keep_9 g f c l A B).1 = c := by
  intro f
  induction f with
  | zero => intro l A B h0 h1 h2; omega
  | succ f ih =>
    intro l A B h0 h1 h2
    show (F_X8_keep_9b g (F_X8_keep_9 g f) c l A B).1 = c
    unfold F_X8_keep_9b F_X8_keep_67
    by_cases q : c ≤ l
    · rw [if_pos q]
    · rw [if_neg q]
      split
      · exact ih (l + 1) _ _ (by omega) (by omega) (by omega)
      · exact ih (l + 1) _ _ (by omega) (by omega) (by omega)
/-- what see answers -/
def seA (g : Nat → Int) (n : Nat) (w : Int) : Int := if (3 ≤ n ∧ n ≤ 48 ∧ n % 3 = 0) ∧ rwsO g w (n / 3) 0 = true then ((n / 3 : Nat) : Int) else -1
theorem sx_1 {g a b rf : Nat → Int} {w x y : Int} {n : Nat} (hn : n ≤ 1600) : (F_X9_see g (n : Int) w a b x y rf).1 = seA g n w := by
  obtain ⟨d1, d2⟩ := dv3 hn
  unfold F_X9_see F_X9_takeTape seA
  rw [lf_b_e, lf_b_e]
  have acc : F_X8_accepts g (n : Int) w = if 3 ≤ n ∧ n ≤ 48 ∧ n % 3 = 0 then b2 (rwsO g w (n / 3) 0) else 0 := by
    unfold F_X8_accepts F_X8_accepts_17
    by_cases q1 : (n : Int) < 3
    · rw [if_pos q1, if_neg (by omega)]
    · rw [if_neg q1]
      by_cases q2 : (48 : Int) < (n : Int)
      · rw [if_pos q2, if_neg (by omega)]
      · rw [if_neg q2, d1]
        by_cases q3 : n % 3 = 0
        · rw [if_pos (by omega), if_pos ⟨by omega, by omega, q3⟩]
          have := ac_l (g := g) (w := w) (n / 3) 0 52 (by omega)
          rw [show 0 + 3 * (n / 3) = n from by omega] at this
          exact this
        · rw [if_neg (by omega), if_neg (by omega)]
  rw [acc]
  by_cases q : 3 ≤ n ∧ n ≤ 48 ∧ n % 3 = 0
  · rw [if_pos q]
    cases c : rwsO g w (n / 3) 0 with
    | false =>
      rw [if_pos (show b2 false = 0 from rfl), if_neg (fun r => Bool.noConfusion r.2)]
      unfold F_X9_refuse
      rw [lf_p_e]
    | true =>
      rw [if_neg (show ¬ b2 true = 0 from by decide), if_pos ⟨q, rfl⟩]
      have hk : (F_X8_keep a b g (n : Int)).1 = ((n / 3 : Nat) : Int) := by
        unfold F_X8_keep
        rw [d2]
        exact ke_l 18 0 a b (Int.le_refl _) (by omega) (by omega)
      generalize F_X8_keep a b g (n : Int) = R at hk ⊢
      obtain ⟨r1, r2, r3, r4⟩ := R
      rw [lf_p_e, lf_p_e, lf_p_e]
      exact hk
  · rw [if_neg q, if_pos rfl, if_neg (fun r => q r.1)]
    unfold F_X9_refuse
    rw [lf_p_e]
theorem sm_121 {g rf : Nat → Int} {s c fl : Int} (hc : lf_o lf_idiv s 3 = c) : ∀ (f : Nat) (l : Int) (A : Nat → Int), 0 ≤ l → l ≤ c → c - l < (f : Int) → (F_X10_see_121 s g rf f fl l A).1 = c := by
  intro f
  induction f with
  | zero => intro l A h0 h1 h2; omega
  | succ f ih =>
    intro l A h0 h1 h2
    show (F_X10_see_121b s g rf (F_X10_see_121 s g rf f) fl l A).1 = c
    unfold F_X10_see_121b
    rw [hc]
    by_cases q : c ≤ l
    · rw [if_pos q]
    · rw [if_neg q]
      split
      · exact ih (l + 1) _ (by omega) (by omega) (by omega)
      · exact ih (l + 1) _ (by omega) (by omega) (by omega)
theorem sm_109n {g rf rwv : Nat → Int} {s rm l : Int} : (F_X10_see_109 s rm g rf rwv (0 : Int) l).1 = -1 := by
  unfold F_X10_see_109 F_X10_refuses_a0_1
  rw [if_pos rfl, lf_p_e]
theorem sm_109y {g rf rwv : Nat → Int} {rm l : Int} {n : Nat} (hn : n ≤ 48) : (F_X10_see_109 (n : Int) rm g rf rwv (1 : Int) l).1 = ((n / 3 : Nat) : Int) := by
  unfold F_X10_see_109
  rw [if_neg (show ¬ (1 : Int) = 0 from by decide)]
  exact sm_121 (dv3 (by omega)).2 18 0 rwv (Int.le_refl _) (by omega) (by omega)
theorem sm_36n {g rf M rwv : Nat → Int} {s rm l : Int} (k : Nat) : (F_X10_see_36 s rm g rf M rwv (k + 1) (0 : Int) l).1 = -1 := by
  show (F_X10_see_36b s rm g rf M rwv _ (0 : Int) l).1 = -1
  unfold F_X10_see_36b
  split
  · exact sm_109n
  · rw [if_pos rfl]
    exact sm_109n
theorem sm_36 {g rf M rwv : Nat → Int} {rm w : Int} {n : Nat} (hn : n ≤ 48) (hM : M 3 = w) (hg : ∀ k, k < 1600 → 0 ≤ g k) : ∀ (m l f : Nat), l + 3 * m = n → m + 1 < f → (F_X10_see_36 (n : Int) rm g rf M rwv f (1 : Int) (l : Int)).1 = if rwsO g w m l = true then ((n / 3 : Nat) : Int) else -1 := by
  intro m
  induction m with
  | zero =>
    intro l f hl hf
    obtain ⟨k, rfl⟩ : ∃ k, f = k + 1 := ⟨f - 1, by omega⟩
    show (F_X10_see_36b (n : Int) rm g rf M rwv _ (1 : Int) (l : Int)).1 = _
    unfold F_X10_see_36b
    rw [if_pos (by omega), if_pos (show rwsO g w 0 l = true from rfl)]
    exact sm_109y hn
  | succ m ih =>
    intro l f hl hf
    obtain ⟨k, rfl⟩ : ∃ k, f = k + 1 := ⟨f - 1, by omega⟩
    obtain ⟨k', rfl⟩ : ∃ j, k = j + 1 := ⟨k - 1, by omega⟩
    have t0 : Int.toNat (l : Int) = l := Int.toNat_natCast l
    have t1 : Int.toNat ((l : Int) + (1 : Int)) = l + 1 := by omega
    have t2 : Int.toNat ((l : Int) + (2 : Int)) = l + 2 := by omega
    have hn' : (F_X10_see_36 (n : Int) rm g rf M rwv (k' + 1) (1 : Int) ((l : Int) + (3 : Int))).1 = if rwsO g w m (l + 3) = true then ((n / 3 : Nat) : Int) else -1 := ih (l + 3) (k' + 1) (by omega) (by omega)
    have hz : (F_X10_see_36 (n : Int) rm g rf M rwv (k' + 1) (0 : Int) ((l : Int) + (3 : Int))).1 = -1 := sm_36n k'
    have hgl := hg l (by omega)
    show (F_X10_see_36b (n : Int) rm g rf M rwv (F_X10_see_36 (n : Int) rm g rf M rwv (k' + 1)) (1 : Int) (l : Int)).1 = if (rwO g w l && rwsO g w m (l + 3)) = true then _ else _
    unfold F_X10_see_36b F_X10_see_101 F_X10_see_97 F_X10_see_102 F_X10_isWalker lf_isin
    rw [if_neg (by omega), if_neg (show ¬ (1 : Int) = 0 from by decide), lf_b_e, lf_b_e, t0, t1, t2, hM]
    unfold rwO
    have ec : (256 : Int) * g (l + 1) + g (l + 2) = g (l + 1) * 256 + g (l + 2) := by omega
    rw [ec]
    by_cases q : w ≤ g l
    · rw [if_neg (show ¬ (0 ≤ g l ∧ g l ≤ w - 1) from by omega), if_pos rfl, decide_eq_false (by omega), Bool.false_and, Bool.false_and, if_neg (fun r => Bool.noConfusion r)]
      exact hz
    · rw [if_pos (show 0 ≤ g l ∧ g l ≤ w - 1 from by omega), if_neg (show ¬ (1 : Int) = 0 from by decide), decide_eq_true (by omega), Bool.true_and]
      by_cases q2 : g (l + 1) * 256 + g (l + 2) < 300
      · rw [if_pos q2, decide_eq_true q2, Bool.true_or, Bool.true_and]
        exact hn'
      · rw [if_neg q2, decide_eq_false q2, Bool.false_or]
        by_cases q3 : g (l + 1) * 256 + g (l + 2) = 65535
        · rw [if_pos q3, decide_eq_true q3, Bool.true_and]
          exact hn'
        · rw [if_neg q3, decide_eq_false q3, Bool.false_and, if_neg (fun r => Bool.noConfusion r)]
          exact hz
theorem sm_1 {g rf M rwv : Nat → Int} {rm : Int} {n : Nat} (hn : n ≤ 1600) (hg : ∀ k, k < 1600 → 0 ≤ g k) : (F_X10_see (n : Int) rm g rf M rwv).1 = seA g n (M 3) := by
  obtain ⟨d1, d2⟩ := dv3 hn
  unfold F_X10_see seA
  rw [d1, d2]
  by_cases q1 : (n : Int) ≤ 0
  · rw [if_pos q1, if_neg (by omega)]
    exact sm_36n 53
  · rw [if_neg q1]
    by_cases q2 : n % 3 = 0
    · rw [if_pos (by omega)]
      by_cases q3 : (16 : Int) < ((n / 3 : Nat) : Int)
      · rw [if_pos q3, if_neg (by omega)]
        exact sm_36n 53
      · rw [if_neg q3]
        have h := sm_36 (rf := rf) (M := M) (rwv := rwv) (rm := rm) (n := n) (by omega) rfl hg (n / 3) 0 54 (by omega) (by omega)
        have h' : (F_X10_see_36 (n : Int) rm g rf M rwv 54 (1 : Int) (0 : Int)).1 = if rwsO g (M 3) (n / 3) 0 = true then ((n / 3 : Nat) : Int) else -1 := h
        rw [h']
        by_cases q4 : rwsO g (M 3) (n / 3) 0 = true
        · rw [if_pos q4, if_pos ⟨⟨by omega, by omega, q2⟩, q4⟩]
        · rw [if_neg q4, if_neg (fun r => q4 r.2)]
    · rw [if_neg (by omega), if_neg (by omega)]
      exact sm_36n 53
/-! on -/
def rmB : Bool := (List.range 1006).all (fun s => decide (0 ≤ lf_o lf_irem (s : Int) 251) && decide (lf_o lf_irem (s : Int) 251 ≤ 250))
theorem rm251 {x : Int} (h0 : 0 ≤ x) (h1 : x ≤ 1005) : 0 ≤ lf_o lf_irem x 251 ∧ lf_o lf_irem x 251 ≤ 250 := by
  have hd : rmB = true := by decide +kernel
  obtain ⟨s, rfl⟩ := Int.eq_ofNat_of_zero_le h0
  have := List.all_eq_true.mp hd s (List.mem_range.mpr (by omega))
  rw [Bool.and_eq_true] at this
  exact ⟨of_decide_eq_true this.1, of_decide_eq_true this.2⟩
theorem chk_l {g : Nat → Int} {p : Int} (hg : ∀ k, k < 1600 → 0 ≤ g k ∧ g k ≤ 255) (hp : p ≤ 10) : ∀ (f : Nat) (x l : Int), 0 ≤ x → x ≤ 250 → 0 ≤ l → F_X9_check_i1_0_10_5 g p f x l = F_X10_checked_i1_0_10_5 g p f x l := by
  intro f
  induction f with
  | zero => intro x l h0 h1 h2; rfl
  | succ f ih =>
    intro x l h0 h1 h2
    show F_X9_check_i1_0_10_5b g p (F_X9_check_i1_0_10_5 g p f) x l = F_X10_checked_i1_0_10_5b g p (F_X10_checked_i1_0_10_5 g p f) x l
    unfold F_X9_check_i1_0_10_5b F_X10_checked_i1_0_10_5b
    by_cases q : p ≤ l
    · rw [if_pos q, if_pos q]
    · have hb := hg l.toNat (by omega)
      rw [if_neg q, if_neg q, lo_mul (by omega) (by omega) (by omega) (by omega) (by omega) (by omega), lo_add (by omega) (by omega) (by omega) (by omega) (by omega) (by omega)]
      have hr := rm251 (x := 3 * x + g l.toNat) (by omega) (by omega)
      exact ih _ _ hr.1 hr.2 (by omega)
theorem chk_1 {g : Nat → Int} {p : Int} (hg : ∀ k, k < 1600 → 0 ≤ g k ∧ g k ≤ 255) (hp : p ≤ 10) : F_X9_check_i1_0_10 g p = F_X10_checked_i1_0_10 g p := chk_l hg hp 12 101 0 (by decide) (by decide) (Int.le_refl _)
/-- trusts in an image -/
def trO (g : Nat → Int) : Nat → Nat → Bool
  | 0, _ => true
  | m + 1, l => decide (g (4 + l) ≤ 9) && trO g m (l + 1)
/-- what an image must hold beside them -/
def imO (g : Nat → Int) (cy k s : Int) : Bool := !decide (999 < g 0 * 256 + g 1) && (!decide (3 ≤ g 2) && (decide (1 ≤ g 3 ∧ g 3 ≤ 60 ∧ g 3 < cy) && decide (g (Int.toNat (s - 1)) = F_X10_checked_i1_0_10 g (s - 1))))
theorem ag_1 {cy x : Int} : F_X4_allowsGreen cy x = b2 (decide (1 ≤ x ∧ x ≤ 60 ∧ x < cy)) := by
  unfold F_X4_allowsGreen F_X4_allowsGreen_23
  by_cases q : 1 ≤ x ∧ x ≤ 60 ∧ x < cy
  · rw [if_neg (by omega), if_neg (by omega), if_neg (by omega), decide_eq_true q]
    rfl
  · rw [decide_eq_false q]
    by_cases q1 : x < 1
    · rw [if_pos q1]
      rfl
    · rw [if_neg q1]
      by_cases q2 : 60 < x
      · rw [if_pos q2]
        rfl
      · rw [if_neg q2, if_pos (by omega)]
        rfl
theorem gl_1 {bar : Nat → Int} {x : Int} : F_X10_isGreenLong_a1_60 bar x = b2 (decide (1 ≤ x ∧ x ≤ 60 ∧ x < bar 4)) := by
  unfold F_X10_isGreenLong_a1_60 F_X10_isGreenLong_a1_60_25 lf_isin
  by_cases q1 : 1 ≤ x ∧ x ≤ 60
  · rw [if_pos q1, if_neg (show ¬ (1 : Int) = 0 from by decide)]
    by_cases q2 : bar 4 ≤ x
    · rw [if_pos q2, decide_eq_false (by omega)]
      rfl
    · rw [if_neg q2, decide_eq_true ⟨q1.1, q1.2, by omega⟩]
      rfl
  · rw [if_neg q1, if_pos rfl, decide_eq_false (fun r => q1 ⟨r.1, r.2.1⟩)]
    rfl
theorem ii_l {g : Nat → Int} {cy s : Int} (hg : ∀ k, k < 1600 → 0 ≤ g k ∧ g k ≤ 255) (hs : s ≤ 11) : ∀ (m l f : Nat), m < f → F_X9_isImage_24 g cy ((l + m : Nat) : Int) s f (l : Int) = b2 (trO g m l && imO g cy ((l + m : Nat) : Int) s) := by
  intro m
  induction m with
  | zero =>
    intro l f hf
    obtain ⟨k, rfl⟩ : ∃ k, f = k + 1 := ⟨f - 1, by omega⟩
    show F_X9_isImage_24b g cy ((l + 0 : Nat) : Int) s _ (l : Int) = b2 (true && imO g cy ((l + 0 : Nat) : Int) s)
    unfold F_X9_isImage_24b F_X9_isImage_130 imO
    rw [Bool.true_and, if_pos (by omega), show Int.toNat (0 : Int) = 0 from rfl, show Int.toNat (1 : Int) = 1 from rfl, show Int.toNat (2 : Int) = 2 from rfl, show Int.toNat (3 : Int) = 3 from rfl]
    by_cases q1 : 999 < g 0 * 256 + g 1
    · rw [if_pos q1, decide_eq_true q1]
      rfl
    · rw [if_neg q1, decide_eq_false q1]
      by_cases q2 : 3 ≤ g 2
      · rw [if_pos q2, decide_eq_true q2]
        rfl
      · rw [if_neg q2, decide_eq_false q2, lf_b_e, ag_1]
        cases decide (1 ≤ g 3 ∧ g 3 ≤ 60 ∧ g 3 < cy) with
        | false =>
          rw [if_pos (show b2 false = 0 from rfl)]
          rfl
        | true =>
          rw [if_neg (show ¬ b2 true = 0 from by decide), lf_b_e, chk_1 hg (by omega)]
          by_cases q4 : g (Int.toNat (s - 1)) = F_X10_checked_i1_0_10 g (s - 1)
          · rw [if_pos q4, decide_eq_true q4]
            rfl
          · rw [if_neg q4, decide_eq_false q4]
            rfl
  | succ m ih =>
    intro l f hf
    obtain ⟨k, rfl⟩ : ∃ k, f = k + 1 := ⟨f - 1, by omega⟩
    have e : l + (m + 1) = (l + 1) + m := by omega
    show F_X9_isImage_24b g cy ((l + (m + 1) : Nat) : Int) s (F_X9_isImage_24 g cy ((l + (m + 1) : Nat) : Int) s k) (l : Int) = b2 ((decide (g (4 + l) ≤ 9) && trO g m (l + 1)) && imO g cy ((l + (m + 1) : Nat) : Int) s)
    unfold F_X9_isImage_24b
    rw [if_neg (by omega), show Int.toNat ((4 : Int) + (l : Int)) = 4 + l from by omega]
    by_cases q : g (4 + l) ≤ 9
    · rw [if_pos q, decide_eq_true q, Bool.true_and, e]
      exact ih (l + 1) k (by omega)
    · rw [if_neg q, decide_eq_false q, Bool.false_and, Bool.false_and]
      rfl
theorem i90_l {g M : Nat → Int} {k : Nat} (hM : M 2 = (k : Int)) : ∀ (m l f : Nat), l + m = k → m < f → F_X10_isImage_90 g M f (l : Int) = b2 (trO g m l) := by
  intro m
  induction m with
  | zero =>
    intro l f hl hf
    obtain ⟨j, rfl⟩ : ∃ k, f = k + 1 := ⟨f - 1, by omega⟩
    show F_X10_isImage_90b g M _ (l : Int) = b2 true
    unfold F_X10_isImage_90b
    rw [lf_b_e, if_pos (by omega)]
    rfl
  | succ m ih =>
    intro l f hl hf
    obtain ⟨j, rfl⟩ : ∃ k, f = k + 1 := ⟨f - 1, by omega⟩
    show F_X10_isImage_90b g M (F_X10_isImage_90 g M j) (l : Int) = b2 (decide (g (4 + l) ≤ 9) && trO g m (l + 1))
    unfold F_X10_isImage_90b
    rw [lf_b_e, if_neg (by omega), show Int.toNat ((4 : Int) + (l : Int)) = 4 + l from by omega]
    by_cases q : g (4 + l) ≤ 9
    · rw [if_pos q, decide_eq_true q, Bool.true_and]
      exact ih (l + 1) j (by omega) (by omega)
    · rw [if_neg q, decide_eq_false q, Bool.false_and]
      rfl
/-- what on answers -/
def onA (g : Nat → Int) (cy s : Int) (k : Nat) : Int := if 0 < cy ∧ s = (k : Int) + 5 then b2 (trO g k 0 && imO g cy (k : Int) s) else 0
theorem ox_1 {g t rf : Nat → Int} {cy s d r gr x1 x2 x3 x4 : Int} {k : Nat} (hk : k ≤ 6) (hg : ∀ k, k < 1600 → 0 ≤ g k ∧ g k ≤ 255) : (F_X9_on g s cy (k : Int) d r gr t x1 x2 x3 x4 rf).1 = onA g cy s k := by
  unfold F_X9_on F_X9_takeTape onA
  rw [lf_b_e, lf_b_e]
  have hi : F_X9_isImage g cy (k : Int) s = if 0 < cy ∧ s = (k : Int) + 5 then b2 (trO g k 0 && imO g cy (k : Int) s) else 0 := by
    unfold F_X9_isImage F_X9_stands F_X9_isImage_20
    rw [lf_b_e]
    by_cases q1 : cy ≤ 0
    · rw [if_pos q1, if_pos rfl, if_neg (by omega)]
    · rw [if_neg q1, if_neg (show ¬ (1 : Int) = 0 from by decide)]
      by_cases q2 : s = (k : Int) + 5
      · rw [if_pos q2, if_pos (show 0 < cy ∧ s = (k : Int) + 5 from ⟨by omega, q2⟩)]
        have := ii_l (cy := cy) (s := s) hg (by omega) k 0 8 (by omega)
        rw [show 0 + k = k from by omega] at this
        exact this
      · rw [if_neg q2, if_neg (fun r => q2 r.2)]
  rw [hi]
  by_cases q : 0 < cy ∧ s = (k : Int) + 5
  · rw [if_pos q]
    cases trO g k 0 && imO g cy (k : Int) s with
    | false =>
      rw [if_pos (show b2 false = 0 from rfl)]
      unfold F_X9_deny
      rw [lf_p_e]
      rfl
    | true =>
      rw [if_neg (show ¬ b2 true = 0 from by decide)]
      rfl
  · rw [if_neg q, if_pos rfl]
    unfold F_X9_deny
    rw [lf_p_e]
theorem on_79 {g rf M : Nat → Int} {k : Nat} (hM : M 2 = (k : Int)) : ∀ (f : Nat) (l : Int) (A : Nat → Int), 0 ≤ l → l ≤ (k : Int) → (k : Int) - l < (f : Int) → (F_X10_on_79 g rf M f A l).1 = 1 := by
  intro f
  induction f with
  | zero => intro l A h0 h1 h2; omega
  | succ f ih =>
    intro l A h0 h1 h2
    show (F_X10_on_79b g rf M (F_X10_on_79 g rf M f) A l).1 = 1
    unfold F_X10_on_79b
    rw [lf_b_e]
    by_cases q : M 2 ≤ l
    · rw [if_pos q]
    · rw [if_neg q]
      exact ih (l + 1) _ (by omega) (by omega) (by omega)
theorem om_1 {g rf M bar now : Nat → Int} {s isc und : Int} {k : Nat} (hk : k ≤ 6) (hM : M 2 = (k : Int)) (hi : (isc = 0 ∧ bar 4 = 0) ∨ (isc = 1 ∧ 10 ≤ bar 4)) : (F_X10_on s isc und g rf M bar now).1 = onA g (bar 4) s k := by
  unfold F_X10_on onA
  rw [lf_b_e]
  have hI : F_X10_isImage isc g M bar s = if 0 < bar 4 ∧ s = (k : Int) + 5 then b2 (trO g k 0 && imO g (bar 4) (k : Int) s) else 0 := by
    unfold F_X10_isImage F_X10_isImage_86 imO
    by_cases q0 : isc = 0
    · rw [if_pos q0, if_neg (by omega)]
    · rw [if_neg q0, lf_b_e, hM, show Int.toNat (0 : Int) = 0 from rfl, show Int.toNat (1 : Int) = 1 from rfl, show Int.toNat (2 : Int) = 2 from rfl, show Int.toNat (3 : Int) = 3 from rfl]
      by_cases q1 : s = (k : Int) + 5
      · rw [if_pos (show s = 5 + (k : Int) from by omega), if_pos (show 0 < bar 4 ∧ s = (k : Int) + 5 from ⟨by omega, q1⟩), lf_b_e]
        by_cases q2 : g (Int.toNat (s - 1)) = F_X10_checked_i1_0_10 g (s - 1)
        · rw [if_pos q2, decide_eq_true q2, show (256 : Int) * g 0 + g 1 = g 0 * 256 + g 1 from by omega]
          by_cases q3 : 999 < g 0 * 256 + g 1
          · rw [if_pos q3, decide_eq_true q3, Bool.not_true, Bool.false_and, Bool.and_false]
            rfl
          · rw [if_neg q3, decide_eq_false q3, Bool.not_false, Bool.true_and]
            by_cases q4 : 2 < g 2
            · rw [if_pos q4, decide_eq_true (show 3 ≤ g 2 from by omega), Bool.not_true, Bool.false_and, Bool.and_false]
              rfl
            · rw [if_neg q4, decide_eq_false (show ¬ 3 ≤ g 2 from by omega), Bool.not_false, Bool.true_and, lf_b_e, gl_1]
              cases decide (1 ≤ g 3 ∧ g 3 ≤ 60 ∧ g 3 < bar 4) with
              | false =>
                rw [if_pos (show b2 false = 0 from rfl), Bool.false_and, Bool.and_false]
                rfl
              | true =>
                rw [if_neg (show ¬ b2 true = 0 from by decide), Bool.true_and, Bool.and_true]
                exact i90_l hM k 0 8 (by omega) (by omega)
        · rw [if_neg q2, decide_eq_false q2, Bool.and_false, Bool.and_false, Bool.and_false, Bool.and_false]
          rfl
      · rw [if_neg (show ¬ s = 5 + (k : Int) from by omega), if_neg (fun r => q1 r.2)]
  rw [hI]
  by_cases q : 0 < bar 4 ∧ s = (k : Int) + 5
  · rw [if_pos q]
    cases trO g k 0 && imO g (bar 4) (k : Int) s with
    | false => rw [if_pos (show b2 false = 0 from rfl)]; rfl
    | true =>
      rw [if_neg (show ¬ b2 true = 0 from by decide), on_79 hM 8 0 _ (Int.le_refl _) (by omega) (by omega)]
      rfl
  · rw [if_neg q, if_pos rfl]
