/-! images, what is seen: on both sides -/
theorem ii_x {g : Nat → Int} {cy s : Int} {k : Nat} (hk : k ≤ 6) (hg : ∀ k, k < 1600 → 0 ≤ g k ∧ g k ≤ 255) : F_X9_isImage g cy (k : Int) s = if 0 < cy ∧ s = (k : Int) + 5 then b2 (trO g k 0 && imO g cy (k : Int) s) else 0 := by
  unfold F_X9_isImage F_X9_stands F_X9_isImage_20
  rw [lf_b_e]
  by_cases q1 : cy ≤ 0
  · rw [if_pos q1, if_pos rfl, if_neg (by omega)]
  · rw [if_neg q1, if_neg (show ¬ (1 : Int) = 0 from by decide)]
    by_cases q2 : s = (k : Int) + 5
    · rw [if_pos q2, if_pos (show 0 < cy ∧ s = (k : Int) + 5 from ⟨by omega, q2⟩)]
      have := ii_l (cy := cy) (s := s) hg (by omega) k 0 8 (by omega)
      rw [show 0 + k = k from by omega] at this
      exact this
    · rw [if_neg q2, if_neg (fun r => q2 r.2)]
theorem ii_m {g M bar : Nat → Int} {s isc : Int} {k : Nat} (hk : k ≤ 6) (hM : M 2 = (k : Int)) (hi : (isc = 0 ∧ bar 4 = 0) ∨ (isc = 1 ∧ 10 ≤ bar 4)) : F_X10_isImage isc g M bar s = if 0 < bar 4 ∧ s = (k : Int) + 5 then b2 (trO g k 0 && imO g (bar 4) (k : Int) s) else 0 := by
  unfold F_X10_isImage F_X10_isImage_86 imO
  by_cases q0 : isc = 0
  · rw [if_pos q0, if_neg (by omega)]
  · rw [if_neg q0, lf_b_e, hM, show Int.toNat (0 : Int) = 0 from rfl, show Int.toNat (1 : Int) = 1 from rfl, show Int.toNat (2 : Int) = 2 from rfl, show Int.toNat (3 : Int) = 3 from rfl]
    by_cases q1 : s = (k : Int) + 5
    · rw [if_pos (show s = 5 + (k : Int) from by omega), if_pos (show 0 < bar 4 ∧ s = (k : Int) + 5 from ⟨by omega, q1⟩), lf_b_e]
      by_cases q2 : g (Int.toNat (s - 1)) = F_X10_checked_i1_0_10 g (s - 1)
      · rw [if_pos q2, decide_eq_true q2, show (256 : Int) * g 0 + g 1 = g 0 * 256 + g 1 from by omega]
        by_cases q3 : 999 < g 0 * 256 + g 1
        · rw [if_pos q3, decide_eq_true q3, Bool.not_true, Bool.false_and, Bool.and_false]
          rfl
        · rw [if_neg q3, decide_eq_false q3, Bool.not_false, Bool.true_and]
          by_cases q4 : 2 < g 2
          · rw [if_pos q4, decide_eq_true (show 3 ≤ g 2 from by omega), Bool.not_true, Bool.false_and, Bool.and_false]
            rfl
          · rw [if_neg q4, decide_eq_false (show ¬ 3 ≤ g 2 from by omega), Bool.not_false, Bool.true_and, lf_b_e, gl_1]
            cases decide (1 ≤ g 3 ∧ g 3 ≤ 60 ∧ g 3 < bar 4) with
            | false =>
              rw [if_pos (show b2 false = 0 from rfl), Bool.false_and, Bool.and_false]
              rfl
            | true =>
              rw [if_neg (show ¬ b2 true = 0 from by decide), Bool.true_and, Bool.and_true]
              exact i90_l hM k 0 8 (by omega) (by omega)
      · rw [if_neg q2, decide_eq_false q2, Bool.and_false, Bool.and_false, Bool.and_false, Bool.and_false]
        rfl
    · rw [if_neg (show ¬ s = 5 + (k : Int) from by omega), if_neg (fun r => q1 r.2)]
theorem acc_x {g : Nat → Int} {w : Int} {n : Nat} (hn : n ≤ 1600) : F_X8_accepts g (n : Int) w = if 3 ≤ n ∧ n ≤ 48 ∧ n % 3 = 0 then b2 (rwsO g w (n / 3) 0) else 0 := by
  obtain ⟨d1, d2⟩ := dv3 hn
  unfold F_X8_accepts F_X8_accepts_17
  by_cases q1 : (n : Int) < 3
  · rw [if_pos q1, if_neg (by omega)]
  · rw [if_neg q1]
    by_cases q2 : (48 : Int) < (n : Int)
    · rw [if_pos q2, if_neg (by omega)]
    · rw [if_neg q2, d1]
      by_cases q3 : n % 3 = 0
      · rw [if_pos (by omega), if_pos ⟨by omega, by omega, q3⟩]
        have := ac_l (g := g) (w := w) (n / 3) 0 52 (by omega)
        rw [show 0 + 3 * (n / 3) = n from by omega] at this
        exact this
      · rw [if_neg (by omega), if_neg (by omega)]
theorem sq_109n {g rf rwv : Nat → Int} {s rm l : Int} : (F_X10_see_109 s rm g rf rwv (0 : Int) l) = ((-1 : Int), rm, rfN rf 1, rwv) := by
  unfold F_X10_see_109 F_X10_refuses_a0_1 rfN
  rw [if_pos rfl, lf_p_e]
theorem sq_109y {g rf rwv : Nat → Int} {rm l : Int} {n : Nat} (hn : n ≤ 48) : (F_X10_see_109 (n : Int) rm g rf rwv (1 : Int) l) = F_X10_see_121 (n : Int) g rf 18 (1 : Int) (0 : Int) rwv := by
  unfold F_X10_see_109
  rw [if_neg (show ¬ (1 : Int) = 0 from by decide)]
theorem sq_36n {g rf M rwv : Nat → Int} {s rm l : Int} (k : Nat) : (F_X10_see_36 s rm g rf M rwv (k + 1) (0 : Int) l) = ((-1 : Int), rm, rfN rf 1, rwv) := by
  show (F_X10_see_36b s rm g rf M rwv _ (0 : Int) l) = ((-1 : Int), rm, rfN rf 1, rwv)
  unfold F_X10_see_36b
  split
  · exact sq_109n
  · rw [if_pos rfl]
    exact sq_109n
theorem sq_36 {g rf M rwv : Nat → Int} {rm w : Int} {n : Nat} (hn : n ≤ 48) (hM : M 3 = w) (hg : ∀ k, k < 1600 → 0 ≤ g k) : ∀ (m l f : Nat), l + 3 * m = n → m + 1 < f → (F_X10_see_36 (n : Int) rm g rf M rwv f (1 : Int) (l : Int)) = if rwsO g w m l = true then F_X10_see_121 (n : Int) g rf 18 (1 : Int) (0 : Int) rwv else ((-1 : Int), rm, rfN rf 1, rwv) := by
  intro m
  induction m with
  | zero =>
    intro l f hl hf
    obtain ⟨k, rfl⟩ : ∃ k, f = k + 1 := ⟨f - 1, by omega⟩
    show (F_X10_see_36b (n : Int) rm g rf M rwv _ (1 : Int) (l : Int)) = _
    unfold F_X10_see_36b
    rw [if_pos (by omega), if_pos (show rwsO g w 0 l = true from rfl)]
    exact sq_109y hn
  | succ m ih =>
    intro l f hl hf
    obtain ⟨k, rfl⟩ : ∃ k, f = k + 1 := ⟨f - 1, by omega⟩
    obtain ⟨k', rfl⟩ : ∃ j, k = j + 1 := ⟨k - 1, by omega⟩
    have t0 : Int.toNat (l : Int) = l := Int.toNat_natCast l
    have t1 : Int.toNat ((l : Int) + (1 : Int)) = l + 1 := by omega
    have t2 : Int.toNat ((l : Int) + (2 : Int)) = l + 2 := by omega
    have hn' : (F_X10_see_36 (n : Int) rm g rf M rwv (k' + 1) (1 : Int) ((l : Int) + (3 : Int))) = if rwsO g w m (l + 3) = true then F_X10_see_121 (n : Int) g rf 18 (1 : Int) (0 : Int) rwv else ((-1 : Int), rm, rfN rf 1, rwv) := ih (l + 3) (k' + 1) (by omega) (by omega)
    have hz : (F_X10_see_36 (n : Int) rm g rf M rwv (k' + 1) (0 : Int) ((l : Int) + (3 : Int))) = ((-1 : Int), rm, rfN rf 1, rwv) := sq_36n k'
    have hgl := hg l (by omega)
    show (F_X10_see_36b (n : Int) rm g rf M rwv (F_X10_see_36 (n : Int) rm g rf M rwv (k' + 1)) (1 : Int) (l : Int)) = if (rwO g w l && rwsO g w m (l + 3)) = true then _ else _
    unfold F_X10_see_36b F_X10_see_101 F_X10_see_97 F_X10_see_102 F_X10_isWalker lf_isin
    rw [if_neg (by omega), if_neg (show ¬ (1 : Int) = 0 from by decide), lf_b_e, lf_b_e, t0, t1, t2, hM]
    unfold rwO
    have ec : (256 : Int) * g (l + 1) + g (l + 2) = g (l + 1) * 256 + g (l + 2) := by omega
    rw [ec]
    by_cases q : w ≤ g l
    · rw [if_neg (show ¬ (0 ≤ g l ∧ g l ≤ w - 1) from by omega), if_pos rfl, decide_eq_false (by omega), Bool.false_and, Bool.false_and, if_neg (fun r => Bool.noConfusion r)]
      exact hz
    · rw [if_pos (show 0 ≤ g l ∧ g l ≤ w - 1 from by omega), if_neg (show ¬ (1 : Int) = 0 from by decide), decide_eq_true (by omega), Bool.true_and]
      by_cases q2 : g (l + 1) * 256 + g (l + 2) < 300
      · rw [if_pos q2, decide_eq_true q2, Bool.true_or, Bool.true_and]
        exact hn'
      · rw [if_neg q2, decide_eq_false q2, Bool.false_or]
        by_cases q3 : g (l + 1) * 256 + g (l + 2) = 65535
        · rw [if_pos q3, decide_eq_true q3, Bool.true_and]
          exact hn'
        · rw [if_neg q3, decide_eq_false q3, Bool.false_and, if_neg (fun r => Bool.noConfusion r)]
          exact hz
theorem sq_1 {g rf M rwv : Nat → Int} {rm : Int} {n : Nat} (hn : n ≤ 1600) (hg : ∀ k, k < 1600 → 0 ≤ g k) : (F_X10_see (n : Int) rm g rf M rwv) = if (3 ≤ n ∧ n ≤ 48 ∧ n % 3 = 0) ∧ rwsO g (M 3) (n / 3) 0 = true then F_X10_see_121 (n : Int) g rf 18 (1 : Int) (0 : Int) rwv else ((-1 : Int), rm, rfN rf 1, rwv) := by
  obtain ⟨d1, d2⟩ := dv3 hn
  unfold F_X10_see
  rw [d1, d2]
  by_cases q1 : (n : Int) ≤ 0
  · rw [if_pos q1, if_neg (by omega)]
    exact sq_36n 53
  · rw [if_neg q1]
    by_cases q2 : n % 3 = 0
    · rw [if_pos (by omega)]
      by_cases q3 : (16 : Int) < ((n / 3 : Nat) : Int)
      · rw [if_pos q3, if_neg (by omega)]
        exact sq_36n 53
      · rw [if_neg q3]
        have h := sq_36 (rf := rf) (M := M) (rwv := rwv) (rm := rm) (n := n) (by omega) rfl hg (n / 3) 0 54 (by omega) (by omega)
        have h' : (F_X10_see_36 (n : Int) rm g rf M rwv 54 (1 : Int) (0 : Int)) = if rwsO g (M 3) (n / 3) 0 = true then F_X10_see_121 (n : Int) g rf 18 (1 : Int) (0 : Int) rwv else ((-1 : Int), rm, rfN rf 1, rwv) := h
        rw [h']
        by_cases q4 : rwsO g (M 3) (n / 3) 0 = true
        · rw [if_pos q4, if_pos ⟨⟨by omega, by omega, q2⟩, q4⟩]
        · rw [if_neg q4, if_neg (fun r => q4 r.2)]
    · rw [if_neg (by omega), if_neg (by omega)]
      exact sq_36n 53
def d8B : Bool := (List.range 1000).all (fun d => decide (lf_o lf_ishr (d : Int) 8 = lf_o lf_idiv (d : Int) 256) && decide (lf_o lf_iand (d : Int) 255 = lf_o lf_irem (d : Int) 256))
theorem d8_x {d : Int} (h : 0 ≤ d ∧ d ≤ 999) : lf_o lf_ishr d 8 = lf_o lf_idiv d 256 ∧ lf_o lf_iand d 255 = lf_o lf_irem d 256 := by
  obtain ⟨n, rfl⟩ := Int.eq_ofNat_of_zero_le h.1
  have e := List.all_eq_true.mp (show d8B = true from by decide +kernel) n (List.mem_range.mpr (by omega))
  rw [Bool.and_eq_true] at e
  exact ⟨of_decide_eq_true e.1, of_decide_eq_true e.2⟩
section IM
variable {nW nK : Nat} {oC oR oL : Option (List Int)} {s cy ls aw stm d ru gr hnx hct sd sru sgr sA ar pr cr we ha tkn ad aru agr akn rws cmp fnd frl fgr chs chl occ dwn fa pl sM awM isc und nwst rmM moc sdd tk ask red io lg gt icg sg qp ftm ftr ftg mf mp0 p0 p1 p2 p3 p4 : Int} {g clmK pcK kO cA comers code spans nmX tr rD rR rG facts stack str cars gaps known left leaves tab atr atd ats sw ss sec oct refu gM many bar kinds walkers cf ce codes now kept mrw mo refM asd isCar gapM isG isH crM wtM goM hmM prM ciM pile whn : Nat → Int} {rF : Nat → Nat → Int}
theorem ck_cg {A B : Nat → Int} {p : Int} (h : ∀ j : Nat, (j : Int) < p → A j = B j) : ∀ (f : Nat) (x l : Int), 0 ≤ l → F_X9_check_i1_0_10_r11_5 A p f x l = F_X10_checked_i1_0_10_r11_5 B p f x l := by
  intro f
  induction f with
  | zero => intro x l hl; rfl
  | succ f ih =>
    intro x l hl
    show F_X9_check_i1_0_10_r11_5b A p (F_X9_check_i1_0_10_r11_5 A p f) x l = F_X10_checked_i1_0_10_r11_5b B p (F_X10_checked_i1_0_10_r11_5 B p f) x l
    unfold F_X9_check_i1_0_10_r11_5b F_X10_checked_i1_0_10_r11_5b
    by_cases q : p ≤ l
    · rw [if_pos q, if_pos q]
    · rw [if_neg q, if_neg q, h l.toNat (by omega)]
      exact ih _ _ (by omega)
theorem im_run (hM : many 2 = (nK : Int)) (hN : ∀ k, k < nK → now (3 + k) = tr k) : ∀ (f l : Nat) (A B : Nat → Int), l ≤ nK → nK - l < f → (∀ j, j < 4 + l → A j = B j) → (F_X9_image_61 (nK : Int) tr f A (l : Int)).1 = (F_X10_image_55 many now f ((4 + l : Nat) : Int) B (l : Int)).1 ∧ (F_X9_image_61 (nK : Int) tr f A (l : Int)).2.1 = (nK : Int) + 5 ∧ (F_X10_image_55 many now f ((4 + l : Nat) : Int) B (l : Int)).2.1 = (nK : Int) + 5 ∧ ∀ j, j < nK + 5 → (F_X9_image_61 (nK : Int) tr f A (l : Int)).2.2 j = (F_X10_image_55 many now f ((4 + l : Nat) : Int) B (l : Int)).2.2 j := by
  intro f
  induction f with
  | zero => intro l A B h1 h2; omega
  | succ f ih =>
    intro l A B h1 h2 h3
    have e1 : F_X9_image_61 (nK : Int) tr (f + 1) A (l : Int) = F_X9_image_61b (nK : Int) tr (F_X9_image_61 (nK : Int) tr f) A (l : Int) := rfl
    have e2 : F_X10_image_55 many now (f + 1) ((4 + l : Nat) : Int) B (l : Int) = F_X10_image_55b many now (F_X10_image_55 many now f) ((4 + l : Nat) : Int) B (l : Int) := rfl
    rw [e1, e2]
    unfold F_X9_image_61b F_X10_image_55b F_X10_writes_f_octets_0_10 F_X10_trustsOf
    rw [lf_b_e, hM]
    by_cases q : l = nK
    · subst q
      have ec : F_X9_check_i1_0_10_r11 A ((4 : Int) + (l : Int)) = F_X10_checked_i1_0_10_r11 B ((4 + l : Nat) : Int) := by
        rw [show ((4 + l : Nat) : Int) = (4 : Int) + (l : Int) from by omega]
        exact ck_cg (fun j hj => h3 j (by omega)) 12 101 0 (Int.le_refl _)
      rw [if_pos (Int.le_refl _), if_pos (Int.le_refl _), lf_b_e, lf_b_e, lf_p_e, ec]
      refine ⟨?_, ?_, ?_, fun j hj => ?_⟩
      · show (4 : Int) + (l : Int) + 1 = ((4 + l : Nat) : Int) + 1
        omega
      · show (4 : Int) + (l : Int) + 1 = _
        omega
      · show ((4 + l : Nat) : Int) + 1 = _
        omega
      · show lf_up A ((4 : Int) + (l : Int)) _ j = lf_up B ((4 + l : Nat) : Int) _ j
        by_cases y : j = 4 + l
        · rw [lf_up_y (by omega), lf_up_y (by omega)]
        · rw [lf_up_o (by omega), lf_up_o (by omega)]
          exact h3 j (by omega)
    · rw [if_neg (by omega), if_neg (by omega), lf_b_e, lf_b_e, lf_p_e, show Int.toNat ((3 : Int) + (l : Int)) = 3 + l from by omega, hN l (by omega), Int.toNat_natCast]
      have hx := ih (l + 1) (lf_up A ((4 : Int) + (l : Int)) (tr l)) (lf_up B ((4 + l : Nat) : Int) (tr l)) (by omega) (by omega) (fun j hj => by
        by_cases y : j = 4 + l
        · rw [lf_up_y (by omega), lf_up_y (by omega)]
        · rw [lf_up_o (by omega), lf_up_o (by omega)]
          exact h3 j (by omega))
      exact hx
/-- image -/
theorem im_t (hK : nK ≤ 6) (hd : 0 ≤ d ∧ d ≤ 999) (hM : many 2 = (nK : Int)) (hN : ndH nK d ru gr tr now) : ∃ O Q, O = F_X9_image (nK : Int) d ru gr tr oct ∧ Q = F_X10_image many now mo ∧ O.1 = Q.1 ∧ O.2.1 = (nK : Int) + 5 ∧ Q.2.1 = (nK : Int) + 5 ∧ ∀ j, j < nK + 5 → O.2.2 j = Q.2.2 j := by
  obtain ⟨a1, a2⟩ := d8_x hd
  have n0 : now (Int.toNat (0 : Int)) = d := hN.1
  have n1 : now (Int.toNat (1 : Int)) = ru := hN.2.1
  have n2 : now (Int.toNat (2 : Int)) = gr := hN.2.2.1
  have hx := im_run (tr := tr) (now := now) hM (fun k hk => (hN.2.2.2 k hk).1) 8 0 (lf_up (lf_up (lf_up (lf_up oct (0 : Int) (lf_o lf_ishr d (8 : Int))) (1 : Int) (lf_o lf_iand d (255 : Int))) (2 : Int) ru) (3 : Int) gr) (lf_up (lf_up (lf_up (lf_up mo (0 : Int) (lf_o lf_idiv d (256 : Int))) (1 : Int) (lf_o lf_irem d (256 : Int))) (2 : Int) ru) (3 : Int) gr) (Nat.zero_le _) (by omega) (fun j hj => by
    have hj4 : j = 0 ∨ j = 1 ∨ j = 2 ∨ j = 3 := by omega
    rcases hj4 with r | r | r | r <;> subst r
    · rw [lf_up_o (by omega), lf_up_o (by omega), lf_up_o (by omega), lf_up_y (by omega), lf_up_o (by omega), lf_up_o (by omega), lf_up_o (by omega), lf_up_y (by omega)]
      exact a1
    · rw [lf_up_o (by omega), lf_up_o (by omega), lf_up_y (by omega), lf_up_o (by omega), lf_up_o (by omega), lf_up_y (by omega)]
      exact a2
    · rw [lf_up_o (by omega), lf_up_y (by omega), lf_up_o (by omega), lf_up_y (by omega)]
    · rw [lf_up_y (by omega), lf_up_y (by omega)])
  rw [show ((4 + 0 : Nat) : Int) = 4 from rfl, show ((0 : Nat) : Int) = 0 from rfl] at hx
  refine ⟨_, _, rfl, rfl, ?_⟩
  unfold F_X9_image F_X10_image F_X10_writes_f_octets_0_10
  rw [lf_p_e, lf_p_e, lf_p_e, lf_p_e, n0, n1, n2, show (0 : Int) + 1 = 1 from rfl, show (1 : Int) + 1 = 2 from rfl, show (2 : Int) + 1 = 3 from rfl, show (3 : Int) + 1 = 4 from rfl]
  exact hx
/-- on -/
theorem on_run (hM : many 2 = (nK : Int)) : ∀ (f l : Nat) (A : Nat → Int), l ≤ nK → nK - l < f → ∃ B, F_X10_on_79 gM refM many f A (l : Int) = ((1 : Int), (0 : Int), B, refM) ∧ (∀ j, l ≤ j → j < nK → B (3 + j) = gM (4 + j)) ∧ ∀ i, i < 3 + l → B i = A i := by
  intro f
  induction f with
  | zero => intro l A h1 h2; omega
  | succ f ih =>
    intro l A h1 h2
    have e2 : F_X10_on_79 gM refM many (f + 1) A (l : Int) = F_X10_on_79b gM refM many (F_X10_on_79 gM refM many f) A (l : Int) := rfl
    rw [e2]
    unfold F_X10_on_79b
    rw [lf_b_e, hM]
    by_cases q : l = nK
    · rw [if_pos (by omega)]
      exact ⟨A, rfl, fun j h3 h4 => absurd h4 (by omega), fun _ _ => rfl⟩
    · rw [if_neg (by omega), show Int.toNat ((4 : Int) + (l : Int)) = 4 + l from by omega]
      obtain ⟨B, e, b1, b2'⟩ := ih (l + 1) (lf_up A ((3 : Int) + (l : Int)) (gM (4 + l))) (by omega) (by omega)
      refine ⟨B, e, fun j h3 h4 => ?_, fun i hi => ?_⟩
      · by_cases y : j = l
        · rw [y, b2' (3 + l) (by omega), lf_up_y (by omega)]
        · exact b1 j (by omega) h4
      · rw [b2' i (by omega), lf_up_o (by omega)]
theorem trO_i {g : Nat → Int} : ∀ m l, trO g m l = true → ∀ j, l ≤ j → j < l + m → g (4 + j) ≤ 9
  | 0, l, _, j, h1, h2 => absurd h2 (by omega)
  | m + 1, l, h, j, h1, h2 => by
    have h' : (decide (g (4 + l) ≤ 9) && trO g m (l + 1)) = true := h
    rw [Bool.and_eq_true] at h'
    by_cases q : j = l
    · rw [q]
      exact of_decide_eq_true h'.1
    · exact trO_i m (l + 1) h'.2 j (by omega) (by omega)
theorem on_x0 (h : F_X9_isImage g cy (nK : Int) s = 0) : F_X9_on g s cy (nK : Int) d ru gr tr hct tkn akn cmp refu = ((0 : Int), d, ru, gr, tr, hct, tkn, akn, cmp, dnR refu 5) := by
  unfold F_X9_on F_X9_takeTape
  rw [lf_b_e, lf_b_e, h, if_pos rfl]
  rfl
theorem on_m0 (h : F_X10_isImage isc gM many bar sM = 0) : F_X10_on sM isc und gM refM many bar now = ((0 : Int), und, now, dnR refM 5) := by
  unfold F_X10_on
  rw [lf_b_e, h, if_pos rfl]
  rfl
theorem on_t (hK : nK ≤ 6) (hcy : bar 4 = cy) (hc : 10 ≤ cy) (hi : isc = 1) (hm : many 2 = (nK : Int)) (hg : ∀ k, k < 1600 → 0 ≤ g k ∧ g k ≤ 255) (eg : gM = g) (es : sM = s) (hB : stB nK d ru gr tr) (hN : ndH nK d ru gr tr now) (hH : hsH nK hnx hct rD rR rG rF nwst und kept) (hr : refu = refM) : ∃ r d2 ru2 gr2 tr2 c2 t2 a2 m2 f2 u2 N2, F_X9_on g s cy (nK : Int) d ru gr tr hct tkn akn cmp refu = (r, d2, ru2, gr2, tr2, c2, t2, a2, m2, f2) ∧ F_X10_on sM isc und gM refM many bar now = (r, u2, N2, f2) ∧ acO nK d ru gr d2 ru2 gr2 tr tr2 N2 hnx c2 rD rR rG rF nwst u2 kept tkn akn cmp t2 a2 m2 := by
  subst hr eg es
  have ex := ii_x (cy := cy) (s := sM) hK hg
  have em := ii_m (g := gM) (s := sM) hK hm (Or.inr ⟨hi, by omega⟩ : (isc = 0 ∧ bar 4 = 0) ∨ (isc = 1 ∧ 10 ≤ bar 4))
  rw [hcy] at em
  by_cases q : (0 < cy ∧ sM = (nK : Int) + 5) ∧ (trO gM nK 0 && imO gM cy (nK : Int) sM) = true
  · rw [if_pos q.1, q.2] at ex em
    have q2 := q.2
    rw [Bool.and_eq_true] at q2
    obtain ⟨t1, t2⟩ := q2
    have t2' : (!decide (999 < gM 0 * 256 + gM 1) && (!decide (3 ≤ gM 2) && (decide (1 ≤ gM 3 ∧ gM 3 ≤ 60 ∧ gM 3 < cy) && decide (gM (Int.toNat (sM - 1)) = F_X10_checked_i1_0_10 gM (sM - 1))))) = true := t2
    rw [Bool.and_eq_true, Bool.and_eq_true, Bool.and_eq_true, Bool.not_eq_true', Bool.not_eq_true'] at t2'
    obtain ⟨u1, u2, u3, u4⟩ := t2'
    have v1 := of_decide_eq_false u1
    have v2 := of_decide_eq_false u2
    have v3 := of_decide_eq_true u3
    have g0 := hg 0 (by decide)
    have g1 := hg 1 (by decide)
    have g2 := hg 2 (by decide)
    obtain ⟨B, eB, b1, b2'⟩ := on_run (gM := gM) (refM := refu) hm 8 0 (lf_up (lf_up (lf_up now (0 : Int) (((256 : Int) * (gM 0)) + (gM 1))) (1 : Int) (gM 2)) (2 : Int) (gM 3)) (Nat.zero_le _) (by omega)
    have eT : ∀ j, j < nK → lf_cpy gM tr (4 : Int) (0 : Int) (nK : Int) j = gM (4 + j) := by
      intro j hj
      unfold lf_cpy
      rw [if_pos (show (0 : Int).toNat ≤ j ∧ j < (0 : Int).toNat + (nK : Int).toNat from ⟨Nat.zero_le _, by
        have e0 : (0 : Int).toNat = 0 := rfl
        omega⟩)]
      show gM (4 + (j - 0)) = _
      rw [Nat.sub_zero]
    refine ⟨1, gM 0 * 256 + gM 1, gM 2, gM 3, lf_cpy gM tr (4 : Int) (0 : Int) (nK : Int), 0, 0, 0, 0, refu, 0, B, ?_, ?_, ⟨⟨by omega, by omega⟩, by omega, ⟨v3.1, v3.2.1⟩, fun k hk => ?_⟩, ⟨?_, ?_, ?_, fun k hk => ?_⟩, hs_0 hH, Or.inr ⟨rfl, rfl, rfl⟩⟩
    · unfold F_X9_on F_X9_takeTape
      rw [lf_b_e, lf_b_e, ex, if_neg (show ¬ b2 true = 0 from by decide)]
      rfl
    · unfold F_X10_on
      rw [lf_b_e, em, if_neg (show ¬ b2 true = 0 from by decide)]
      exact eB
    · rw [eT k hk]
      exact ⟨(hg (4 + k) (by omega)).1, trO_i nK 0 t1 k (Nat.zero_le _) (by omega)⟩
    · rw [b2' 0 (by decide)]
      show (256 : Int) * gM 0 + gM 1 = _
      omega
    · rw [b2' 1 (by decide)]
      rfl
    · rw [b2' 2 (by decide)]
      rfl
    · rw [b1 k (Nat.zero_le _) hk, eT k hk]
      exact ⟨rfl, (hg (4 + k) (by omega)).1, trO_i nK 0 t1 k (Nat.zero_le _) (by omega)⟩
  · have ex' : F_X9_isImage gM cy (nK : Int) sM = 0 := by
      rw [ex]
      by_cases q1 : 0 < cy ∧ sM = (nK : Int) + 5
      · rw [if_pos q1]
        cases hb : trO gM nK 0 && imO gM cy (nK : Int) sM with
        | false => rfl
        | true => exact absurd ⟨q1, hb⟩ q
      · rw [if_neg q1]
    have em' : F_X10_isImage isc gM many bar sM = 0 := by
      rw [em, ← ex, ex']
    exact ⟨_, _, _, _, _, _, _, _, _, _, _, _, on_x0 ex', on_m0 em', hB, hN, hH, Or.inl ⟨rfl, rfl, rfl, rfl, rfl, rfl, rfl⟩⟩
/-- what is seen -/
def rwH (nW : Nat) (rws : Int) (sw ss : Nat → Int) (rmM : Int) (mrw : Nat → Int) : Prop := rws = rmM ∧ (0 ≤ rws ∧ rws ≤ 16) ∧ ∀ k : Nat, (k : Int) < rws → (sw k = mrw (2 * k) ∧ ss k = mrw (2 * k + 1)) ∧ 0 ≤ sw k ∧ sw k < (nW : Int)
def rwS (g : Nat → Int) (k : Nat) : Int := if g (3 * k + 1) * 256 + g (3 * k + 2) = 65535 then -1 else g (3 * k + 1) * 256 + g (3 * k + 2)
theorem ke_x {c : Nat} : ∀ (f l : Nat) (A B : Nat → Int), l ≤ c → c - l < f → ∃ A' B', F_X8_keep_9 g f (c : Int) (l : Int) A B = ((c : Int), (c : Int), A', B') ∧ (∀ j, l ≤ j → j < c → A' j = g (3 * j) ∧ B' j = rwS g j) ∧ ∀ j, j < l → A' j = A j ∧ B' j = B j := by
  intro f
  induction f with
  | zero => intro l A B h1 h2; omega
  | succ f ih =>
    intro l A B h1 h2
    have e0 : F_X8_keep_9 g (f + 1) (c : Int) (l : Int) A B = F_X8_keep_9b g (F_X8_keep_9 g f) (c : Int) (l : Int) A B := rfl
    rw [e0]
    unfold F_X8_keep_9b F_X8_keep_67
    by_cases q : l = c
    · rw [if_pos (by omega)]
      exact ⟨A, B, rfl, fun j h3 h4 => absurd h4 (by omega), fun _ _ => ⟨rfl, rfl⟩⟩
    · have t0 : Int.toNat ((l : Int) * (3 : Int)) = 3 * l := by omega
      have t1 : Int.toNat (((l : Int) * (3 : Int)) + (1 : Int)) = 3 * l + 1 := by omega
      have t2 : Int.toNat (((l : Int) * (3 : Int)) + (2 : Int)) = 3 * l + 2 := by omega
      rw [if_neg (by omega), t0, t1, t2]
      have go : ∀ v : Int, v = rwS g l → ∃ A' B', F_X8_keep_9 g f (c : Int) ((l : Int) + (1 : Int)) (lf_up A (l : Int) (g (3 * l))) (lf_up B (l : Int) v) = ((c : Int), (c : Int), A', B') ∧ (∀ j, l ≤ j → j < c → A' j = g (3 * j) ∧ B' j = rwS g j) ∧ ∀ j, j < l → A' j = A j ∧ B' j = B j := by
        intro v hv
        obtain ⟨A', B', e, x1, x2⟩ := ih (l + 1) (lf_up A (l : Int) (g (3 * l))) (lf_up B (l : Int) v) (by omega) (by omega)
        refine ⟨A', B', e, fun j h3 h4 => ?_, fun j hj => ?_⟩
        · by_cases y : j = l
          · obtain ⟨z1, z2⟩ := x2 j (by omega)
            rw [z1, z2, lf_up_y (by omega), lf_up_y (by omega), y, hv]
            exact ⟨rfl, rfl⟩
          · exact x1 j (by omega) h4
        · obtain ⟨z1, z2⟩ := x2 j (by omega)
          rw [z1, z2, lf_up_o (by omega), lf_up_o (by omega)]
          exact ⟨rfl, rfl⟩
      by_cases y : g (3 * l + 1) * 256 + g (3 * l + 2) = 65535
      · rw [if_pos y]
        exact go (-1) (by unfold rwS; rw [if_pos y])
      · rw [if_neg y]
        exact go _ (by unfold rwS; rw [if_neg y])
theorem ks_x {c : Nat} {x : Int} (hc : lf_o lf_idiv sM (3 : Int) = (c : Int)) : ∀ (f l : Nat) (A : Nat → Int), l ≤ c → c - l < f → ∃ A', F_X10_see_121 sM gM refM f x (l : Int) A = ((c : Int), (c : Int), refM, A') ∧ (∀ j, l ≤ j → j < c → A' (2 * j) = gM (3 * j) ∧ A' (2 * j + 1) = rwS gM j) ∧ ∀ i, i < 2 * l → A' i = A i := by
  intro f
  induction f with
  | zero => intro l A h1 h2; omega
  | succ f ih =>
    intro l A h1 h2
    have e0 : F_X10_see_121 sM gM refM (f + 1) x (l : Int) A = F_X10_see_121b sM gM refM (F_X10_see_121 sM gM refM f) x (l : Int) A := rfl
    rw [e0]
    unfold F_X10_see_121b
    rw [hc]
    by_cases q : l = c
    · rw [if_pos (by omega), q]
      exact ⟨A, rfl, fun j h3 h4 => absurd h4 (by omega), fun _ _ => rfl⟩
    · have t0 : Int.toNat ((3 : Int) * (l : Int)) = 3 * l := by omega
      have t1 : Int.toNat (((3 : Int) * (l : Int)) + (1 : Int)) = 3 * l + 1 := by omega
      have t2 : Int.toNat (((3 : Int) * (l : Int)) + (2 : Int)) = 3 * l + 2 := by omega
      rw [if_neg (by omega), t0, t1, t2, show (256 : Int) * gM (3 * l + 1) + gM (3 * l + 2) = gM (3 * l + 1) * 256 + gM (3 * l + 2) from by omega]
      have go : ∀ v : Int, v = rwS gM l → ∃ A', F_X10_see_121 sM gM refM f x ((l : Int) + (1 : Int)) (lf_up (lf_up A ((2 : Int) * (l : Int)) (gM (3 * l))) (((2 : Int) * (l : Int)) + (1 : Int)) v) = ((c : Int), (c : Int), refM, A') ∧ (∀ j, l ≤ j → j < c → A' (2 * j) = gM (3 * j) ∧ A' (2 * j + 1) = rwS gM j) ∧ ∀ i, i < 2 * l → A' i = A i := by
        intro v hv
        obtain ⟨A', e, x1, x2⟩ := ih (l + 1) (lf_up (lf_up A ((2 : Int) * (l : Int)) (gM (3 * l))) (((2 : Int) * (l : Int)) + (1 : Int)) v) (by omega) (by omega)
        refine ⟨A', e, fun j h3 h4 => ?_, fun i hi => ?_⟩
        · by_cases y : j = l
          · rw [y, x2 (2 * l) (by omega), x2 (2 * l + 1) (by omega), lf_up_o (by omega), lf_up_y (by omega), lf_up_y (by omega), hv]
            exact ⟨rfl, rfl⟩
          · exact x1 j (by omega) h4
        · rw [x2 i (by omega), lf_up_o (by omega), lf_up_o (by omega)]
      by_cases y : gM (3 * l + 1) * 256 + gM (3 * l + 2) = 65535
      · rw [if_pos y]
        exact go (-1) (by unfold rwS; rw [if_pos y])
      · rw [if_neg y]
        exact go _ (by unfold rwS; rw [if_neg y])
theorem rws_i {g : Nat → Int} {w : Int} : ∀ m l, rwsO g w m l = true → ∀ j, j < m → g (l + 3 * j) < w
  | 0, l, _, j, h1 => absurd h1 (Nat.not_lt_zero j)
  | m + 1, l, h, j, h1 => by
    have h' : (rwO g w l && rwsO g w m (l + 3)) = true := h
    rw [Bool.and_eq_true] at h'
    by_cases q : j = 0
    · rw [q]
      have h2 := h'.1
      unfold rwO at h2
      rw [Bool.and_eq_true] at h2
      exact of_decide_eq_true h2.1
    · have := rws_i m (l + 3) h'.2 (j - 1) (by omega)
      rw [show l + 3 + 3 * (j - 1) = l + 3 * j from by omega] at this
      exact this
theorem se_t {n : Nat} (hn : n ≤ 1600) (hg : ∀ k, k < 1600 → 0 ≤ g k) (eg : gM = g) (es : s = (n : Int)) (es2 : sM = (n : Int)) (hm : many 3 = (nW : Int)) (hr : refu = refM) (hR : rwH nW rws sw ss rmM mrw) : ∃ r w2 m2 a2 b2' f2 q2 M2, F_X9_see g s (nW : Int) sw ss rws cmp refu = (r, w2, m2, a2, b2', f2) ∧ F_X10_see sM rmM gM refM many mrw = (r, q2, f2, M2) ∧ rwH nW w2 a2 b2' q2 M2 ∧ ((w2 = rws ∧ m2 = cmp ∧ a2 = sw ∧ b2' = ss) ∨ m2 = 0) := by
  subst hr eg es es2
  obtain ⟨d1, d2⟩ := dv3 hn
  have hM := sq_1 (rf := refu) (M := many) (rwv := mrw) (rm := rmM) (n := n) hn hg
  rw [hm] at hM
  have hX := acc_x (g := gM) (w := (nW : Int)) hn
  by_cases q : (3 ≤ n ∧ n ≤ 48 ∧ n % 3 = 0) ∧ rwsO gM (nW : Int) (n / 3) 0 = true
  · rw [if_pos q] at hM
    rw [if_pos q.1, q.2] at hX
    obtain ⟨A', B', e1, x1, x2⟩ := ke_x (g := gM) (c := n / 3) 18 0 sw ss (Nat.zero_le _) (by omega)
    obtain ⟨C', e2, y1, y2⟩ := ks_x (sM := (n : Int)) (gM := gM) (refM := refu) (x := 1) (c := n / 3) d2 18 0 mrw (Nat.zero_le _) (by omega)
    refine ⟨((n / 3 : Nat) : Int), ((n / 3 : Nat) : Int), 0, A', B', refu, ((n / 3 : Nat) : Int), C', ?_, hM.trans e2, ⟨rfl, ⟨by omega, by omega⟩, fun k hk => ?_⟩, Or.inr rfl⟩
    · unfold F_X9_see F_X9_takeTape F_X8_keep
      have e1' : F_X8_keep_9 gM 18 ((n / 3 : Nat) : Int) (0 : Int) sw ss = _ := e1
      rw [lf_b_e, lf_b_e, hX, if_neg (show ¬ b2 true = 0 from by decide), d2, e1', lf_p_e, lf_p_e, lf_p_e]
    · obtain ⟨z1, z2⟩ := x1 k (Nat.zero_le _) (by omega)
      obtain ⟨z3, z4⟩ := y1 k (Nat.zero_le _) (by omega)
      have h3 := rws_i (n / 3) 0 q.2 k (by omega)
      rw [Nat.zero_add] at h3
      rw [z1, z2, z3, z4]
      exact ⟨⟨rfl, rfl⟩, hg _ (by omega), h3⟩
  · rw [if_neg q] at hM
    refine ⟨_, _, _, _, _, _, _, _, ?_, hM, hR, Or.inl ⟨rfl, rfl, rfl, rfl⟩⟩
    unfold F_X9_see F_X9_takeTape
    have hX0 : F_X8_accepts gM (n : Int) (nW : Int) = 0 := by
      rw [hX]
      by_cases q1 : 3 ≤ n ∧ n ≤ 48 ∧ n % 3 = 0
      · rw [if_pos q1]
        cases hb : rwsO gM (nW : Int) (n / 3) 0 with
        | false => rfl
        | true => exact absurd ⟨q1, hb⟩ q
      · rw [if_neg q1]
    rw [lf_b_e, lf_b_e, hX0, if_pos rfl]
    rfl
end IM
