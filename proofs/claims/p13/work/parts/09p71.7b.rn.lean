section
/-! 7b -/
/-! codes as steps over a pile (the last first); what may not be has no step -/
def stR (ρ : Int → Int) (κ al c : Int) (S S1 : List Int) : Prop := (1000 ≤ c ∧ c ≤ 10999 ∧ S.length < 64 ∧ S1 = (c - 1000) :: S) ∨ (c = 60 ∧ al = 3707 ∧ ∃ x T, S = x :: T ∧ S1 = (if x = κ then 1 else 0) :: T) ∨ (40 ≤ c ∧ c < 52 ∧ alB al (c - 40) = true ∧ S.length < 64 ∧ S1 = ρ (c - 40) :: S) ∨ (c = 13 ∧ S.length < 64 ∧ S1 = 1 :: S) ∨ (c = 12 ∧ ∃ x T, S = x :: T ∧ (x = 0 ∨ x = 1) ∧ S1 = (1 - x) :: T) ∨ (1 ≤ c ∧ c ≤ 11 ∧ ∃ a b T, S = b :: a :: T ∧ in6 a ∧ in6 b ∧ (c = 10 ∨ c = 11 → (a = 0 ∨ a = 1) ∧ (b = 0 ∨ b = 1)) ∧ S1 = opV c a b :: T)
def rnR (ρ : Int → Int) (κ al : Int) : List Int → List Int → List Int → Prop
  | [], S, S2 => S2 = S
  | c :: L, S, S2 => ∃ S1, stR ρ κ al c S S1 ∧ rnR ρ κ al L S1 S2
theorem rnR_app {ρ : Int → Int} {κ al : Int} : ∀ (L M : List Int) (S S1 S2 : List Int), rnR ρ κ al L S S1 → rnR ρ κ al M S1 S2 → rnR ρ κ al (L ++ M) S S2
  | [], _, _, _, _, h, h2 => by
    have e : _ = _ := h
    subst e
    exact h2
  | c :: L, M, S, S1, S2, ⟨T, h, h1⟩, h2 => ⟨T, h, rnR_app L M T S1 S2 h1 h2⟩
theorem rnR_1 {ρ : Int → Int} {κ al c : Int} {S S1 : List Int} (h : stR ρ κ al c S S1) : rnR ρ κ al [c] S S1 := ⟨S1, h, rfl⟩
theorem len_i (x : Int) (T : List Int) : (((x :: T).length : Nat) : Int) - 1 = (T.length : Int) := by
  show ((T.length + 1 : Nat) : Int) - 1 = _
  omega
theorem nat_i (i : Nat) : ((i : Int) + (1 : Int)) = ((i + 1 : Nat) : Int) := rfl
/-! the class -/
theorem vx_step {facts code w : Nat → Int} {to : Int} {i : Nat} {S S1 : List Int} {ρ : Int → Int} {κ al c : Int} {K6 : Int → Int → (Nat → Int) → Int × (Nat → Int)} (hi : (i : Int) < to) (hi2 : i < 1600) (hc : code i = toC c) (hw : pwl w S) (hf : ∀ j : Int, 0 ≤ j → j < 12 → alB al j = true → facts j.toNat = ρ j) (hk : al = 3707 → facts 12 = κ) (h : stR ρ κ al c S S1) : ∃ w1, F_X3_value_6b facts code to K6 (S.length : Int) (i : Int) w = K6 (S1.length : Int) ((i : Int) + (1 : Int)) w1 ∧ pwl w1 S1 := by
  unfold F_X3_value_6b
  rw [if_neg (by omega), if_neg (by omega), Int.toNat_natCast, hc]
  rcases h with ⟨h1, h2, h3, h4⟩ | ⟨h1, h2, x, T, h3, h4⟩ | ⟨h1, h2, h3, h4, h5⟩ | ⟨h1, h2, h3⟩ | ⟨h1, x, T, h2, h3, h4⟩ | ⟨h1, h2, a, b, T, h3, h4, h5, h6, h7⟩
  · have e : toC c = c - 1000 := if_pos h1
    rw [e, if_neg (by omega), if_neg (by omega), if_neg (by omega), h4]
    exact ⟨_, rfl, pwl_push hw _⟩
  · have e : toC c = -32 := by rw [h1]; decide
    subst h3
    have hw1 : w T.length = x := hw.1
    rw [e, if_pos (by decide), if_neg (by show ¬ (((T.length + 1 : Nat)) : Int) ≤ 0; omega), if_neg (by decide)]
    unfold F_X3_value_106
    rw [if_neg (by show ¬ (((T.length + 1 : Nat)) : Int) ≤ 0; omega), if_pos rfl, len_i, Int.toNat_natCast, hw1, show facts (Int.toNat (12 : Int)) = κ from hk h2, h4]
    by_cases q : x = κ
    · rw [if_pos q, if_pos q]
      exact ⟨_, rfl, pwl_push hw.2 1⟩
    · rw [if_neg q, if_neg q]
      exact ⟨_, rfl, pwl_push hw.2 0⟩
  · have e : toC c = -1 - (c - 40) := (if_neg (by omega)).trans ((if_neg (by omega)).trans (if_pos h1))
    rw [e, if_neg (by omega), if_neg (by omega), if_pos (by omega), show (-1 : Int) - (-1 - (c - 40)) = c - 40 from by omega, hf (c - 40) (by omega) (by omega) h3, h5]
    exact ⟨_, rfl, pwl_push hw _⟩
  · have e : toC c = 1 := by rw [h1]; decide
    rw [e, if_neg (by decide), if_neg (by omega), if_neg (by decide), h3]
    exact ⟨_, rfl, pwl_push hw _⟩
  · have e : toC c = -31 := by rw [h1]; decide
    subst h2
    have hw1 : w T.length = x := hw.1
    rw [e, if_pos (by decide), if_neg (by show ¬ (((T.length + 1 : Nat)) : Int) ≤ 0; omega), if_pos rfl, len_i, Int.toNat_natCast, hw1, h4, lo_sub (by omega) (by omega) (by omega) (by omega) (by omega) (by omega)]
    exact ⟨_, rfl, pwl_push hw.2 _⟩
  · have e : toC c = -19 - c := toC_o h1 (by omega)
    subst h3
    have hw1 : w (a :: T).length = b := hw.1
    have hw2 : w T.length = a := hw.2.1
    have l1 : ((((b :: a :: T).length : Nat)) : Int) + (-1 : Int) = (((a :: T).length : Nat) : Int) := by
      show (((T.length + 1 + 1 : Nat)) : Int) + -1 = ((T.length + 1 : Nat) : Int)
      omega
    have l2 : ((((b :: a :: T).length : Nat)) : Int) = (T.length : Int) + 2 := rfl
    rw [e, if_pos (by omega), if_neg (by omega), if_neg (by omega)]
    unfold F_X3_value_106
    rw [if_neg (by omega), if_neg (by omega)]
    unfold F_X3_value_154
    rw [if_neg (by omega), l1, len_i, Int.toNat_natCast, Int.toNat_natCast, hw1, hw2, lf_b_e, op_x h4 h5 h6 h1 h2, h7]
    exact ⟨_, rfl, pwl_push hw.2.2 _⟩
theorem vx_run {facts code : Nat → Int} {to : Int} {ρ : Int → Int} {κ al : Int} (hf : ∀ j : Int, 0 ≤ j → j < 12 → alB al j = true → facts j.toNat = ρ j) (hk : al = 3707 → facts 12 = κ) : ∀ (L : List Int) (i f : Nat) (S S2 : List Int) (w : Nat → Int), (∀ j, j < L.length → code (i + j) = toC (L.getD j 0)) → (i : Int) + (L.length : Int) = to → i + L.length ≤ 1600 → L.length < f → pwl w S → rnR ρ κ al L S S2 → (F_X3_value_6 facts code to f (S.length : Int) (i : Int) w).1 = S2.headD 0 := by
  intro L
  induction L with
  | nil =>
    intro i f S S2 w hc ht h16 hl hw h
    obtain ⟨k, rfl⟩ : ∃ k, f = k + 1 := ⟨f - 1, by have : 0 < f := hl; omega⟩
    have e : S2 = S := h
    subst e
    have ht' : (i : Int) + ((0 : Nat) : Int) = to := ht
    show (F_X3_value_6b facts code to (F_X3_value_6 facts code to k) (S2.length : Int) (i : Int) w).1 = _
    unfold F_X3_value_6b F_X3_value_199
    rw [if_pos (by omega)]
    cases S2 with
    | nil =>
      rw [if_pos (show ((([] : List Int).length : Nat) : Int) ≤ 0 from Int.le_refl _)]
      rfl
    | cons x T =>
      rw [if_neg (by show ¬ (((T.length + 1 : Nat)) : Int) ≤ 0; omega), len_i, Int.toNat_natCast]
      exact hw.1
  | cons c L ih =>
    intro i f S S2 w hc ht h16 hl hw h
    obtain ⟨k, rfl⟩ : ∃ k, f = k + 1 := ⟨f - 1, by have : 0 < f := Nat.lt_of_le_of_lt (Nat.zero_le _) hl; omega⟩
    obtain ⟨S1, h1, h2⟩ := h
    have ht' : (i : Int) + ((L.length + 1 : Nat) : Int) = to := ht
    have h16' : i + (L.length + 1) ≤ 1600 := h16
    have hl' : L.length + 1 < k + 1 := hl
    have hc0 : code i = toC c := hc 0 (Nat.zero_lt_succ _)
    obtain ⟨w1, e1, e2⟩ := vx_step (i := i) (w := w) (K6 := F_X3_value_6 facts code to k) (to := to) (by omega) (by omega) hc0 hw hf hk h1
    show (F_X3_value_6b facts code to (F_X3_value_6 facts code to k) (S.length : Int) (i : Int) w).1 = _
    rw [e1]
    exact ih (i + 1) k S1 S2 w1 (fun j hj => by
      have := hc (j + 1) (Nat.succ_lt_succ hj)
      rw [show i + (j + 1) = i + 1 + j from by omega] at this
      exact this) (by omega) (by omega) (by omega) e2 h2
/-- Machine.value over the codes of a text -/
theorem vx_val {facts stack code : Nat → Int} {i : Nat} {to : Int} {ρ : Int → Int} {κ al v : Int} {L : List Int} (hf : ∀ j : Int, 0 ≤ j → j < 12 → alB al j = true → facts j.toNat = ρ j) (hk : al = 3707 → facts 12 = κ) (hc : ∀ j, j < L.length → code (i + j) = toC (L.getD j 0)) (ht : (i : Int) + (L.length : Int) = to) (h16 : i + L.length ≤ 1600) (h : rnR ρ κ al L [] [v]) : (F_X3_value facts stack code (i : Int) to).1 = v := vx_run hf hk L i 1602 [] [v] stack hc ht h16 (by omega) True.intro h
theorem vx_none {facts stack code : Nat → Int} {i to : Int} (h : to ≤ i) : (F_X3_value facts stack code i to).1 = 0 := by
  show (F_X3_value_6b facts code to _ (0 : Int) i stack).1 = 0
  unfold F_X3_value_6b F_X3_value_199
  rw [if_pos h, if_pos (Int.le_refl _)]
/-! the model -/
theorem ol_rem {X Y : Int} (hx : in6 X) (hy : in6 Y) : lf_ol lf_lrem X Y = X.tmod Y := by
  have e : (2 : Int) ^ 63 = 9223372036854775808 := by decide
  have h1 := hx.1
  have h2 := hx.2
  have h3 := hy.1
  have h4 := hy.2
  show (Int64.ofInt X % Int64.ofInt Y).toInt = X.tmod Y
  rw [Int64.toInt_mod, Int64.toInt_ofInt_of_le (by omega) (by omega), Int64.toInt_ofInt_of_le (by omega) (by omega)]
theorem ol_div {X Y : Int} (hx : in6 X) (hy : in6 Y) : lf_ol lf_ldiv X Y = X.tdiv Y := by
  have e : (2 : Int) ^ 63 = 9223372036854775808 := by decide
  have h1 := hx.1
  have h2 := hx.2
  have h3 := hy.1
  have h4 := hy.2
  have q1 := abs_tdiv (b := Y) h1 h2
  show (Int64.ofInt X / Int64.ofInt Y).toInt = X.tdiv Y
  rw [Int64.toInt_div, Int64.toInt_ofInt_of_le (by omega) (by omega), Int64.toInt_ofInt_of_le (by omega) (by omega)]
  generalize X.tdiv Y = q at q1 ⊢
  exact Int.bmod_eq_of_le (by omega) (by omega)
theorem floor_m {a b : Int} (ha : in6 a) (hb : in6 b) : F_X10_qFloor a b = fdv a b := by
  unfold F_X10_qFloor fdv
  by_cases c0 : b = 0
  · rw [if_pos (cmp_eq.mpr c0), if_pos c0]
  · rw [if_neg (fun r => c0 (cmp_eq.mp r)), if_neg c0, ol_rem ha hb, ol_div ha hb]
    have hd := Int.tmod_add_tdiv_mul a b
    have q1 := abs_tdiv (b := b) ha.1 ha.2
    by_cases c1 : a.tdiv b * b = a
    · rw [if_pos (cmp_eq.mpr (by rw [c1] at hd; omega))]
      unfold F_X10_qFloor_53
      by_cases c2 : decide (a < 0) = decide (b < 0)
      · rw [if_pos c2]
      · rw [if_neg c2, if_pos c1]
    · rw [if_neg (fun r => c1 (by have := cmp_eq.mp r; rw [this] at hd; omega))]
      have f53 : ∀ s0 s1 : Int, F_X10_qFloor_43 (a.tdiv b) s0 s1 = if s0 = s1 then a.tdiv b else a.tdiv b - 1 := by
        intro s0 s1
        unfold F_X10_qFloor_43 F_X10_qFloor_53
        by_cases q : s0 = s1
        · rw [if_pos q, if_pos q]
        · rw [if_neg q, if_neg q]
          have e : in6 (a.tdiv b) := q1
          exact ol_sub e (by unfold in6; omega)
      have f32 : ∀ s0 : Int, F_X10_qFloor_32 b (a.tdiv b) s0 = if b < 0 then (if s0 = 1 then a.tdiv b else a.tdiv b - 1) else (if s0 = 0 then a.tdiv b else a.tdiv b - 1) := by
        intro s0
        unfold F_X10_qFloor_32
        by_cases q : b < 0
        · rw [if_neg (fun r => by have := cmp_ge.mp r; omega), if_pos q, f53]
        · rw [if_pos (cmp_ge.mpr (by omega)), if_neg q, f53]
      rw [f32, f32]
      by_cases qa : a < 0
      · rw [if_neg (fun r => by have := cmp_ge.mp r; omega), if_pos rfl, if_neg (show ¬ (1 : Int) = 0 from by decide)]
        by_cases qb : b < 0
        · rw [if_pos qb, decide_eq_true qa, decide_eq_true qb, if_pos rfl]
        · rw [if_neg qb, decide_eq_true qa, decide_eq_false qb, if_neg (fun r => Bool.noConfusion r), if_neg c1]
      · rw [if_pos (cmp_ge.mpr (by omega)), if_pos rfl, if_neg (show ¬ (0 : Int) = 1 from by decide)]
        by_cases qb : b < 0
        · rw [if_pos qb, decide_eq_false qa, decide_eq_true qb, if_neg (fun r => Bool.noConfusion r), if_neg c1]
        · rw [if_neg qb, decide_eq_false qa, decide_eq_false qb, if_pos rfl]
theorem jn_m {w : Nat → Int} {q a b c : Int} (hA : w (Int.toNat (q - 2)) = a) (hB : w (Int.toNat (q - 1)) = b) (ha : in6 a) (hb : in6 b) (h10 : c = 10 ∨ c = 11 → (a = 0 ∨ a = 1) ∧ (b = 0 ∨ b = 1)) (h1 : 1 ≤ c) (h11 : c ≤ 11) : F_X10_qJoins q w c = (q - 2 + 1, lf_up w (q - 2) (opV c a b)) := by
  have hc : c = 1 ∨ c = 2 ∨ c = 3 ∨ c = 4 ∨ c = 5 ∨ c = 6 ∨ c = 7 ∨ c = 8 ∨ c = 9 ∨ c = 10 ∨ c = 11 := by omega
  rcases hc with r | r | r | r | r | r | r | r | r | r | r
  · have e2 : opV c a b = (clp (a + b)) := by
      unfold opV
      rw [if_pos r]
    unfold F_X10_qJoins F_X10_qPuts
    rw [if_pos (by omega), hA, hB, e2]
    rw [lf_b_e, clip_m, ol_add ha hb, lf_p_e]
  · have e2 : opV c a b = (clp (a - b)) := by
      unfold opV
      rw [if_neg (by omega), if_pos r]
    unfold F_X10_qJoins F_X10_qPuts
    rw [if_neg (by omega), if_pos (by omega), hA, hB, e2]
    rw [lf_b_e, clip_m, ol_sub ha hb, lf_p_e]
  · have e2 : opV c a b = (clp (a * b)) := by
      unfold opV
      rw [if_neg (by omega), if_neg (by omega), if_pos r]
    unfold F_X10_qJoins F_X10_qPuts
    rw [if_neg (by omega), if_neg (by omega), if_pos (by omega), hA, hB, e2]
    rw [lf_b_e, clip_m, ol_mul ha hb, lf_p_e]
  · have e2 : opV c a b = (fdv a b) := by
      unfold opV
      rw [if_neg (by omega), if_neg (by omega), if_neg (by omega), if_pos r]
    unfold F_X10_qJoins F_X10_qPuts
    rw [if_neg (by omega), if_neg (by omega), if_neg (by omega), if_pos (by omega), hA, hB, e2]
    rw [lf_b_e, floor_m ha hb, lf_p_e]
  · have e2 : opV c a b = (if a < b then a else b) := by
      unfold opV
      rw [if_neg (by omega), if_neg (by omega), if_neg (by omega), if_neg (by omega), if_pos r]
    unfold F_X10_qJoins F_X10_qPuts
    rw [if_neg (by omega), if_neg (by omega), if_neg (by omega), if_neg (by omega), if_pos (by omega), hA, hB, e2]
    by_cases x : a < b
    · rw [if_neg (fun s => by have := cmp_ge.mp s; omega), if_pos x, lf_p_e]
    · rw [if_pos (cmp_ge.mpr (by omega)), if_neg x, lf_p_e]
  · have e2 : opV c a b = (if b < a then a else b) := by
      unfold opV
      rw [if_neg (by omega), if_neg (by omega), if_neg (by omega), if_neg (by omega), if_neg (by omega), if_pos r]
    unfold F_X10_qJoins F_X10_qPuts
    rw [if_neg (by omega), if_neg (by omega), if_neg (by omega), if_neg (by omega), if_neg (by omega), if_pos (by omega), hA, hB, e2]
    by_cases x : b < a
    · rw [if_neg (fun s => by have := cmp_le.mp s; omega), if_pos x, lf_p_e]
    · rw [if_pos (cmp_le.mpr (by omega)), if_neg x, lf_p_e]
  · have e2 : opV c a b = (if a < b then 1 else 0) := by
      unfold opV
      rw [if_neg (by omega), if_neg (by omega), if_neg (by omega), if_neg (by omega), if_neg (by omega), if_neg (by omega), if_pos r]
    unfold F_X10_qJoins F_X10_qPuts
    rw [if_neg (by omega), if_neg (by omega), if_neg (by omega), if_neg (by omega), if_neg (by omega), if_neg (by omega), if_pos (by omega), hA, hB, e2]
    by_cases x : a < b
    · rw [if_neg (fun s => by have := cmp_ge.mp s; omega), if_pos x, lf_p_e]
    · rw [if_pos (cmp_ge.mpr (by omega)), if_neg x, lf_p_e]
  · have e2 : opV c a b = (if b < a then 1 else 0) := by
      unfold opV
      rw [if_neg (by omega), if_neg (by omega), if_neg (by omega), if_neg (by omega), if_neg (by omega), if_neg (by omega), if_neg (by omega), if_pos r]
    unfold F_X10_qJoins F_X10_qPuts
    rw [if_neg (by omega), if_neg (by omega), if_neg (by omega), if_neg (by omega), if_neg (by omega), if_neg (by omega), if_neg (by omega), if_pos (by omega), hA, hB, e2]
    by_cases x : b < a
    · rw [if_neg (fun s => by have := cmp_le.mp s; omega), if_pos x, lf_p_e]
    · rw [if_pos (cmp_le.mpr (by omega)), if_neg x, lf_p_e]
  · have e2 : opV c a b = (if a = b then 1 else 0) := by
      unfold opV
      rw [if_neg (by omega), if_neg (by omega), if_neg (by omega), if_neg (by omega), if_neg (by omega), if_neg (by omega), if_neg (by omega), if_neg (by omega), if_pos r]
    unfold F_X10_qJoins F_X10_qPuts
    rw [if_neg (by omega), if_neg (by omega), if_neg (by omega), if_neg (by omega), if_neg (by omega), if_neg (by omega), if_neg (by omega), if_neg (by omega), if_pos (by omega), hA, hB, e2]
    by_cases x : a = b
    · rw [if_pos (cmp_eq.mpr x), if_pos x, lf_p_e]
    · rw [if_neg (fun s => x (cmp_eq.mp s)), if_neg x, lf_p_e]
  · have e2 : opV c a b = (a * b) := by
      unfold opV
      rw [if_neg (by omega), if_neg (by omega), if_neg (by omega), if_neg (by omega), if_neg (by omega), if_neg (by omega), if_neg (by omega), if_neg (by omega), if_neg (by omega), if_pos r]
    unfold F_X10_qJoins F_X10_qPuts
    rw [if_neg (by omega), if_neg (by omega), if_neg (by omega), if_neg (by omega), if_neg (by omega), if_neg (by omega), if_neg (by omega), if_neg (by omega), if_neg (by omega), if_pos (by omega), hA, hB, e2]
    rw [lf_p_e, ol_mul ha hb]
  · have e2 : opV c a b = (if 0 < a + b then 1 else 0) := by
      unfold opV
      rw [if_neg (by omega), if_neg (by omega), if_neg (by omega), if_neg (by omega), if_neg (by omega), if_neg (by omega), if_neg (by omega), if_neg (by omega), if_neg (by omega), if_neg (by omega)]
    unfold F_X10_qJoins F_X10_qPuts
    rw [if_neg (by omega), if_neg (by omega), if_neg (by omega), if_neg (by omega), if_neg (by omega), if_neg (by omega), if_neg (by omega), if_neg (by omega), if_neg (by omega), if_neg (by omega), hA, hB, e2]
    rw [ol_add ha hb]
    by_cases x : 0 < a + b
    · rw [if_neg (fun s => by have := cmp_le.mp s; omega), if_pos x, lf_p_e]
    · rw [if_pos (cmp_le.mpr (by omega)), if_neg x, lf_p_e]
theorem vm_step0 {ask red p1 : Int} {bar kd wk ce codes nw gp wt go hm : Nat → Int} {w : Nat → Int} {i : Nat} {S S1 : List Int} {ρ : Int → Int} {κ al c : Int} {K : Int → Int → (Nat → Int) → Int × Int × (Nat → Int)} (hi : (i : Int) < ce 3) (hc : codes (1600 + i) = c) (hw : pwl w S) (hf : ∀ j : Int, 0 ≤ j → j < 12 → alB al j = true → F_X10_qPartOf (0 : Int) ask red bar kd wk nw gp wt go hm j p1 = ρ j) (h37 : ¬ al = 3707) (h : stR ρ κ al c S S1) : ∃ w1, F_X10_codesTell_a0_0_19b ask red bar kd wk ce codes nw gp wt go hm p1 K (i : Int) (S.length : Int) w = K ((i : Int) + (1 : Int)) (S1.length : Int) w1 ∧ pwl w1 S1 := by
  unfold F_X10_codesTell_a0_0_19b
  rw [if_neg (by omega), show (Int.toNat ((1600 : Int) + (i : Int))) = 1600 + i from by omega, hc]
  rcases h with ⟨h1, h2, h3, h4⟩ | ⟨h1, h2, x, T, h3, h4⟩ | ⟨h1, h2, h3, h4, h5⟩ | ⟨h1, h2, h3⟩ | ⟨h1, x, T, h2, h3, h4⟩ | ⟨h1, h2, a, b, T, h3, h4, h5, h6, h7⟩
  · unfold F_X10_qPuts
    rw [if_neg (by omega), lf_p_e, h4]
    exact ⟨_, rfl, pwl_push hw _⟩
  · exact absurd h2 h37
  · unfold F_X10_qPuts
    rw [if_pos (by omega), if_neg (by omega), lf_b_e, hf (c - 40) (by omega) (by omega) h3, lf_p_e, h5]
    exact ⟨_, rfl, pwl_push hw _⟩
  · unfold F_X10_qPuts
    rw [if_pos (by omega), if_pos (by omega), if_pos h1, lf_p_e, h3]
    exact ⟨_, rfl, pwl_push hw _⟩
  · subst h2
    have hw1 : w T.length = x := hw.1
    rw [if_pos (by omega), if_pos (by omega), if_neg (by omega), if_pos h1, len_i, Int.toNat_natCast, hw1, h4, ol_sub (by unfold in6; omega) (by unfold in6; omega)]
    exact ⟨_, rfl, pwl_push hw.2 _⟩
  · subst h3
    have hw1 : w (a :: T).length = b := hw.1
    have hw2 : w T.length = a := hw.2.1
    have l2 : ((((b :: a :: T).length : Nat)) : Int) = (T.length : Int) + 2 := rfl
    have l3 : (T.length : Int) + 2 - 2 = (T.length : Int) := by omega
    have l4 : (T.length : Int) + 2 - 1 = (((a :: T).length : Nat) : Int) := by
      show _ = ((T.length + 1 : Nat) : Int)
      omega
    rw [if_pos (by omega), if_pos (by omega), if_neg (by omega), if_neg (by omega), l2, jn_m (by rw [l3, Int.toNat_natCast]; exact hw2) (by rw [l4, Int.toNat_natCast]; exact hw1) h4 h5 h6 h1 h2, lf_p_e, l3, h7]
    exact ⟨_, rfl, pwl_push hw.2.2 _⟩
theorem vm_run0 {ask red p1 : Int} {bar kd wk ce codes nw gp wt go hm : Nat → Int} {ρ : Int → Int} {κ al : Int} (hf : ∀ j : Int, 0 ≤ j → j < 12 → alB al j = true → F_X10_qPartOf (0 : Int) ask red bar kd wk nw gp wt go hm j p1 = ρ j) (h37 : ¬ al = 3707) : ∀ (L : List Int) (i f : Nat) (S S2 : List Int) (w : Nat → Int), (∀ j, j < L.length → codes (1600 + (i + j)) = L.getD j 0) → (i : Int) + (L.length : Int) = ce 3 → L.length < f → pwl w S → rnR ρ κ al L S S2 → ∃ w2, F_X10_codesTell_a0_0_19 ask red bar kd wk ce codes nw gp wt go hm p1 f (i : Int) (S.length : Int) w = (w2 0, (S2.length : Int), w2) ∧ pwl w2 S2 := by
  intro L
  induction L with
  | nil =>
    intro i f S S2 w hc ht hl hw h
    obtain ⟨k, rfl⟩ : ∃ k, f = k + 1 := ⟨f - 1, by have : 0 < f := hl; omega⟩
    have e : S2 = S := h
    subst e
    have ht' : (i : Int) + ((0 : Nat) : Int) = ce 3 := ht
    refine ⟨w, ?_, hw⟩
    show F_X10_codesTell_a0_0_19b ask red bar kd wk ce codes nw gp wt go hm p1 _ (i : Int) (S2.length : Int) w = _
    unfold F_X10_codesTell_a0_0_19b
    rw [if_pos (by omega)]
    rfl
  | cons c L ih =>
    intro i f S S2 w hc ht hl hw h
    obtain ⟨k, rfl⟩ : ∃ k, f = k + 1 := ⟨f - 1, by have : 0 < f := Nat.lt_of_le_of_lt (Nat.zero_le _) hl; omega⟩
    obtain ⟨S1, h1, h2⟩ := h
    have ht' : (i : Int) + ((L.length + 1 : Nat) : Int) = ce 3 := ht
    have hl' : L.length + 1 < k + 1 := hl
    have hc0 : codes (1600 + i) = c := hc 0 (Nat.zero_lt_succ _)
    obtain ⟨w1, e1, e2⟩ := vm_step0 (K := F_X10_codesTell_a0_0_19 ask red bar kd wk ce codes nw gp wt go hm p1 k) (w := w) (i := i) (ce := ce) (by omega) hc0 hw hf h37 h1
    show ∃ w2, F_X10_codesTell_a0_0_19b ask red bar kd wk ce codes nw gp wt go hm p1 (F_X10_codesTell_a0_0_19 ask red bar kd wk ce codes nw gp wt go hm p1 k) (i : Int) (S.length : Int) w = (w2 0, (S2.length : Int), w2) ∧ pwl w2 S2
    rw [e1]
    exact ih (i + 1) k S1 S2 w1 (fun j hj => by
      have := hc (j + 1) (Nat.succ_lt_succ hj)
      rw [show 1600 + (i + (j + 1)) = 1600 + (i + 1 + j) from by omega] at this
      exact this) (by omega) (by omega) e2 h2
theorem vm_val0 {ask red p1 : Int} {cf bar kd wk ce codes nw gp wt go hm : Nat → Int} {pile : Nat → Int} {ρ : Int → Int} {κ al v : Int} {L : List Int} {i : Nat} (hf : ∀ j : Int, 0 ≤ j → j < 12 → alB al j = true → F_X10_qPartOf (0 : Int) ask red bar kd wk nw gp wt go hm j p1 = ρ j) (h37 : ¬ al = 3707) (h0 : cf 3 = (i : Int)) (hc : ∀ j, j < L.length → codes (1600 + (i + j)) = L.getD j 0) (ht : (i : Int) + (L.length : Int) = ce 3) (hl : L.length ≤ 1600) (h : rnR ρ κ al L [] [v]) : (F_X10_codesTell_a0_0 ask red bar kd wk cf ce codes nw gp wt go hm pile p1).1 = v := by
  obtain ⟨w2, e1, e2⟩ := vm_run0 (ask := ask) (red := red) (bar := bar) (kd := kd) (wk := wk) (nw := nw) (gp := gp) (wt := wt) (go := go) (hm := hm) (p1 := p1) hf h37 L i 1602 [] [v] pile hc ht (by omega) True.intro h
  unfold F_X10_codesTell_a0_0
  rw [h0]
  have e3 : F_X10_codesTell_a0_0_19 ask red bar kd wk ce codes nw gp wt go hm p1 1602 (i : Int) (0 : Int) pile = (w2 0, (([v] : List Int).length : Int), w2) := e1
  rw [e3]
  exact e2.1
theorem vm_step1 {ask red p1 : Int} {bar kd wk ce codes nw gp wt go hm : Nat → Int} {w : Nat → Int} {i : Nat} {S S1 : List Int} {ρ : Int → Int} {κ al c : Int} {K : Int → Int → (Nat → Int) → Int × Int × (Nat → Int)} (hi : (i : Int) < ce 4) (hc : codes (1600 + i) = c) (hw : pwl w S) (hf : ∀ j : Int, 0 ≤ j → j < 12 → alB al j = true → F_X10_qPartOf (1 : Int) ask red bar kd wk nw gp wt go hm j p1 = ρ j) (h37 : ¬ al = 3707) (h : stR ρ κ al c S S1) : ∃ w1, F_X10_codesTell_a0_1_19b ask red bar kd wk ce codes nw gp wt go hm p1 K (i : Int) (S.length : Int) w = K ((i : Int) + (1 : Int)) (S1.length : Int) w1 ∧ pwl w1 S1 := by
  unfold F_X10_codesTell_a0_1_19b
  rw [if_neg (by omega), show (Int.toNat ((1600 : Int) + (i : Int))) = 1600 + i from by omega, hc]
  rcases h with ⟨h1, h2, h3, h4⟩ | ⟨h1, h2, x, T, h3, h4⟩ | ⟨h1, h2, h3, h4, h5⟩ | ⟨h1, h2, h3⟩ | ⟨h1, x, T, h2, h3, h4⟩ | ⟨h1, h2, a, b, T, h3, h4, h5, h6, h7⟩
  · unfold F_X10_qPuts
    rw [if_neg (by omega), lf_p_e, h4]
    exact ⟨_, rfl, pwl_push hw _⟩
  · exact absurd h2 h37
  · unfold F_X10_qPuts
    rw [if_pos (by omega), if_neg (by omega), lf_b_e, hf (c - 40) (by omega) (by omega) h3, lf_p_e, h5]
    exact ⟨_, rfl, pwl_push hw _⟩
  · unfold F_X10_qPuts
    rw [if_pos (by omega), if_pos (by omega), if_pos h1, lf_p_e, h3]
    exact ⟨_, rfl, pwl_push hw _⟩
  · subst h2
    have hw1 : w T.length = x := hw.1
    rw [if_pos (by omega), if_pos (by omega), if_neg (by omega), if_pos h1, len_i, Int.toNat_natCast, hw1, h4, ol_sub (by unfold in6; omega) (by unfold in6; omega)]
    exact ⟨_, rfl, pwl_push hw.2 _⟩
  · subst h3
    have hw1 : w (a :: T).length = b := hw.1
    have hw2 : w T.length = a := hw.2.1
    have l2 : ((((b :: a :: T).length : Nat)) : Int) = (T.length : Int) + 2 := rfl
    have l3 : (T.length : Int) + 2 - 2 = (T.length : Int) := by omega
    have l4 : (T.length : Int) + 2 - 1 = (((a :: T).length : Nat) : Int) := by
      show _ = ((T.length + 1 : Nat) : Int)
      omega
    rw [if_pos (by omega), if_pos (by omega), if_neg (by omega), if_neg (by omega), l2, jn_m (by rw [l3, Int.toNat_natCast]; exact hw2) (by rw [l4, Int.toNat_natCast]; exact hw1) h4 h5 h6 h1 h2, lf_p_e, l3, h7]
    exact ⟨_, rfl, pwl_push hw.2.2 _⟩
theorem vm_run1 {ask red p1 : Int} {bar kd wk ce codes nw gp wt go hm : Nat → Int} {ρ : Int → Int} {κ al : Int} (hf : ∀ j : Int, 0 ≤ j → j < 12 → alB al j = true → F_X10_qPartOf (1 : Int) ask red bar kd wk nw gp wt go hm j p1 = ρ j) (h37 : ¬ al = 3707) : ∀ (L : List Int) (i f : Nat) (S S2 : List Int) (w : Nat → Int), (∀ j, j < L.length → codes (1600 + (i + j)) = L.getD j 0) → (i : Int) + (L.length : Int) = ce 4 → L.length < f → pwl w S → rnR ρ κ al L S S2 → ∃ w2, F_X10_codesTell_a0_1_19 ask red bar kd wk ce codes nw gp wt go hm p1 f (i : Int) (S.length : Int) w = (w2 0, (S2.length : Int), w2) ∧ pwl w2 S2 := by
  intro L
  induction L with
  | nil =>
    intro i f S S2 w hc ht hl hw h
    obtain ⟨k, rfl⟩ : ∃ k, f = k + 1 := ⟨f - 1, by have : 0 < f := hl; omega⟩
    have e : S2 = S := h
    subst e
    have ht' : (i : Int) + ((0 : Nat) : Int) = ce 4 := ht
    refine ⟨w, ?_, hw⟩
    show F_X10_codesTell_a0_1_19b ask red bar kd wk ce codes nw gp wt go hm p1 _ (i : Int) (S2.length : Int) w = _
    unfold F_X10_codesTell_a0_1_19b
    rw [if_pos (by omega)]
    rfl
  | cons c L ih =>
    intro i f S S2 w hc ht hl hw h
    obtain ⟨k, rfl⟩ : ∃ k, f = k + 1 := ⟨f - 1, by have : 0 < f := Nat.lt_of_le_of_lt (Nat.zero_le _) hl; omega⟩
    obtain ⟨S1, h1, h2⟩ := h
    have ht' : (i : Int) + ((L.length + 1 : Nat) : Int) = ce 4 := ht
    have hl' : L.length + 1 < k + 1 := hl
    have hc0 : codes (1600 + i) = c := hc 0 (Nat.zero_lt_succ _)
    obtain ⟨w1, e1, e2⟩ := vm_step1 (K := F_X10_codesTell_a0_1_19 ask red bar kd wk ce codes nw gp wt go hm p1 k) (w := w) (i := i) (ce := ce) (by omega) hc0 hw hf h37 h1
    show ∃ w2, F_X10_codesTell_a0_1_19b ask red bar kd wk ce codes nw gp wt go hm p1 (F_X10_codesTell_a0_1_19 ask red bar kd wk ce codes nw gp wt go hm p1 k) (i : Int) (S.length : Int) w = (w2 0, (S2.length : Int), w2) ∧ pwl w2 S2
    rw [e1]
    exact ih (i + 1) k S1 S2 w1 (fun j hj => by
      have := hc (j + 1) (Nat.succ_lt_succ hj)
      rw [show 1600 + (i + (j + 1)) = 1600 + (i + 1 + j) from by omega] at this
      exact this) (by omega) (by omega) e2 h2
theorem vm_val1 {ask red p1 : Int} {cf bar kd wk ce codes nw gp wt go hm : Nat → Int} {pile : Nat → Int} {ρ : Int → Int} {κ al v : Int} {L : List Int} {i : Nat} (hf : ∀ j : Int, 0 ≤ j → j < 12 → alB al j = true → F_X10_qPartOf (1 : Int) ask red bar kd wk nw gp wt go hm j p1 = ρ j) (h37 : ¬ al = 3707) (h0 : cf 4 = (i : Int)) (hc : ∀ j, j < L.length → codes (1600 + (i + j)) = L.getD j 0) (ht : (i : Int) + (L.length : Int) = ce 4) (hl : L.length ≤ 1600) (h : rnR ρ κ al L [] [v]) : (F_X10_codesTell_a0_1 ask red bar kd wk cf ce codes nw gp wt go hm pile p1).1 = v := by
  obtain ⟨w2, e1, e2⟩ := vm_run1 (ask := ask) (red := red) (bar := bar) (kd := kd) (wk := wk) (nw := nw) (gp := gp) (wt := wt) (go := go) (hm := hm) (p1 := p1) hf h37 L i 1602 [] [v] pile hc ht (by omega) True.intro h
  unfold F_X10_codesTell_a0_1
  rw [h0]
  have e3 : F_X10_codesTell_a0_1_19 ask red bar kd wk ce codes nw gp wt go hm p1 1602 (i : Int) (0 : Int) pile = (w2 0, (([v] : List Int).length : Int), w2) := e1
  rw [e3]
  exact e2.1
theorem vm_step2 {ask red p1 : Int} {bar kd wk ce codes nw gp wt go hm : Nat → Int} {w : Nat → Int} {i : Nat} {S S1 : List Int} {ρ : Int → Int} {κ al c : Int} {K : Int → Int → (Nat → Int) → Int × Int × (Nat → Int)} (hi : (i : Int) < ce 5) (hc : codes (1600 + i) = c) (hw : pwl w S) (hf : ∀ j : Int, 0 ≤ j → j < 12 → alB al j = true → F_X10_qPartOf (2 : Int) ask red bar kd wk nw gp wt go hm j p1 = ρ j) (h37 : ¬ al = 3707) (h : stR ρ κ al c S S1) : ∃ w1, F_X10_codesTell_a0_2_19b ask red bar kd wk ce codes nw gp wt go hm p1 K (i : Int) (S.length : Int) w = K ((i : Int) + (1 : Int)) (S1.length : Int) w1 ∧ pwl w1 S1 := by
  unfold F_X10_codesTell_a0_2_19b
  rw [if_neg (by omega), show (Int.toNat ((1600 : Int) + (i : Int))) = 1600 + i from by omega, hc]
  rcases h with ⟨h1, h2, h3, h4⟩ | ⟨h1, h2, x, T, h3, h4⟩ | ⟨h1, h2, h3, h4, h5⟩ | ⟨h1, h2, h3⟩ | ⟨h1, x, T, h2, h3, h4⟩ | ⟨h1, h2, a, b, T, h3, h4, h5, h6, h7⟩
  · unfold F_X10_qPuts
    rw [if_neg (by omega), lf_p_e, h4]
    exact ⟨_, rfl, pwl_push hw _⟩
  · exact absurd h2 h37
  · unfold F_X10_qPuts
    rw [if_pos (by omega), if_neg (by omega), lf_b_e, hf (c - 40) (by omega) (by omega) h3, lf_p_e, h5]
    exact ⟨_, rfl, pwl_push hw _⟩
  · unfold F_X10_qPuts
    rw [if_pos (by omega), if_pos (by omega), if_pos h1, lf_p_e, h3]
    exact ⟨_, rfl, pwl_push hw _⟩
  · subst h2
    have hw1 : w T.length = x := hw.1
    rw [if_pos (by omega), if_pos (by omega), if_neg (by omega), if_pos h1, len_i, Int.toNat_natCast, hw1, h4, ol_sub (by unfold in6; omega) (by unfold in6; omega)]
    exact ⟨_, rfl, pwl_push hw.2 _⟩
  · subst h3
    have hw1 : w (a :: T).length = b := hw.1
    have hw2 : w T.length = a := hw.2.1
    have l2 : ((((b :: a :: T).length : Nat)) : Int) = (T.length : Int) + 2 := rfl
    have l3 : (T.length : Int) + 2 - 2 = (T.length : Int) := by omega
    have l4 : (T.length : Int) + 2 - 1 = (((a :: T).length : Nat) : Int) := by
      show _ = ((T.length + 1 : Nat) : Int)
      omega
    rw [if_pos (by omega), if_pos (by omega), if_neg (by omega), if_neg (by omega), l2, jn_m (by rw [l3, Int.toNat_natCast]; exact hw2) (by rw [l4, Int.toNat_natCast]; exact hw1) h4 h5 h6 h1 h2, lf_p_e, l3, h7]
    exact ⟨_, rfl, pwl_push hw.2.2 _⟩
theorem vm_run2 {ask red p1 : Int} {bar kd wk ce codes nw gp wt go hm : Nat → Int} {ρ : Int → Int} {κ al : Int} (hf : ∀ j : Int, 0 ≤ j → j < 12 → alB al j = true → F_X10_qPartOf (2 : Int) ask red bar kd wk nw gp wt go hm j p1 = ρ j) (h37 : ¬ al = 3707) : ∀ (L : List Int) (i f : Nat) (S S2 : List Int) (w : Nat → Int), (∀ j, j < L.length → codes (1600 + (i + j)) = L.getD j 0) → (i : Int) + (L.length : Int) = ce 5 → L.length < f → pwl w S → rnR ρ κ al L S S2 → ∃ w2, F_X10_codesTell_a0_2_19 ask red bar kd wk ce codes nw gp wt go hm p1 f (i : Int) (S.length : Int) w = (w2 0, (S2.length : Int), w2) ∧ pwl w2 S2 := by
  intro L
  induction L with
  | nil =>
    intro i f S S2 w hc ht hl hw h
    obtain ⟨k, rfl⟩ : ∃ k, f = k + 1 := ⟨f - 1, by have : 0 < f := hl; omega⟩
    have e : S2 = S := h
    subst e
    have ht' : (i : Int) + ((0 : Nat) : Int) = ce 5 := ht
    refine ⟨w, ?_, hw⟩
    show F_X10_codesTell_a0_2_19b ask red bar kd wk ce codes nw gp wt go hm p1 _ (i : Int) (S2.length : Int) w = _
    unfold F_X10_codesTell_a0_2_19b
    rw [if_pos (by omega)]
    rfl
  | cons c L ih =>
    intro i f S S2 w hc ht hl hw h
    obtain ⟨k, rfl⟩ : ∃ k, f = k + 1 := ⟨f - 1, by have : 0 < f := Nat.lt_of_le_of_lt (Nat.zero_le _) hl; omega⟩
    obtain ⟨S1, h1, h2⟩ := h
    have ht' : (i : Int) + ((L.length + 1 : Nat) : Int) = ce 5 := ht
    have hl' : L.length + 1 < k + 1 := hl
    have hc0 : codes (1600 + i) = c := hc 0 (Nat.zero_lt_succ _)
    obtain ⟨w1, e1, e2⟩ := vm_step2 (K := F_X10_codesTell_a0_2_19 ask red bar kd wk ce codes nw gp wt go hm p1 k) (w := w) (i := i) (ce := ce) (by omega) hc0 hw hf h37 h1
    show ∃ w2, F_X10_codesTell_a0_2_19b ask red bar kd wk ce codes nw gp wt go hm p1 (F_X10_codesTell_a0_2_19 ask red bar kd wk ce codes nw gp wt go hm p1 k) (i : Int) (S.length : Int) w = (w2 0, (S2.length : Int), w2) ∧ pwl w2 S2
    rw [e1]
    exact ih (i + 1) k S1 S2 w1 (fun j hj => by
      have := hc (j + 1) (Nat.succ_lt_succ hj)
      rw [show 1600 + (i + (j + 1)) = 1600 + (i + 1 + j) from by omega] at this
      exact this) (by omega) (by omega) e2 h2
theorem vm_val2 {ask red p1 : Int} {cf bar kd wk ce codes nw gp wt go hm : Nat → Int} {pile : Nat → Int} {ρ : Int → Int} {κ al v : Int} {L : List Int} {i : Nat} (hf : ∀ j : Int, 0 ≤ j → j < 12 → alB al j = true → F_X10_qPartOf (2 : Int) ask red bar kd wk nw gp wt go hm j p1 = ρ j) (h37 : ¬ al = 3707) (h0 : cf 5 = (i : Int)) (hc : ∀ j, j < L.length → codes (1600 + (i + j)) = L.getD j 0) (ht : (i : Int) + (L.length : Int) = ce 5) (hl : L.length ≤ 1600) (h : rnR ρ κ al L [] [v]) : (F_X10_codesTell_a0_2 ask red bar kd wk cf ce codes nw gp wt go hm pile p1).1 = v := by
  obtain ⟨w2, e1, e2⟩ := vm_run2 (ask := ask) (red := red) (bar := bar) (kd := kd) (wk := wk) (nw := nw) (gp := gp) (wt := wt) (go := go) (hm := hm) (p1 := p1) hf h37 L i 1602 [] [v] pile hc ht (by omega) True.intro h
  unfold F_X10_codesTell_a0_2
  rw [h0]
  have e3 : F_X10_codesTell_a0_2_19 ask red bar kd wk ce codes nw gp wt go hm p1 1602 (i : Int) (0 : Int) pile = (w2 0, (([v] : List Int).length : Int), w2) := e1
  rw [e3]
  exact e2.1
theorem vm_step3 {tk ask red qn p1 : Int} {bar kd wk codes nw gp wt go hm : Nat → Int} {w : Nat → Int} {i : Nat} {S S1 : List Int} {ρ : Int → Int} {κ al c : Int} {K : Int → Int → (Nat → Int) → Int × Int × (Nat → Int)} (hi : (i : Int) < qn) (hc : codes i = c) (hw : pwl w S) (hf : ∀ j : Int, 0 ≤ j → j < 12 → alB al j = true → F_X10_qPartOf tk ask red bar kd wk nw gp wt go hm j p1 = ρ j) (h37 : al = 3707 → F_X10_kindOf wk p1 = κ) (hb : ∀ j : Int, 0 ≤ j → j < 12 → alB al j = true → in6 (ρ j)) (h : stR ρ κ al c S S1) : ∃ w1, F_X10_qTold_7b tk ask red qn bar kd wk nw gp wt go hm codes p1 K (i : Int) (S.length : Int) w = K ((i : Int) + (1 : Int)) (S1.length : Int) w1 ∧ pwl w1 S1 := by
  unfold F_X10_qTold_7b
  rw [if_neg (by omega), Int.toNat_natCast, hc]
  rcases h with ⟨h1, h2, h3, h4⟩ | ⟨h1, h2, x, T, h3, h4⟩ | ⟨h1, h2, h3, h4, h5⟩ | ⟨h1, h2, h3⟩ | ⟨h1, x, T, h2, h3, h4⟩ | ⟨h1, h2, a, b, T, h3, h4, h5, h6, h7⟩
  · unfold F_X10_qPuts
    rw [if_neg (by omega), lf_p_e, h4]
    exact ⟨_, rfl, pwl_push hw _⟩
  · subst h3
    have hw1 : w T.length = x := hw.1
    have hcl : ∀ z : Int, z = 0 ∨ z = 1 → clp z = z := by
      intro z hz
      unfold clp
      rw [if_neg (by omega), if_neg (by omega)]
    unfold F_X10_qOf
    rw [if_pos (by omega), if_neg (by omega), len_i, Int.toNat_natCast, hw1, lf_b_e, lf_b_e, h37 h2, lf_b_e, clip_m, h4]
    by_cases q : x = κ
    · rw [if_pos (cmp_eq.mpr q.symm), if_pos q, hcl 1 (Or.inr rfl)]
      exact ⟨_, rfl, pwl_push hw.2 1⟩
    · rw [if_neg (fun r => q (cmp_eq.mp r).symm), if_neg q, hcl 0 (Or.inl rfl)]
      exact ⟨_, rfl, pwl_push hw.2 0⟩
  · have hb2 := hb (c - 40) (by omega) (by omega) h3
    have hcl : clp (ρ (c - 40)) = ρ (c - 40) := by
      unfold clp
      have := hb2.1
      have := hb2.2
      rw [if_neg (by omega), if_neg (by omega)]
    unfold F_X10_qPuts
    rw [if_pos (by omega), if_pos (by omega), if_neg (by omega), lf_b_e, hf (c - 40) (by omega) (by omega) h3, lf_b_e, clip_m, hcl, lf_p_e, h5]
    exact ⟨_, rfl, pwl_push hw _⟩
  · unfold F_X10_qPuts
    rw [if_pos (by omega), if_pos (by omega), if_pos (by omega), if_pos h1, lf_p_e, h3]
    exact ⟨_, rfl, pwl_push hw _⟩
  · subst h2
    have hw1 : w T.length = x := hw.1
    rw [if_pos (by omega), if_pos (by omega), if_pos (by omega), if_neg (by omega), if_pos h1, len_i, Int.toNat_natCast, hw1, h4, ol_sub (by unfold in6; omega) (by unfold in6; omega)]
    exact ⟨_, rfl, pwl_push hw.2 _⟩
  · subst h3
    have hw1 : w (a :: T).length = b := hw.1
    have hw2 : w T.length = a := hw.2.1
    have l2 : ((((b :: a :: T).length : Nat)) : Int) = (T.length : Int) + 2 := rfl
    have l3 : (T.length : Int) + 2 - 2 = (T.length : Int) := by omega
    have l4 : (T.length : Int) + 2 - 1 = (((a :: T).length : Nat) : Int) := by
      show _ = ((T.length + 1 : Nat) : Int)
      omega
    rw [if_pos (by omega), if_pos (by omega), if_pos (by omega), if_neg (by omega), if_neg (by omega), l2, jn_m (by rw [l3, Int.toNat_natCast]; exact hw2) (by rw [l4, Int.toNat_natCast]; exact hw1) h4 h5 h6 h1 h2, lf_p_e, l3, h7]
    exact ⟨_, rfl, pwl_push hw.2.2 _⟩
theorem vm_run3 {tk ask red qn p1 : Int} {bar kd wk codes nw gp wt go hm : Nat → Int} {ρ : Int → Int} {κ al : Int} (hf : ∀ j : Int, 0 ≤ j → j < 12 → alB al j = true → F_X10_qPartOf tk ask red bar kd wk nw gp wt go hm j p1 = ρ j) (h37 : al = 3707 → F_X10_kindOf wk p1 = κ) (hb : ∀ j : Int, 0 ≤ j → j < 12 → alB al j = true → in6 (ρ j)) : ∀ (L : List Int) (i f : Nat) (S S2 : List Int) (w : Nat → Int), (∀ j, j < L.length → codes (i + j) = L.getD j 0) → (i : Int) + (L.length : Int) = qn → L.length < f → pwl w S → rnR ρ κ al L S S2 → ∃ w2, F_X10_qTold_7 tk ask red qn bar kd wk nw gp wt go hm codes p1 f (i : Int) (S.length : Int) w = (w2 0, (S2.length : Int), w2) ∧ pwl w2 S2 := by
  intro L
  induction L with
  | nil =>
    intro i f S S2 w hc ht hl hw h
    obtain ⟨k, rfl⟩ : ∃ k, f = k + 1 := ⟨f - 1, by have : 0 < f := hl; omega⟩
    have e : S2 = S := h
    subst e
    have ht' : (i : Int) + ((0 : Nat) : Int) = qn := ht
    refine ⟨w, ?_, hw⟩
    show F_X10_qTold_7b tk ask red qn bar kd wk nw gp wt go hm codes p1 _ (i : Int) (S2.length : Int) w = _
    unfold F_X10_qTold_7b
    rw [if_pos (by omega)]
    rfl
  | cons c L ih =>
    intro i f S S2 w hc ht hl hw h
    obtain ⟨k, rfl⟩ : ∃ k, f = k + 1 := ⟨f - 1, by have : 0 < f := Nat.lt_of_le_of_lt (Nat.zero_le _) hl; omega⟩
    obtain ⟨S1, h1, h2⟩ := h
    have ht' : (i : Int) + ((L.length + 1 : Nat) : Int) = qn := ht
    have hl' : L.length + 1 < k + 1 := hl
    have hc0 : codes i = c := hc 0 (Nat.zero_lt_succ _)
    obtain ⟨w1, e1, e2⟩ := vm_step3 (K := F_X10_qTold_7 tk ask red qn bar kd wk nw gp wt go hm codes p1 k) (w := w) (i := i) (qn := qn) (by omega) hc0 hw hf h37 hb h1
    show ∃ w2, F_X10_qTold_7b tk ask red qn bar kd wk nw gp wt go hm codes p1 (F_X10_qTold_7 tk ask red qn bar kd wk nw gp wt go hm codes p1 k) (i : Int) (S.length : Int) w = (w2 0, (S2.length : Int), w2) ∧ pwl w2 S2
    rw [e1]
    exact ih (i + 1) k S1 S2 w1 (fun j hj => by
      have := hc (j + 1) (Nat.succ_lt_succ hj)
      rw [show i + (j + 1) = i + 1 + j from by omega] at this
      exact this) (by omega) (by omega) e2 h2
theorem vm_val3 {tk ask red qn p1 : Int} {bar kd wk codes nw gp wt go hm : Nat → Int} {pile : Nat → Int} {ρ : Int → Int} {κ al v : Int} {L : List Int} (hf : ∀ j : Int, 0 ≤ j → j < 12 → alB al j = true → F_X10_qPartOf tk ask red bar kd wk nw gp wt go hm j p1 = ρ j) (h37 : al = 3707 → F_X10_kindOf wk p1 = κ) (hb : ∀ j : Int, 0 ≤ j → j < 12 → alB al j = true → in6 (ρ j)) (hc : ∀ j, j < L.length → codes j = L.getD j 0) (ht : (L.length : Int) = qn) (hl : L.length ≤ 1600) (h : rnR ρ κ al L [] [v]) : (F_X10_qTold tk ask red qn bar kd wk nw gp wt go hm codes pile p1).1 = v := by
  obtain ⟨w2, e1, e2⟩ := vm_run3 (tk := tk) (ask := ask) (red := red) (bar := bar) (kd := kd) (wk := wk) (nw := nw) (gp := gp) (wt := wt) (go := go) (hm := hm) (p1 := p1) (codes := codes) (qn := qn) hf h37 hb L 0 1702 [] [v] pile (fun j hj => by rw [Nat.zero_add]; exact hc j hj) (by show (0 : Int) + _ = _; omega) (by omega) True.intro h
  have e3 : F_X10_qTold tk ask red qn bar kd wk nw gp wt go hm codes pile p1 = (w2 0, (([v] : List Int).length : Int), w2) := e1
  rw [e3]
  exact e2.1
end
section
/-! 7c -/
/-! codes of a text come to one number: their pile never gets too high, truths are 0 or 1 -/
def gdR (al : Int) (m : Nat) (t : Bool) (L : List Int) : Prop := ∀ (ρ : Int → Int) (κ : Int), (∀ j : Int, 0 ≤ j → j < 12 → alB al j = true → in6 (ρ j)) → ∃ v, in6 v ∧ bo t v ∧ ∀ S : List Int, S.length + m ≤ 64 → rnR ρ κ al L S (v :: S)
theorem gd_w {al : Int} {m m2 : Nat} {t : Bool} {L : List Int} (h : gdR al m t L) (hm : m ≤ m2) : gdR al m2 t L := by
  intro ρ κ hρ
  obtain ⟨v, h1, h2, h3⟩ := h ρ κ hρ
  exact ⟨v, h1, h2, fun S hS => h3 S (by omega)⟩
theorem gd_f {al : Int} {m : Nat} {t : Bool} {L : List Int} (h : gdR al m t L) : gdR al m false L := by
  intro ρ κ hρ
  obtain ⟨v, h1, h2, h3⟩ := h ρ κ hρ
  exact ⟨v, h1, fun r => Bool.noConfusion r, h3⟩
theorem gd_num {al x : Int} (h0 : 0 ≤ x) (h1 : x ≤ 9999) : gdR al 1 false [1000 + x] := by
  intro ρ κ hρ
  refine ⟨x, ⟨by omega, by omega⟩, fun r => Bool.noConfusion r, fun S hS => rnR_1 (Or.inl ⟨by omega, by omega, by omega, ?_⟩)⟩
  rw [show 1000 + x - 1000 = x from by omega]
theorem gd_pw {al w : Int} (h0 : 0 ≤ w) (h1 : w < 12) (ha : alB al w = true) : gdR al 1 false [40 + w] := by
  intro ρ κ hρ
  refine ⟨ρ w, hρ w h0 h1 ha, fun r => Bool.noConfusion r, fun S hS => rnR_1 (Or.inr (Or.inr (Or.inl ⟨by omega, by omega, ?_, by omega, ?_⟩)))⟩
  · rw [show 40 + w - 40 = w from by omega]
    exact ha
  · rw [show 40 + w - 40 = w from by omega]
theorem gd_all {al : Int} : gdR al 1 true [13] := by
  intro ρ κ hρ
  exact ⟨1, by unfold in6; omega, fun _ => Or.inr rfl, fun S hS => rnR_1 (Or.inr (Or.inr (Or.inr (Or.inl ⟨rfl, by omega, rfl⟩))))⟩
theorem gd_op {al c : Int} {m1 m2 m : Nat} {t1 t2 t : Bool} {L K : List Int} (h1 : gdR al m1 t1 L) (h2 : gdR al m2 t2 K) (hm1 : m1 ≤ m) (hm2 : m2 + 1 ≤ m) (hc : 1 ≤ c) (hc2 : c ≤ 11) (ht : t = true → 7 ≤ c) (h10 : 10 ≤ c → t1 = true ∧ t2 = true) : gdR al m t (L ++ K ++ [c]) := by
  intro ρ κ hρ
  obtain ⟨a, a1, a2, a3⟩ := h1 ρ κ hρ
  obtain ⟨b, b1, b2, b3⟩ := h2 ρ κ hρ
  have hb : c = 10 ∨ c = 11 → (a = 0 ∨ a = 1) ∧ (b = 0 ∨ b = 1) := by
    intro r
    have := h10 (by omega)
    exact ⟨a2 this.1, b2 this.2⟩
  have hv := opV_b a1 b1 hb hc hc2
  refine ⟨opV c a b, hv.1, fun r => hv.2 (ht r), fun S hS => ?_⟩
  refine rnR_app _ _ _ _ _ (rnR_app _ _ _ _ _ (a3 S (by omega)) (b3 (a :: S) (by show S.length + 1 + m2 ≤ 64; omega))) (rnR_1 ?_)
  exact Or.inr (Or.inr (Or.inr (Or.inr (Or.inr ⟨hc, hc2, a, b, S, rfl, a1, b1, hb, rfl⟩))))
theorem gd_k {al : Int} {m : Nat} {t : Bool} {L : List Int} (ha : al = 3707) (h : gdR al m t L) : gdR al m false (L ++ [60]) := by
  intro ρ κ hρ
  obtain ⟨a, a1, a2, a3⟩ := h ρ κ hρ
  refine ⟨if a = κ then 1 else 0, ?_, fun r => Bool.noConfusion r, fun S hS => ?_⟩
  · unfold in6
    by_cases q : a = κ
    · rw [if_pos q]
      omega
    · rw [if_neg q]
      omega
  · exact rnR_app _ _ _ _ _ (a3 S hS) (rnR_1 (Or.inr (Or.inl ⟨rfl, ha, a, S, rfl, rfl⟩)))
theorem gd_not {al : Int} {m : Nat} {L : List Int} (h : gdR al m true L) : gdR al m true (L ++ [12]) := by
  intro ρ κ hρ
  obtain ⟨a, a1, a2, a3⟩ := h ρ κ hρ
  have ha := a2 rfl
  refine ⟨1 - a, by unfold in6; omega, fun _ => by omega, fun S hS => ?_⟩
  exact rnR_app _ _ _ _ _ (a3 S hS) (rnR_1 (Or.inr (Or.inr (Or.inr (Or.inr (Or.inl ⟨rfl, a, S, rfl, ha, rfl⟩))))))
def gdS (al : Int) (m : Nat) (t : Bool) (S : Nat → SL) : Prop := ∀ p q L, S p = .inr (q, L) → gdR al m t L
theorem bL_inr {s : SL} {k : Nat → List Int → SL} {z : Nat × List Int} (h : bL s k = .inr z) : ∃ q L, s = .inr (q, L) ∧ k q L = .inr z := by
  cases s with
  | inl x => cases h
  | inr y => exact ⟨y.1, y.2, rfl, h⟩
theorem ndL_inr {s : ST} {k : Nat → SL} {z : Nat × List Int} (h : ndL s k = .inr z) : ∃ q, s = .inr q ∧ k q = .inr z := by
  cases s with
  | inl x => cases h
  | inr y => exact ⟨y, rfl, h⟩
section GD
variable {g : Nat → Int} {n : Nat} {al : Int}
theorem gd_lp {S : Nat → SL} {c1 c2 o1 o2 : Int} {m : Nat} (hS : gdS al m false S) (h1 : 1 ≤ o1) (h2 : o1 ≤ 6) (h3 : 1 ≤ o2) (h4 : o2 ≤ 6) : ∀ (f p : Nat) (L : List Int) (q : Nat) (M : List Int), gdR al (m + 1) false L → lpM g n S c1 c2 o1 o2 f p L = .inr (q, M) → gdR al (m + 1) false M := by
  intro f
  induction f with
  | zero =>
    intro p L q M hL h
    cases h
    exact hL
  | succ f ih =>
    intro p L q M hL h
    unfold lpM at h
    by_cases k1 : tx_k g n p = 3 ∧ g (tx_a g n p) = c1
    · rw [if_pos k1] at h
      obtain ⟨q1, K, e1, e2⟩ := bL_inr h
      exact ih q1 _ q M (gd_op hL (hS _ _ _ e1) (Nat.le_refl _) (Nat.le_refl _) h1 (by omega) (fun r => Bool.noConfusion r) (fun r => by omega)) e2
    · rw [if_neg k1] at h
      by_cases k2 : tx_k g n p = 3 ∧ g (tx_a g n p) = c2
      · rw [if_pos k2] at h
        obtain ⟨q1, K, e1, e2⟩ := bL_inr h
        exact ih q1 _ q M (gd_op hL (hS _ _ _ e1) (Nat.le_refl _) (Nat.le_refl _) h3 (by omega) (fun r => Bool.noConfusion r) (fun r => by omega)) e2
      · rw [if_neg k2] at h
        cases h
        exact hL
theorem gd_sL {S : Nat → SL} {c1 c2 o1 o2 : Int} {m : Nat} (hS : gdS al m false S) (h1 : 1 ≤ o1) (h2 : o1 ≤ 6) (h3 : 1 ≤ o2) (h4 : o2 ≤ 6) : gdS al (m + 1) false (sL g n S c1 c2 o1 o2) := by
  intro p q L h
  unfold sL at h
  obtain ⟨q1, K, e1, e2⟩ := bL_inr h
  exact gd_lp hS h1 h2 h3 h4 1602 q1 K q L (gd_w (hS _ _ _ e1) (Nat.le_succ m)) e2
theorem gd_lv {S : Nat → SL} {ws : List (List Int)} {o : Int} {m : Nat} (hS : gdS al m true S) (h1 : 10 ≤ o) (h2 : o ≤ 11) : ∀ (f p : Nat) (L : List Int) (q : Nat) (M : List Int), gdR al (m + 1) true L → lvM g n S ws o f p L = .inr (q, M) → gdR al (m + 1) true M := by
  intro f
  induction f with
  | zero =>
    intro p L q M hL h
    cases h
    exact hL
  | succ f ih =>
    intro p L q M hL h
    unfold lvM at h
    by_cases k1 : wl g n ws p = -1
    · rw [if_pos k1] at h
      cases h
      exact hL
    · rw [if_neg k1] at h
      obtain ⟨q1, K, e1, e2⟩ := bL_inr h
      exact ih q1 _ q M (gd_op hL (hS _ _ _ e1) (Nat.le_refl _) (Nat.le_refl _) (by omega) (by omega) (fun _ => by omega) (fun _ => ⟨rfl, rfl⟩)) e2
theorem gd_vL {S : Nat → SL} {ws : List (List Int)} {o : Int} {m : Nat} (hS : gdS al m true S) (h1 : 10 ≤ o) (h2 : o ≤ 11) : gdS al (m + 1) true (vL g n S ws o) := by
  intro p q L h
  unfold vL at h
  obtain ⟨q1, K, e1, e2⟩ := bL_inr h
  exact gd_lv hS h1 h2 1602 q1 K q L (gd_w (hS _ _ _ e1) (Nat.le_succ m)) e2
theorem gd_need {c : Int} {p : Nat} {L : List Int} {q : Nat} {M : List Int} (h : needM g n c p L = .inr (q, M)) : M = L := by
  unfold needM at h
  obtain ⟨q1, e1, e2⟩ := ndL_inr h
  cases e2
  rfl
theorem gd_opn {b : Bool} {p : Nat} {k : Nat → SL} {z : Nat × List Int} (h : opnM g n b p k = .inr z) : b = true ∧ k (tx_e g n p) = .inr z := by
  unfold opnM at h
  cases b with
  | true =>
    rw [if_pos rfl] at h
    exact ⟨rfl, h⟩
  | false =>
    rw [if_neg (fun r => Bool.noConfusion r)] at h
    cases h
theorem gd_pair {b : Bool} {S : Nat → SL} {o : Int} {m : Nat} (hS : b = true → gdS al m false S) (h1 : 5 ≤ o) (h2 : o ≤ 6) : gdS al (m + 1) false (pairM g n b S o) := by
  intro p q L h
  unfold pairM at h
  by_cases k1 : tx_k g n p = 3 ∧ g (tx_a g n p) = 40
  · rw [if_pos k1] at h
    obtain ⟨hb, h⟩ := gd_opn h
    obtain ⟨q1, L1, e1, h⟩ := bL_inr h
    obtain ⟨q2, e2, h⟩ := ndL_inr h
    obtain ⟨q3, L2, e3, h⟩ := bL_inr h
    rw [gd_need h]
    exact gd_op (hS hb _ _ _ e1) (hS hb _ _ _ e3) (Nat.le_succ m) (Nat.le_refl _) (by omega) (by omega) (fun r => Bool.noConfusion r) (fun r => by omega)
  · rw [if_neg k1] at h
    cases h
theorem gd_part {b : Bool} {S P : Nat → SL} {m : Nat} (hS : b = true → gdS al m false S) (hP : b = true → gdS al (m + 1) false P) : gdS al (m + 1) false (partM g n al b S P) := by
  intro p q L h
  unfold partM at h
  by_cases q0 : tx_k g n p = 2
  · rw [if_pos q0] at h
    unfold numM at h
    obtain ⟨q1, e1, e2⟩ := ndL_inr h
    cases e2
    exact gd_w (gd_num sp_num_lo (sp_num_hi e1)) (Nat.le_add_left 1 m)
  · rw [if_neg q0] at h
    by_cases q1 : tx_k g n p = 3 ∧ g (tx_a g n p) = 40
    · rw [if_pos q1] at h
      obtain ⟨hb, h⟩ := gd_opn h
      obtain ⟨q2, L1, e1, h⟩ := bL_inr h
      rw [gd_need h]
      exact gd_w (hS hb _ _ _ e1) (Nat.le_succ m)
    · rw [if_neg q1] at h
      by_cases q2 : wl g n ws_17 p = -1
      · rw [if_neg (show ¬ ¬ wl g n ws_17 p = -1 from fun r => r q2)] at h
        by_cases q3 : wl g n ws_18 p = -1
        · rw [if_neg (show ¬ ¬ wl g n ws_18 p = -1 from fun r => r q3)] at h
          by_cases q4 : al = 3707 ∧ ¬ wl g n ws_19 p = -1
          · rw [if_pos q4] at h
            obtain ⟨hb, h⟩ := gd_opn h
            obtain ⟨q5, L1, e1, h⟩ := bL_inr h
            cases h
            exact gd_k q4.1 (hP hb _ _ _ e1)
          · rw [if_neg q4] at h
            unfold pwM at h
            by_cases q5 : wl g n ws_20 p = -1 ∨ lf_o lf_iand (lf_o lf_ishr al (wl g n ws_20 p)) 1 = 0
            · rw [if_pos q5] at h
              cases h
            · rw [if_neg q5] at h
              cases h
              have hb := wl_20 (fun r => q5 (Or.inl r))
              exact gd_w (gd_pw hb.1 hb.2 (decide_eq_true (fun r => q5 (Or.inr r)))) (Nat.le_add_left 1 m)
        · rw [if_pos q3] at h
          exact gd_pair hS (by decide) (by decide) _ _ _ h
      · rw [if_pos q2] at h
        exact gd_pair hS (by decide) (by decide) _ _ _ h
theorem gd_mPart : ∀ d : Nat, gdS al (3 * d + 1) false (mPart g n al d)
  | 0 => gd_part (m := 0) (fun r => Bool.noConfusion r) (fun r => Bool.noConfusion r)
  | d + 1 => gd_part (m := 3 * d + 3) (fun _ => gd_sL (m := 3 * d + 2) (gd_sL (m := 3 * d + 1) (gd_mPart d) (by decide) (by decide) (by decide) (by decide)) (by decide) (by decide) (by decide) (by decide)) (fun _ => fun p q L h => gd_w (gd_mPart d p q L h) (by omega))
theorem gd_mSum (d : Nat) : gdS al (3 * d + 3) false (mSum g n al d) := gd_sL (m := 3 * d + 2) (gd_sL (m := 3 * d + 1) (gd_mPart d) (by decide) (by decide) (by decide) (by decide)) (by decide) (by decide) (by decide) (by decide)
theorem sg_b {q : Nat} : 7 ≤ -19 - (sp_sg g n q).1 ∧ -19 - (sp_sg g n q).1 ≤ 9 := by
  unfold sp_sg
  by_cases c1 : tx_k g n q = 3 ∧ g (tx_a g n q) = 60
  · rw [if_pos c1]
    show 7 ≤ (-19 : Int) - (-26) ∧ (-19 : Int) - (-26) ≤ 9
    decide
  · rw [if_neg c1]
    by_cases c2 : tx_k g n q = 3 ∧ g (tx_a g n q) = 62
    · rw [if_pos c2]
      show 7 ≤ (-19 : Int) - (-27) ∧ (-19 : Int) - (-27) ≤ 9
      decide
    · rw [if_neg c2]
      by_cases c3 : tx_k g n q = 3 ∧ g (tx_a g n q) = 61
      · rw [if_pos c3]
        show 7 ≤ (-19 : Int) - (-28) ∧ (-19 : Int) - (-28) ≤ 9
        decide
      · rw [if_neg c3]
        show 7 ≤ (-19 : Int) - (-28) ∧ (-19 : Int) - (-28) ≤ 9
        decide
theorem gd_cmp {S : Nat → SL} {m : Nat} (hS : gdS al m false S) : gdS al (m + 1) true (cmpM g n S) := by
  intro p q L h
  unfold cmpM at h
  obtain ⟨q1, L1, e1, h⟩ := bL_inr h
  obtain ⟨q2, e2, h⟩ := ndL_inr h
  obtain ⟨q3, L2, e3, h⟩ := bL_inr h
  cases h
  have hb := sg_b (g := g) (n := n) (q := q1)
  exact gd_op (hS _ _ _ e1) (hS _ _ _ e3) (Nat.le_succ m) (Nat.le_refl _) (by omega) (by omega) (fun _ => hb.1) (fun r => by omega)
theorem gd_fact {b : Bool} {S T Fq : Nat → SL} {m : Nat} (hS : gdS al m false S) (hT : b = true → gdS al (m + 1) true T) (hF : b = true → gdS al (m + 1) true Fq) : gdS al (m + 1) true (factM g n b S T Fq) := by
  intro p q L h
  unfold factM at h
  by_cases q0 : wl g n ws_15 p = -1
  · rw [if_neg (show ¬ ¬ wl g n ws_15 p = -1 from fun r => r q0)] at h
    by_cases q1 : tx_k g n p = 3 ∧ g (tx_a g n p) = 91
    · rw [if_pos q1] at h
      obtain ⟨hb, h⟩ := gd_opn h
      obtain ⟨q2, L1, e1, h⟩ := bL_inr h
      rw [gd_need h]
      exact hT hb _ _ _ e1
    · rw [if_neg q1] at h
      by_cases q2 : wl g n ws_16 p = -1
      · rw [if_neg (show ¬ ¬ wl g n ws_16 p = -1 from fun r => r q2)] at h
        exact gd_cmp hS _ _ _ h
      · rw [if_pos q2] at h
        cases h
        exact gd_w gd_all (Nat.le_add_left 1 m)
  · rw [if_pos q0] at h
    obtain ⟨hb, h⟩ := gd_opn h
    obtain ⟨q2, L1, e1, h⟩ := bL_inr h
    cases h
    exact gd_not (hF hb _ _ _ e1)
theorem gd_mFact : ∀ d : Nat, gdS al (3 * d + 4) true (mFact g n al d)
  | 0 => gd_fact (m := 3) (gd_mSum 0) (fun r => Bool.noConfusion r) (fun r => Bool.noConfusion r)
  | d + 1 => gd_fact (m := 3 * d + 6) (fun p q L h => gd_w (gd_mSum (d + 1) p q L h) (by omega)) (fun _ => fun p q L h => gd_w (gd_vL (m := 3 * d + 5) (gd_vL (m := 3 * d + 4) (gd_mFact d) (by decide) (by decide)) (by decide) (by decide) p q L h) (by omega)) (fun _ => fun p q L h => gd_w (gd_mFact d p q L h) (by omega))
theorem gd_mTest (d : Nat) : gdS al (3 * d + 6) true (mTest g n al d) := gd_vL (m := 3 * d + 5) (gd_vL (m := 3 * d + 4) (gd_mFact d) (by decide) (by decide)) (by decide) (by decide)
end GD
/-- what codes come to -/
theorem gd_val {al : Int} {m : Nat} {t : Bool} {L : List Int} (h : gdR al m t L) (hm : m ≤ 64) (ρ : Int → Int) (κ : Int) (hρ : ∀ j : Int, 0 ≤ j → j < 12 → alB al j = true → in6 (ρ j)) : ∃ v, in6 v ∧ bo t v ∧ rnR ρ κ al L [] [v] := by
  obtain ⟨v, h1, h2, h3⟩ := h ρ κ hρ
  exact ⟨v, h1, h2, h3 [] (by show 0 + m ≤ 64; omega)⟩
end
section
/-! 8a -/
/-! bits of whole numbers -/
def bt (X : Int) (w : Nat) : Bool := X.toNat.testBit w
def rg (X : Int) : Prop := 0 ≤ X ∧ X < 4096
theorem bt_n (a w : Nat) : bt (a : Int) w = a.testBit w := rfl
theorem rg_n {X : Int} (h : rg X) : ∃ a : Nat, X = (a : Int) ∧ a < 4096 := by
  obtain ⟨a, ha⟩ := Int.eq_ofNat_of_zero_le h.1
  exact ⟨a, ha, by have := h.2; omega⟩
theorem lo_and {a b : Nat} (ha : a < 2147483648) : lf_o lf_iand (a : Int) (b : Int) = ((a &&& b : Nat) : Int) := by
  have e31 : (2 : Nat) ^ 31 = 2147483648 := by decide
  show (Int32.ofInt (a : Int) &&& Int32.ofInt (b : Int)).toInt = _
  have e : Int32.ofInt (a : Int) &&& Int32.ofInt (b : Int) = Int32.ofNat (a &&& b) := by
    rw [← Int32.toBitVec_inj]
    show BitVec.ofInt 32 (a : Int) &&& BitVec.ofInt 32 (b : Int) = BitVec.ofNat 32 (a &&& b)
    rw [BitVec.ofInt_natCast, BitVec.ofInt_natCast, BitVec.ofNat_and]
  rw [e]
  have := @Nat.and_le_left a b
  exact Int32.toInt_ofNat_of_lt (by omega)
theorem lo_or {a b : Nat} (ha : a < 2147483648) (hb : b < 2147483648) : lf_o lf_ior (a : Int) (b : Int) = ((a ||| b : Nat) : Int) := by
  have e31 : (2 : Nat) ^ 31 = 2147483648 := by decide
  show (Int32.ofInt (a : Int) ||| Int32.ofInt (b : Int)).toInt = _
  have e : Int32.ofInt (a : Int) ||| Int32.ofInt (b : Int) = Int32.ofNat (a ||| b) := by
    rw [← Int32.toBitVec_inj]
    show BitVec.ofInt 32 (a : Int) ||| BitVec.ofInt 32 (b : Int) = BitVec.ofNat 32 (a ||| b)
    rw [BitVec.ofInt_natCast, BitVec.ofInt_natCast, BitVec.ofNat_or]
  rw [e]
  have : a ||| b < 2 ^ 31 := Nat.or_lt_two_pow (by omega) (by omega)
  exact Int32.toInt_ofNat_of_lt (by omega)
theorem lo_andn {a b : Nat} (ha : a < 2147483648) : lf_o lf_iand (a : Int) (lf_o lf_ixor (b : Int) (-1)) = ((a &&& (b ^^^ 4294967295) : Nat) : Int) := by
  have e31 : (2 : Nat) ^ 31 = 2147483648 := by decide
  show (Int32.ofInt (a : Int) &&& Int32.ofInt ((Int32.ofInt (b : Int) ^^^ Int32.ofInt (-1)).toInt)).toInt = _
  rw [Int32.ofInt_toInt]
  have e : Int32.ofInt (a : Int) &&& (Int32.ofInt (b : Int) ^^^ Int32.ofInt (-1)) = Int32.ofNat (a &&& (b ^^^ 4294967295)) := by
    rw [← Int32.toBitVec_inj]
    show BitVec.ofInt 32 (a : Int) &&& (BitVec.ofInt 32 (b : Int) ^^^ BitVec.ofInt 32 (-1)) = BitVec.ofNat 32 (a &&& (b ^^^ 4294967295))
    rw [BitVec.ofInt_natCast, BitVec.ofInt_natCast, BitVec.ofNat_and, BitVec.ofNat_xor, show BitVec.ofInt 32 (-1) = BitVec.ofNat 32 4294967295 from by decide]
  rw [e]
  have := @Nat.and_le_left a (b ^^^ 4294967295)
  exact Int32.toInt_ofNat_of_lt (by omega)
theorem rg_and {X Y : Int} (hx : rg X) (hy : rg Y) : rg (lf_o lf_iand X Y) ∧ ∀ w, bt (lf_o lf_iand X Y) w = (bt X w && bt Y w) := by
  obtain ⟨a, rfl, ha⟩ := rg_n hx
  obtain ⟨b, rfl, hb⟩ := rg_n hy
  rw [lo_and (by omega)]
  have := @Nat.and_le_left a b
  exact ⟨⟨by omega, by omega⟩, fun w => Nat.testBit_and a b w⟩
theorem rg_or {X Y : Int} (hx : rg X) (hy : rg Y) : rg (lf_o lf_ior X Y) ∧ ∀ w, bt (lf_o lf_ior X Y) w = (bt X w || bt Y w) := by
  obtain ⟨a, rfl, ha⟩ := rg_n hx
  obtain ⟨b, rfl, hb⟩ := rg_n hy
  rw [lo_or (by omega) (by omega)]
  have : a ||| b < 2 ^ 12 := Nat.or_lt_two_pow (by omega) (by omega)
  exact ⟨⟨by omega, by omega⟩, fun w => Nat.testBit_or a b w⟩
theorem rg_andn {X Y : Int} (hx : rg X) (hy : rg Y) : rg (lf_o lf_iand X (lf_o lf_ixor Y (-1))) ∧ ∀ w, bt (lf_o lf_iand X (lf_o lf_ixor Y (-1))) w = (bt X w && !bt Y w) := by
  obtain ⟨a, rfl, ha⟩ := rg_n hx
  obtain ⟨b, rfl, hb⟩ := rg_n hy
  rw [lo_andn (by omega)]
  have := @Nat.and_le_left a (b ^^^ 4294967295)
  refine ⟨⟨by omega, by omega⟩, fun w => ?_⟩
  show (a &&& (b ^^^ 4294967295)).testBit w = (a.testBit w && !b.testBit w)
  rw [Nat.testBit_and, Nat.testBit_xor, show (4294967295 : Nat) = 2 ^ 32 - 1 from by decide, Nat.testBit_two_pow_sub_one]
  by_cases q : w < 32
  · rw [decide_eq_true q]
    cases a.testBit w <;> cases b.testBit w <;> rfl
  · have hw : a.testBit w = false := Nat.testBit_lt_two_pow (Nat.lt_of_lt_of_le (by omega : a < 2 ^ 32) (Nat.pow_le_pow_right (by decide) (by omega)))
    rw [hw]
    rfl
theorem rg_0 : rg 0 := ⟨by decide, by decide⟩
theorem bt_0 (w : Nat) : bt 0 w = false := Nat.zero_testBit w
theorem bt_hi {X : Int} (h : rg X) {w : Nat} (hw : 12 ≤ w) : bt X w = false := by
  obtain ⟨a, rfl, ha⟩ := rg_n h
  exact Nat.testBit_lt_two_pow (Nat.lt_of_lt_of_le (by omega : a < 2 ^ 12) (Nat.pow_le_pow_right (by decide) hw))
theorem bt_ext {X Y : Int} (hx : rg X) (hy : rg Y) (h : ∀ w, w < 12 → bt X w = bt Y w) : X = Y := by
  have h2 : ∀ w, bt X w = bt Y w := by
    intro w
    rcases Nat.lt_or_ge w 12 with q | q
    · exact h w q
    · rw [bt_hi hx q, bt_hi hy q]
  obtain ⟨a, rfl, ha⟩ := rg_n hx
  obtain ⟨b, rfl, hb⟩ := rg_n hy
  rw [Nat.eq_of_testBit_eq (x := a) (y := b) h2]
theorem bt_z {X : Int} (hx : rg X) : X = 0 ↔ ∀ w, w < 12 → bt X w = false := by
  constructor
  · intro h w _
    rw [h]
    exact bt_0 w
  · intro h
    exact bt_ext hx rg_0 (fun w hw => by rw [h w hw, bt_0])
def shB : Bool := (List.range 13).all (fun w => decide (lf_o lf_ishl 1 (w : Int) = ((2 ^ w : Nat) : Int)))
theorem lo_shl1 {w : Nat} (h : w < 13) : lf_o lf_ishl 1 (w : Int) = ((2 ^ w : Nat) : Int) := of_decide_eq_true (List.all_eq_true.mp (show shB = true from by decide +kernel) w (List.mem_range.mpr h))
theorem p12 {w : Nat} (h : w < 12) : 2 ^ w < 4096 := Nat.lt_of_lt_of_le (Nat.pow_lt_pow_right (by decide) h) (by decide : 2 ^ 12 ≤ 4096)
theorem rg_sh {w : Nat} (h : w < 12) : rg (lf_o lf_ishl 1 (w : Int)) ∧ ∀ v, bt (lf_o lf_ishl 1 (w : Int)) v = decide (w = v) := by
  rw [lo_shl1 (by omega)]
  have := p12 h
  exact ⟨⟨Int.natCast_nonneg _, Int.ofNat_lt.mpr this⟩, fun v => Nat.testBit_two_pow⟩
/-- is the bit there? -/
theorem bt_at {X : Int} (hx : rg X) {w : Nat} (h : w < 12) : lf_o lf_iand X (lf_o lf_ishl 1 (w : Int)) = 0 ↔ bt X w = false := by
  have h1 := rg_and hx (rg_sh h).1
  rw [bt_z h1.1]
  constructor
  · intro q
    have := q w h
    rw [h1.2, (rg_sh h).2, decide_eq_true rfl, Bool.and_true] at this
    exact this
  · intro q v hv
    rw [h1.2, (rg_sh h).2]
    by_cases e : w = v
    · rw [← e, q]
      rfl
    · rw [decide_eq_false e, Bool.and_false]
def smB : Bool := (List.range 31).all (fun n => decide (((Int32.ofInt (n : Int) &&& 31).toBitVec.smod 32).toNat = n))
theorem lo_shr {X : Int} {n : Nat} (h1 : 0 ≤ X) (h2 : X < 2147483648) (hn : n < 31) : lf_o lf_ishr X (n : Int) = ((X.toNat / 2 ^ n : Nat) : Int) := by
  have e31 : (2 : Int) ^ 31 = 2147483648 := by decide
  have hs : ((Int32.ofInt (n : Int) &&& 31).toBitVec.smod 32).toNat = n := of_decide_eq_true (List.all_eq_true.mp (show smB = true from by decide +kernel) n (List.mem_range.mpr hn))
  obtain ⟨a, rfl⟩ := Int.eq_ofNat_of_zero_le h1
  show ((Int32.ofInt (a : Int)).toBitVec.sshiftRight' ((Int32.ofInt (n : Int) &&& 31).toBitVec.smod 32)).toInt = _
  rw [BitVec.toInt_sshiftRight', hs]
  have e : (Int32.ofInt (a : Int)).toBitVec.toInt = (a : Int) := Int32.toInt_ofInt_of_le (by omega) (by omega)
  rw [e, Int.shiftRight_eq_div_pow]
  show (a : Int) / ((2 ^ n : Nat) : Int) = ((a / 2 ^ n : Nat) : Int)
  rw [Int.natCast_ediv]
theorem bt_bit {X : Int} {w : Nat} (h1 : 0 ≤ X) (h2 : X < 2147483648) (hw : w < 31) : lf_o lf_iand (lf_o lf_ishr X (w : Int)) 1 = b2 (bt X w) := by
  rw [lo_shr h1 h2 hw]
  have hle : X.toNat / 2 ^ w ≤ X.toNat := Nat.div_le_self _ _
  rw [show (1 : Int) = ((1 : Nat) : Int) from rfl, lo_and (by omega), Nat.and_one_is_mod]
  unfold bt
  rw [Nat.testBit_eq_decide_div_mod_eq]
  rcases Nat.mod_two_eq_zero_or_one (X.toNat / 2 ^ w) with q | q
  · rw [q]
    rfl
  · rw [q]
    rfl
theorem bt_bit2 {X : Int} {w : Nat} (h1 : 0 ≤ X) (h2 : X < 2147483648) (hw : w < 31) : lf_o lf_iand (lf_o lf_ishr X (w : Int)) 2 = if bt X (w + 1) = true then 2 else 0 := by
  rw [lo_shr h1 h2 hw]
  have hle : X.toNat / 2 ^ w ≤ X.toNat := Nat.div_le_self _ _
  rw [show (2 : Int) = ((2 ^ 1 : Nat) : Int) from rfl, lo_and (by omega)]
  have e : (X.toNat / 2 ^ w) &&& 2 ^ 1 = if bt X (w + 1) = true then 2 else 0 := by
    apply Nat.eq_of_testBit_eq
    intro i
    rw [Nat.testBit_and, Nat.testBit_two_pow]
    have e2 : (X.toNat / 2 ^ w).testBit 1 = bt X (w + 1) := by
      unfold bt
      rw [Nat.testBit_eq_decide_div_mod_eq, Nat.testBit_eq_decide_div_mod_eq, Nat.div_div_eq_div_mul, ← Nat.pow_add]
    by_cases q : 1 = i
    · rw [← q, e2, decide_eq_true rfl, Bool.and_true]
      cases bt X (w + 1) <;> rfl
    · rw [decide_eq_false q, Bool.and_false]
      cases bt X (w + 1)
      · rw [if_neg (fun r => Bool.noConfusion r), Nat.zero_testBit]
      · rw [if_pos rfl, show (2 : Nat) = 2 ^ 1 from rfl, Nat.testBit_two_pow, decide_eq_false q]
  rw [e]
  cases bt X (w + 1) <;> rfl
/-- all walkers -/
theorem rg_all {n : Nat} (h : n ≤ 12) : rg (F_X4_everyone (n : Int)) ∧ ∀ w, bt (F_X4_everyone (n : Int)) w = decide (w < n) := by
  unfold F_X4_everyone
  have h2 : 2 ^ n ≤ 4096 := Nat.le_trans (Nat.pow_le_pow_right (by decide) h) (by decide : 2 ^ 12 ≤ 4096)
  have h1 : 1 ≤ 2 ^ n := Nat.one_le_two_pow
  have e : lf_o lf_isub (lf_o lf_ishl (1 : Int) (n : Int)) (1 : Int) = ((2 ^ n - 1 : Nat) : Int) := by
    rw [lo_shl1 (by omega), lo_sub (by omega) (by omega) (by omega) (by omega) (by omega) (by omega)]
    omega
  rw [e]
  exact ⟨⟨by omega, by omega⟩, fun w => Nat.testBit_two_pow_sub_one n w⟩
/-- how many bits -/
def pcn (X : Int) : Nat → Int
  | 0 => 0
  | k + 1 => pcn X k + b2 (bt X k)
def usB : Bool := (List.range 31).all (fun n => decide ((UInt32.mod ((Int32.ofInt (n : Int)).toUInt32 &&& Int32.toUInt32 31) 32).toBitVec.toNat = n))
theorem lo_ushr {a n : Nat} (ha : a < 2147483648) (hn : n < 31) : lf_o lf_iushr (a : Int) (n : Int) = ((a >>> n : Nat) : Int) := by
  have hs : (UInt32.mod ((Int32.ofInt (n : Int)).toUInt32 &&& Int32.toUInt32 31) 32).toBitVec.toNat = n := of_decide_eq_true (List.all_eq_true.mp (show usB = true from by decide +kernel) n (List.mem_range.mpr hn))
  show ((BitVec.ofInt 32 (a : Int)) >>> (UInt32.mod ((Int32.ofInt (n : Int)).toUInt32 &&& Int32.toUInt32 31) 32).toBitVec.toNat).toInt = _
  rw [hs, BitVec.ofInt_natCast]
  have h1 : (BitVec.ofNat 32 a >>> n).toNat = a >>> n := by
    rw [BitVec.toNat_ushiftRight, BitVec.toNat_ofNat, Nat.mod_eq_of_lt (by omega)]
  have h2 : a >>> n ≤ a := by rw [Nat.shiftRight_eq_div_pow]; exact Nat.div_le_self _ _
  rw [BitVec.toInt_eq_toNat_of_lt (by rw [h1]; omega), h1]
def bn1 (a : Nat) : Nat := a - ((a >>> 1) &&& 1431655765)
def bn2 (b : Nat) : Nat := (b &&& 858993459) + ((b >>> 2) &&& 858993459)
def bn3 (c : Nat) : Nat := (c + (c >>> 4)) &&& 252645135
def bn4 (d : Nat) : Nat := d + (d >>> 8)
def bn5 (e : Nat) : Nat := (e + (e >>> 16)) &&& 63
theorem sh_le (a n : Nat) : a >>> n ≤ a := by rw [Nat.shiftRight_eq_div_pow]; exact Nat.div_le_self _ _
theorem bn_1 {a : Nat} (ha : a < 4096) : lf_o lf_isub (a : Int) (lf_o lf_iand (lf_o lf_iushr (a : Int) (1 : Int)) (1431655765 : Int)) = ((bn1 a : Nat) : Int) ∧ bn1 a < 4096 := by
  have q1 := sh_le a 1
  have e1 : lf_o lf_iushr (a : Int) (1 : Int) = ((a >>> 1 : Nat) : Int) := lo_ushr (n := 1) (by omega) (by decide)
  rw [e1]
  unfold bn1
  generalize a >>> 1 = s at q1 ⊢
  have e2 : lf_o lf_iand (s : Int) (1431655765 : Int) = ((s &&& 1431655765 : Nat) : Int) := lo_and (b := 1431655765) (by omega)
  rw [e2]
  have q2 : s &&& 1431655765 ≤ s := Nat.and_le_left
  generalize s &&& 1431655765 = t at q2 ⊢
  rw [lo_sub (by omega) (by omega) (by omega) (by omega) (by omega) (by omega)]
  exact ⟨by omega, by omega⟩
theorem bn_2 {b : Nat} (hb : b < 4096) : lf_o lf_iadd (lf_o lf_iand (b : Int) (858993459 : Int)) (lf_o lf_iand (lf_o lf_iushr (b : Int) (2 : Int)) (858993459 : Int)) = ((bn2 b : Nat) : Int) ∧ bn2 b < 8192 := by
  have q1 := sh_le b 2
  have e1 : lf_o lf_iushr (b : Int) (2 : Int) = ((b >>> 2 : Nat) : Int) := lo_ushr (n := 2) (by omega) (by decide)
  rw [e1]
  unfold bn2
  generalize b >>> 2 = s at q1 ⊢
  have e2 : lf_o lf_iand (s : Int) (858993459 : Int) = ((s &&& 858993459 : Nat) : Int) := lo_and (b := 858993459) (by omega)
  have e3 : lf_o lf_iand (b : Int) (858993459 : Int) = ((b &&& 858993459 : Nat) : Int) := lo_and (b := 858993459) (by omega)
  rw [e2, e3]
  have q2 : s &&& 858993459 ≤ s := Nat.and_le_left
  have q3 : b &&& 858993459 ≤ b := Nat.and_le_left
  generalize s &&& 858993459 = t at q2 ⊢
  generalize b &&& 858993459 = r at q3 ⊢
  rw [lo_add (by omega) (by omega) (by omega) (by omega) (by omega) (by omega)]
  exact ⟨by omega, by omega⟩
theorem bn_3 {c : Nat} (hc : c < 8192) : lf_o lf_iand (lf_o lf_iadd (c : Int) (lf_o lf_iushr (c : Int) (4 : Int))) (252645135 : Int) = ((bn3 c : Nat) : Int) ∧ bn3 c < 16384 := by
  have q1 := sh_le c 4
  have e1 : lf_o lf_iushr (c : Int) (4 : Int) = ((c >>> 4 : Nat) : Int) := lo_ushr (n := 4) (by omega) (by decide)
  rw [e1]
  unfold bn3
  generalize c >>> 4 = s at q1 ⊢
  rw [lo_add (by omega) (by omega) (by omega) (by omega) (by omega) (by omega)]
  have e2 : lf_o lf_iand ((c : Int) + (s : Int)) (252645135 : Int) = (((c + s) &&& 252645135 : Nat) : Int) := lo_and (a := c + s) (b := 252645135) (by omega)
  rw [e2]
  have q2 : (c + s) &&& 252645135 ≤ c + s := Nat.and_le_left
  exact ⟨rfl, by omega⟩
theorem bn_4 {d : Nat} (hd : d < 16384) : lf_o lf_iadd (d : Int) (lf_o lf_iushr (d : Int) (8 : Int)) = ((bn4 d : Nat) : Int) ∧ bn4 d < 32768 := by
  have q1 := sh_le d 8
  have e1 : lf_o lf_iushr (d : Int) (8 : Int) = ((d >>> 8 : Nat) : Int) := lo_ushr (n := 8) (by omega) (by decide)
  rw [e1]
  unfold bn4
  generalize d >>> 8 = s at q1 ⊢
  rw [lo_add (by omega) (by omega) (by omega) (by omega) (by omega) (by omega)]
  exact ⟨by omega, by omega⟩
theorem bn_5 {x : Nat} (hd : x < 32768) : lf_o lf_iand (lf_o lf_iadd (x : Int) (lf_o lf_iushr (x : Int) (16 : Int))) (63 : Int) = ((bn5 x : Nat) : Int) := by
  have q1 := sh_le x 16
  have e1 : lf_o lf_iushr (x : Int) (16 : Int) = ((x >>> 16 : Nat) : Int) := lo_ushr (n := 16) (by omega) (by decide)
  rw [e1]
  unfold bn5
  generalize x >>> 16 = s at q1 ⊢
  rw [lo_add (by omega) (by omega) (by omega) (by omega) (by omega) (by omega)]
  exact lo_and (a := x + s) (b := 63) (by omega)
/-- the bits of a number, counted as numbers -/
def pcN (a : Nat) : Nat → Nat
  | 0 => 0
  | k + 1 => pcN a k + (if a.testBit k then 1 else 0)
theorem pcn_N (a : Nat) : ∀ k, pcn (a : Int) k = ((pcN a k : Nat) : Int)
  | 0 => rfl
  | k + 1 => by
    show pcn (a : Int) k + b2 (Nat.testBit a k) = ((pcN a k + (if a.testBit k then 1 else 0) : Nat) : Int)
    rw [pcn_N a k]
    cases Nat.testBit a k <;> rfl
def bcB : Bool := (List.range 4096).all (fun x => Nat.beq (bn5 (bn4 (bn3 (bn2 (bn1 x))))) (pcN x 12))
theorem bc_x {X : Int} (h : rg X) : F_J6_bitCount_0f7a4 X = pcn X 12 := by
  obtain ⟨a, rfl, ha⟩ := rg_n h
  have h0 := Nat.eq_of_beq_eq_true (List.all_eq_true.mp (show bcB = true from by decide +kernel) a (List.mem_range.mpr ha))
  have h1 := bn_1 ha
  have h2 := bn_2 h1.2
  have h3 := bn_3 h2.2
  have h4 := bn_4 h3.2
  unfold F_J6_bitCount_0f7a4
  rw [h1.1, h2.1, h3.1, h4.1, bn_5 h4.2, h0, pcn_N]
theorem lo_rem {X Y : Int} (h1 : 0 ≤ X) (h2 : X ≤ 1000000) (h3 : 1 ≤ Y) (h4 : Y ≤ 1000000) : lf_o lf_irem X Y = X % Y := by
  have e : (2 : Int) ^ 31 = 2147483648 := by decide
  show (Int32.ofInt X - Int32.ofInt X / Int32.ofInt Y * Int32.ofInt Y).toInt = X % Y
  have ex : (Int32.ofInt X).toInt = X := Int32.toInt_ofInt_of_le (by omega) (by omega)
  have ey : (Int32.ofInt Y).toInt = Y := Int32.toInt_ofInt_of_le (by omega) (by omega)
  have q0 : 0 ≤ X / Y := Int.ediv_nonneg h1 (by omega)
  have q1 : X / Y ≤ X := Int.ediv_le_self Y h1
  have q2 : X / Y * Y ≤ X := Int.ediv_mul_le X (by omega)
  have q3 : 0 ≤ X / Y * Y := Int.mul_nonneg q0 (by omega)
  have e1 : (Int32.ofInt X / Int32.ofInt Y).toInt = X / Y := by
    rw [Int32.toInt_div, ex, ey, Int.tdiv_eq_ediv_of_nonneg h1]
    generalize X / Y = q at q0 q1 ⊢
    exact Int.bmod_eq_of_le (by omega) (by omega)
  have e2 : (Int32.ofInt X / Int32.ofInt Y * Int32.ofInt Y).toInt = X / Y * Y := by
    rw [Int32.toInt_mul, e1, ey]
    generalize X / Y * Y = q at q2 q3 ⊢
    exact Int.bmod_eq_of_le (by omega) (by omega)
  rw [Int32.toInt_sub, ex, e2]
  have e3 : X - X / Y * Y = X % Y := by
    have := Int.emod_add_ediv_mul X Y
    omega
  rw [e3]
  have r0 : 0 ≤ X % Y := Int.emod_nonneg X (by omega)
  have r1 : X % Y < Y := Int.emod_lt_of_pos X (by omega)
  generalize X % Y = q at r0 r1 ⊢
  exact Int.bmod_eq_of_le (by omega) (by omega)
end
section
/-! 8b -/
/-! the light: one description, second by second -/
def pr (nW : Nat) (cA tw : Nat → Int) (ab : Nat → Bool) (s bf : Int) : Bool := (List.range nW).any (fun w => decide (cA w = s) && !ab w && decide (0 < tw w) && decide (bf = 0))
abbrev lzT : Type := Bool × Bool × Int × Int
def lOp (nW : Nat) (cA tw : Nat → Int) (ab : Nat → Bool) (s : Nat) (z : lzT) : Bool := z.1 || pr nW cA tw ab (s : Int) z.2.2.2
def lL (ls : Int) (s : Nat) (z : lzT) (op : Bool) : Bool := decide (z.2.2.2 ≤ 1) && op && decide (ls ≤ (s : Int) - z.2.2.1 - 1)
def lLf (gr : Int) (z : lzT) (l : Bool) : Int := if l = true then gr else max (z.2.2.2 - 1) 0
def lC (cy gr : Int) (s : Nat) (l : Bool) : Int := if l = true then max (gr - (s : Int) % cy) 0 else 0
def lst (nW : Nat) (cA tw : Nat → Int) (ab : Nat → Bool) (cy ls ru gr : Int) (s : Nat) (z : lzT) : lzT := if ru = 1 then (lOp nW cA tw ab s z && !lL ls s z (lOp nW cA tw ab s z), z.2.1, (if 0 < lLf gr z (lL ls s z (lOp nW cA tw ab s z)) then (s : Int) else z.2.2.1), lLf gr z (lL ls s z (lOp nW cA tw ab s z))) else if (s : Int) % cy = 0 then (false, decide (ru = 0) || lOp nW cA tw ab s z, z.2.2.1, lC cy gr s (decide (ru = 0) || lOp nW cA tw ab s z)) else (lOp nW cA tw ab s z, z.2.1, z.2.2.1, lC cy gr s z.2.1)
def lzS (nW : Nat) (cA tw : Nat → Int) (ab : Nat → Bool) (cy ls ru gr : Int) : Nat → lzT
  | 0 => (false, false, -1, 0)
  | s + 1 => lst nW cA tw ab cy ls ru gr s (lzS nW cA tw ab cy ls ru gr s)
/-- how many seconds the green lasts -/
def lef (nW : Nat) (cA tw : Nat → Int) (ab : Nat → Bool) (cy ls ru gr : Int) (s : Nat) : Int := (lzS nW cA tw ab cy ls ru gr (s + 1)).2.2.2
section SH
variable {nW : Nat} {cA tw : Nat → Int} {ab : Nat → Bool} {cy ls ru gr : Int}
theorem lef_b (h0 : 0 ≤ gr) (h1 : gr ≤ 60) (hc : 1 ≤ cy) : ∀ s, 0 ≤ (lzS nW cA tw ab cy ls ru gr s).2.2.2 ∧ (lzS nW cA tw ab cy ls ru gr s).2.2.2 ≤ 60
  | 0 => ⟨Int.le_refl _, by show (0 : Int) ≤ 60; decide⟩
  | s + 1 => by
    have ih := lef_b h0 h1 hc s
    show 0 ≤ (lst nW cA tw ab cy ls ru gr s (lzS nW cA tw ab cy ls ru gr s)).2.2.2 ∧ (lst nW cA tw ab cy ls ru gr s (lzS nW cA tw ab cy ls ru gr s)).2.2.2 ≤ 60
    have hl : ∀ l, 0 ≤ lLf gr (lzS nW cA tw ab cy ls ru gr s) l ∧ lLf gr (lzS nW cA tw ab cy ls ru gr s) l ≤ 60 := by
      intro l
      unfold lLf
      cases l
      · rw [if_neg (fun r => Bool.noConfusion r)]
        omega
      · rw [if_pos rfl]
        omega
    have hm : 0 ≤ (s : Int) % cy := Int.emod_nonneg _ (by omega)
    have hk : ∀ l, 0 ≤ lC cy gr s l ∧ lC cy gr s l ≤ 60 := by
      intro l
      unfold lC
      cases l
      · rw [if_neg (fun r => Bool.noConfusion r)]
        omega
      · rw [if_pos rfl]
        omega
    unfold lst
    by_cases c1 : ru = 1
    · rw [if_pos c1]
      exact hl _
    · rw [if_neg c1]
      by_cases c2 : (s : Int) % cy = 0
      · rw [if_pos c2]
        exact hk _
      · rw [if_neg c2]
        exact hk _
theorem b2_or (a b : Bool) : b2 (a || b) = 0 ↔ (a = false ∧ b = false) := by
  cases a <;> cases b <;> decide
theorem b2_0 {b : Bool} : b2 b = 0 ↔ b = false := by
  cases b <;> decide
/-- the class: a second -/
theorem sh_step {comers a5 : Nat → Int} {K20 : Int → Int → Int → Int → Int → Int → (Nat → Int) → Int × (Nat → Int)} {l1 l3 c13 P : Int} {s : Nat} {z : lzT} (hs : s < 300) (hcy : 1 ≤ cy) (hcy2 : cy ≤ 120) (hg0 : 0 ≤ gr) (hg1 : gr ≤ 60) (hz0 : 0 ≤ z.2.2.2) (hz1 : z.2.2.2 ≤ 60) (hb : z.2.2.2 = if s = 0 then 0 else a5 (s - 1)) (hl3 : ¬ ru = 1 → l3 = b2 z.2.1) (hP : P = if z.2.2.2 = 0 then lf_o lf_iand (F_X4_comersIn comers (s : Int)) l1 else 0) (hP0 : P = 0 ↔ pr nW cA tw ab (s : Int) z.2.2.2 = false) : ∃ l3', F_X7_shine_20b cy ls comers ru gr K20 l1 (b2 z.1) l3 z.2.2.1 (s : Int) c13 a5 = K20 l1 (b2 (lst nW cA tw ab cy ls ru gr s z).1) l3' (lst nW cA tw ab cy ls ru gr s z).2.2.1 ((s : Int) + (1 : Int)) (lf_o lf_ior c13 P) (lf_up a5 (s : Int) (lst nW cA tw ab cy ls ru gr s z).2.2.2) ∧ (¬ ru = 1 → l3' = b2 (lst nW cA tw ab cy ls ru gr s z).2.1) := by
  have e46 : F_X7_shine_20b cy ls comers ru gr K20 l1 (b2 z.1) l3 z.2.2.1 (s : Int) c13 a5 = F_X7_shine_46 cy ls comers ru gr l1 (b2 z.1) l3 z.2.2.1 (s : Int) c13 a5 K20 z.2.2.2 := by
    unfold F_X7_shine_20b
    rw [if_neg (by omega)]
    by_cases q : s = 0
    · rw [if_pos (by omega), hb, if_pos q]
    · rw [if_neg (by omega), hb, if_neg q, show Int.toNat ((s : Int) - (1 : Int)) = s - 1 from by omega]
  have e68 : F_X7_shine_46 cy ls comers ru gr l1 (b2 z.1) l3 z.2.2.1 (s : Int) c13 a5 K20 z.2.2.2 = F_X7_shine_68 cy ls ru gr l1 (b2 z.1) l3 z.2.2.1 (s : Int) c13 a5 K20 z.2.2.2 P := by
    unfold F_X7_shine_46
    by_cases q : z.2.2.2 = 0
    · rw [if_pos q, lf_b_e, hP, if_pos q]
    · rw [if_neg q, hP, if_neg q]
  have e95 : F_X7_shine_68 cy ls ru gr l1 (b2 z.1) l3 z.2.2.1 (s : Int) c13 a5 K20 z.2.2.2 P = F_X7_shine_95 cy ls ru gr l1 l3 z.2.2.1 (s : Int) a5 K20 z.2.2.2 P (lf_o lf_ior c13 P) (b2 (lOp nW cA tw ab s z)) := by
    unfold F_X7_shine_68 F_X7_shine_90 lOp
    cases h1 : z.1 with
    | true => rw [if_neg (show ¬ b2 true = 0 from by decide), Bool.true_or]; rfl
    | false =>
      rw [if_pos (show b2 false = 0 from rfl), Bool.false_or]
      by_cases q : P = 0
      · rw [if_pos q, hP0.mp q]
        rfl
      · rw [if_neg q]
        cases h2 : pr nW cA tw ab (s : Int) z.2.2.2 with
        | true => rfl
        | false => exact absurd (hP0.mpr h2) q
  have hir : lf_o lf_irem (s : Int) cy = (s : Int) % cy := lo_rem (by omega) (by omega) hcy (by omega)
  have hm0 : 0 ≤ (s : Int) % cy := Int.emod_nonneg _ (by omega)
  have hm1 : (s : Int) % cy < cy := Int.emod_lt_of_pos _ (by omega)
  rw [e46, e68, e95]
  generalize lf_o lf_ior c13 P = c
  unfold F_X7_shine_95 lst
  by_cases c1 : ru = 1
  · rw [if_pos c1, if_pos c1]
    have hup : ∀ v : Int, lf_up a5 (s : Int) v (Int.toNat (s : Int)) = v := by
      intro v
      unfold lf_up
      rw [if_pos rfl]
    have e2 : lf_o lf_isub z.2.2.2 (1 : Int) = z.2.2.2 - 1 := lo_sub (by omega) (by omega) (by omega) (by omega) (by omega) (by omega)
    have e188 : ∀ (op l v : Int), F_X7_shine_188 l1 z.2.2.1 (s : Int) a5 K20 op l z.2.2.2 P (lf_o lf_irem (s : Int) cy) v c = K20 l1 op l (if 0 < v then (s : Int) else z.2.2.1) ((s : Int) + (1 : Int)) c (lf_up a5 (s : Int) v) := by
      intro op l v
      unfold F_X7_shine_188 F_X7_shine_206 F_X7_shine_261
      rw [hup]
      by_cases q : 0 < v
      · rw [if_neg (by omega), if_pos q]
      · rw [if_pos (by omega), if_neg q]
    have e148 : ∀ op l : Bool, F_X7_shine_148 gr l1 z.2.2.1 (s : Int) a5 K20 (b2 op) z.2.2.2 P (lf_o lf_irem (s : Int) cy) c (b2 l) = K20 l1 (b2 (op && !l)) (b2 l) (if 0 < lLf gr z l then (s : Int) else z.2.2.1) ((s : Int) + (1 : Int)) c (lf_up a5 (s : Int) (lLf gr z l)) := by
      intro op l
      unfold F_X7_shine_148 F_X7_shine_161 F_X7_shine_162
      have w0 : lLf gr z false = max (z.2.2.2 - 1) 0 := if_neg (fun r => Bool.noConfusion r)
      have w1 : lLf gr z true = gr := if_pos rfl
      cases op <;> cases l
      · rw [if_pos (show b2 false = 0 from rfl), if_pos (show b2 false = 0 from rfl), e188, e2, w0]
        rfl
      · rw [if_pos (show b2 false = 0 from rfl), if_neg (show ¬ b2 true = 0 from by decide), e188, w1]
        rfl
      · rw [if_neg (show ¬ b2 true = 0 from by decide), if_pos (show b2 false = 0 from rfl), if_pos (show b2 false = 0 from rfl), e188, e2, w0]
        rfl
      · rw [if_neg (show ¬ b2 true = 0 from by decide), if_neg (show ¬ b2 true = 0 from by decide), if_neg (show ¬ b2 true = 0 from by decide), e188, w1]
        rfl
    generalize lOp nW cA tw ab s z = op
    refine ⟨b2 (lL ls s z op), ?_, fun r => absurd c1 r⟩
    show _ = K20 l1 (b2 (op && !lL ls s z op)) (b2 (lL ls s z op)) (if 0 < lLf gr z (lL ls s z op) then (s : Int) else z.2.2.1) ((s : Int) + (1 : Int)) c (lf_up a5 (s : Int) (lLf gr z (lL ls s z op)))
    rw [← e148]
    unfold F_X7_shine_147
    by_cases c2 : 1 < z.2.2.2
    · have hL : lL ls s z op = false := by
        unfold lL
        rw [decide_eq_false (by omega), Bool.false_and, Bool.false_and]
      rw [if_pos c2, hL]
      rfl
    · rw [if_neg c2]
      cases op with
      | false =>
        have hL : lL ls s z false = false := by
          unfold lL
          rw [Bool.and_false, Bool.false_and]
        rw [if_pos (show b2 false = 0 from rfl), hL]
        rfl
      | true =>
        rw [if_neg (show ¬ b2 true = 0 from by decide)]
        by_cases c3 : (s : Int) - z.2.2.1 - 1 < ls
        · have hL : lL ls s z true = false := by
            unfold lL
            rw [decide_eq_false (show ¬ ls ≤ (s : Int) - z.2.2.1 - 1 from by omega), Bool.and_false]
          rw [if_pos c3, hL]
          rfl
        · have hL : lL ls s z true = true := by
            unfold lL
            rw [decide_eq_true (show z.2.2.2 ≤ 1 from by omega), decide_eq_true (show ls ≤ (s : Int) - z.2.2.1 - 1 from by omega)]
            rfl
          rw [if_neg c3, hL]
          rfl
  · have hl3' := hl3 c1
    subst hl3'
    rw [if_neg c1, if_neg c1, hir]
    have hsub : lf_o lf_isub gr ((s : Int) % cy) = gr - (s : Int) % cy := lo_sub (by omega) (by omega) (by omega) (by omega) (by omega) (by omega)
    unfold F_X7_shine_227 F_X7_shine_232 F_X7_shine_235 F_X7_shine_260 F_X7_shine_261
    rw [hsub]
    by_cases c2 : (s : Int) % cy = 0
    · rw [if_pos c2, if_pos c2]
      by_cases c3 : ru = 0
      · rw [if_pos c3, if_neg (show ¬ (1 : Int) = 0 from by decide), decide_eq_true c3, Bool.true_or]
        exact ⟨1, rfl, fun _ => rfl⟩
      · rw [if_neg c3, decide_eq_false c3, Bool.false_or]
        cases h1 : lOp nW cA tw ab s z with
        | true =>
          rw [if_neg (show ¬ b2 true = 0 from by decide), if_neg (show ¬ (1 : Int) = 0 from by decide)]
          exact ⟨1, rfl, fun _ => rfl⟩
        | false =>
          rw [if_pos (show b2 false = 0 from rfl), if_pos rfl]
          exact ⟨0, rfl, fun _ => rfl⟩
    · rw [if_neg c2, if_neg c2]
      cases h1 : z.2.1 with
      | true =>
        rw [if_neg (show ¬ b2 true = 0 from by decide)]
        exact ⟨1, rfl, fun _ => rfl⟩
      | false =>
        rw [if_pos (show b2 false = 0 from rfl)]
        exact ⟨0, rfl, fun _ => rfl⟩
end SH
end
section
/-! 8c -/
/-! the class's light is the one described -/
theorem pr_i {nW : Nat} {cA tw : Nat → Int} {ab : Nat → Bool} {s bf : Int} : pr nW cA tw ab s bf = true ↔ ∃ w, w < nW ∧ cA w = s ∧ ab w = false ∧ 0 < tw w ∧ bf = 0 := by
  unfold pr
  rw [List.any_eq_true]
  constructor
  · intro ⟨w, h1, h2⟩
    rw [Bool.and_eq_true, Bool.and_eq_true, Bool.and_eq_true] at h2
    refine ⟨w, List.mem_range.mp h1, of_decide_eq_true h2.1.1.1, ?_, of_decide_eq_true h2.1.2, of_decide_eq_true h2.2⟩
    have := h2.1.1.2
    cases c : ab w
    · rfl
    · rw [c] at this
      exact Bool.noConfusion this
  · intro ⟨w, h1, h2, h3, h4, h5⟩
    refine ⟨w, List.mem_range.mpr h1, ?_⟩
    rw [decide_eq_true h2, h3, decide_eq_true h4, decide_eq_true h5]
    rfl
theorem pr_n {nW : Nat} {cA tw : Nat → Int} {ab : Nat → Bool} {s bf : Int} : pr nW cA tw ab s bf = false ↔ ∀ w, w < nW → ¬ (cA w = s ∧ ab w = false ∧ 0 < tw w ∧ bf = 0) := by
  constructor
  · intro h w hw r
    have := pr_i.mpr ⟨w, hw, r⟩
    exact Bool.noConfusion (h.symm.trans this)
  · intro h
    cases c : pr nW cA tw ab s bf
    · rfl
    · obtain ⟨w, hw, r⟩ := pr_i.mp c
      exact absurd r (h w hw)
/-- who comes when, as bits -/
def cmB (nW : Nat) (cA comers : Nat → Int) : Prop := ∀ s : Nat, rg (F_X4_comersIn comers (s : Int)) ∧ ∀ w, w < 12 → bt (F_X4_comersIn comers (s : Int)) w = (decide (w < nW) && decide (cA w = (s : Int)))
def wiB (nW : Nat) (tw : Nat → Int) (ab : Nat → Bool) (l1 : Int) : Prop := rg l1 ∧ ∀ w, w < 12 → bt l1 w = (decide (w < nW) && decide (0 < tw w) && !ab w)
/-- who presses -/
def prS (nW : Nat) (cA tw : Nat → Int) (ab : Nat → Bool) (cy ls ru gr : Int) (w : Nat) : Bool := decide (w < nW) && !ab w && decide (0 < tw w) && decide ((lzS nW cA tw ab cy ls ru gr (cA w).toNat).2.2.2 = 0)
section SR
variable {nW : Nat} {cA tw : Nat → Int} {ab : Nat → Bool} {cy ls ru gr : Int} {comers : Nat → Int} {l1 : Int}
theorem sh_P {s : Nat} {bf : Int} (hC : cmB nW cA comers) (hW : wiB nW tw ab l1) (hn : nW ≤ 12) : rg (if bf = 0 then lf_o lf_iand (F_X4_comersIn comers (s : Int)) l1 else 0) ∧ (∀ w, w < 12 → bt (if bf = 0 then lf_o lf_iand (F_X4_comersIn comers (s : Int)) l1 else 0) w = (decide (w < nW) && !ab w && decide (0 < tw w) && decide (cA w = (s : Int)) && decide (bf = 0))) ∧ ((if bf = 0 then lf_o lf_iand (F_X4_comersIn comers (s : Int)) l1 else 0) = 0 ↔ pr nW cA tw ab (s : Int) bf = false) := by
  have h1 := hC s
  have h2 := rg_and h1.1 hW.1
  have hr : rg (if bf = 0 then lf_o lf_iand (F_X4_comersIn comers (s : Int)) l1 else 0) := by
    by_cases q : bf = 0
    · rw [if_pos q]
      exact h2.1
    · rw [if_neg q]
      exact rg_0
  have hb : ∀ w, w < 12 → bt (if bf = 0 then lf_o lf_iand (F_X4_comersIn comers (s : Int)) l1 else 0) w = (decide (w < nW) && !ab w && decide (0 < tw w) && decide (cA w = (s : Int)) && decide (bf = 0)) := by
    intro w hw
    by_cases q : bf = 0
    · rw [if_pos q, h2.2, h1.2 w hw, hW.2 w hw, decide_eq_true q, Bool.and_true]
      cases decide (w < nW) <;> cases ab w <;> cases decide (0 < tw w) <;> cases decide (cA w = (s : Int)) <;> rfl
    · rw [if_neg q, bt_0, decide_eq_false q, Bool.and_false]
  refine ⟨hr, hb, ?_⟩
  rw [bt_z hr, pr_n]
  constructor
  · intro h w hw r
    have := h w (by omega)
    rw [hb w (by omega), decide_eq_true hw, r.2.1, decide_eq_true r.2.2.1, decide_eq_true r.1, decide_eq_true r.2.2.2] at this
    exact Bool.noConfusion this
  · intro h w hw
    rw [hb w hw]
    by_cases q1 : w < nW
    · by_cases q2 : cA w = (s : Int)
      · cases q3 : ab w
        · by_cases q4 : 0 < tw w
          · by_cases q5 : bf = 0
            · exact absurd ⟨q2, q3, q4, q5⟩ (h w q1)
            · rw [decide_eq_false q5, Bool.and_false]
          · rw [decide_eq_false q4, Bool.and_false, Bool.false_and, Bool.false_and]
        · rw [Bool.not_true, Bool.and_false, Bool.false_and, Bool.false_and, Bool.false_and]
      · rw [decide_eq_false q2, Bool.and_false, Bool.false_and]
    · rw [decide_eq_false q1, Bool.false_and, Bool.false_and, Bool.false_and, Bool.false_and]
theorem sh_run (hC : cmB nW cA comers) (hW : wiB nW tw ab l1) (hn : nW ≤ 12) (hcy : 1 ≤ cy) (hcy2 : cy ≤ 120) (hg0 : 0 ≤ gr) (hg1 : gr ≤ 60) : ∀ (f s : Nat) (l3 c13 : Int) (a5 : Nat → Int), s ≤ 300 → 300 - s < f → (¬ ru = 1 → l3 = b2 (lzS nW cA tw ab cy ls ru gr s).2.1) → (∀ j, j < s → a5 j = lef nW cA tw ab cy ls ru gr j) → rg c13 → (∀ w, w < 12 → bt c13 w = (prS nW cA tw ab cy ls ru gr w && decide (cA w < (s : Int)))) → ∃ c a, F_X7_shine_20 cy ls comers ru gr f l1 (b2 (lzS nW cA tw ab cy ls ru gr s).1) l3 (lzS nW cA tw ab cy ls ru gr s).2.2.1 (s : Int) c13 a5 = (c, a) ∧ (∀ j, j < 300 → a j = lef nW cA tw ab cy ls ru gr j) ∧ rg c ∧ (∀ w, w < 12 → bt c w = (prS nW cA tw ab cy ls ru gr w && decide (cA w < 300))) := by
  intro f
  induction f with
  | zero => intro s l3 c13 a5 h1 h2; omega
  | succ f ih =>
    intro s l3 c13 a5 h1 h2 h3 h4 h5 h6
    show ∃ c a, F_X7_shine_20b cy ls comers ru gr (F_X7_shine_20 cy ls comers ru gr f) l1 (b2 (lzS nW cA tw ab cy ls ru gr s).1) l3 (lzS nW cA tw ab cy ls ru gr s).2.2.1 (s : Int) c13 a5 = (c, a) ∧ _
    by_cases q : s = 300
    · subst q
      unfold F_X7_shine_20b
      rw [if_pos (by decide)]
      exact ⟨c13, a5, rfl, h4, h5, h6⟩
    · have hs : s < 300 := by omega
      have hb := lef_b (nW := nW) (cA := cA) (tw := tw) (ab := ab) (ls := ls) (ru := ru) hg0 hg1 hcy s
      have hbf : (lzS nW cA tw ab cy ls ru gr s).2.2.2 = if s = 0 then 0 else a5 (s - 1) := by
        cases s with
        | zero => rfl
        | succ s => exact (h4 s (Nat.lt_succ_self s)).symm
      have hP := sh_P (s := s) (bf := (lzS nW cA tw ab cy ls ru gr s).2.2.2) hC hW hn
      obtain ⟨l3', e, e3⟩ := sh_step (K20 := F_X7_shine_20 cy ls comers ru gr f) (l1 := l1) (comers := comers) (c13 := c13) (ls := ls) (ru := ru) hs hcy hcy2 hg0 hg1 hb.1 hb.2 hbf h3 rfl hP.2.2
      rw [e]
      have hor := rg_or h5 hP.1
      refine ih (s + 1) l3' _ _ (by omega) (by omega) e3 (fun j hj => ?_) hor.1 (fun w hw => ?_)
      · by_cases qj : j = s
        · rw [lf_up_y (by omega), qj]
          rfl
        · rw [lf_up_o (by omega)]
          exact h4 j (by omega)
      · rw [hor.2, h6 w hw, hP.2.1 w hw]
        unfold prS
        by_cases q2 : cA w = (s : Int)
        · have e4 : (cA w).toNat = s := by omega
          rw [decide_eq_false (show ¬ cA w < (s : Int) from by omega), decide_eq_true q2, decide_eq_true (show cA w < ((s + 1 : Nat) : Int) from by omega), e4, Bool.and_false, Bool.false_or, Bool.and_true, Bool.and_true]
        · rw [decide_eq_false q2, Bool.and_false, Bool.false_and, Bool.or_false]
          by_cases q3 : cA w < (s : Int)
          · rw [decide_eq_true q3, decide_eq_true (show cA w < ((s + 1 : Nat) : Int) from by omega)]
          · rw [decide_eq_false q3, decide_eq_false (show ¬ cA w < ((s + 1 : Nat) : Int) from by omega)]
theorem wi_run {kO tr : Nat → Int} {A : Int} (hn : nW ≤ 12) (hA : rg A) (hA2 : ∀ w, w < 12 → bt A w = ab w) (ht : ∀ w, w < nW → tr (kO w).toNat = tw w) : ∀ (f w : Nat) (l : Int), w ≤ nW → nW - w < f → rg l → (∀ v, v < 12 → bt l v = (decide (v < w) && decide (0 < tw v))) → wiB nW tw ab (F_X7_willing_4 (nW : Int) kO tr A f l (w : Int)) := by
  intro f
  induction f with
  | zero => intro w l h1 h2; omega
  | succ f ih =>
    intro w l h1 h2 h3 h4
    show wiB nW tw ab (F_X7_willing_4b (nW : Int) kO tr A (F_X7_willing_4 (nW : Int) kO tr A f) l (w : Int))
    unfold F_X7_willing_4b F_X7_willing_38
    by_cases q : w = nW
    · rw [if_pos (by omega)]
      have h := rg_andn h3 hA
      refine ⟨h.1, fun v hv => ?_⟩
      rw [h.2, h4 v hv, hA2 v hv, q]
    · rw [if_neg (by omega), Int.toNat_natCast, ht w (by omega)]
      have hsh := rg_sh (w := w) (by omega)
      have hor := rg_or h3 hsh.1
      by_cases q2 : tw w ≤ 0
      · rw [if_pos q2]
        refine ih (w + 1) l (by omega) (by omega) h3 (fun v hv => ?_)
        rw [h4 v hv]
        by_cases q3 : v = w
        · rw [q3, decide_eq_false (show ¬ 0 < tw w from by omega), Bool.and_false, Bool.and_false]
        · by_cases q4 : v < w
          · rw [decide_eq_true q4, decide_eq_true (show v < w + 1 from by omega)]
          · rw [decide_eq_false q4, decide_eq_false (show ¬ v < w + 1 from by omega)]
      · rw [if_neg q2]
        refine ih (w + 1) _ (by omega) (by omega) hor.1 (fun v hv => ?_)
        rw [hor.2, h4 v hv, hsh.2]
        by_cases q3 : v = w
        · rw [q3, decide_eq_true (show w = w from rfl), decide_eq_true (show w < w + 1 from by omega), decide_eq_true (show 0 < tw w from by omega), Bool.or_true]
          rfl
        · rw [decide_eq_false (show ¬ w = v from fun r => q3 r.symm), Bool.or_false]
          by_cases q4 : v < w
          · rw [decide_eq_true q4, decide_eq_true (show v < w + 1 from by omega)]
          · rw [decide_eq_false q4, decide_eq_false (show ¬ v < w + 1 from by omega)]
/-- shine -/
theorem sh_x {kO tr a5 : Nat → Int} {A : Int} (hC : cmB nW cA comers) (hn : nW ≤ 12) (hA : rg A) (hA2 : ∀ w, w < 12 → bt A w = ab w) (ht : ∀ w, w < nW → tr (kO w).toNat = tw w) (hcA : ∀ w, w < nW → 0 ≤ cA w ∧ cA w < 200) (hcy : 1 ≤ cy) (hcy2 : cy ≤ 120) (hg0 : 0 ≤ gr) (hg1 : gr ≤ 60) : ∃ c a, F_X7_shine cy ls (nW : Int) kO comers tr ru gr A a5 = (c, a) ∧ (∀ j, j < 300 → a j = lef nW cA tw ab cy ls ru gr j) ∧ rg c ∧ (∀ w, w < 12 → bt c w = prS nW cA tw ab cy ls ru gr w) := by
  have hw : wiB nW tw ab (F_X7_willing (nW : Int) kO tr A) := wi_run hn hA hA2 ht 14 0 0 (Nat.zero_le _) (by omega) rg_0 (fun v hv => by
    rw [bt_0, decide_eq_false (Nat.not_lt_zero v), Bool.false_and])
  have hPn : ∀ w, prS nW cA tw ab cy ls ru gr w = true → w < nW := by
    intro w h
    unfold prS at h
    rw [Bool.and_eq_true, Bool.and_eq_true, Bool.and_eq_true] at h
    exact of_decide_eq_true h.1.1.1
  obtain ⟨c, a, e, e1, e2, e3⟩ := sh_run (ls := ls) (ru := ru) hC hw hn hcy hcy2 hg0 hg1 302 0 0 0 a5 (Nat.zero_le _) (by omega) (fun _ => rfl) (fun j hj => absurd hj (Nat.not_lt_zero j)) rg_0 (fun w hw => by
    rw [bt_0]
    cases h : prS nW cA tw ab cy ls ru gr w
    · rfl
    · have := hcA w (hPn w h)
      rw [decide_eq_false (show ¬ cA w < ((0 : Nat) : Int) from by omega)]
      rfl)
  unfold F_X7_shine
  rw [lf_b_e]
  refine ⟨c, a, e, e1, e2, fun w hw => ?_⟩
  rw [e3 w hw]
  cases h : prS nW cA tw ab cy ls ru gr w
  · rfl
  · have := hcA w (hPn w h)
    rw [decide_eq_true (show cA w < 300 from by omega)]
    rfl
end SR
end
section
/-! 8d -/
/-! what codes come to, as a number of its own -/
noncomputable def vlu (t : Bool) (al : Int) (L : List Int) (ρ : Int → Int) (κ : Int) : Int := Classical.epsilon (fun v => (in6 v ∧ bo t v) ∧ rnR ρ κ al L [] [v])
noncomputable def vlO (t : Bool) (al : Int) (o : Option (List Int)) (ρ : Int → Int) (κ : Int) : Int := match o with
  | none => 0
  | some L => vlu t al L ρ κ
def cdX (code spans : Nat → Int) (k : Nat) (o : Option (List Int)) : Prop := match o with
  | none => spans (k + 1) ≤ spans k
  | some L => ∃ i : Nat, spans k = (i : Int) ∧ spans (k + 1) = (i : Int) + (L.length : Int) ∧ i + L.length ≤ 1600 ∧ ∀ j, j < L.length → code (i + j) = toC (L.getD j 0)
def cdM (cf ce codes : Nat → Int) (k : Nat) (o : Option (List Int)) : Prop := match o with
  | none => cf k = -1
  | some L => ∃ i : Nat, cf k = (i : Int) ∧ ce k = (i : Int) + (L.length : Int) ∧ L.length ≤ 1600 ∧ ∀ j, j < L.length → codes (1600 + (i + j)) = L.getD j 0
def cdG (t : Bool) (al : Int) (o : Option (List Int)) : Prop := match o with
  | none => True
  | some L => ∃ m, m ≤ 64 ∧ gdR al m t L
def okE (al : Int) (ρ : Int → Int) : Prop := ∀ j : Int, 0 ≤ j → j < 12 → alB al j = true → in6 (ρ j)
theorem vlu_s {t : Bool} {al κ : Int} {L : List Int} {ρ : Int → Int} (h : ∃ m, m ≤ 64 ∧ gdR al m t L) (hρ : okE al ρ) : (in6 (vlu t al L ρ κ) ∧ bo t (vlu t al L ρ κ)) ∧ rnR ρ κ al L [] [vlu t al L ρ κ] := by
  obtain ⟨m, hm, hg⟩ := h
  obtain ⟨v, h1, h2, h3⟩ := gd_val hg hm ρ κ hρ
  exact Classical.epsilon_spec (p := fun v => (in6 v ∧ bo t v) ∧ rnR ρ κ al L [] [v]) ⟨v, ⟨h1, h2⟩, h3⟩
theorem vlO_b {t : Bool} {al κ : Int} {o : Option (List Int)} {ρ : Int → Int} (h : cdG t al o) (hρ : okE al ρ) : in6 (vlO t al o ρ κ) ∧ bo t (vlO t al o ρ κ) := by
  cases o with
  | none => exact ⟨by show in6 0; unfold in6; omega, fun _ => Or.inl rfl⟩
  | some L => exact (vlu_s h hρ).1
theorem vX {facts stack code spans : Nat → Int} {k : Nat} {t : Bool} {al κ : Int} {o : Option (List Int)} {ρ : Int → Int} (h : cdX code spans k o) (hg : cdG t al o) (hρ : okE al ρ) (hf : ∀ j : Int, 0 ≤ j → j < 12 → alB al j = true → facts j.toNat = ρ j) (hk : al = 3707 → facts 12 = κ) : (F_X3_value facts stack code (spans k) (spans (k + 1))).1 = vlO t al o ρ κ := by
  cases o with
  | none => exact vx_none h
  | some L =>
    obtain ⟨i, h1, h2, h3, h4⟩ := h
    have := vlu_s (κ := κ) hg hρ
    rw [h1]
    exact vx_val hf hk h4 h2.symm h3 this.2
/-- without the word reds it is all the same how many have gone -/
def no48 (o : Option (List Int)) : Prop := match o with
  | none => True
  | some L => ∀ c, c ∈ L → ¬ c = 48
theorem rnR_48 {ρ ρ2 : Int → Int} {κ al : Int} (h : ∀ j : Int, ¬ j = 8 → ρ j = ρ2 j) : ∀ (L : List Int), (∀ c, c ∈ L → ¬ c = 48) → ∀ S S2, rnR ρ κ al L S S2 → rnR ρ2 κ al L S S2
  | [], _, _, _, r => r
  | c :: L, hn, S, S2, ⟨S1, r1, r2⟩ => by
    refine ⟨S1, ?_, rnR_48 h L (fun x hx => hn x (List.mem_cons_of_mem c hx)) S1 S2 r2⟩
    rcases r1 with r | r | ⟨h1, h2, h3, h4, h5⟩ | r
    · exact Or.inl r
    · exact Or.inr (Or.inl r)
    · have hc := hn c List.mem_cons_self
      exact Or.inr (Or.inr (Or.inl ⟨h1, h2, h3, h4, by rw [← h (c - 40) (by omega)]; exact h5⟩))
    · exact Or.inr (Or.inr (Or.inr r))
theorem vlO_48 {t : Bool} {al κ : Int} {o : Option (List Int)} {ρ ρ2 : Int → Int} (h : ∀ j : Int, ¬ j = 8 → ρ j = ρ2 j) (hn : no48 o) : vlO t al o ρ κ = vlO t al o ρ2 κ := by
  cases o with
  | none => rfl
  | some L =>
    have e : (fun v => (in6 v ∧ bo t v) ∧ rnR ρ κ al L [] [v]) = (fun v => (in6 v ∧ bo t v) ∧ rnR ρ2 κ al L [] [v]) := by
      funext v
      exact propext ⟨fun r => ⟨r.1, rnR_48 h L hn [] [v] r.2⟩, fun r => ⟨r.1, rnR_48 (fun j hj => (h j hj).symm) L hn [] [v] r.2⟩⟩
    show Classical.epsilon _ = Classical.epsilon _
    rw [e]
/-! the TEST of red -/
def rhoR (d : Int) (cA clm pcw tw gp : Nat → Int) (w s : Nat) (r : Int) : Int → Int := fun j => if j = 0 then (s : Int) else if j = 1 then d else if j = 3 then (s : Int) - cA w else if j = 4 then clm w else if j = 5 then pcw w else if j = 6 then tw w else if j = 7 then gp s else if j = 8 then r else 0
noncomputable def gvS (o : Option (List Int)) (d : Int) (cA clm pcw tw gp : Nat → Int) (w s : Nat) (r : Int) : Bool := decide (vlO true 507 o (rhoR d cA clm pcw tw gp w s r) 0 = 1)
def kOK (nW : Nat) (G : Nat → Nat → Int → Bool) (kn : Nat → Int) : Prop := ∀ w s, w < nW → s < 300 → 0 ≤ kn (300 * w + s) ∧ kn (300 * w + s) < 16777216 ∧ ∀ r : Nat, r ≤ 11 → (bt (kn (300 * w + s)) (2 * r) = true → bt (kn (300 * w + s)) (2 * r + 1) = G w s (r : Int)) ∧ (bt (kn (300 * w + s)) (2 * r) = false → bt (kn (300 * w + s)) (2 * r + 1) = false)
theorem kOK_0 {nW : Nat} {G : Nat → Nat → Int → Bool} {kn : Nat → Int} (h : ∀ j, j < 3600 → kn j = 0) (hn : nW ≤ 12) : kOK nW G kn := by
  intro w s hw hs
  rw [h (300 * w + s) (by omega)]
  exact ⟨Int.le_refl _, by decide, fun r _ => ⟨fun q => Bool.noConfusion ((bt_0 _).symm.trans q), fun _ => bt_0 _⟩⟩
/-- (1 or 3) moved up -/
def m3B : Bool := (List.range 12).all (fun r => decide (lf_o lf_ishl 1 (2 * (r : Int)) = ((2 ^ (2 * r) : Nat) : Int)) && decide (lf_o lf_ishl 3 (2 * (r : Int)) = ((2 ^ (2 * r) * 3 : Nat) : Int)) && decide (lf_o lf_imul 2 (r : Int) = 2 * (r : Int)))
theorem m3_r {r : Nat} (h : r ≤ 11) : lf_o lf_ishl 1 (2 * (r : Int)) = ((2 ^ (2 * r) : Nat) : Int) ∧ lf_o lf_ishl 3 (2 * (r : Int)) = ((2 ^ (2 * r) * 3 : Nat) : Int) ∧ lf_o lf_imul 2 (r : Int) = 2 * (r : Int) := by
  have := List.all_eq_true.mp (show m3B = true from by decide +kernel) r (List.mem_range.mpr (by omega))
  rw [Bool.and_eq_true, Bool.and_eq_true] at this
  exact ⟨of_decide_eq_true this.1.1, of_decide_eq_true this.1.2, of_decide_eq_true this.2⟩
theorem p24 {r : Nat} (h : r ≤ 11) : 2 ^ (2 * r) * 3 < 2 ^ 24 := by
  have h1 : 2 ^ (2 * r) ≤ 2 ^ 22 := Nat.pow_le_pow_right (by decide) (by omega)
  have h2 : (2 : Nat) ^ 22 = 4194304 := by decide
  have h3 : (2 : Nat) ^ 24 = 16777216 := by decide
  omega
theorem t3 (j : Nat) : (3 : Nat).testBit j = decide (j < 2) := by
  rw [show (3 : Nat) = 2 ^ 2 - 1 from rfl, Nat.testBit_two_pow_sub_one]
theorem kn_up {X v : Int} {r : Nat} {g : Bool} (hX : 0 ≤ X) (hX2 : X < 16777216) (hr : r ≤ 11) (hv : v = b2 g) (h0 : bt X (2 * r) = false) (h1 : bt X (2 * r + 1) = false) : 0 ≤ lf_o lf_ior X (lf_o lf_ishl (lf_o lf_ior 1 (lf_o lf_ishl v 1)) (2 * (r : Int))) ∧ lf_o lf_ior X (lf_o lf_ishl (lf_o lf_ior 1 (lf_o lf_ishl v 1)) (2 * (r : Int))) < 16777216 ∧ bt (lf_o lf_ior X (lf_o lf_ishl (lf_o lf_ior 1 (lf_o lf_ishl v 1)) (2 * (r : Int)))) (2 * r) = true ∧ bt (lf_o lf_ior X (lf_o lf_ishl (lf_o lf_ior 1 (lf_o lf_ishl v 1)) (2 * (r : Int)))) (2 * r + 1) = g ∧ ∀ k : Nat, ¬ k = 2 * r → ¬ k = 2 * r + 1 → bt (lf_o lf_ior X (lf_o lf_ishl (lf_o lf_ior 1 (lf_o lf_ishl v 1)) (2 * (r : Int)))) k = bt X k := by
  have e24 : (2 : Nat) ^ 24 = 16777216 := by decide
  obtain ⟨a, rfl⟩ := Int.eq_ofNat_of_zero_le hX
  have hp := p24 hr
  have hp0 : 0 < 2 ^ (2 * r) := Nat.two_pow_pos _
  subst hv
  have fin : ∀ (e : Nat), e < 2 ^ 24 → 0 ≤ lf_o lf_ior (a : Int) (e : Int) ∧ lf_o lf_ior (a : Int) (e : Int) < 16777216 ∧ ∀ k, bt (lf_o lf_ior (a : Int) (e : Int)) k = (a.testBit k || e.testBit k) := by
    intro e he
    rw [lo_or (by omega) (by omega)]
    have : a ||| e < 2 ^ 24 := Nat.or_lt_two_pow (by omega) he
    exact ⟨by omega, by omega, fun k => Nat.testBit_or a e k⟩
  have h0' : a.testBit (2 * r) = false := h0
  have h1' : a.testBit (2 * r + 1) = false := h1
  cases g with
  | false =>
    rw [show lf_o lf_ior 1 (lf_o lf_ishl (b2 false) 1) = 1 from by decide, (m3_r hr).1]
    obtain ⟨f1, f2, f3⟩ := fin (2 ^ (2 * r)) (by omega)
    refine ⟨f1, f2, ?_, ?_, fun k k1 k2 => ?_⟩
    · rw [f3, Nat.testBit_two_pow, decide_eq_true rfl, Bool.or_true]
    · rw [f3, Nat.testBit_two_pow, decide_eq_false (by omega), Bool.or_false]
      exact h1'
    · rw [f3, Nat.testBit_two_pow, decide_eq_false (by omega), Bool.or_false]
      rfl
  | true =>
    rw [show lf_o lf_ior 1 (lf_o lf_ishl (b2 true) 1) = 3 from by decide, (m3_r hr).2.1]
    obtain ⟨f1, f2, f3⟩ := fin (2 ^ (2 * r) * 3) hp
    refine ⟨f1, f2, ?_, ?_, fun k k1 k2 => ?_⟩
    · rw [f3, Nat.testBit_two_pow_mul, t3, decide_eq_true (by omega), decide_eq_true (by omega), Bool.and_true, Bool.or_true]
    · rw [f3, Nat.testBit_two_pow_mul, t3, decide_eq_true (by omega), decide_eq_true (by omega), Bool.and_true, Bool.or_true]
    · rw [f3, Nat.testBit_two_pow_mul, t3]
      by_cases q : 2 * r ≤ k
      · rw [decide_eq_false (show ¬ k - 2 * r < 2 from by omega), Bool.and_false, Bool.or_false]
        rfl
      · rw [decide_eq_false (show ¬ k ≥ 2 * r from by omega), Bool.false_and, Bool.or_false]
        rfl
theorem rho_8 {d : Int} {cA clm pcw tw gp : Nat → Int} {w s : Nat} {r r2 : Int} (j : Int) (h : ¬ j = 8) : rhoR d cA clm pcw tw gp w s r j = rhoR d cA clm pcw tw gp w s r2 j := by
  unfold rhoR
  rw [if_neg h, if_neg h]
/-- bounds of what is told of walkers -/
def wkB (nW : Nat) (cA clm pcw tw : Nat → Int) : Prop := ∀ w, w < nW → (0 ≤ cA w ∧ cA w < 200) ∧ (0 ≤ clm w ∧ clm w ≤ 99) ∧ (1 ≤ pcw w ∧ pcw w ≤ 20) ∧ (0 ≤ tw w ∧ tw w ≤ 9)
theorem rho_b {al d : Int} {nW : Nat} {cA clm pcw tw gp : Nat → Int} {w s : Nat} {r : Int} (h : wkB nW cA clm pcw tw) (hw : w < nW) (hs : s < 400) (hd : 0 ≤ d ∧ d ≤ 999) (hg : 0 ≤ gp s ∧ gp s ≤ 20) (hr : 0 ≤ r ∧ r ≤ 1000) : okE al (rhoR d cA clm pcw tw gp w s r) := by
  intro j h0 h1 _
  obtain ⟨a1, a2, a3, a4⟩ := h w hw
  unfold rhoR in6
  by_cases c0 : j = 0
  · rw [if_pos c0]
    omega
  rw [if_neg c0]
  by_cases c1 : j = 1
  · rw [if_pos c1]
    omega
  rw [if_neg c1]
  by_cases c3 : j = 3
  · rw [if_pos c3]
    omega
  rw [if_neg c3]
  by_cases c4 : j = 4
  · rw [if_pos c4]
    omega
  rw [if_neg c4]
  by_cases c5 : j = 5
  · rw [if_pos c5]
    omega
  rw [if_neg c5]
  by_cases c6 : j = 6
  · rw [if_pos c6]
    omega
  rw [if_neg c6]
  by_cases c7 : j = 7
  · rw [if_pos c7]
    omega
  rw [if_neg c7]
  by_cases c8 : j = 8
  · rw [if_pos c8]
    omega
  rw [if_neg c8]
  omega
theorem al507 {j : Int} (h0 : 0 ≤ j) (h1 : j < 12) (h : alB 507 j = true) : j = 0 ∨ j = 1 ∨ j = 3 ∨ j = 4 ∨ j = 5 ∨ j = 6 ∨ j = 7 ∨ j = 8 := by
  have a2 : ¬ alB 507 2 = true := by decide +kernel
  have a9 : ¬ alB 507 9 = true := by decide +kernel
  have a10 : ¬ alB 507 10 = true := by decide +kernel
  have a11 : ¬ alB 507 11 = true := by decide +kernel
  have n2 : ¬ j = 2 := fun r => a2 (by rw [← r]; exact h)
  have n9 : ¬ j = 9 := fun r => a9 (by rw [← r]; exact h)
  have n10 : ¬ j = 10 := fun r => a10 (by rw [← r]; exact h)
  have n11 : ¬ j = 11 := fun r => a11 (by rw [← r]; exact h)
  omega
section GO
variable {nW : Nat} {o : Option (List Int)} {d : Int} {cA clm pcw tw gp : Nat → Int}
theorem go_x {facts stack clmK pcK kO code spans tr gaps kn : Nat → Int} {ar : Int} {w s r : Nat} (hB : wkB nW cA clm pcw tw) (hn : nW ≤ 12) (hw : w < nW) (hs : s < 300) (hr : r ≤ 11) (hd : 0 ≤ d ∧ d ≤ 999) (hgp : 0 ≤ gp s ∧ gp s ≤ 20) (hgs : gaps s = gp s) (hc : clmK (kO w).toNat = clm w) (hp : pcK (kO w).toNat = pcw w) (ht : tr (kO w).toNat = tw w) (hX : cdX code spans 2 o) (hG : cdG true 507 o) (har : ar = 0 → no48 o) (hk : kOK nW (gvS o d cA clm pcw tw gp) kn) : ∃ kn2 f2 s2, F_X7_goes facts stack clmK pcK kO cA code spans d tr ar gaps kn (w : Int) (s : Int) (r : Int) = (b2 (gvS o d cA clm pcw tw gp w s (r : Int)), kn2, f2, s2) ∧ kOK nW (gvS o d cA clm pcw tw gp) kn2 := by
  have main : ∀ q : Nat, q ≤ 11 → gvS o d cA clm pcw tw gp w s (q : Int) = gvS o d cA clm pcw tw gp w s (r : Int) → ∃ kn2 f2 s2, F_X7_goes_23 facts stack clmK pcK kO cA code spans d tr gaps kn (w : Int) (s : Int) (r : Int) (((w : Int) * (300 : Int)) + (s : Int)) (2 * (q : Int)) = (b2 (gvS o d cA clm pcw tw gp w s (r : Int)), kn2, f2, s2) ∧ kOK nW (gvS o d cA clm pcw tw gp) kn2 := by
    intro q hq hqr
    obtain ⟨k1, k2, k3⟩ := hk w s hw hs
    obtain ⟨k4, k5⟩ := k3 q hq
    have hat : Int.toNat (((w : Int) * (300 : Int)) + (s : Int)) = 300 * w + s := by omega
    have e2q : (2 * (q : Int)) = ((2 * q : Nat) : Int) := by omega
    have b1 := bt_bit (X := kn (300 * w + s)) (w := 2 * q) k1 (by omega) (by omega)
    unfold F_X7_goes_23
    rw [hat, e2q, b1]
    cases hb : bt (kn (300 * w + s)) (2 * q) with
    | true =>
      rw [if_neg (show ¬ b2 true = 0 from by decide)]
      unfold F_X7_goes_150
      rw [hat, bt_bit2 k1 (by omega) (by omega), k4 hb, hqr]
      cases hg : gvS o d cA clm pcw tw gp w s (r : Int) with
      | true =>
        rw [if_pos rfl, if_neg (show ¬ (2 : Int) = 0 from by decide)]
        exact ⟨kn, facts, stack, rfl, hk⟩
      | false =>
        rw [if_neg (fun z => Bool.noConfusion z), if_pos rfl]
        exact ⟨kn, facts, stack, rfl, hk⟩
    | false =>
      rw [if_pos (show b2 false = 0 from rfl), lf_b_e]
      unfold F_X7_describe
      rw [Int.toNat_natCast, Int.toNat_natCast, hgs, hc, hp, ht]
      generalize hf : (lf_up (lf_up (lf_up (lf_up (lf_up (lf_up (lf_up (lf_up facts (7 : Int) (gp s)) (8 : Int) (r : Int)) (0 : Int) (s : Int)) (1 : Int) d) (3 : Int) ((s : Int) - cA w)) (4 : Int) (clm w)) (5 : Int) (pcw w)) (6 : Int) (tw w)) = F
      have hv : (F_X3_value F stack code (spans 2) (spans 3)).1 = vlO true 507 o (rhoR d cA clm pcw tw gp w s (r : Int)) 0 := vX hX hG (rho_b hB hw (by omega) hd hgp (by omega)) (fun j h0 h1 ha => by
        rw [← hf]
        rcases al507 h0 h1 ha with x | x | x | x | x | x | x | x <;> subst x <;> rfl) (fun x => absurd x (by decide))
      have hbo := (vlO_b (κ := 0) hG (rho_b (al := 507) (r := (r : Int)) hB hw (by omega) hd hgp (by omega))).2 rfl
      have hvg : vlO true 507 o (rhoR d cA clm pcw tw gp w s (r : Int)) 0 = b2 (gvS o d cA clm pcw tw gp w s (r : Int)) := by
        unfold gvS
        rcases hbo with z | z
        · rw [z]
          rfl
        · rw [z]
          rfl
      show ∃ kn2 f2 s2, lf_p (F_X3_value F stack code (spans 2) (spans 3)) _ = _ ∧ _
      generalize F_X3_value F stack code (spans 2) (spans 3) = R at hv ⊢
      obtain ⟨v, st⟩ := R
      have hv' : v = b2 (gvS o d cA clm pcw tw gp w s (r : Int)) := hv.trans hvg
      rw [lf_p_e]
      obtain ⟨u1, u2, u3, u4, u5⟩ := kn_up (v := v) (r := q) k1 k2 hq hv' hb (k5 hb)
      rw [e2q] at u1 u2 u3 u4 u5
      generalize lf_o lf_ior (kn (300 * w + s)) (lf_o lf_ishl (lf_o lf_ior 1 (lf_o lf_ishl v 1)) ((2 * q : Nat) : Int)) = Y at u1 u2 u3 u4 u5 ⊢
      unfold F_X7_goes_150
      rw [hat, lf_up_y (by omega), bt_bit2 u1 (by omega) (by omega), u4]
      have hK : kOK nW (gvS o d cA clm pcw tw gp) (lf_up kn (((w : Int) * (300 : Int)) + (s : Int)) Y) := by
        intro w2 s2 hw2 hs2
        by_cases x : w2 = w ∧ s2 = s
        · rw [lf_up_y (by omega)]
          obtain ⟨x1, x2⟩ := x
          subst x1
          subst x2
          refine ⟨u1, u2, fun r2 hr2 => ?_⟩
          by_cases x3 : r2 = q
          · subst x3
            exact ⟨fun _ => u4.trans hqr.symm, fun z => Bool.noConfusion (u3.symm.trans z)⟩
          · rw [u5 (2 * r2) (by omega) (by omega), u5 (2 * r2 + 1) (by omega) (by omega)]
            exact k3 r2 hr2
        · rw [lf_up_o (by omega)]
          exact hk w2 s2 hw2 hs2
      cases hg : gvS o d cA clm pcw tw gp w s (r : Int) with
      | true =>
        rw [if_pos rfl, if_neg (show ¬ (2 : Int) = 0 from by decide)]
        exact ⟨_, _, _, rfl, hK⟩
      | false =>
        rw [if_neg (fun z => Bool.noConfusion z), if_pos rfl]
        exact ⟨_, _, _, rfl, hK⟩
  unfold F_X7_goes
  by_cases q : ar = 0
  · rw [if_pos q]
    have e : gvS o d cA clm pcw tw gp w s ((0 : Nat) : Int) = gvS o d cA clm pcw tw gp w s (r : Int) := by
      unfold gvS
      rw [vlO_48 (fun j hj => rho_8 (r2 := (r : Int)) j hj) (har q)]
    exact main 0 (Nat.zero_le _) e
  · rw [if_neg q, (m3_r hr).2.2]
    exact main r hr rfl
end GO
end
section
/-! 8e -/
/-! who walks when: one description -/
abbrev wzT : Type := (Nat → Int) × (Nat → Int) × Int
def upn (f : Nat → Int) (w : Nat) (v : Int) : Nat → Int := fun k => if k = w then v else f k
theorem upn_y (f : Nat → Int) (w : Nat) (v : Int) : upn f w v w = v := if_pos rfl
theorem upn_o {f : Nat → Int} {w k : Nat} {v : Int} (h : ¬ k = w) : upn f w v k = f k := if_neg h
def here (cA : Nat → Int) (ab : Nat → Bool) (s w : Nat) (z : wzT) : Bool := decide (cA w ≤ (s : Int)) && !ab w && decide (z.1 w = -1)
def wstep (cA pcw : Nat → Int) (ab : Nat → Bool) (lf gp : Nat → Int) (G : Nat → Nat → Int → Bool) (s w : Nat) (z : wzT) : wzT := if here cA ab s w z = true then (if pcw w ≤ lf s then (upn z.1 w (s : Int), upn z.2.1 w 1, z.2.2) else if G w s z.2.2 = true then (upn z.1 w (s : Int), upn z.2.1 w (if gp s < pcw w then 3 else 2), z.2.2 + 1) else z) else z
def wrow (cA pcw : Nat → Int) (ab : Nat → Bool) (lf gp : Nat → Int) (G : Nat → Nat → Int → Bool) (s : Nat) : Nat → wzT → wzT
  | 0, z => z
  | k + 1, z => wstep cA pcw ab lf gp G s k (wrow cA pcw ab lf gp G s k z)
def wzS (nW : Nat) (cA pcw : Nat → Int) (ab : Nat → Bool) (lf gp : Nat → Int) (G : Nat → Nat → Int → Bool) : Nat → wzT
  | 0 => (fun _ => -1, fun _ => 0, 0)
  | s + 1 => wrow cA pcw ab lf gp G s nW (wzS nW cA pcw ab lf gp G s)
/-- how many of the first k -/
def cnf (f : Nat → Bool) : Nat → Int
  | 0 => 0
  | k + 1 => cnf f k + b2 (f k)
theorem cnf_le (f : Nat → Bool) : ∀ k, 0 ≤ cnf f k ∧ cnf f k ≤ (k : Int)
  | 0 => ⟨Int.le_refl _, Int.le_refl _⟩
  | k + 1 => by
    have ih := cnf_le f k
    show 0 ≤ cnf f k + b2 (f k) ∧ cnf f k + b2 (f k) ≤ ((k + 1 : Nat) : Int)
    cases f k
    · show 0 ≤ cnf f k + 0 ∧ cnf f k + 0 ≤ ((k + 1 : Nat) : Int)
      omega
    · show 0 ≤ cnf f k + 1 ∧ cnf f k + 1 ≤ ((k + 1 : Nat) : Int)
      omega
theorem cnf_lt {f : Nat → Bool} {w : Nat} : ∀ k, w < k → f w = false → cnf f k ≤ (k : Int) - 1
  | 0, h, _ => absurd h (Nat.not_lt_zero w)
  | k + 1, h, hf => by
    show cnf f k + b2 (f k) ≤ ((k + 1 : Nat) : Int) - 1
    by_cases q : w = k
    · rw [← q, hf]
      have := (cnf_le f w).2
      show cnf f w + 0 ≤ _
      omega
    · have := cnf_lt k (by omega) hf
      cases f k
      · show cnf f k + 0 ≤ _
        omega
      · show cnf f k + 1 ≤ _
        omega
theorem cnf_cg {f g : Nat → Bool} : ∀ k, (∀ w, w < k → f w = g w) → cnf f k = cnf g k
  | 0, _ => rfl
  | k + 1, h => by
    show cnf f k + b2 (f k) = cnf g k + b2 (g k)
    rw [cnf_cg k (fun w hw => h w (by omega)), h k (Nat.lt_succ_self k)]
theorem cnf_up {f g : Nat → Bool} {w : Nat} (hf : f w = false) (hg : g w = true) (h : ∀ v, ¬ v = w → g v = f v) : ∀ k, w < k → cnf g k = cnf f k + 1
  | 0, h0 => absurd h0 (Nat.not_lt_zero w)
  | k + 1, h0 => by
    show cnf g k + b2 (g k) = cnf f k + b2 (f k) + 1
    by_cases q : w = k
    · rw [← q, hf, hg, cnf_cg (f := g) (g := f) w (fun v hv => h v (by omega))]
      show cnf f w + 1 = cnf f w + 0 + 1
      omega
    · rw [cnf_up hf hg h k (by omega), h k (fun r => q r.symm)]
      omega
/-- what stands at each second -/
def spI (nW : Nat) (cA : Nat → Int) (ab : Nat → Bool) (s : Nat) (z : wzT) : Prop := (∀ w, (z.1 w = -1 ↔ z.2.1 w = 0) ∧ (0 ≤ z.2.1 w ∧ z.2.1 w ≤ 3) ∧ (¬ z.1 w = -1 → w < nW ∧ 0 ≤ z.1 w ∧ z.1 w < (s : Int) ∧ cA w ≤ z.1 w ∧ ab w = false)) ∧ z.2.2 = cnf (fun w => decide (2 ≤ z.2.1 w)) nW
section WK
variable {nW : Nat} {cA pcw : Nat → Int} {ab : Nat → Bool} {lf gp : Nat → Int} {G : Nat → Nat → Int → Bool}
theorem spI_up {s w : Nat} {z : wzT} {v : Int} (h : spI nW cA ab (s + 1) z) (hw : w < nW) (hh : here cA ab s w z = true) (hv : 1 ≤ v ∧ v ≤ 3) : spI nW cA ab (s + 1) (upn z.1 w (s : Int), upn z.2.1 w v, if 2 ≤ v then z.2.2 + 1 else z.2.2) := by
  unfold here at hh
  rw [Bool.and_eq_true, Bool.and_eq_true] at hh
  have h1 := of_decide_eq_true hh.1.1
  have h2 : ab w = false := by
    have := hh.1.2
    cases c : ab w
    · rfl
    · rw [c] at this
      exact Bool.noConfusion this
  have h3 := of_decide_eq_true hh.2
  have h30 := ((h.1 w).1).mp h3
  refine ⟨fun u => ?_, ?_⟩
  · by_cases q : u = w
    · subst q
      show (upn z.1 u (s : Int) u = -1 ↔ upn z.2.1 u v u = 0) ∧ (0 ≤ upn z.2.1 u v u ∧ upn z.2.1 u v u ≤ 3) ∧ (¬ upn z.1 u (s : Int) u = -1 → u < nW ∧ 0 ≤ upn z.1 u (s : Int) u ∧ upn z.1 u (s : Int) u < ((s + 1 : Nat) : Int) ∧ cA u ≤ upn z.1 u (s : Int) u ∧ ab u = false)
      rw [upn_y, upn_y]
      exact ⟨⟨fun r => by omega, fun r => by omega⟩, ⟨by omega, by omega⟩, fun _ => ⟨hw, by omega, by omega, h1, h2⟩⟩
    · show (upn z.1 w (s : Int) u = -1 ↔ upn z.2.1 w v u = 0) ∧ (0 ≤ upn z.2.1 w v u ∧ upn z.2.1 w v u ≤ 3) ∧ (¬ upn z.1 w (s : Int) u = -1 → u < nW ∧ 0 ≤ upn z.1 w (s : Int) u ∧ upn z.1 w (s : Int) u < ((s + 1 : Nat) : Int) ∧ cA u ≤ upn z.1 w (s : Int) u ∧ ab u = false)
      rw [upn_o q, upn_o q]
      exact h.1 u
  · show (if 2 ≤ v then z.2.2 + 1 else z.2.2) = cnf (fun u => decide (2 ≤ upn z.2.1 w v u)) nW
    by_cases q : 2 ≤ v
    · rw [if_pos q, h.2]
      refine (cnf_up (f := fun u => decide (2 ≤ z.2.1 u)) (w := w) ?_ ?_ ?_ nW hw).symm
      · exact decide_eq_false (by omega)
      · show decide (2 ≤ upn z.2.1 w v w) = true
        rw [upn_y]
        exact decide_eq_true q
      · intro u hu
        show decide (2 ≤ upn z.2.1 w v u) = _
        rw [upn_o hu]
    · rw [if_neg q, h.2]
      refine cnf_cg nW (fun u _ => ?_)
      show _ = decide (2 ≤ upn z.2.1 w v u)
      by_cases e : u = w
      · rw [e, upn_y, decide_eq_false q]
        exact decide_eq_false (by omega)
      · rw [upn_o e]
theorem spI_step {s w : Nat} {z : wzT} (h : spI nW cA ab (s + 1) z) (hw : w < nW) : spI nW cA ab (s + 1) (wstep cA pcw ab lf gp G s w z) := by
  unfold wstep
  by_cases c1 : here cA ab s w z = true
  · rw [if_pos c1]
    by_cases c2 : pcw w ≤ lf s
    · rw [if_pos c2]
      exact spI_up (v := 1) h hw c1 (by omega)
    · rw [if_neg c2]
      by_cases c3 : G w s z.2.2 = true
      · rw [if_pos c3]
        by_cases c4 : gp s < pcw w
        · rw [if_pos c4]
          exact spI_up (v := 3) h hw c1 (by omega)
        · rw [if_neg c4]
          exact spI_up (v := 2) h hw c1 (by omega)
      · rw [if_neg c3]
        exact h
  · rw [if_neg c1]
    exact h
theorem spI_row {s : Nat} : ∀ (k : Nat) (z : wzT), k ≤ nW → spI nW cA ab (s + 1) z → spI nW cA ab (s + 1) (wrow cA pcw ab lf gp G s k z)
  | 0, z, _, h => h
  | k + 1, z, hk, h => spI_step (spI_row k z (by omega) h) (by omega)
theorem spI_w {s : Nat} {z : wzT} (h : spI nW cA ab s z) : spI nW cA ab (s + 1) z := ⟨fun w => ⟨(h.1 w).1, (h.1 w).2.1, fun r => by
  obtain ⟨a, b, c, d, e⟩ := (h.1 w).2.2 r
  exact ⟨a, b, by omega, d, e⟩⟩, h.2⟩
theorem spI_S : ∀ s, spI nW cA ab s (wzS nW cA pcw ab lf gp G s)
  | 0 => ⟨fun w => ⟨⟨fun _ => rfl, fun _ => rfl⟩, ⟨Int.le_refl _, by show (0 : Int) ≤ 3; decide⟩, fun r => absurd rfl r⟩, by
    have e : cnf (fun w => decide (2 ≤ ((fun _ => 0 : Nat → Int) w))) nW = cnf (fun _ => false) nW := cnf_cg nW (fun w _ => rfl)
    have e2 : ∀ k, cnf (fun _ => false) k = 0 := by
      intro k
      induction k with
      | zero => rfl
      | succ k ih =>
        show cnf (fun _ => false) k + 0 = 0
        omega
    exact ((e.trans (e2 nW)).symm)⟩
  | s + 1 => spI_row nW _ (Nat.le_refl _) (spI_w (spI_S s))
/-- the class: what its bits hold amid a second -/
def crH (nW : Nat) (cA : Nat → Int) (ab : Nat → Bool) (s : Nat) (z : wzT) (l2 c14 c15 c16 : Int) (a1 : Nat → Int) : Prop := (rg l2 ∧ ∀ w, w < 12 → bt l2 w = (decide (w < nW) && here cA ab s w z)) ∧ (rg c14 ∧ ∀ w, w < 12 → bt c14 w = decide (z.2.1 w = 1)) ∧ (rg c15 ∧ ∀ w, w < 12 → bt c15 w = decide (2 ≤ z.2.1 w)) ∧ (rg c16 ∧ ∀ w, w < 12 → bt c16 w = decide (z.2.1 w = 3)) ∧ ∀ w, w < 12 → a1 w = z.1 w
theorem bt_add {X : Int} {w : Nat} (hX : rg X) (hw : w < 12) : rg (lf_o lf_ior X (lf_o lf_ishl (1 : Int) (w : Int))) ∧ ∀ v, bt (lf_o lf_ior X (lf_o lf_ishl (1 : Int) (w : Int))) v = (bt X v || decide (w = v)) := by
  have h1 := rg_sh hw
  have h2 := rg_or hX h1.1
  exact ⟨h2.1, fun v => by rw [h2.2, h1.2]⟩
theorem bt_del {X : Int} {w : Nat} (hX : rg X) (hw : w < 12) : rg (lf_o lf_iand X (lf_o lf_ixor (lf_o lf_ishl (1 : Int) (w : Int)) (-1 : Int))) ∧ ∀ v, bt (lf_o lf_iand X (lf_o lf_ixor (lf_o lf_ishl (1 : Int) (w : Int)) (-1 : Int))) v = (bt X v && !decide (w = v)) := by
  have h1 := rg_sh hw
  have h2 := rg_andn hX h1.1
  exact ⟨h2.1, fun v => by rw [h2.2, h1.2]⟩
theorem here_up {s w v : Nat} {z : wzT} {x : Nat → Int} {y : Int} : here cA ab s v (upn z.1 w (s : Int), x, y) = (here cA ab s v z && !decide (w = v)) := by
  unfold here
  show (decide (cA v ≤ (s : Int)) && !ab v && decide (upn z.1 w (s : Int) v = -1)) = _
  by_cases q : v = w
  · rw [q, upn_y, decide_eq_false (show ¬ (s : Int) = -1 from by omega), decide_eq_true (show w = w from rfl), Bool.not_true, Bool.and_false, Bool.and_false]
  · rw [upn_o q, decide_eq_false (show ¬ w = v from fun r => q r.symm), Bool.not_false, Bool.and_true]
theorem CR_up {s w : Nat} {z : wzT} {l2 c14 c15 c16 v : Int} {a1 : Nat → Int} {y : Int} (hw : w < nW) (hn : nW ≤ 12) (h : crH nW cA ab s z l2 c14 c15 c16 a1) {d14 d15 d16 : Int} (h14 : rg d14 ∧ ∀ u, u < 12 → bt d14 u = (bt c14 u || (decide (w = u) && decide (v = 1)))) (h15 : rg d15 ∧ ∀ u, u < 12 → bt d15 u = (bt c15 u || (decide (w = u) && decide (2 ≤ v)))) (h16 : rg d16 ∧ ∀ u, u < 12 → bt d16 u = (bt c16 u || (decide (w = u) && decide (v = 3)))) (h0 : z.2.1 w = 0) : crH nW cA ab s (upn z.1 w (s : Int), upn z.2.1 w v, y) (lf_o lf_iand l2 (lf_o lf_ixor (lf_o lf_ishl (1 : Int) (w : Int)) (-1 : Int))) d14 d15 d16 (lf_up a1 (w : Int) (s : Int)) := by
  obtain ⟨r1, r2, r3, r4, r5⟩ := h
  have hd := bt_del r1.1 (w := w) (by omega)
  have one : ∀ (c : Int) (d : Int) (P : Int → Bool), P 0 = false → (∀ u, u < 12 → bt c u = P (z.2.1 u)) → (∀ u, u < 12 → bt d u = (bt c u || (decide (w = u) && P v))) → ∀ u, u < 12 → bt d u = P (upn z.2.1 w v u) := by
    intro c d P hP hc hd u hu
    rw [hd u hu]
    by_cases q : u = w
    · rw [q, upn_y, hc w (by omega), h0, hP, decide_eq_true (show w = w from rfl), Bool.true_and, Bool.false_or]
    · rw [upn_o q, hc u hu, decide_eq_false (show ¬ w = u from fun r => q r.symm), Bool.false_and, Bool.or_false]
  refine ⟨⟨hd.1, fun u hu => ?_⟩, ⟨h14.1, fun u hu => ?_⟩, ⟨h15.1, fun u hu => ?_⟩, ⟨h16.1, fun u hu => ?_⟩, fun u hu => ?_⟩
  · rw [hd.2, r1.2 u hu, here_up, Bool.and_assoc]
  · exact one c14 d14 (fun x => decide (x = 1)) rfl r2.2 h14.2 u hu
  · exact one c15 d15 (fun x => decide (2 ≤ x)) rfl r3.2 h15.2 u hu
  · exact one c16 d16 (fun x => decide (x = 3)) rfl r4.2 h16.2 u hu
  · show lf_up a1 (w : Int) (s : Int) u = upn z.1 w (s : Int) u
    by_cases q : u = w
    · rw [q, upn_y, lf_up_y (by omega)]
    · rw [upn_o q, lf_up_o (by omega)]
      exact r5 u hu
end WK
end
section
/-! 8f -/
/-! the class's walk is the one described -/
section WR
variable {nW : Nat} {o : Option (List Int)} {d : Int} {cA clm pcw tw lf gp : Nat → Int} {ab : Nat → Bool} {clmK pcK kO code spans tr gaps left : Nat → Int} {ar : Int}
/-- what stands of a street for its walk -/
def wkH (nW : Nat) (o : Option (List Int)) (d : Int) (cA clm pcw tw lf gp clmK pcK kO code spans tr gaps left : Nat → Int) (ar : Int) : Prop := wkB nW cA clm pcw tw ∧ nW ≤ 12 ∧ (0 ≤ d ∧ d ≤ 999) ∧ (∀ s, s < 300 → (0 ≤ gp s ∧ gp s ≤ 20) ∧ gaps s = gp s ∧ left s = lf s) ∧ (∀ w, w < nW → clmK (kO w).toNat = clm w ∧ pcK (kO w).toNat = pcw w ∧ tr (kO w).toNat = tw w) ∧ cdX code spans 2 o ∧ cdG true 507 o ∧ (ar = 0 → no48 o)
theorem reds_n {s w : Nat} {z : wzT} (h : spI nW cA ab (s + 1) z) (hn : nW ≤ 12) (hw : w < nW) (hh : here cA ab s w z = true) : ∃ r : Nat, z.2.2 = (r : Int) ∧ r ≤ 11 ∧ z.2.1 w = 0 := by
  unfold here at hh
  rw [Bool.and_eq_true, Bool.and_eq_true] at hh
  have h3 := of_decide_eq_true hh.2
  have h30 := ((h.1 w).1).mp h3
  have h1 := cnf_le (fun w => decide (2 ≤ z.2.1 w)) nW
  have h2 := cnf_lt (f := fun w => decide (2 ≤ z.2.1 w)) (w := w) nW hw (decide_eq_false (by omega))
  have h4 := h.2
  exact ⟨z.2.2.toNat, by omega, by omega, h30⟩
theorem wk_step {K45 : Int → (Nat → Int) → Int → Int → Int → Int → Int → Int → (Nat → Int) → (Nat → Int) → (Nat → Int) → Int × Int × Int × (Nat → Int) × (Nat → Int) × (Nat → Int) × (Nat → Int)} {K87 : Int → Int → Int → Int → Int → Int → Int → Int → (Nat → Int) → (Nat → Int) → (Nat → Int) → (Nat → Int) → Int × Int × Int × (Nat → Int) × (Nat → Int) × (Nat → Int) × (Nat → Int)} {s w : Nat} {z : wzT} {l2 l3 l5 c14 c15 c16 : Int} {a1 a7 a10 a16 : Nat → Int} (hH : wkH nW o d cA clm pcw tw lf gp clmK pcK kO code spans tr gaps left ar) (hs : s < 300) (hw : w < nW) (hI : spI nW cA ab (s + 1) z) (hR : crH nW cA ab s z l2 c14 c15 c16 a1) (hk : kOK nW (gvS o d cA clm pcw tw gp) a7) : ∃ l2' c14' c15' c16' a1' a7' a10' a16', F_X7_walk_87b clmK pcK (nW : Int) kO cA code spans d tr ar gaps left (s : Int) K45 K87 l2 l3 l5 z.2.2 (w : Int) c14 c15 c16 a1 a7 a10 a16 = K87 l2' l3 l5 (wstep cA pcw ab lf gp (gvS o d cA clm pcw tw gp) s w z).2.2 ((w : Int) + (1 : Int)) c14' c15' c16' a1' a7' a10' a16' ∧ crH nW cA ab s (wstep cA pcw ab lf gp (gvS o d cA clm pcw tw gp) s w z) l2' c14' c15' c16' a1' ∧ kOK nW (gvS o d cA clm pcw tw gp) a7' := by
  obtain ⟨hB, hn, hd, hg, hwk, hX, hG, har⟩ := hH
  obtain ⟨g1, g2, g3⟩ := hg s hs
  obtain ⟨w1, w2, w3⟩ := hwk w hw
  have hat := bt_at hR.1.1 (w := w) (by omega)
  have hbit := hR.1.2 w (by omega)
  rw [decide_eq_true hw, Bool.true_and] at hbit
  unfold F_X7_walk_87b
  rw [if_neg (by omega)]
  unfold wstep
  cases hh : here cA ab s w z with
  | false =>
    rw [if_pos (hat.mpr (hbit.trans hh)), if_neg (fun r => Bool.noConfusion r)]
    unfold F_X7_walk_230
    exact ⟨l2, c14, c15, c16, a1, a7, a10, a16, rfl, hR, hk⟩
  | true =>
    have hne : ¬ lf_o lf_iand l2 (lf_o lf_ishl (1 : Int) (w : Int)) = 0 := fun r => by
      have := (hat.mp r).symm.trans (hbit.trans hh)
      exact Bool.noConfusion this
    obtain ⟨r, hr, hr11, h0⟩ := reds_n hI hn hw hh
    rw [if_neg hne, if_pos rfl, Int.toNat_natCast, Int.toNat_natCast, g3, w2]
    by_cases c2 : pcw w ≤ lf s
    · rw [if_neg (by omega), if_pos c2]
      unfold F_X7_walk_214 F_X7_walk_230
      have hA := bt_add hR.2.1.1 (w := w) (by omega)
      refine ⟨_, _, _, _, _, _, _, _, rfl, ?_, hk⟩
      refine CR_up (v := 1) hw hn hR ⟨hA.1, fun u hu => ?_⟩ ⟨hR.2.2.1.1, fun u hu => ?_⟩ ⟨hR.2.2.2.1.1, fun u hu => ?_⟩ h0
      · rw [hA.2, decide_eq_true (show (1 : Int) = 1 from rfl), Bool.and_true]
      · rw [decide_eq_false (show ¬ (2 : Int) ≤ 1 from by decide), Bool.and_false, Bool.or_false]
      · rw [decide_eq_false (show ¬ (1 : Int) = 3 from by decide), Bool.and_false, Bool.or_false]
    · rw [if_pos (by omega), if_neg c2, hr]
      obtain ⟨kn2, f2, s2, e, hk2⟩ := go_x (facts := a10) (stack := a16) (clmK := clmK) (pcK := pcK) (kO := kO) (code := code) (spans := spans) (tr := tr) (gaps := gaps) (kn := a7) (ar := ar) (w := w) (s := s) (r := r) hB hn hw hs hr11 hd g1 g2 w1 w2 w3 hX hG har hk
      rw [e, lf_p_e, lf_p_e, lf_p_e]
      cases hgv : gvS o d cA clm pcw tw gp w s (r : Int) with
      | false =>
        rw [if_pos (show b2 false = 0 from rfl), if_neg (fun r => Bool.noConfusion r)]
        unfold F_X7_walk_230
        refine ⟨l2, c14, c15, c16, a1, kn2, f2, s2, ?_, hR, hk2⟩
        rw [hr]
      | true =>
        have hrp : lf_o lf_iadd (r : Int) (1 : Int) = (r : Int) + 1 := lo_add (by omega) (by omega) (by omega) (by omega) (by omega) (by omega)
        have hA := bt_add hR.2.2.1.1 (w := w) (by omega)
        rw [if_neg (show ¬ b2 true = 0 from by decide), if_pos rfl, g2]
        by_cases c4 : gp s < pcw w
        · have hA2 := bt_add hR.2.2.2.1.1 (w := w) (by omega)
          rw [if_neg (by omega), if_pos c4]
          unfold F_X7_walk_207 F_X7_walk_214 F_X7_walk_230
          rw [hrp]
          refine ⟨_, _, _, _, _, _, _, _, rfl, ?_, hk2⟩
          refine CR_up (v := 3) hw hn hR ⟨hR.2.1.1, fun u hu => ?_⟩ ⟨hA.1, fun u hu => ?_⟩ ⟨hA2.1, fun u hu => ?_⟩ h0
          · rw [decide_eq_false (show ¬ (3 : Int) = 1 from by decide), Bool.and_false, Bool.or_false]
          · rw [hA.2, decide_eq_true (show (2 : Int) ≤ 3 from by decide), Bool.and_true]
          · rw [hA2.2, decide_eq_true (show (3 : Int) = 3 from rfl), Bool.and_true]
        · have h00 := rg_or hR.2.2.2.1.1 rg_0
          rw [if_pos (by omega), if_neg c4]
          unfold F_X7_walk_207 F_X7_walk_214 F_X7_walk_230
          rw [hrp]
          refine ⟨_, _, _, _, _, _, _, _, rfl, ?_, hk2⟩
          refine CR_up (v := 2) hw hn hR ⟨hR.2.1.1, fun u hu => ?_⟩ ⟨hA.1, fun u hu => ?_⟩ ⟨h00.1, fun u hu => ?_⟩ h0
          · rw [decide_eq_false (show ¬ (2 : Int) = 1 from by decide), Bool.and_false, Bool.or_false]
          · rw [hA.2, decide_eq_true (show (2 : Int) ≤ 2 from by decide), Bool.and_true]
          · rw [h00.2, bt_0, decide_eq_false (show ¬ (2 : Int) = 3 from by decide), Bool.and_false]
theorem wk_row {K45 : Int → (Nat → Int) → Int → Int → Int → Int → Int → Int → (Nat → Int) → (Nat → Int) → (Nat → Int) → Int × Int × Int × (Nat → Int) × (Nat → Int) × (Nat → Int) × (Nat → Int)} {s : Nat} {z : wzT} {l3 l5 : Int} (hH : wkH nW o d cA clm pcw tw lf gp clmK pcK kO code spans tr gaps left ar) (hs : s < 300) (hI : spI nW cA ab (s + 1) z) : ∀ (f w : Nat) (l2 c14 c15 c16 : Int) (a1 a7 a10 a16 : Nat → Int), w ≤ nW → nW - w < f → crH nW cA ab s (wrow cA pcw ab lf gp (gvS o d cA clm pcw tw gp) s w z) l2 c14 c15 c16 a1 → kOK nW (gvS o d cA clm pcw tw gp) a7 → ∃ l2' c14' c15' c16' a1' a7' a10' a16', F_X7_walk_87 clmK pcK (nW : Int) kO cA code spans d tr ar gaps left (s : Int) K45 f l2 l3 l5 (wrow cA pcw ab lf gp (gvS o d cA clm pcw tw gp) s w z).2.2 (w : Int) c14 c15 c16 a1 a7 a10 a16 = K45 l3 a1' l2' ((s : Int) + (1 : Int)) (wrow cA pcw ab lf gp (gvS o d cA clm pcw tw gp) s nW z).2.2 c14' c15' c16' a7' a10' a16' ∧ crH nW cA ab s (wrow cA pcw ab lf gp (gvS o d cA clm pcw tw gp) s nW z) l2' c14' c15' c16' a1' ∧ kOK nW (gvS o d cA clm pcw tw gp) a7' := by
  intro f
  induction f with
  | zero => intro w l2 c14 c15 c16 a1 a7 a10 a16 h1 h2; omega
  | succ f ih =>
    intro w l2 c14 c15 c16 a1 a7 a10 a16 h1 h2 hR hk
    by_cases q : w = nW
    · subst q
      refine ⟨l2, c14, c15, c16, a1, a7, a10, a16, ?_, hR, hk⟩
      show F_X7_walk_87b clmK pcK (w : Int) kO cA code spans d tr ar gaps left (s : Int) K45 _ l2 l3 l5 _ (w : Int) c14 c15 c16 a1 a7 a10 a16 = _
      unfold F_X7_walk_87b
      rw [if_pos (Int.le_refl _)]
    · have hI2 := spI_row (pcw := pcw) (lf := lf) (gp := gp) (G := gvS o d cA clm pcw tw gp) w z h1 hI
      obtain ⟨l2', c14', c15', c16', a1', a7', a10', a16', e, e1, e2⟩ := wk_step (K45 := K45) (K87 := F_X7_walk_87 clmK pcK (nW : Int) kO cA code spans d tr ar gaps left (s : Int) K45 f) (w := w) (l3 := l3) (l5 := l5) (a10 := a10) (a16 := a16) hH hs (by omega) hI2 hR hk
      show ∃ l2' c14' c15' c16' a1' a7' a10' a16', F_X7_walk_87b clmK pcK (nW : Int) kO cA code spans d tr ar gaps left (s : Int) K45 (F_X7_walk_87 clmK pcK (nW : Int) kO cA code spans d tr ar gaps left (s : Int) K45 f) l2 l3 l5 (wrow cA pcw ab lf gp (gvS o d cA clm pcw tw gp) s w z).2.2 (w : Int) c14 c15 c16 a1 a7 a10 a16 = _ ∧ _
      rw [e]
      exact ih (w + 1) l2' c14' c15' c16' a1' a7' a10' a16' (by omega) (by omega) e1 e2
/-- where nobody is left it stays -/
theorem WS_stay {G : Nat → Nat → Int → Bool} {s : Nat} (h : ∀ w, w < nW → ab w = false → cA w < (s : Int) ∧ ¬ (wzS nW cA pcw ab lf gp G s).1 w = -1) : ∀ t, s ≤ t → wzS nW cA pcw ab lf gp G t = wzS nW cA pcw ab lf gp G s := by
  have st : ∀ (t k : Nat) (z : wzT), k ≤ nW → z = wzS nW cA pcw ab lf gp G s → wrow cA pcw ab lf gp G t k z = z := by
    intro t k z
    induction k with
    | zero => intro _ _; rfl
    | succ k ih =>
      intro hk hz
      show wstep cA pcw ab lf gp G t k (wrow cA pcw ab lf gp G t k z) = z
      rw [ih (by omega) hz]
      unfold wstep
      rw [if_neg]
      intro r
      unfold here at r
      rw [Bool.and_eq_true, Bool.and_eq_true] at r
      have ha : ab k = false := by
        have := r.1.2
        cases c : ab k
        · rfl
        · rw [c] at this
          exact Bool.noConfusion this
      have h2 := (h k (by omega) ha).2
      rw [hz] at r
      exact h2 (of_decide_eq_true r.2)
  intro t
  induction t with
  | zero =>
    intro ht
    have : s = 0 := by omega
    rw [this]
  | succ t ih =>
    intro ht
    by_cases q : s = t + 1
    · rw [q]
    · have e := ih (by omega)
      show wrow cA pcw ab lf gp G t nW (wzS nW cA pcw ab lf gp G t) = _
      rw [e]
      exact st t nW _ (Nat.le_refl _) rfl
/-- what its bits hold ahead of a second -/
def cqH (nW : Nat) (cA : Nat → Int) (ab : Nat → Bool) (s : Nat) (z : wzT) (l2 l3 c14 c15 c16 : Int) (a1 : Nat → Int) : Prop := (rg l2 ∧ ∀ w, w < 12 → bt l2 w = (decide (w < nW) && (decide (cA w < (s : Int)) && !ab w && decide (z.1 w = -1)))) ∧ (rg l3 ∧ ∀ w, w < 12 → bt l3 w = (decide (w < nW) && !ab w && decide ((s : Int) ≤ cA w))) ∧ (rg c14 ∧ ∀ w, w < 12 → bt c14 w = decide (z.2.1 w = 1)) ∧ (rg c15 ∧ ∀ w, w < 12 → bt c15 w = decide (2 ≤ z.2.1 w)) ∧ (rg c16 ∧ ∀ w, w < 12 → bt c16 w = decide (z.2.1 w = 3)) ∧ ∀ w, w < 12 → a1 w = z.1 w
theorem wk_run {comers : Nat → Int} (hH : wkH nW o d cA clm pcw tw lf gp clmK pcK kO code spans tr gaps left ar) (hC : cmB nW cA comers) : ∀ (f s : Nat) (l2 l3 c14 c15 c16 : Int) (a1 a7 a10 a16 : Nat → Int), s ≤ 300 → 300 - s < f → cqH nW cA ab s (wzS nW cA pcw ab lf gp (gvS o d cA clm pcw tw gp) s) l2 l3 c14 c15 c16 a1 → kOK nW (gvS o d cA clm pcw tw gp) a7 → ∃ c14' c15' c16' a1' a7' a10' a16', F_X7_walk_45 clmK pcK (nW : Int) kO cA comers code spans d tr ar gaps left f l3 a1 l2 (s : Int) (wzS nW cA pcw ab lf gp (gvS o d cA clm pcw tw gp) s).2.2 c14 c15 c16 a7 a10 a16 = (c14', c15', c16', a1', a7', a10', a16') ∧ ((rg c14' ∧ ∀ w, w < 12 → bt c14' w = decide ((wzS nW cA pcw ab lf gp (gvS o d cA clm pcw tw gp) 300).2.1 w = 1)) ∧ (rg c15' ∧ ∀ w, w < 12 → bt c15' w = decide (2 ≤ (wzS nW cA pcw ab lf gp (gvS o d cA clm pcw tw gp) 300).2.1 w)) ∧ (rg c16' ∧ ∀ w, w < 12 → bt c16' w = decide ((wzS nW cA pcw ab lf gp (gvS o d cA clm pcw tw gp) 300).2.1 w = 3)) ∧ ∀ w, w < 12 → a1' w = (wzS nW cA pcw ab lf gp (gvS o d cA clm pcw tw gp) 300).1 w) ∧ kOK nW (gvS o d cA clm pcw tw gp) a7' := by
  intro f
  induction f with
  | zero => intro s l2 l3 c14 c15 c16 a1 a7 a10 a16 h1 h2; omega
  | succ f ih =>
    intro s l2 l3 c14 c15 c16 a1 a7 a10 a16 h1 h2 hQ hk
    obtain ⟨q2, q3, q14, q15, q16, q1⟩ := hQ
    show ∃ c14' c15' c16' a1' a7' a10' a16', F_X7_walk_45b clmK pcK (nW : Int) kO cA comers code spans d tr ar gaps left (F_X7_walk_45 clmK pcK (nW : Int) kO cA comers code spans d tr ar gaps left f) l3 a1 l2 (s : Int) (wzS nW cA pcw ab lf gp (gvS o d cA clm pcw tw gp) s).2.2 c14 c15 c16 a7 a10 a16 = (c14', c15', c16', a1', a7', a10', a16') ∧ _
    unfold F_X7_walk_45b
    by_cases q : s = 300
    · subst q
      rw [if_pos (by decide)]
      exact ⟨c14, c15, c16, a1, a7, a10, a16, rfl, ⟨q14, q15, q16, q1⟩, hk⟩
    · rw [if_neg (by omega)]
      have hor := rg_or q2.1 q3.1
      have hn : nW ≤ 12 := hH.2.1
      by_cases z0 : lf_o lf_ior l2 l3 = 0
      · rw [if_pos z0]
        have hz := (bt_z hor.1).mp z0
        have hst := WS_stay (nW := nW) (cA := cA) (pcw := pcw) (ab := ab) (lf := lf) (gp := gp) (G := gvS o d cA clm pcw tw gp) (s := s) (fun w hw ha => by
          have hb := hz w (by omega)
          rw [hor.2, q2.2 w (by omega), q3.2 w (by omega), decide_eq_true hw, ha] at hb
          by_cases x : cA w < (s : Int)
          · refine ⟨x, fun r => ?_⟩
            rw [decide_eq_true x, decide_eq_true r] at hb
            exact Bool.noConfusion hb
          · rw [decide_eq_true (show (s : Int) ≤ cA w from by omega)] at hb
            rw [show (!false) = true from rfl, Bool.and_true, Bool.and_true, Bool.and_true, Bool.or_true] at hb
            exact Bool.noConfusion hb) 300 (by omega)
        rw [hst]
        exact ⟨c14, c15, c16, a1, a7, a10, a16, rfl, ⟨q14, q15, q16, q1⟩, hk⟩
      · rw [if_neg z0, lf_b_e]
        have hI := spI_S (nW := nW) (cA := cA) (pcw := pcw) (ab := ab) (lf := lf) (gp := gp) (G := gvS o d cA clm pcw tw gp) s
        have hcm := hC s
        have hco := rg_and hcm.1 q3.1
        have hth := rg_or q2.1 hco.1
        have haw := rg_andn q3.1 hco.1
        have hcb : ∀ w, w < 12 → bt (lf_o lf_iand (F_X4_comersIn comers (s : Int)) l3) w = (decide (w < nW) && !ab w && decide (cA w = (s : Int))) := by
          intro w hw
          rw [hco.2, hcm.2 w hw, q3.2 w hw]
          by_cases x : cA w = (s : Int)
          · rw [decide_eq_true x, decide_eq_true (show (s : Int) ≤ cA w from by omega)]
            cases decide (w < nW) <;> cases ab w <;> rfl
          · rw [decide_eq_false x, Bool.and_false, Bool.false_and, Bool.and_false]
        have hCR : crH nW cA ab s (wzS nW cA pcw ab lf gp (gvS o d cA clm pcw tw gp) s) (lf_o lf_ior l2 (lf_o lf_iand (F_X4_comersIn comers (s : Int)) l3)) c14 c15 c16 a1 := by
          refine ⟨⟨hth.1, fun w hw => ?_⟩, q14, q15, q16, q1⟩
          rw [hth.2, q2.2 w hw, hcb w hw]
          unfold here
          by_cases x : cA w = (s : Int)
          · have hm : (wzS nW cA pcw ab lf gp (gvS o d cA clm pcw tw gp) s).1 w = -1 := by
              rcases Decidable.em ((wzS nW cA pcw ab lf gp (gvS o d cA clm pcw tw gp) s).1 w = -1) with r | r
              · exact r
              · have := (hI.1 w).2.2 r
                omega
            rw [decide_eq_true x, decide_eq_false (show ¬ cA w < (s : Int) from by omega), decide_eq_true (show cA w ≤ (s : Int) from by omega), decide_eq_true hm]
            cases decide (w < nW) <;> cases ab w <;> rfl
          · rw [decide_eq_false x, Bool.and_false, Bool.or_false]
            by_cases y : cA w < (s : Int)
            · rw [decide_eq_true y, decide_eq_true (show cA w ≤ (s : Int) from by omega)]
            · rw [decide_eq_false y, decide_eq_false (show ¬ cA w ≤ (s : Int) from by omega)]
        obtain ⟨l2', c14', c15', c16', a1', a7', a10', a16', e, e1, e2⟩ := wk_row (K45 := F_X7_walk_45 clmK pcK (nW : Int) kO cA comers code spans d tr ar gaps left f) (l3 := lf_o lf_iand l3 (lf_o lf_ixor (lf_o lf_iand (F_X4_comersIn comers (s : Int)) l3) (-1 : Int))) (l5 := lf_o lf_iand (F_X4_comersIn comers (s : Int)) l3) (z := wzS nW cA pcw ab lf gp (gvS o d cA clm pcw tw gp) s) hH (by omega : s < 300) (spI_w hI) 14 0 _ c14 c15 c16 a1 a7 a10 a16 (Nat.zero_le _) (by omega) hCR hk
        have e' : F_X7_walk_87 clmK pcK (nW : Int) kO cA code spans d tr ar gaps left (s : Int) (F_X7_walk_45 clmK pcK (nW : Int) kO cA comers code spans d tr ar gaps left f) 14 (lf_o lf_ior l2 (lf_o lf_iand (F_X4_comersIn comers (s : Int)) l3)) (lf_o lf_iand l3 (lf_o lf_ixor (lf_o lf_iand (F_X4_comersIn comers (s : Int)) l3) (-1 : Int))) (lf_o lf_iand (F_X4_comersIn comers (s : Int)) l3) (wzS nW cA pcw ab lf gp (gvS o d cA clm pcw tw gp) s).2.2 (0 : Int) c14 c15 c16 a1 a7 a10 a16 = _ := e
        rw [e']
        refine ih (s + 1) l2' _ c14' c15' c16' a1' a7' a10' a16' (by omega) (by omega) ⟨⟨e1.1.1, fun w hw => ?_⟩, ⟨haw.1, fun w hw => ?_⟩, e1.2.1, e1.2.2.1, e1.2.2.2.1, e1.2.2.2.2⟩ e2
        · rw [e1.1.2 w hw]
          unfold here
          by_cases y : cA w ≤ (s : Int)
          · rw [decide_eq_true y, decide_eq_true (show cA w < ((s + 1 : Nat) : Int) from by omega)]
            rfl
          · rw [decide_eq_false y, decide_eq_false (show ¬ cA w < ((s + 1 : Nat) : Int) from by omega)]
            rfl
        · rw [haw.2, q3.2 w hw, hcb w hw]
          by_cases x : cA w = (s : Int)
          · rw [decide_eq_true x, decide_eq_true (show (s : Int) ≤ cA w from by omega), decide_eq_false (show ¬ ((s + 1 : Nat) : Int) ≤ cA w from by omega)]
            cases decide (w < nW) <;> cases ab w <;> rfl
          · rw [decide_eq_false x, Bool.and_false, Bool.not_false, Bool.and_true]
            by_cases y : (s : Int) ≤ cA w
            · rw [decide_eq_true y, decide_eq_true (show ((s + 1 : Nat) : Int) ≤ cA w from by omega)]
            · rw [decide_eq_false y, decide_eq_false (show ¬ ((s + 1 : Nat) : Int) ≤ cA w from by omega)]
/-- walk -/
theorem wk_x {comers kn facts stack leaves : Nat → Int} {A : Int} (hH : wkH nW o d cA clm pcw tw lf gp clmK pcK kO code spans tr gaps left ar) (hC : cmB nW cA comers) (hA : rg A) (hA2 : ∀ w, w < 12 → bt A w = ab w) (hk : kOK nW (gvS o d cA clm pcw tw gp) kn) : ∃ c14' c15' c16' a1' a7' a10' a16', F_X7_walk facts stack clmK pcK (nW : Int) kO cA comers code spans d tr A ar gaps kn left leaves = (c14', c15', c16', a1', a7', a10', a16') ∧ ((rg c14' ∧ ∀ w, w < 12 → bt c14' w = decide ((wzS nW cA pcw ab lf gp (gvS o d cA clm pcw tw gp) 300).2.1 w = 1)) ∧ (rg c15' ∧ ∀ w, w < 12 → bt c15' w = decide (2 ≤ (wzS nW cA pcw ab lf gp (gvS o d cA clm pcw tw gp) 300).2.1 w)) ∧ (rg c16' ∧ ∀ w, w < 12 → bt c16' w = decide ((wzS nW cA pcw ab lf gp (gvS o d cA clm pcw tw gp) 300).2.1 w = 3)) ∧ ∀ w, w < 12 → a1' w = (wzS nW cA pcw ab lf gp (gvS o d cA clm pcw tw gp) 300).1 w) ∧ kOK nW (gvS o d cA clm pcw tw gp) a7' := by
  have hn : nW ≤ 12 := hH.2.1
  have hall := rg_all hn
  have haw := rg_andn hall.1 hA
  unfold F_X7_walk
  rw [lf_b_e]
  refine wk_run hH hC 302 0 0 _ 0 0 0 _ kn facts stack (Nat.zero_le _) (by omega) ⟨⟨rg_0, fun w hw => ?_⟩, ⟨haw.1, fun w hw => ?_⟩, ⟨rg_0, fun w hw => bt_0 w⟩, ⟨rg_0, fun w hw => bt_0 w⟩, ⟨rg_0, fun w hw => bt_0 w⟩, fun w hw => ?_⟩ hk
  · rw [bt_0]
    by_cases x : w < nW
    · have := (hH.1 w x).1
      rw [decide_eq_false (show ¬ cA w < ((0 : Nat) : Int) from by omega), Bool.false_and, Bool.false_and, Bool.and_false]
    · rw [decide_eq_false x, Bool.false_and]
  · rw [haw.2, hall.2, hA2 w hw]
    by_cases x : w < nW
    · have := (hH.1 w x).1
      rw [decide_eq_true (show ((0 : Nat) : Int) ≤ cA w from by omega), Bool.and_true]
    · rw [decide_eq_false x, Bool.false_and, Bool.false_and]
  · show (if w < 12 then (-1 : Int) else leaves w) = -1
    rw [if_pos hw]
end WR
end
section
/-! 8g -/
/-! cars, gaps, what is kept of a DAY -/
def rhoC (d cy : Int) (s : Nat) : Int → Int := fun j => if j = 0 then (s : Int) else if j = 1 then d else if j = 2 then (s : Int) % cy else 0
noncomputable def carV (o : Option (List Int)) (d cy : Int) (s : Nat) : Int := vlO true 7 o (rhoC d cy s) 0
def cgap (car : Nat → Bool) : Nat → Nat → Int
  | 0, _ => 0
  | k + 1, s => if car s = true then 0 else cgap car k (s + 1) + 1
noncomputable def gpS (o : Option (List Int)) (d cy : Int) (s : Nat) : Int := cgap (fun s => decide (carV o d cy s = 1)) 20 s
theorem cgap_b (car : Nat → Bool) : ∀ k s, 0 ≤ cgap car k s ∧ cgap car k s ≤ (k : Int)
  | 0, s => ⟨Int.le_refl _, Int.le_refl _⟩
  | k + 1, s => by
    have ih := cgap_b car k (s + 1)
    unfold cgap
    by_cases q : car s = true
    · rw [if_pos q]
      omega
    · rw [if_neg q]
      omega
theorem cgap_m (car : Nat → Bool) : ∀ k s, cgap car k s = min (cgap car (k + 1) s) (k : Int)
  | 0, s => by
    have := cgap_b car 1 s
    show (0 : Int) = min (cgap car 1 s) ((0 : Nat) : Int)
    omega
  | k + 1, s => by
    have ih := cgap_m car k (s + 1)
    have e1 : cgap car (k + 1) s = if car s = true then 0 else cgap car k (s + 1) + 1 := rfl
    have e2 : cgap car (k + 1 + 1) s = if car s = true then 0 else cgap car (k + 1) (s + 1) + 1 := rfl
    rw [e1, e2]
    by_cases q : car s = true
    · rw [if_pos q, if_pos q]
      omega
    · rw [if_neg q, if_neg q]
      omega
theorem cgap_s (car : Nat → Bool) {s : Nat} (hs : s ≤ 319) : (if car s = true then (0 : Int) else min (cgap car (min 20 (319 - s)) (s + 1) + 1) 20) = cgap car (min 20 (320 - s)) s := by
  have hk : ∃ k, min 20 (320 - s) = k + 1 := ⟨min 20 (320 - s) - 1, by omega⟩
  obtain ⟨k, hk⟩ := hk
  rw [hk]
  have e1 : cgap car (k + 1) s = if car s = true then 0 else cgap car k (s + 1) + 1 := rfl
  rw [e1]
  by_cases q : car s = true
  · rw [if_pos q, if_pos q]
  · rw [if_neg q, if_neg q]
    by_cases x : 320 - s ≤ 20
    · have : min 20 (319 - s) = k := by omega
      rw [this]
      have := cgap_b car k (s + 1)
      omega
    · have e2 : min 20 (319 - s) = k + 1 := by omega
      rw [e2]
      have := cgap_m car k (s + 1)
      have : k = 19 := by omega
      omega
theorem rhoC_b {al d cy : Int} {s : Nat} (hd : 0 ≤ d ∧ d ≤ 999) (hs : s < 400) (hcy : 1 ≤ cy) (hcy2 : cy ≤ 120) : okE al (rhoC d cy s) := by
  intro j h0 h1 _
  have m0 : 0 ≤ (s : Int) % cy := Int.emod_nonneg _ (by omega)
  have m1 : (s : Int) % cy < cy := Int.emod_lt_of_pos _ (by omega)
  unfold rhoC in6
  by_cases c0 : j = 0
  · rw [if_pos c0]
    omega
  rw [if_neg c0]
  by_cases c1 : j = 1
  · rw [if_pos c1]
    omega
  rw [if_neg c1]
  by_cases c2 : j = 2
  · rw [if_pos c2]
    omega
  rw [if_neg c2]
  omega
theorem al7 {j : Int} (h0 : 0 ≤ j) (h1 : j < 12) (h : alB 7 j = true) : j = 0 ∨ j = 1 ∨ j = 2 := by
  have hn : ∀ k : Int, (¬ alB 7 k = true) → ¬ j = k := fun k hk r => hk (by rw [← r]; exact h)
  have a3 := hn 3 (by decide +kernel)
  have a4 := hn 4 (by decide +kernel)
  have a5 := hn 5 (by decide +kernel)
  have a6 := hn 6 (by decide +kernel)
  have a7 := hn 7 (by decide +kernel)
  have a8 := hn 8 (by decide +kernel)
  have a9 := hn 9 (by decide +kernel)
  have a10 := hn 10 (by decide +kernel)
  have a11 := hn 11 (by decide +kernel)
  omega
/-- cars and gaps of a DAY, in the class -/
def SFd (o : Option (List Int)) (d cy : Int) (cars gaps : Nat → Int) : Prop := (∀ s, s < 320 → cars s = carV o d cy s) ∧ ∀ s, s < 300 → gaps s = gpS o d cy s
section DR
variable {oC : Option (List Int)} {d cy : Int} {code spans : Nat → Int}
theorem dr_run (hd : 0 ≤ d ∧ d ≤ 999) (hcy : 1 ≤ cy) (hcy2 : cy ≤ 120) (hX : cdX code spans 0 oC) (hG : cdG true 7 oC) : ∀ (f n : Nat) (a2 a6 a7 a8 : Nat → Int), n ≤ 320 → n < f → a2 1 = d → (∀ s, n ≤ s → s < 320 → a7 s = carV oC d cy s ∧ a8 s = cgap (fun s => decide (carV oC d cy s = 1)) (min 20 (320 - s)) s) → ∃ f2 s2 c2 g2, F_X7_drive_21 cy code spans f a2 (cgap (fun s => decide (carV oC d cy s = 1)) (min 20 (320 - n)) n) ((n : Int) - 1) a6 a7 a8 = (f2, s2, c2, g2) ∧ ∀ s, s < 320 → c2 s = carV oC d cy s ∧ g2 s = cgap (fun s => decide (carV oC d cy s = 1)) (min 20 (320 - s)) s := by
  intro f
  induction f with
  | zero => intro n a2 a6 a7 a8 h1 h2; omega
  | succ f ih =>
    intro n a2 a6 a7 a8 h1 h2 h3 h4
    show ∃ f2 s2 c2 g2, F_X7_drive_21b cy code spans (F_X7_drive_21 cy code spans f) a2 (cgap (fun s => decide (carV oC d cy s = 1)) (min 20 (320 - n)) n) ((n : Int) - 1) a6 a7 a8 = (f2, s2, c2, g2) ∧ _
    unfold F_X7_drive_21b
    cases n with
    | zero =>
      rw [if_pos (by omega)]
      exact ⟨a2, a6, a7, a8, rfl, fun s hs => h4 s (Nat.zero_le s) hs⟩
    | succ n =>
      have en : ((n + 1 : Nat) : Int) - 1 = (n : Int) := by omega
      rw [en, if_neg (by omega), lo_rem (by omega) (by omega) hcy (by omega)]
      have hv : (F_X3_value (lf_up (lf_up a2 (0 : Int) (n : Int)) (2 : Int) ((n : Int) % cy)) a6 code (spans 0) (spans 1)).1 = carV oC d cy n := vX hX hG (rhoC_b hd (by omega) hcy hcy2) (fun j h0 h1 ha => by
        rcases al7 h0 h1 ha with x | x | x
        · subst x
          rfl
        · subst x
          exact h3
        · subst x
          rfl) (fun x => absurd x (by decide))
      have hbo := (vlO_b (κ := 0) hG (rhoC_b (al := 7) hd (by omega : n < 400) hcy hcy2)).2 rfl
      show ∃ f2 s2 c2 g2, lf_p (F_X3_value (lf_up (lf_up a2 (0 : Int) (n : Int)) (2 : Int) ((n : Int) % cy)) a6 code (spans 0) (spans 1)) _ = _ ∧ _
      generalize F_X3_value (lf_up (lf_up a2 (0 : Int) (n : Int)) (2 : Int) ((n : Int) % cy)) a6 code (spans 0) (spans 1) = R at hv ⊢
      obtain ⟨v, st⟩ := R
      have hv' : v = carV oC d cy n := hv
      rw [lf_p_e, lf_up_y (by omega)]
      have hgap : (if v = (1 : Int) then (0 : Int) else min (cgap (fun s => decide (carV oC d cy s = 1)) (min 20 (320 - (n + 1))) (n + 1) + (1 : Int)) (20 : Int)) = cgap (fun s => decide (carV oC d cy s = 1)) (min 20 (320 - n)) n := by
        rw [← cgap_s (fun s => decide (carV oC d cy s = 1)) (s := n) (by omega), show 320 - (n + 1) = 319 - n from by omega, hv']
        by_cases x : carV oC d cy n = 1
        · rw [if_pos x, if_pos (decide_eq_true x)]
        · rw [if_neg x, if_neg (fun r => x (of_decide_eq_true r))]
      have hgo : ∃ f2 s2 c2 g2, F_X7_drive_101 (n : Int) a8 (F_X7_drive_21 cy code spans f) (cgap (fun s => decide (carV oC d cy s = 1)) (min 20 (320 - n)) n) (lf_up (lf_up a2 (0 : Int) (n : Int)) (2 : Int) ((n : Int) % cy)) st (lf_up a7 (n : Int) v) = (f2, s2, c2, g2) ∧ ∀ s, s < 320 → c2 s = carV oC d cy s ∧ g2 s = cgap (fun s => decide (carV oC d cy s = 1)) (min 20 (320 - s)) s := by
        unfold F_X7_drive_101
        rw [show (n : Int) + (-1 : Int) = (n : Int) - 1 from by omega]
        refine ih n _ _ _ _ (by omega) (by omega) h3 (fun s h5 h6 => ?_)
        by_cases x : s = n
        · rw [lf_up_y (by omega), lf_up_y (by omega), x]
          exact ⟨hv', rfl⟩
        · rw [lf_up_o (by omega), lf_up_o (by omega)]
          exact h4 s (by omega) h6
      by_cases x : v = 1
      · rw [if_pos x] at hgap
        rw [← hgap] at hgo
        rw [if_pos x]
        exact hgo
      · rw [if_neg x] at hgap
        rw [if_neg x, hgap]
        exact hgo
theorem dr_x {facts stack cars gaps : Nat → Int} (hd : 0 ≤ d ∧ d ≤ 999) (hcy : 1 ≤ cy) (hcy2 : cy ≤ 120) (hX : cdX code spans 0 oC) (hG : cdG true 7 oC) : ∃ f2 s2 c2 g2, F_X7_drive facts stack cy code spans d cars gaps = (f2, s2, c2, g2) ∧ SFd oC d cy c2 g2 := by
  obtain ⟨f2, s2, c2, g2, e, h⟩ := dr_run hd hcy hcy2 hX hG 322 320 (lf_up facts (1 : Int) d) stack cars gaps (Nat.le_refl _) (by decide) rfl (fun s h1 h2 => by omega)
  refine ⟨f2, s2, c2, g2, e, fun s hs => (h s hs).1, fun s hs => ?_⟩
  rw [(h s (by omega)).2, show min 20 (320 - s) = 20 from by omega]
  rfl
end DR
/-! prepare -/
theorem pp_run {facts stack cars gaps known tr0 code spans : Nat → Int} {cy d0 sd d1 : Int} {rule : Int} {nK : Nat} : ∀ (f k : Nat) (l3 : Int) (a10 : Nat → Int), k ≤ nK → nK - k < f → (l3 = 0 ∨ l3 = 1) → ∃ (l3' : Int) (a : Nat → Int), F_X7_prepare_22 facts stack cy (nK : Int) code spans d1 rule cars gaps known d0 tr0 f sd l3 (k : Int) a10 = (if sd = (0 : Int) then (lf_p (F_X7_drive facts stack cy code spans d0 cars gaps) (fun f21 t_f22 => (lf_p t_f22 (fun f22 t_f23 => (lf_p t_f23 (fun f23 f24 => (F_X7_prepare_97 rule known sd l3' d0 f21 f22 f23 f24 (nK : Int) a))))))) else (F_X7_prepare_97 rule known sd l3' d1 facts stack cars gaps (nK : Int) a)) ∧ (∀ j, a j = if k ≤ j ∧ j < nK then tr0 j else a10 j) ∧ (l3' = 0 ∨ (l3' = 1 ∧ l3 = 1 ∧ ∀ j, k ≤ j → j < nK → a10 j = tr0 j)) := by
  intro f
  induction f with
  | zero => intro k l3 a10 h1 h2; omega
  | succ f ih =>
    intro k l3 a10 h1 h2 h3
    show ∃ (l3' : Int) (a : Nat → Int), F_X7_prepare_22b facts stack cy (nK : Int) code spans d1 rule cars gaps known d0 tr0 (F_X7_prepare_22 facts stack cy (nK : Int) code spans d1 rule cars gaps known d0 tr0 f) sd l3 (k : Int) a10 = _ ∧ _
    unfold F_X7_prepare_22b
    by_cases q : k = nK
    · rw [if_pos (by omega), q]
      refine ⟨l3, a10, rfl, fun j => ?_, ?_⟩
      · rw [if_neg (by omega)]
      · rcases h3 with r | r
        · exact Or.inl r
        · exact Or.inr ⟨r, r, fun j h4 h5 => by omega⟩
    · rw [if_neg (by omega), Int.toNat_natCast]
      have go : ∀ x : Int, (x = 0 ∨ x = 1) → (x = 1 → l3 = 1 ∧ a10 k = tr0 k) → ∃ (l3' : Int) (a : Nat → Int), F_X7_prepare_60 tr0 sd (k : Int) a10 (F_X7_prepare_22 facts stack cy (nK : Int) code spans d1 rule cars gaps known d0 tr0 f) x = (if sd = (0 : Int) then (lf_p (F_X7_drive facts stack cy code spans d0 cars gaps) (fun f21 t_f22 => (lf_p t_f22 (fun f22 t_f23 => (lf_p t_f23 (fun f23 f24 => (F_X7_prepare_97 rule known sd l3' d0 f21 f22 f23 f24 (nK : Int) a))))))) else (F_X7_prepare_97 rule known sd l3' d1 facts stack cars gaps (nK : Int) a)) ∧ (∀ j, a j = if k ≤ j ∧ j < nK then tr0 j else a10 j) ∧ (l3' = 0 ∨ (l3' = 1 ∧ l3 = 1 ∧ ∀ j, k ≤ j → j < nK → a10 j = tr0 j)) := by
        intro x hx hx1
        unfold F_X7_prepare_60
        rw [Int.toNat_natCast]
        obtain ⟨l3', a, e, e1, e2⟩ := ih (k + 1) x (lf_up a10 (k : Int) (tr0 k)) (by omega) (by omega) hx
        refine ⟨l3', a, e, fun j => ?_, ?_⟩
        · rw [e1 j]
          by_cases y : k + 1 ≤ j ∧ j < nK
          · rw [if_pos y, if_pos ⟨by omega, y.2⟩]
          · rw [if_neg y]
            by_cases y2 : j = k
            · rw [lf_up_y (by omega), if_pos ⟨by omega, by omega⟩, y2]
            · rw [lf_up_o (by omega), if_neg (by omega)]
        · rcases e2 with r | ⟨r1, r2, r3⟩
          · exact Or.inl r
          · refine Or.inr ⟨r1, (hx1 r2).1, fun j h4 h5 => ?_⟩
            by_cases y : j = k
            · rw [y]
              exact (hx1 r2).2
            · have := r3 j (by omega) h5
              rw [lf_up_o (by omega)] at this
              exact this
      unfold F_X7_prepare_59
      by_cases c1 : l3 = 0
      · rw [if_pos c1]
        exact go 0 (Or.inl rfl) (fun r => by omega)
      · rw [if_neg c1]
        by_cases c2 : a10 k = tr0 k
        · rw [if_pos c2]
          exact go 1 (Or.inr rfl) (fun _ => ⟨by omega, c2⟩)
        · rw [if_neg c2]
          exact go 0 (Or.inl rfl) (fun r => by omega)
end
section
/-! 8h -/
/-! a street's DAY laid out: what stands of it -/
def twf (nW : Nat) (kO tr : Nat → Int) (w : Nat) : Int := if w < nW then tr (kO w).toNat else 0
theorem twf_cg {nW nK : Nat} {kO tr tr2 : Nat → Int} (hk : ∀ w, w < nW → 0 ≤ kO w ∧ kO w < (nK : Int)) (h : ∀ k, k < nK → tr k = tr2 k) : twf nW kO tr = twf nW kO tr2 := by
  funext w
  unfold twf
  by_cases q : w < nW
  · rw [if_pos q, if_pos q, h (kO w).toNat (by have := hk w q; omega)]
  · rw [if_neg q, if_neg q]
def abf (A : Int) (w : Nat) : Bool := bt A w
/-- a crossing as both sides have it -/
def plH (nW nK : Nat) (cy ls : Int) (oC oR : Option (List Int)) (kO cA clmK pcK comers code spans : Nat → Int) (ar : Int) : Prop := nW ≤ 12 ∧ nK ≤ 6 ∧ (10 ≤ cy ∧ cy ≤ 120) ∧ (∀ w, w < nW → (0 ≤ kO w ∧ kO w < (nK : Int)) ∧ (0 ≤ cA w ∧ cA w < 200)) ∧ (∀ k, k < nK → (0 ≤ clmK k ∧ clmK k ≤ 99) ∧ (1 ≤ pcK k ∧ pcK k ≤ 20)) ∧ cmB nW cA comers ∧ (cdX code spans 0 oC ∧ cdG true 7 oC) ∧ (cdX code spans 2 oR ∧ cdG true 507 oR) ∧ (ar = 0 → no48 oR)
noncomputable def gR (oC oR : Option (List Int)) (cy : Int) (nW : Nat) (kO cA clmK pcK : Nat → Int) (d : Int) (tr : Nat → Int) : Nat → Nat → Int → Bool := gvS oR d cA (fun w => clmK (kO w).toNat) (fun w => pcK (kO w).toNat) (twf nW kO tr) (gpS oC d cy)
noncomputable def leS (nW : Nat) (cy ls : Int) (kO cA : Nat → Int) (tr : Nat → Int) (ru gr A : Int) : Nat → Int := lef nW cA (twf nW kO tr) (abf A) cy ls ru gr
noncomputable def weS (oC oR : Option (List Int)) (nW : Nat) (cy ls : Int) (kO cA clmK pcK : Nat → Int) (d : Int) (tr : Nat → Int) (ru gr A : Int) : wzT := wzS nW cA (fun w => pcK (kO w).toNat) (abf A) (leS nW cy ls kO cA tr ru gr A) (gpS oC d cy) (gR oC oR cy nW kO cA clmK pcK d tr) 300
/-- the row of seconds, who presses, crosses, goes, is harmed -/
def SFl (oC oR : Option (List Int)) (nW : Nat) (cy ls : Int) (kO cA clmK pcK : Nat → Int) (d : Int) (tr : Nat → Int) (ru gr A : Int) (left leaves : Nat → Int) (pressed crossed went harmed : Int) : Prop := (∀ j, j < 300 → left j = leS nW cy ls kO cA tr ru gr A j) ∧ (rg pressed ∧ ∀ w, w < 12 → bt pressed w = prS nW cA (twf nW kO tr) (abf A) cy ls ru gr w) ∧ (rg crossed ∧ ∀ w, w < 12 → bt crossed w = decide ((weS oC oR nW cy ls kO cA clmK pcK d tr ru gr A).2.1 w = 1)) ∧ (rg went ∧ ∀ w, w < 12 → bt went w = decide (2 ≤ (weS oC oR nW cy ls kO cA clmK pcK d tr ru gr A).2.1 w)) ∧ (rg harmed ∧ ∀ w, w < 12 → bt harmed w = decide ((weS oC oR nW cy ls kO cA clmK pcK d tr ru gr A).2.1 w = 3)) ∧ ∀ w, w < 12 → leaves w = (weS oC oR nW cy ls kO cA clmK pcK d tr ru gr A).1 w
/-- what stands of a street, whatever is asked of it -/
def sfH (oC oR : Option (List Int)) (nW nK : Nat) (cy ls : Int) (kO cA clmK pcK : Nat → Int) (sd : Int) (str : Nat → Int) (ru gr A : Int) (cars gaps known left leaves : Nat → Int) (pressed crossed went harmed : Int) : Prop := sd = -1 ∨ ((0 ≤ sd ∧ sd ≤ 999) ∧ (∀ k, k < nK → 0 ≤ str k ∧ str k ≤ 9) ∧ SFd oC sd cy cars gaps ∧ kOK nW (gR oC oR cy nW kO cA clmK pcK sd str) known ∧ (ru = -1 ∨ SFl oC oR nW cy ls kO cA clmK pcK sd str ru gr A left leaves pressed crossed went harmed))
section LA
variable {oC oR : Option (List Int)} {nW nK : Nat} {cy ls : Int} {kO cA clmK pcK comers code spans : Nat → Int} {ar : Int}
theorem PL_wkB {tr : Nat → Int} (h : plH nW nK cy ls oC oR kO cA clmK pcK comers code spans ar) (ht : ∀ k, k < nK → 0 ≤ tr k ∧ tr k ≤ 9) : wkB nW cA (fun w => clmK (kO w).toNat) (fun w => pcK (kO w).toNat) (twf nW kO tr) := by
  obtain ⟨h1, h2, h3, h4, h5, h6⟩ := h
  intro w hw
  obtain ⟨a1, a2⟩ := h4 w hw
  have hk : (kO w).toNat < nK := by omega
  obtain ⟨b1, b2⟩ := h5 _ hk
  refine ⟨a2, b1, b2, ?_⟩
  unfold twf
  rw [if_pos hw]
  exact ht _ hk
theorem gp_b {o : Option (List Int)} {d c : Int} {s : Nat} : 0 ≤ gpS o d c s ∧ gpS o d c s ≤ 20 := cgap_b _ 20 s
theorem gR_cg {d : Int} {tr tr2 : Nat → Int} (h : twf nW kO tr = twf nW kO tr2) : gR oC oR cy nW kO cA clmK pcK d tr = gR oC oR cy nW kO cA clmK pcK d tr2 := by
  unfold gR
  rw [h]
theorem SFl_cg {d : Int} {tr tr2 : Nat → Int} {ru gr A : Int} {left leaves : Nat → Int} {pressed crossed went harmed : Int} (h : twf nW kO tr = twf nW kO tr2) (hl : SFl oC oR nW cy ls kO cA clmK pcK d tr ru gr A left leaves pressed crossed went harmed) : SFl oC oR nW cy ls kO cA clmK pcK d tr2 ru gr A left leaves pressed crossed went harmed := by
  unfold SFl weS leS at *
  rw [gR_cg h, h] at hl
  exact hl
/-- what prepare leaves -/
theorem pp_x {facts stack cars gaps known str tr0 left leaves : Nat → Int} {d1 d0 ru gr A pressed crossed went harmed : Int} (hP : plH nW nK cy ls oC oR kO cA clmK pcK comers code spans ar) (hS : sfH oC oR nW nK cy ls kO cA clmK pcK d1 str ru gr A cars gaps known left leaves pressed crossed went harmed) (hd : 0 ≤ d0 ∧ d0 ≤ 999) (ht : ∀ k, k < nK → 0 ≤ tr0 k ∧ tr0 k ≤ 9) : ∃ ru2 f2 s2 c2 g2 t2 k2, F_X7_prepare facts stack cy (nK : Int) code spans d1 str ru cars gaps known d0 tr0 = (d0, ru2, f2, s2, c2, g2, t2, k2) ∧ (∀ k, k < nK → t2 k = tr0 k) ∧ sfH oC oR nW nK cy ls kO cA clmK pcK d0 t2 ru2 gr A c2 g2 k2 left leaves pressed crossed went harmed ∧ (ru2 = ru ∨ ru2 = -1) := by
  have hP0 := hP
  obtain ⟨h1, h2, h3, h4, h5, h6, h7, h8, h9⟩ := hP
  have hkn : ∀ w, w < nW → 0 ≤ kO w ∧ kO w < (nK : Int) := fun w hw => (h4 w hw).1
  have main : ∀ sd : Int, (sd = 0 ∨ (sd = 1 ∧ d1 = d0)) → ∃ ru2 f2 s2 c2 g2 t2 k2, F_X7_prepare_16 facts stack cy (nK : Int) code spans d1 str ru cars gaps known d0 tr0 sd = (d0, ru2, f2, s2, c2, g2, t2, k2) ∧ (∀ k, k < nK → t2 k = tr0 k) ∧ sfH oC oR nW nK cy ls kO cA clmK pcK d0 t2 ru2 gr A c2 g2 k2 left leaves pressed crossed went harmed ∧ (ru2 = ru ∨ ru2 = -1) := by
    intro sd hsd
    obtain ⟨l3, a, e, ea, el⟩ := pp_run (facts := facts) (stack := stack) (cars := cars) (gaps := gaps) (known := known) (tr0 := tr0) (code := code) (spans := spans) (cy := cy) (d0 := d0) (sd := sd) (d1 := d1) (rule := ru) (nK := nK) 8 0 sd str (Nat.zero_le _) (by omega) (by omega)
    have e' : F_X7_prepare_16 facts stack cy (nK : Int) code spans d1 str ru cars gaps known d0 tr0 sd = _ := e
    rw [e']
    have ha : ∀ k, k < nK → a k = tr0 k := fun k hk => by rw [ea k, if_pos ⟨Nat.zero_le k, hk⟩]
    have hat : ∀ k, k < nK → 0 ≤ a k ∧ a k ≤ 9 := fun k hk => by rw [ha k hk]; exact ht k hk
    have hz : kOK nW (gR oC oR cy nW kO cA clmK pcK d0 a) (lf_fl known 3600 (0 : Int)) := kOK_0 (fun j hj => if_pos hj) h1
    by_cases q : sd = 0
    · rw [if_pos q]
      obtain ⟨f2, s2, c2, g2, e1, e2⟩ := dr_x (facts := facts) (stack := stack) (cars := cars) (gaps := gaps) (code := code) (spans := spans) hd (by omega : 1 ≤ cy) h3.2 h7.1 h7.2
      have hl3 : l3 = 0 := by
        rcases el with r | r
        · exact r
        · have := r.2.1
          omega
      unfold F_X7_prepare_97
      rw [e1, lf_p_e, lf_p_e, lf_p_e, if_pos hl3]
      exact ⟨-1, f2, s2, c2, g2, a, _, rfl, ha, Or.inr ⟨hd, hat, e2, hz, Or.inl rfl⟩, Or.inr rfl⟩
    · rw [if_neg q]
      have hdd : d1 = d0 := by
        rcases hsd with r | r
        · exact absurd r q
        · exact r.2
      subst hdd
      unfold F_X7_prepare_97
      have hS2 : (∀ k, k < nK → 0 ≤ str k ∧ str k ≤ 9) ∧ SFd oC d1 cy cars gaps ∧ kOK nW (gR oC oR cy nW kO cA clmK pcK d1 str) known ∧ (ru = -1 ∨ SFl oC oR nW cy ls kO cA clmK pcK d1 str ru gr A left leaves pressed crossed went harmed) := by
        rcases hS with r | r
        · omega
        · exact r.2
      by_cases q2 : l3 = 0
      · rw [if_pos q2]
        exact ⟨-1, facts, stack, cars, gaps, a, _, rfl, ha, Or.inr ⟨hd, hat, hS2.2.1, hz, Or.inl rfl⟩, Or.inr rfl⟩
      · rw [if_neg q2]
        have hst : ∀ k, k < nK → str k = a k := by
          rcases el with r | ⟨r1, r2, r3⟩
          · exact absurd r q2
          · intro k hk
            rw [ha k hk]
            exact r3 k (Nat.zero_le k) hk
        have htw := twf_cg hkn hst
        refine ⟨ru, facts, stack, cars, gaps, a, known, rfl, ha, Or.inr ⟨hd, hat, hS2.2.1, ?_, ?_⟩, Or.inl rfl⟩
        · rw [← gR_cg (cA := cA) (clmK := clmK) (pcK := pcK) (oC := oC) (oR := oR) (cy := cy) htw]
          exact hS2.2.2.1
        · rcases hS2.2.2.2 with r | r
          · exact Or.inl r
          · exact Or.inr (SFl_cg htw r)
  unfold F_X7_prepare
  by_cases q : d1 = d0
  · rw [if_pos q]
    exact main 1 (Or.inr ⟨rfl, q⟩)
  · rw [if_neg q]
    exact main 0 (Or.inl rfl)
/-- lay -/
theorem ly_x {facts stack cars gaps known str tr0 left leaves : Nat → Int} {d1 d0 ru gr A pressed crossed went harmed p1 p2 p3 : Int} (hP : plH nW nK cy ls oC oR kO cA clmK pcK comers code spans ar) (hS : sfH oC oR nW nK cy ls kO cA clmK pcK d1 str ru gr A cars gaps known left leaves pressed crossed went harmed) (hd : 0 ≤ d0 ∧ d0 ≤ 999) (ht : ∀ k, k < nK → 0 ≤ tr0 k ∧ tr0 k ≤ 9) (hp1 : 0 ≤ p1) (hp2 : 0 ≤ p2 ∧ p2 ≤ 60) (hp3 : rg p3) : ∃ f2 s2 c2 g2 t2 k2 l2 v2 pr2 cr2 we2 ha2, F_X7_lay facts stack cy ls (nK : Int) clmK pcK (nW : Int) kO cA comers code spans d1 str ru gr A ar cars gaps known left leaves pressed crossed went harmed d0 tr0 p1 p2 p3 = (d0, p1, p2, p3, pr2, cr2, we2, ha2, f2, s2, c2, g2, t2, k2, l2, v2) ∧ (∀ k, k < nK → t2 k = tr0 k) ∧ sfH oC oR nW nK cy ls kO cA clmK pcK d0 t2 p1 p2 p3 c2 g2 k2 l2 v2 pr2 cr2 we2 ha2 ∧ SFl oC oR nW cy ls kO cA clmK pcK d0 tr0 p1 p2 p3 l2 v2 pr2 cr2 we2 ha2 ∧ SFd oC d0 cy c2 g2 := by
  have hP0 := hP
  obtain ⟨h1, h2, h3, h4, h5, h6, h7, h8, h9⟩ := hP
  have hkn : ∀ w, w < nW → 0 ≤ kO w ∧ kO w < (nK : Int) := fun w hw => (h4 w hw).1
  obtain ⟨ru2, f2, s2, c2, g2, t2, k2, e, e1, e2, e3⟩ := pp_x (facts := facts) (stack := stack) (comers := comers) (code := code) (spans := spans) (ar := ar) hP0 hS hd ht
  have htw : twf nW kO t2 = twf nW kO tr0 := twf_cg hkn e1
  have hE : (∀ k, k < nK → 0 ≤ t2 k ∧ t2 k ≤ 9) ∧ SFd oC d0 cy c2 g2 ∧ kOK nW (gR oC oR cy nW kO cA clmK pcK d0 t2) k2 ∧ (ru2 = -1 ∨ SFl oC oR nW cy ls kO cA clmK pcK d0 t2 ru2 gr A left leaves pressed crossed went harmed) := by
    rcases e2 with r | r
    · omega
    · exact r.2
  unfold F_X7_lay
  rw [if_pos (by omega), e, lf_p_e, lf_p_e, lf_p_e, lf_p_e, lf_p_e, lf_p_e, lf_p_e]
  have anew : ∃ f2' s2' c2' g2' t2' k2' l2 v2 pr2 cr2 we2 ha2, F_X7_lay_42 cy ls clmK pcK (nW : Int) kO cA comers code spans ar left leaves p1 p2 p3 d0 ru2 f2 s2 c2 g2 t2 k2 = (d0, p1, p2, p3, pr2, cr2, we2, ha2, f2', s2', c2', g2', t2', k2', l2, v2) ∧ (∀ k, k < nK → t2' k = tr0 k) ∧ sfH oC oR nW nK cy ls kO cA clmK pcK d0 t2' p1 p2 p3 c2' g2' k2' l2 v2 pr2 cr2 we2 ha2 ∧ SFl oC oR nW cy ls kO cA clmK pcK d0 tr0 p1 p2 p3 l2 v2 pr2 cr2 we2 ha2 ∧ SFd oC d0 cy c2' g2' := by
    unfold F_X7_lay_42
    obtain ⟨c, a, x1, x2, x3, x4⟩ := sh_x (ls := ls) (ru := p1) (gr := p2) (kO := kO) (tr := t2) (A := p3) (a5 := left) (tw := twf nW kO t2) (ab := abf p3) h6 h1 hp3 (fun w hw => rfl) (fun w hw => (if_pos hw).symm) (fun w hw => (h4 w hw).2) (by omega : 1 ≤ cy) h3.2 hp2.1 hp2.2
    rw [x1, lf_p_e]
    have hW : wkH nW oR d0 cA (fun w => clmK (kO w).toNat) (fun w => pcK (kO w).toNat) (twf nW kO t2) (leS nW cy ls kO cA t2 p1 p2 p3) (gpS oC d0 cy) clmK pcK kO code spans t2 g2 a ar := ⟨PL_wkB hP0 hE.1, h1, hd, fun s hs => ⟨gp_b, hE.2.1.2 s hs, x2 s hs⟩, fun w hw => ⟨rfl, rfl, (if_pos hw).symm⟩, h8.1, h8.2, h9⟩
    obtain ⟨c14, c15, c16, a1, a7, a10, a16, y1, y2, y3⟩ := wk_x (lf := leS nW cy ls kO cA t2 p1 p2 p3) (ab := abf p3) (comers := comers) (kn := k2) (facts := f2) (stack := s2) (leaves := leaves) (A := p3) hW h6 hp3 (fun w hw => rfl) hE.2.2.1
    rw [y1, lf_p_e, lf_p_e, lf_p_e, lf_p_e, lf_p_e, lf_p_e]
    have hl : SFl oC oR nW cy ls kO cA clmK pcK d0 t2 p1 p2 p3 a a1 c c14 c15 c16 := ⟨x2, ⟨x3, x4⟩, y2.1, y2.2.1, y2.2.2.1, y2.2.2.2⟩
    exact ⟨a10, a16, c2, g2, t2, a7, a, a1, c, c14, c15, c16, rfl, e1, Or.inr ⟨hd, hE.1, hE.2.1, y3, Or.inr hl⟩, SFl_cg htw hl, hE.2.1⟩
  by_cases q1 : ru2 = p1
  · rw [if_pos q1]
    by_cases q2 : gr = p2
    · rw [if_pos q2]
      by_cases q3 : A = p3
      · rw [if_pos q3]
        have hl : SFl oC oR nW cy ls kO cA clmK pcK d0 t2 p1 p2 p3 left leaves pressed crossed went harmed := by
          rcases hE.2.2.2 with r | r
          · omega
          · rw [q1, q2, q3] at r
            exact r
        refine ⟨f2, s2, c2, g2, t2, k2, left, leaves, pressed, crossed, went, harmed, ?_, e1, ?_, SFl_cg htw hl, hE.2.1⟩
        · rw [q1, q2, q3]
        · exact Or.inr ⟨hd, hE.1, hE.2.1, hE.2.2.1, Or.inr hl⟩
      · rw [if_neg q3]
        exact anew
    · rw [if_neg q2]
      exact anew
  · rw [if_neg q1]
    exact anew
end LA
end
section
/-! 8i -/
/-! the model: cars and gaps -/
/-- a crossing as the model has it -/
def pmH (nW nK : Nat) (cy ls : Int) (oC oR oL : Option (List Int)) (kO cA clmK pcK many bar kinds walkers cf ce codes : Nat → Int) : Prop := many 3 = (nW : Int) ∧ many 2 = (nK : Int) ∧ bar 4 = cy ∧ bar 7 = ls ∧ (∀ w, w < nW → walkers (24 + 2 * w) = kO w ∧ walkers (25 + 2 * w) = cA w) ∧ (∀ k, k < nK → kinds (12 + 2 * k) = clmK k ∧ kinds (13 + 2 * k) = pcK k) ∧ cdM cf ce codes 3 oC ∧ cdM cf ce codes 4 oR ∧ cdM cf ce codes 5 oL
section MC
variable {oC : Option (List Int)} {d cy : Int} {bar kinds walkers cf ce codes now : Nat → Int}
theorem mg_68 {c55 c58 c117 : Int} {a3 a13 : Nat → Int} {K54 : Int → Int → Int → (Nat → Int) → (Nat → Int) → Int → (Nat → Int) → Int × Int × Int × (Nat → Int) × (Nat → Int) × (Nat → Int)} {car : Nat → Bool} {s : Nat} (hs : s < 300) (h13 : ∀ j, j < 320 → a13 j = b2 (car j)) : ∀ (f g : Nat) (a10 : Nat → Int), g ≤ 20 → 20 - g < f → a10 s = (g : Int) → ∃ a, F_X10_laysCars_68 c55 c58 c117 a3 a13 (s : Int) K54 f a10 = K54 c55 c58 c117 a3 a13 ((s : Int) + (1 : Int)) a ∧ a s = (g : Int) + cgap car (20 - g) (s + g) ∧ ∀ j, ¬ j = s → a j = a10 j := by
  intro f
  induction f with
  | zero => intro g a10 h1 h2; omega
  | succ f ih =>
    intro g a10 h1 h2 h3
    show ∃ a, F_X10_laysCars_68b c55 c58 c117 a3 a13 (s : Int) K54 (F_X10_laysCars_68 c55 c58 c117 a3 a13 (s : Int) K54 f) a10 = _ ∧ _
    unfold F_X10_laysCars_68b F_X10_laysCars_108
    rw [Int.toNat_natCast, h3]
    by_cases q : g = 20
    · rw [if_pos (by omega), q]
      refine ⟨a10, rfl, ?_, fun j _ => rfl⟩
      rw [h3, q]
      show (20 : Int) = 20 + 0
      decide
    · rw [if_neg (by omega), show Int.toNat ((s : Int) + (g : Int)) = s + g from by omega, h13 (s + g) (by omega)]
      have ek : ∃ k, 20 - g = k + 1 := ⟨20 - g - 1, by omega⟩
      obtain ⟨k, hk⟩ := ek
      have ec : cgap car (20 - g) (s + g) = if car (s + g) = true then 0 else cgap car k (s + g + 1) + 1 := by rw [hk]; rfl
      cases c : car (s + g) with
      | true =>
        rw [if_neg (show ¬ b2 true = 0 from by decide)]
        refine ⟨a10, rfl, ?_, fun j _ => rfl⟩
        rw [ec, if_pos c, h3]
        omega
      | false =>
        rw [if_pos (show b2 false = 0 from rfl)]
        obtain ⟨a, e, e1, e2⟩ := ih (g + 1) (lf_up a10 (s : Int) ((g : Int) + (1 : Int))) (by omega) (by omega) (lf_up_y (by omega))
        refine ⟨a, e, ?_, fun j hj => ?_⟩
        · rw [e1, ec, c, if_neg (fun r => Bool.noConfusion r), show 20 - (g + 1) = k from by omega, show s + (g + 1) = s + g + 1 from by omega]
          omega
        · rw [e2 j hj, lf_up_o (by omega)]
theorem mg_54 {c55 c58 c117 : Int} {a3 a13 : Nat → Int} {car : Nat → Bool} (h13 : ∀ j, j < 320 → a13 j = b2 (car j)) : ∀ (f s : Nat) (a10 : Nat → Int), s ≤ 300 → 300 - s < f → (∀ j, j < s → a10 j = cgap car 20 j) → ∃ a, F_X10_laysCars_54 f c55 c58 c117 a3 a13 (s : Int) a10 = (c55, c58, c117, a3, a, a13) ∧ ∀ j, j < 300 → a j = cgap car 20 j := by
  intro f
  induction f with
  | zero => intro s a10 h1 h2; omega
  | succ f ih =>
    intro s a10 h1 h2 h3
    show ∃ a, F_X10_laysCars_54b (F_X10_laysCars_54 f) c55 c58 c117 a3 a13 (s : Int) a10 = _ ∧ _
    unfold F_X10_laysCars_54b
    by_cases q : s = 300
    · subst q
      rw [if_pos (by decide)]
      exact ⟨a10, rfl, h3⟩
    · rw [if_neg (by omega)]
      obtain ⟨a, e, e1, e2⟩ := mg_68 (c55 := c55) (c58 := c58) (c117 := c117) (a3 := a3) (K54 := F_X10_laysCars_54 f) (by omega : s < 300) h13 21 0 (lf_up a10 (s : Int) (0 : Int)) (by decide) (by decide) (lf_up_y (by omega))
      rw [e]
      refine ih (s + 1) a (by omega) (by omega) (fun j hj => ?_)
      by_cases x : j = s
      · rw [x, e1]
        show ((0 : Nat) : Int) + cgap car 20 s = _
        omega
      · rw [e2 j x, lf_up_o (by omega)]
        exact h3 j (by omega)
theorem mc_part {red : Int} {gaps waits goes harms : Nat → Int} {s : Nat} (hcy : 1 ≤ cy) (hcy2 : cy ≤ 120) (hs : s < 320) (hb : bar 4 = cy) (hn : now 0 = d) (j : Int) (h0 : 0 ≤ j) (h1 : j < 12) (ha : alB 7 j = true) : F_X10_qPartOf (0 : Int) (s : Int) red bar kinds walkers now gaps waits goes harms j (0 : Int) = rhoC d cy s j := by
  rcases al7 h0 h1 ha with x | x | x
  · subst x
    rfl
  · subst x
    exact hn
  · subst x
    show lf_o lf_irem (s : Int) (bar 4) = (s : Int) % cy
    rw [hb]
    exact lo_rem (by omega) (by omega) hcy (by omega)
theorem mc_run {red : Int} {gaps waits goes harms : Nat → Int} (hd : 0 ≤ d ∧ d ≤ 999) (hcy : 1 ≤ cy) (hcy2 : cy ≤ 120) (hb : bar 4 = cy) (hn : now 0 = d) (hX : cdM cf ce codes 3 oC) (hG : cdG true 7 oC) : ∀ (f s : Nat) (c55 c58 c117 : Int) (a3 a13 : Nat → Int), s ≤ 320 → 320 - s < f → (∀ j, j < s → a13 j = b2 (decide (carV oC d cy j = 1))) → ∃ t q r p g i, F_X10_laysCars_2 red bar kinds walkers cf ce codes now gaps waits goes harms f (s : Int) c55 c58 c117 a3 a13 = (t, q, r, p, g, i) ∧ (∀ j, j < 320 → i j = b2 (decide (carV oC d cy j = 1))) ∧ ∀ j, j < 300 → g j = gpS oC d cy j := by
  intro f
  induction f with
  | zero => intro s c55 c58 c117 a3 a13 h1 h2; omega
  | succ f ih =>
    intro s c55 c58 c117 a3 a13 h1 h2 h3
    show ∃ t q r p g i, F_X10_laysCars_2b red bar kinds walkers cf ce codes now gaps waits goes harms (F_X10_laysCars_2 red bar kinds walkers cf ce codes now gaps waits goes harms f) (s : Int) c55 c58 c117 a3 a13 = (t, q, r, p, g, i) ∧ _
    unfold F_X10_laysCars_2b
    by_cases q : s = 320
    · subst q
      rw [if_pos (by decide)]
      obtain ⟨a, e, e1⟩ := mg_54 (c55 := c55) (c58 := c58) (c117 := c117) (a3 := a3) (car := fun j => decide (carV oC d cy j = 1)) h3 302 0 gaps (Nat.zero_le _) (by decide) (fun j hj => absurd hj (Nat.not_lt_zero j))
      exact ⟨c55, c58, c117, a3, a, a13, e, h3, e1⟩
    · rw [if_neg (by omega)]
      have go : ∀ (x : Int) (t c : Int) (p : Nat → Int), x = b2 (decide (carV oC d cy s = 1)) → ∃ t' q r p' g i, F_X10_laysCars_45 (s : Int) a13 (F_X10_laysCars_2 red bar kinds walkers cf ce codes now gaps waits goes harms f) c p x t = (t', q, r, p', g, i) ∧ (∀ j, j < 320 → i j = b2 (decide (carV oC d cy j = 1))) ∧ ∀ j, j < 300 → g j = gpS oC d cy j := by
        intro x t c p hx
        unfold F_X10_laysCars_45
        refine ih (s + 1) t (s : Int) c p (lf_up a13 (s : Int) x) (by omega) (by omega) (fun j hj => ?_)
        by_cases y : j = s
        · rw [lf_up_y (by omega), y]
          exact hx
        · rw [lf_up_o (by omega)]
          exact h3 j (by omega)
      unfold F_X10_laysCars_44
      cases oC with
      | none =>
        have hX' : cf 3 = -1 := hX
        rw [if_pos hX']
        exact go 0 c55 c117 a3 rfl
      | some L =>
        obtain ⟨i, i1, i2, i3, i4⟩ := hX
        have hv := (vlu_s (κ := 0) hG (rhoC_b (al := 7) hd (by omega : s < 400) hcy hcy2)).2
        have e := vm_val0 (ask := (s : Int)) (red := red) (bar := bar) (kd := kinds) (wk := walkers) (nw := now) (gp := gaps) (wt := waits) (go := goes) (hm := harms) (p1 := (0 : Int)) (pile := a3) (fun j h0 h1 ha => mc_part hcy hcy2 (by omega) hb hn j h0 h1 ha) (show ¬ (7 : Int) = 3707 from by decide) i1 i4 i2.symm i3 hv
        rw [if_neg (by omega)]
        generalize F_X10_codesTell_a0_0 (s : Int) red bar kinds walkers cf ce codes now gaps waits goes harms a3 (0 : Int) = R at e ⊢
        obtain ⟨v, c, p⟩ := R
        have e' : v = carV (some L) d cy s := e
        rw [lf_p_e, lf_p_e, e']
        by_cases y : carV (some L) d cy s = 1
        · rw [if_pos (cmp_eq.mpr y)]
          exact go 1 0 c p (by rw [decide_eq_true y]; rfl)
        · rw [if_neg (fun r => y (cmp_eq.mp r))]
          exact go 0 0 c p (by rw [decide_eq_false y]; rfl)
/-- laysCars -/
theorem mc_x {tk ask red qp : Int} {isCar gaps waits goes harms pile : Nat → Int} (hd : 0 ≤ d ∧ d ≤ 999) (hcy : 1 ≤ cy) (hcy2 : cy ≤ 120) (hb : bar 4 = cy) (hn : now 0 = d) (hX : cdM cf ce codes 3 oC) (hG : cdG true 7 oC) : ∃ t q r p g i, F_X10_laysCars tk ask red qp bar kinds walkers cf ce codes now isCar gaps waits goes harms pile = (t, q, r, p, g, i) ∧ (∀ j, j < 320 → i j = b2 (decide (carV oC d cy j = 1))) ∧ ∀ j, j < 300 → g j = gpS oC d cy j := mc_run hd hcy hcy2 hb hn hX hG 322 0 tk ask qp pile isCar (Nat.zero_le _) (by decide) (fun j hj => absurd hj (Nat.not_lt_zero j))
end MC
end
section
/-! 8j -/
/-! the model: who comes, the light -/
theorem pr_s {k : Nat} {cA tw : Nat → Int} {ab : Nat → Bool} {s bf : Int} : pr (k + 1) cA tw ab s bf = (pr k cA tw ab s bf || (decide (cA k = s) && !ab k && decide (0 < tw k) && decide (bf = 0))) := by
  unfold pr
  rw [List.range_succ, List.any_append]
  show (_ || ((decide (cA k = s) && !ab k && decide (0 < tw k) && decide (bf = 0)) || false)) = _
  rw [Bool.or_false]
def ndB (cA tw : Nat → Int) (ab : Nat → Bool) (s bf : Int) (w : Nat) : Bool := decide (cA w = s) && !ab w && decide (0 < tw w) && decide (bf = 0)
section AR
variable {nW : Nat} {cA tw kO : Nat → Int} {ab : Nat → Bool} {many walkers now isG : Nat → Int}
theorem ar_run {A bf : Int} {s : Nat} {c0 : Int} {h0 p0 : Nat → Int} (hn : nW ≤ 12) (hm : many 3 = (nW : Int)) (hw : ∀ w, w < nW → walkers (24 + 2 * w) = kO w ∧ walkers (25 + 2 * w) = cA w) (hk : ∀ w, w < nW → 0 ≤ kO w) (ht : ∀ w, w < nW → now (3 + (kO w).toNat) = tw w ∧ 0 ≤ tw w) (hA : rg A) (hA2 : ∀ w, w < 12 → bt A w = ab w) (hb : bf = 0 ↔ (s = 0 ∨ isG (s - 1) = 0)) : ∀ (f k : Nat) (c : Int) (h p : Nat → Int), k ≤ nW → nW - k < f → c = (if pr k cA tw ab (s : Int) bf = true then 1 else c0) → (∀ w, w < 12 → h w = (if w < k ∧ cA w = (s : Int) ∧ ab w = false then 1 else h0 w) ∧ p w = (if w < k ∧ ndB cA tw ab (s : Int) bf w = true then 1 else p0 w)) → ∃ c' h' p', F_X10_arrive_2 many walkers now isG (s : Int) A f (k : Int) c h p = (c', h', p') ∧ c' = (if pr nW cA tw ab (s : Int) bf = true then 1 else c0) ∧ ∀ w, w < 12 → h' w = (if w < nW ∧ cA w = (s : Int) ∧ ab w = false then 1 else h0 w) ∧ p' w = (if w < nW ∧ ndB cA tw ab (s : Int) bf w = true then 1 else p0 w) := by
  intro f
  induction f with
  | zero => intro k c h p h1 h2; omega
  | succ f ih =>
    intro k c h p h1 h2 h3 h4
    show ∃ c' h' p', F_X10_arrive_2b many walkers now isG (s : Int) A (F_X10_arrive_2 many walkers now isG (s : Int) A f) (k : Int) c h p = (c', h', p') ∧ _
    unfold F_X10_arrive_2b
    rw [lf_b_e, hm]
    by_cases q : k = nW
    · subst q
      rw [if_pos (Int.le_refl _)]
      exact ⟨c, h, p, rfl, h3, h4⟩
    · have hkn : k < nW := by omega
      obtain ⟨w1, w2⟩ := hw k hkn
      obtain ⟨t1, t2⟩ := ht k hkn
      have hk0 := hk k hkn
      have es : F_X10_secondOf walkers (k : Int) = cA k := by
        unfold F_X10_secondOf
        rw [show Int.toNat ((25 : Int) + ((2 : Int) * (k : Int))) = 25 + 2 * k from by omega, w2]
      have ek : F_X10_kindOf walkers (k : Int) = kO k := by
        unfold F_X10_kindOf
        rw [show Int.toNat ((24 : Int) + ((2 : Int) * (k : Int))) = 24 + 2 * k from by omega, w1]
      have et : F_X10_trustsOf now (kO k) = tw k := by
        unfold F_X10_trustsOf
        rw [show Int.toNat ((3 : Int) + kO k) = 3 + (kO k).toNat from by omega, t1]
      have ha := bt_bit (X := A) (w := k) hA.1 (by have := hA.2; omega) (by omega)
      rw [hA2 k (by omega)] at ha
      rw [if_neg (by omega), lf_b_e, es, ha, lf_b_e, ek, lf_b_e, et]
      -- one more
      have go : ∀ (x : Bool) (y : Bool) (c1 : Int) (h1' p1 : Nat → Int), (x = true ↔ (cA k = (s : Int) ∧ ab k = false)) → y = ndB cA tw ab (s : Int) bf k → c1 = (if y = true then 1 else c) → (∀ w, w < 12 → h1' w = if w = k ∧ x = true then 1 else h w) → (∀ w, w < 12 → p1 w = if w = k ∧ y = true then 1 else p w) → ∃ c' h' p', F_X10_arrive_80 (k : Int) (F_X10_arrive_2 many walkers now isG (s : Int) A f) h1' c1 p1 = (c', h', p') ∧ c' = (if pr nW cA tw ab (s : Int) bf = true then 1 else c0) ∧ ∀ w, w < 12 → h' w = (if w < nW ∧ cA w = (s : Int) ∧ ab w = false then 1 else h0 w) ∧ p' w = (if w < nW ∧ ndB cA tw ab (s : Int) bf w = true then 1 else p0 w) := by
        intro x y c1 h1' p1 hx hy hc hh hp
        unfold F_X10_arrive_80
        refine ih (k + 1) c1 h1' p1 (by omega) (by omega) ?_ (fun w hw => ⟨?_, ?_⟩)
        · rw [hc, h3, pr_s]
          show (if y = true then (1 : Int) else if pr k cA tw ab (s : Int) bf = true then 1 else c0) = if (pr k cA tw ab (s : Int) bf || ndB cA tw ab (s : Int) bf k) = true then 1 else c0
          rw [← hy]
          cases y <;> cases pr k cA tw ab (s : Int) bf <;> rfl
        · rw [hh w hw, (h4 w hw).1]
          by_cases e : w = k
          · subst e
            by_cases e2 : x = true
            · rw [if_pos ⟨rfl, e2⟩, if_pos ⟨by omega, (hx.mp e2).1, (hx.mp e2).2⟩]
            · rw [if_neg (fun r => e2 r.2), if_neg (fun r => by have := r.1; omega), if_neg (fun r => e2 (hx.mpr r.2))]
          · rw [if_neg (fun r => e r.1)]
            by_cases e3 : w < k ∧ cA w = (s : Int) ∧ ab w = false
            · rw [if_pos e3, if_pos ⟨by omega, e3.2⟩]
            · rw [if_neg e3, if_neg (fun r => e3 ⟨by omega, r.2⟩)]
        · rw [hp w hw, (h4 w hw).2]
          by_cases e : w = k
          · subst e
            by_cases e2 : y = true
            · rw [if_pos ⟨rfl, e2⟩, if_pos ⟨by omega, by rw [← hy]; exact e2⟩]
            · rw [if_neg (fun r => e2 r.2), if_neg (fun r => by have := r.1; omega), if_neg (fun r => e2 (by rw [hy]; exact r.2))]
          · rw [if_neg (fun r => e r.1)]
            by_cases e3 : w < k ∧ ndB cA tw ab (s : Int) bf w = true
            · rw [if_pos e3, if_pos ⟨by omega, e3.2⟩]
            · rw [if_neg e3, if_neg (fun r => e3 ⟨by omega, r.2⟩)]
      have up1 : ∀ (g : Nat → Int) (w : Nat), lf_up g (k : Int) (1 : Int) w = if w = k ∧ true = true then 1 else g w := by
        intro g w
        by_cases e : w = k
        · rw [lf_up_y (by omega), if_pos ⟨e, rfl⟩]
        · rw [lf_up_o (by omega), if_neg (fun r => e r.1)]
      have up0 : ∀ (g : Nat → Int) (w : Nat), g w = if w = k ∧ false = true then 1 else g w := by
        intro g w
        rw [if_neg (fun r => Bool.noConfusion r.2)]
      by_cases c1 : cA k = (s : Int)
      · rw [if_pos c1]
        cases c2 : ab k with
        | true =>
          rw [if_pos (show b2 true = 1 from rfl)]
          refine go false false c h p ⟨fun r => Bool.noConfusion r, fun r => Bool.noConfusion (c2.symm.trans r.2)⟩ ?_ rfl (fun w _ => up0 h w) (fun w _ => up0 p w)
          unfold ndB
          rw [c2, Bool.not_true, Bool.and_false, Bool.false_and, Bool.false_and]
        | false =>
          rw [if_neg (show ¬ b2 false = 1 from by decide)]
          have hx : true = true ↔ (cA k = (s : Int) ∧ ab k = false) := ⟨fun _ => ⟨c1, c2⟩, fun _ => rfl⟩
          unfold F_X10_arrive_68
          by_cases c3 : tw k = 0
          · rw [if_pos c3]
            refine go true false c _ p hx ?_ rfl (fun w _ => up1 h w) (fun w _ => up0 p w)
            unfold ndB
            rw [decide_eq_false (show ¬ 0 < tw k from by omega), Bool.and_false, Bool.false_and]
          · rw [if_neg c3]
            have yes : bf = 0 → ∃ c' h' p', F_X10_arrive_80 (k : Int) (F_X10_arrive_2 many walkers now isG (s : Int) A f) (lf_up h (k : Int) (1 : Int)) (1 : Int) (lf_up p (k : Int) (1 : Int)) = (c', h', p') ∧ c' = (if pr nW cA tw ab (s : Int) bf = true then 1 else c0) ∧ ∀ w, w < 12 → h' w = (if w < nW ∧ cA w = (s : Int) ∧ ab w = false then 1 else h0 w) ∧ p' w = (if w < nW ∧ ndB cA tw ab (s : Int) bf w = true then 1 else p0 w) := by
              intro hbf
              refine go true true 1 _ _ hx ?_ rfl (fun w _ => up1 h w) (fun w _ => up1 p w)
              unfold ndB
              rw [decide_eq_true c1, c2, decide_eq_true (show 0 < tw k from by omega), decide_eq_true hbf]
              rfl
            by_cases c4 : (s : Int) ≤ 0
            · rw [if_pos c4]
              exact yes (hb.mpr (Or.inl (by omega)))
            · rw [if_neg c4, show Int.toNat ((s : Int) - (1 : Int)) = s - 1 from by omega]
              by_cases c5 : isG (s - 1) = 0
              · rw [if_pos c5]
                exact yes (hb.mpr (Or.inr c5))
              · rw [if_neg c5]
                refine go true false c _ p hx ?_ rfl (fun w _ => up1 h w) (fun w _ => up0 p w)
                unfold ndB
                rw [decide_eq_false (show ¬ bf = 0 from fun r => by
                  rcases hb.mp r with z | z
                  · omega
                  · exact c5 z), Bool.and_false]
      · rw [if_neg c1]
        refine go false false c h p ⟨fun r => Bool.noConfusion r, fun r => absurd r.1 c1⟩ ?_ rfl (fun w _ => up0 h w) (fun w _ => up0 p w)
        unfold ndB
        rw [decide_eq_false c1, Bool.false_and, Bool.false_and, Bool.false_and]
end AR
/-- the light's cells -/
def mlS (ru : Int) (s : Nat) (z : lzT) (c70 c71 c72 c73 : Int) : Prop := (ru = 1 → c70 = b2 z.1 ∧ c71 = z.2.2.1 ∧ (-1 ≤ z.2.2.1 ∧ z.2.2.1 < (s : Int)) ∧ (-1 ≤ c72 ∧ c72 ≤ (s : Int) + 60) ∧ (s = 0 → c72 = -1) ∧ (0 < s → z.2.2.2 = max (c72 - (s : Int) + 2) 0)) ∧ (ru = 2 → c70 = b2 z.1 ∧ c73 = b2 z.2.1) ∧ (ru = 0 → s = 0 ∨ z.2.1 = true)
theorem li_x {nW : Nat} {cA tw : Nat → Int} {ab : Nat → Bool} {cy ls ru gr : Int} {bar : Nat → Int} {s : Nat} {z : lzT} {c70 c71 c72 c73 : Int} (hs : s < 300) (hb4 : bar 4 = cy) (hb7 : bar 7 = ls) (hcy : 1 ≤ cy) (hcy2 : cy ≤ 120) (hg0 : 1 ≤ gr) (hg1 : gr ≤ 60) (hr : 0 ≤ ru ∧ ru ≤ 2) (hz0 : s = 0 → z.2.2.2 = 0) (h : mlS ru s z c70 c71 c72 c73) : ∃ lit d70 d71 d72 d73 d74, F_X10_isLit (if pr nW cA tw ab (s : Int) z.2.2.2 = true then 1 else c70) c71 c72 c73 bar (s : Int) ru gr = (lit, d70, d71, d72, d73, d74) ∧ lit = b2 (decide (0 < (lst nW cA tw ab cy ls ru gr s z).2.2.2)) ∧ (0 < (lst nW cA tw ab cy ls ru gr s z).2.2.2 → d74 = (lst nW cA tw ab cy ls ru gr s z).2.2.2) ∧ mlS ru (s + 1) (lst nW cA tw ab cy ls ru gr s z) d70 d71 d72 d73 := by
  have hir : lf_o lf_irem (s : Int) cy = (s : Int) % cy := lo_rem (by omega) (by omega) hcy (by omega)
  have hm0 : 0 ≤ (s : Int) % cy := Int.emod_nonneg _ (by omega)
  have hm1 : (s : Int) % cy < cy := Int.emod_lt_of_pos _ (by omega)
  have hsub : lf_o lf_isub gr ((s : Int) % cy) = gr - (s : Int) % cy := lo_sub (by omega) (by omega) (by omega) (by omega) (by omega) (by omega)
  have hop : c70 = b2 z.1 → (if pr nW cA tw ab (s : Int) z.2.2.2 = true then (1 : Int) else c70) = b2 (lOp nW cA tw ab s z) := by
    intro e
    unfold lOp
    rw [e]
    cases z.1 <;> cases pr nW cA tw ab (s : Int) z.2.2.2 <;> rfl
  have hk : ∀ l : Bool, lC cy gr s l = if l = true then max (gr - (s : Int) % cy) 0 else 0 := fun _ => rfl
  unfold F_X10_isLit
  rw [hb4, hir, hsub]
  by_cases c0 : ru = 0
  · have n1 : ¬ ru = 1 := by omega
    have hlst : (lst nW cA tw ab cy ls ru gr s z).2.2.2 = max (gr - (s : Int) % cy) 0 ∧ (lst nW cA tw ab cy ls ru gr s z).2.1 = true := by
      unfold lst
      rw [if_neg n1]
      by_cases c : (s : Int) % cy = 0
      · rw [if_pos c]
        show lC cy gr s (decide (ru = 0) || lOp nW cA tw ab s z) = _ ∧ (decide (ru = 0) || lOp nW cA tw ab s z) = true
        rw [decide_eq_true c0, Bool.true_or]
        exact ⟨if_pos rfl, rfl⟩
      · rw [if_neg c]
        show lC cy gr s z.2.1 = _ ∧ z.2.1 = true
        have hz : z.2.1 = true := by
          rcases h.2.2 c0 with r | r
          · rw [r] at c
            exact absurd (Int.zero_emod cy) c
          · exact r
        rw [hz]
        exact ⟨if_pos rfl, rfl⟩
    rw [if_pos c0]
    rw [hlst.1]
    have hML : ∀ a b c d : Int, mlS ru (s + 1) (lst nW cA tw ab cy ls ru gr s z) a b c d := fun a b c d => ⟨fun r => by omega, fun r => by omega, fun _ => Or.inr hlst.2⟩
    by_cases c : gr ≤ (s : Int) % cy
    · rw [if_pos c]
      refine ⟨0, _, _, _, _, _, rfl, ?_, fun r => by omega, hML _ _ _ _⟩
      rw [decide_eq_false (by omega)]
      rfl
    · rw [if_neg c]
      refine ⟨1, _, _, _, _, _, rfl, ?_, fun r => by omega, hML _ _ _ _⟩
      rw [decide_eq_true (by omega)]
      rfl
  · rw [if_neg c0]
    by_cases c2 : ru = 2
    · have n1 : ¬ ru = 1 := by omega
      obtain ⟨e70, e73⟩ := h.2.1 c2
      rw [if_pos c2, hop e70]
      have h57 : ∀ (op l : Bool) (zz : lzT), zz.1 = op → zz.2.1 = l → zz.2.2.2 = lC cy gr s l → ∃ lit d70 d71 d72 d73 d74, F_X10_isLit_57 c71 c72 gr ((s : Int) % cy) (gr - (s : Int) % cy) (b2 op) (b2 l) = (lit, d70, d71, d72, d73, d74) ∧ lit = b2 (decide (0 < zz.2.2.2)) ∧ (0 < zz.2.2.2 → d74 = zz.2.2.2) ∧ mlS ru (s + 1) zz d70 d71 d72 d73 := by
        intro op l zz z1 z2 z3
        have hML : ∀ b c : Int, mlS ru (s + 1) zz (b2 op) b c (b2 l) := fun b c => ⟨fun r => by omega, fun _ => ⟨by rw [z1], by rw [z2]⟩, fun r => by omega⟩
        unfold F_X10_isLit_57 F_X10_isLit_74
        cases l with
        | false =>
          have z4 : zz.2.2.2 = 0 := z3
          rw [if_pos (show b2 false = 0 from rfl), z4]
          refine ⟨0, _, _, _, _, _, rfl, ?_, fun r => by omega, hML _ _⟩
          rw [decide_eq_false (by omega)]
          rfl
        | true =>
          have z4 : zz.2.2.2 = max (gr - (s : Int) % cy) 0 := z3
          rw [if_neg (show ¬ b2 true = 0 from by decide), z4]
          by_cases c : gr ≤ (s : Int) % cy
          · rw [if_pos c]
            refine ⟨0, _, _, _, _, _, rfl, ?_, fun r => by omega, hML _ _⟩
            rw [decide_eq_false (by omega)]
            rfl
          · rw [if_neg c]
            refine ⟨1, _, _, _, _, _, rfl, ?_, fun r => by omega, hML _ _⟩
            rw [decide_eq_true (by omega)]
            rfl
      by_cases c : (s : Int) % cy = 0
      · have el : lst nW cA tw ab cy ls ru gr s z = (false, decide (ru = 0) || lOp nW cA tw ab s z, z.2.2.1, lC cy gr s (decide (ru = 0) || lOp nW cA tw ab s z)) := by
          unfold lst
          rw [if_neg n1, if_pos c]
        rw [decide_eq_false c0, Bool.false_or] at el
        rw [if_pos c, el]
        exact h57 false _ _ rfl rfl rfl
      · have el : lst nW cA tw ab cy ls ru gr s z = (lOp nW cA tw ab s z, z.2.1, z.2.2.1, lC cy gr s z.2.1) := by
          unfold lst
          rw [if_neg n1, if_neg c]
        rw [if_neg c, el, e73]
        exact h57 _ _ _ rfl rfl rfl
    · have c1 : ru = 1 := by omega
      obtain ⟨e70, e71, ⟨l0, l1⟩, ⟨g0, g1⟩, gz, gs⟩ := h.1 c1
      rw [if_neg c2, hop e70, e71]
      have el : lst nW cA tw ab cy ls ru gr s z = (lOp nW cA tw ab s z && !lL ls s z (lOp nW cA tw ab s z), z.2.1, (if 0 < lLf gr z (lL ls s z (lOp nW cA tw ab s z)) then (s : Int) else z.2.2.1), lLf gr z (lL ls s z (lOp nW cA tw ab s z))) := by
        unfold lst
        rw [if_pos c1]
      rw [el]
      generalize lOp nW cA tw ab s z = op
      have w0 : lLf gr z false = max (z.2.2.2 - 1) 0 := if_neg (fun r => Bool.noConfusion r)
      have w1 : lLf gr z true = gr := if_pos rfl
      have e74 : ∀ t : Int, -1 ≤ t → t ≤ (s : Int) + 60 → lf_o lf_iadd (lf_o lf_isub t (s : Int)) (1 : Int) = t - (s : Int) + 1 := by
        intro t t0 t1
        rw [lo_sub (by omega) (by omega) (by omega) (by omega) (by omega) (by omega), lo_add (by omega) (by omega) (by omega) (by omega) (by omega) (by omega)]
      -- not lit anew
      have old : lL ls s z op = false → ∃ lit d70 d71 d72 d73 d74, F_X10_isLit_135 z.2.2.1 c73 (s : Int) ((s : Int) % cy) (gr - (s : Int) % cy) (b2 op) c72 = (lit, d70, d71, d72, d73, d74) ∧ lit = b2 (decide (0 < lLf gr z (lL ls s z op))) ∧ (0 < lLf gr z (lL ls s z op) → d74 = lLf gr z (lL ls s z op)) ∧ mlS ru (s + 1) (op && !lL ls s z op, z.2.1, (if 0 < lLf gr z (lL ls s z op) then (s : Int) else z.2.2.1), lLf gr z (lL ls s z op)) d70 d71 d72 d73 := by
        intro hL
        rw [hL, w0]
        have hbf : max (z.2.2.2 - 1) 0 = max (c72 - (s : Int) + 1) 0 := by
          by_cases q : s = 0
          · have := gz q
            have := hz0 q
            omega
          · have := gs (by omega)
            omega
        rw [hbf]
        unfold F_X10_isLit_135
        rw [e74 c72 g0 g1]
        by_cases c : (s : Int) ≤ c72
        · rw [if_pos c, if_pos (show 0 < max (c72 - (s : Int) + 1) 0 from by omega)]
          refine ⟨1, _, _, _, _, _, rfl, ?_, fun _ => by omega, ⟨fun _ => ⟨?_, rfl, ⟨by show (-1 : Int) ≤ (s : Int); omega, ?_⟩, ⟨g0, by omega⟩, fun r => absurd r (Nat.succ_ne_zero s), fun _ => ?_⟩, fun r => by omega, fun r => by omega⟩⟩
          · rw [decide_eq_true (by omega)]
            rfl
          · cases op <;> rfl
          · show (s : Int) < ((s + 1 : Nat) : Int)
            omega
          · show max (c72 - (s : Int) + 1) 0 = max (c72 - ((s + 1 : Nat) : Int) + 2) 0
            omega
        · rw [if_neg c, if_neg (show ¬ 0 < max (c72 - (s : Int) + 1) 0 from by omega)]
          refine ⟨0, _, _, _, _, _, rfl, ?_, fun r => by omega, ⟨fun _ => ⟨?_, rfl, ⟨l0, ?_⟩, ⟨g0, by omega⟩, fun r => absurd r (Nat.succ_ne_zero s), fun _ => ?_⟩, fun r => by omega, fun r => by omega⟩⟩
          · rw [decide_eq_false (by omega)]
            rfl
          · cases op <;> rfl
          · show z.2.2.1 < ((s + 1 : Nat) : Int)
            omega
          · show max (c72 - (s : Int) + 1) 0 = max (c72 - ((s + 1 : Nat) : Int) + 2) 0
            omega
      have hbf1 : z.2.2.2 ≤ 1 ↔ ¬ (s : Int) ≤ c72 := by
        by_cases q : s = 0
        · have := gz q
          have := hz0 q
          omega
        · have := gs (by omega)
          omega
      by_cases c : (s : Int) ≤ c72
      · rw [if_pos c]
        refine old ?_
        unfold lL
        rw [decide_eq_false (fun r => hbf1.mp r c), Bool.false_and, Bool.false_and]
      · rw [if_neg c]
        cases op with
        | false =>
          rw [if_pos (show b2 false = 0 from rfl)]
          refine old ?_
          unfold lL
          rw [Bool.and_false, Bool.false_and]
        | true =>
          rw [if_neg (show ¬ b2 true = 0 from by decide)]
          have h111 : ∃ lit d70 d71 d72 d73 d74, F_X10_isLit_111 (b2 true) z.2.2.1 c72 c73 bar (s : Int) gr ((s : Int) % cy) ((s : Int) - z.2.2.1 - 1) (gr - (s : Int) % cy) = (lit, d70, d71, d72, d73, d74) ∧ lit = b2 (decide (0 < lLf gr z (lL ls s z true))) ∧ (0 < lLf gr z (lL ls s z true) → d74 = lLf gr z (lL ls s z true)) ∧ mlS ru (s + 1) (true && !lL ls s z true, z.2.1, (if 0 < lLf gr z (lL ls s z true) then (s : Int) else z.2.2.1), lLf gr z (lL ls s z true)) d70 d71 d72 d73 := by
            unfold F_X10_isLit_111
            rw [show bar (Int.toNat (7 : Int)) = ls from hb7]
            by_cases c3 : (s : Int) - z.2.2.1 - 1 < ls
            · rw [if_pos c3]
              refine old ?_
              unfold lL
              rw [decide_eq_false (show ¬ ls ≤ (s : Int) - z.2.2.1 - 1 from by omega), Bool.and_false]
            · have hL : lL ls s z true = true := by
                unfold lL
                rw [decide_eq_true (hbf1.mpr c), decide_eq_true (show ls ≤ (s : Int) - z.2.2.1 - 1 from by omega)]
                rfl
              have es : lf_o lf_isub (lf_o lf_iadd (s : Int) gr) (1 : Int) = (s : Int) + gr - 1 := by
                rw [lo_add (by omega) (by omega) (by omega) (by omega) (by omega) (by omega), lo_sub (by omega) (by omega) (by omega) (by omega) (by omega) (by omega)]
              rw [if_neg c3, hL, w1, es]
              unfold F_X10_isLit_135
              rw [e74 ((s : Int) + gr - 1) (by omega) (by omega), if_pos (show (s : Int) ≤ (s : Int) + gr - 1 from by omega), if_pos (show 0 < gr from by omega)]
              refine ⟨1, _, _, _, _, _, rfl, ?_, fun _ => by omega, ⟨fun _ => ⟨rfl, rfl, ⟨by show (-1 : Int) ≤ (s : Int); omega, ?_⟩, ⟨by omega, by omega⟩, fun r => absurd r (Nat.succ_ne_zero s), fun _ => ?_⟩, fun r => by omega, fun r => by omega⟩⟩
              · rw [decide_eq_true (by omega)]
                rfl
              · show (s : Int) < ((s + 1 : Nat) : Int)
                omega
              · show gr = max ((s : Int) + gr - 1 - ((s + 1 : Nat) : Int) + 2) 0
                omega
          by_cases c4 : z.2.2.1 = -1
          · rw [if_pos c4]
            have e5 : (s : Int) - z.2.2.1 - 1 = (s : Int) := by omega
            rw [e5] at h111
            exact h111
          · rw [if_neg c4]
            have e5 : lf_o lf_isub (lf_o lf_isub (s : Int) z.2.2.1) (1 : Int) = (s : Int) - z.2.2.1 - 1 := by
              have e6 : lf_o lf_isub (s : Int) z.2.2.1 = (s : Int) - z.2.2.1 := lo_sub (by omega) (by omega) (by omega) (by omega) (by omega) (by omega)
              rw [e6]
              exact lo_sub (by omega) (by omega) (by omega) (by omega) (by omega) (by omega)
            rw [e5]
            exact h111
end
