/-! codes as steps over a pile (the last first); what may not be has no step -/
def stR (ρ : Int → Int) (κ al c : Int) (S S1 : List Int) : Prop := (1000 ≤ c ∧ c ≤ 10999 ∧ S.length < 64 ∧ S1 = (c - 1000) :: S) ∨ (c = 60 ∧ al = 3707 ∧ ∃ x T, S = x :: T ∧ S1 = (if x = κ then 1 else 0) :: T) ∨ (40 ≤ c ∧ c < 52 ∧ alB al (c - 40) = true ∧ S.length < 64 ∧ S1 = ρ (c - 40) :: S) ∨ (c = 13 ∧ S.length < 64 ∧ S1 = 1 :: S) ∨ (c = 12 ∧ ∃ x T, S = x :: T ∧ (x = 0 ∨ x = 1) ∧ S1 = (1 - x) :: T) ∨ (1 ≤ c ∧ c ≤ 11 ∧ ∃ a b T, S = b :: a :: T ∧ in6 a ∧ in6 b ∧ (c = 10 ∨ c = 11 → (a = 0 ∨ a = 1) ∧ (b = 0 ∨ b = 1)) ∧ S1 = opV c a b :: T)
def rnR (ρ : Int → Int) (κ al : Int) : List Int → List Int → List Int → Prop
  | [], S, S2 => S2 = S
  | c :: L, S, S2 => ∃ S1, stR ρ κ al c S S1 ∧ rnR ρ κ al L S1 S2
theorem rnR_app {ρ : Int → Int} {κ al : Int} : ∀ (L M : List Int) (S S1 S2 : List Int), rnR ρ κ al L S S1 → rnR ρ κ al M S1 S2 → rnR ρ κ al (L ++ M) S S2
  | [], _, _, _, _, h, h2 => by
    have e : _ = _ := h
    subst e
    exact h2
  | c :: L, M, S, S1, S2, ⟨T, h, h1⟩, h2 => ⟨T, h, rnR_app L M T S1 S2 h1 h2⟩
theorem rnR_1 {ρ : Int → Int} {κ al c : Int} {S S1 : List Int} (h : stR ρ κ al c S S1) : rnR ρ κ al [c] S S1 := ⟨S1, h, rfl⟩
theorem len_i (x : Int) (T : List Int) : (((x :: T).length : Nat) : Int) - 1 = (T.length : Int) := by
  show ((T.length + 1 : Nat) : Int) - 1 = _
  omega
theorem nat_i (i : Nat) : ((i : Int) + (1 : Int)) = ((i + 1 : Nat) : Int) := rfl
/-! the class -/
theorem vx_step {facts code w : Nat → Int} {to : Int} {i : Nat} {S S1 : List Int} {ρ : Int → Int} {κ al c : Int} {K6 : Int → Int → (Nat → Int) → Int × (Nat → Int)} (hi : (i : Int) < to) (hi2 : i < 1600) (hc : code i = toC c) (hw : pwl w S) (hf : ∀ j : Int, 0 ≤ j → j < 12 → alB al j = true → facts j.toNat = ρ j) (hk : al = 3707 → facts 12 = κ) (h : stR ρ κ al c S S1) : ∃ w1, F_X3_value_6b facts code to K6 (S.length : Int) (i : Int) w = K6 (S1.length : Int) ((i : Int) + (1 : Int)) w1 ∧ pwl w1 S1 := by
  unfold F_X3_value_6b
  rw [if_neg (by omega), if_neg (by omega), Int.toNat_natCast, hc]
  rcases h with ⟨h1, h2, h3, h4⟩ | ⟨h1, h2, x, T, h3, h4⟩ | ⟨h1, h2, h3, h4, h5⟩ | ⟨h1, h2, h3⟩ | ⟨h1, x, T, h2, h3, h4⟩ | ⟨h1, h2, a, b, T, h3, h4, h5, h6, h7⟩
  · have e : toC c = c - 1000 := if_pos h1
    rw [e, if_neg (by omega), if_neg (by omega), if_neg (by omega), h4]
    exact ⟨_, rfl, pwl_push hw _⟩
  · have e : toC c = -32 := by rw [h1]; decide
    subst h3
    have hw1 : w T.length = x := hw.1
    rw [e, if_pos (by decide), if_neg (by show ¬ (((T.length + 1 : Nat)) : Int) ≤ 0; omega), if_neg (by decide)]
    unfold F_X3_value_106
    rw [if_neg (by show ¬ (((T.length + 1 : Nat)) : Int) ≤ 0; omega), if_pos rfl, len_i, Int.toNat_natCast, hw1, show facts (Int.toNat (12 : Int)) = κ from hk h2, h4]
    by_cases q : x = κ
    · rw [if_pos q, if_pos q]
      exact ⟨_, rfl, pwl_push hw.2 1⟩
    · rw [if_neg q, if_neg q]
      exact ⟨_, rfl, pwl_push hw.2 0⟩
  · have e : toC c = -1 - (c - 40) := (if_neg (by omega)).trans ((if_neg (by omega)).trans (if_pos h1))
    rw [e, if_neg (by omega), if_neg (by omega), if_pos (by omega), show (-1 : Int) - (-1 - (c - 40)) = c - 40 from by omega, hf (c - 40) (by omega) (by omega) h3, h5]
    exact ⟨_, rfl, pwl_push hw _⟩
  · have e : toC c = 1 := by rw [h1]; decide
    rw [e, if_neg (by decide), if_neg (by omega), if_neg (by decide), h3]
    exact ⟨_, rfl, pwl_push hw _⟩
  · have e : toC c = -31 := by rw [h1]; decide
    subst h2
    have hw1 : w T.length = x := hw.1
    rw [e, if_pos (by decide), if_neg (by show ¬ (((T.length + 1 : Nat)) : Int) ≤ 0; omega), if_pos rfl, len_i, Int.toNat_natCast, hw1, h4, lo_sub (by omega) (by omega) (by omega) (by omega) (by omega) (by omega)]
    exact ⟨_, rfl, pwl_push hw.2 _⟩
  · have e : toC c = -19 - c := toC_o h1 (by omega)
    subst h3
    have hw1 : w (a :: T).length = b := hw.1
    have hw2 : w T.length = a := hw.2.1
    have l1 : ((((b :: a :: T).length : Nat)) : Int) + (-1 : Int) = (((a :: T).length : Nat) : Int) := by
      show (((T.length + 1 + 1 : Nat)) : Int) + -1 = ((T.length + 1 : Nat) : Int)
      omega
    have l2 : ((((b :: a :: T).length : Nat)) : Int) = (T.length : Int) + 2 := rfl
    rw [e, if_pos (by omega), if_neg (by omega), if_neg (by omega)]
    unfold F_X3_value_106
    rw [if_neg (by omega), if_neg (by omega)]
    unfold F_X3_value_154
    rw [if_neg (by omega), l1, len_i, Int.toNat_natCast, Int.toNat_natCast, hw1, hw2, lf_b_e, op_x h4 h5 h6 h1 h2, h7]
    exact ⟨_, rfl, pwl_push hw.2.2 _⟩
theorem vx_run {facts code : Nat → Int} {to : Int} {ρ : Int → Int} {κ al : Int} (hf : ∀ j : Int, 0 ≤ j → j < 12 → alB al j = true → facts j.toNat = ρ j) (hk : al = 3707 → facts 12 = κ) : ∀ (L : List Int) (i f : Nat) (S S2 : List Int) (w : Nat → Int), (∀ j, j < L.length → code (i + j) = toC (L.getD j 0)) → (i : Int) + (L.length : Int) = to → i + L.length ≤ 1600 → L.length < f → pwl w S → rnR ρ κ al L S S2 → (F_X3_value_6 facts code to f (S.length : Int) (i : Int) w).1 = S2.headD 0 := by
  intro L
  induction L with
  | nil =>
    intro i f S S2 w hc ht h16 hl hw h
    obtain ⟨k, rfl⟩ : ∃ k, f = k + 1 := ⟨f - 1, by have : 0 < f := hl; omega⟩
    have e : S2 = S := h
    subst e
    have ht' : (i : Int) + ((0 : Nat) : Int) = to := ht
    show (F_X3_value_6b facts code to (F_X3_value_6 facts code to k) (S2.length : Int) (i : Int) w).1 = _
    unfold F_X3_value_6b F_X3_value_199
    rw [if_pos (by omega)]
    cases S2 with
    | nil =>
      rw [if_pos (show ((([] : List Int).length : Nat) : Int) ≤ 0 from Int.le_refl _)]
      rfl
    | cons x T =>
      rw [if_neg (by show ¬ (((T.length + 1 : Nat)) : Int) ≤ 0; omega), len_i, Int.toNat_natCast]
      exact hw.1
  | cons c L ih =>
    intro i f S S2 w hc ht h16 hl hw h
    obtain ⟨k, rfl⟩ : ∃ k, f = k + 1 := ⟨f - 1, by have : 0 < f := Nat.lt_of_le_of_lt (Nat.zero_le _) hl; omega⟩
    obtain ⟨S1, h1, h2⟩ := h
    have ht' : (i : Int) + ((L.length + 1 : Nat) : Int) = to := ht
    have h16' : i + (L.length + 1) ≤ 1600 := h16
    have hl' : L.length + 1 < k + 1 := hl
    have hc0 : code i = toC c := hc 0 (Nat.zero_lt_succ _)
    obtain ⟨w1, e1, e2⟩ := vx_step (i := i) (w := w) (K6 := F_X3_value_6 facts code to k) (to := to) (by omega) (by omega) hc0 hw hf hk h1
    show (F_X3_value_6b facts code to (F_X3_value_6 facts code to k) (S.length : Int) (i : Int) w).1 = _
    rw [e1]
    exact ih (i + 1) k S1 S2 w1 (fun j hj => by
      have := hc (j + 1) (Nat.succ_lt_succ hj)
      rw [show i + (j + 1) = i + 1 + j from by omega] at this
      exact this) (by omega) (by omega) (by omega) e2 h2
/-- Machine.value over the codes of a text -/
theorem vx_val {facts stack code : Nat → Int} {i : Nat} {to : Int} {ρ : Int → Int} {κ al v : Int} {L : List Int} (hf : ∀ j : Int, 0 ≤ j → j < 12 → alB al j = true → facts j.toNat = ρ j) (hk : al = 3707 → facts 12 = κ) (hc : ∀ j, j < L.length → code (i + j) = toC (L.getD j 0)) (ht : (i : Int) + (L.length : Int) = to) (h16 : i + L.length ≤ 1600) (h : rnR ρ κ al L [] [v]) : (F_X3_value facts stack code (i : Int) to).1 = v := vx_run hf hk L i 1602 [] [v] stack hc ht h16 (by omega) True.intro h
theorem vx_none {facts stack code : Nat → Int} {i to : Int} (h : to ≤ i) : (F_X3_value facts stack code i to).1 = 0 := by
  show (F_X3_value_6b facts code to _ (0 : Int) i stack).1 = 0
  unfold F_X3_value_6b F_X3_value_199
  rw [if_pos h, if_pos (Int.le_refl _)]
/-! the model -/
theorem ol_rem {X Y : Int} (hx : in6 X) (hy : in6 Y) : lf_ol lf_lrem X Y = X.tmod Y := by
  have e : (2 : Int) ^ 63 = 9223372036854775808 := by decide
  have h1 := hx.1
  have h2 := hx.2
  have h3 := hy.1
  have h4 := hy.2
  show (Int64.ofInt X % Int64.ofInt Y).toInt = X.tmod Y
  rw [Int64.toInt_mod, Int64.toInt_ofInt_of_le (by omega) (by omega), Int64.toInt_ofInt_of_le (by omega) (by omega)]
theorem ol_div {X Y : Int} (hx : in6 X) (hy : in6 Y) : lf_ol lf_ldiv X Y = X.tdiv Y := by
  have e : (2 : Int) ^ 63 = 9223372036854775808 := by decide
  have h1 := hx.1
  have h2 := hx.2
  have h3 := hy.1
  have h4 := hy.2
  have q1 := abs_tdiv (b := Y) h1 h2
  show (Int64.ofInt X / Int64.ofInt Y).toInt = X.tdiv Y
  rw [Int64.toInt_div, Int64.toInt_ofInt_of_le (by omega) (by omega), Int64.toInt_ofInt_of_le (by omega) (by omega)]
  generalize X.tdiv Y = q at q1 ⊢
  exact Int.bmod_eq_of_le (by omega) (by omega)
theorem floor_m {a b : Int} (ha : in6 a) (hb : in6 b) : F_X10_qFloor a b = fdv a b := by
  unfold F_X10_qFloor fdv
  by_cases c0 : b = 0
  · rw [if_pos (cmp_eq.mpr c0), if_pos c0]
  · rw [if_neg (fun r => c0 (cmp_eq.mp r)), if_neg c0, ol_rem ha hb, ol_div ha hb]
    have hd := Int.tmod_add_tdiv_mul a b
    have q1 := abs_tdiv (b := b) ha.1 ha.2
    by_cases c1 : a.tdiv b * b = a
    · rw [if_pos (cmp_eq.mpr (by rw [c1] at hd; omega))]
      unfold F_X10_qFloor_53
      by_cases c2 : decide (a < 0) = decide (b < 0)
      · rw [if_pos c2]
      · rw [if_neg c2, if_pos c1]
    · rw [if_neg (fun r => c1 (by have := cmp_eq.mp r; rw [this] at hd; omega))]
      have f53 : ∀ s0 s1 : Int, F_X10_qFloor_43 (a.tdiv b) s0 s1 = if s0 = s1 then a.tdiv b else a.tdiv b - 1 := by
        intro s0 s1
        unfold F_X10_qFloor_43 F_X10_qFloor_53
        by_cases q : s0 = s1
        · rw [if_pos q, if_pos q]
        · rw [if_neg q, if_neg q]
          have e : in6 (a.tdiv b) := q1
          exact ol_sub e (by unfold in6; omega)
      have f32 : ∀ s0 : Int, F_X10_qFloor_32 b (a.tdiv b) s0 = if b < 0 then (if s0 = 1 then a.tdiv b else a.tdiv b - 1) else (if s0 = 0 then a.tdiv b else a.tdiv b - 1) := by
        intro s0
        unfold F_X10_qFloor_32
        by_cases q : b < 0
        · rw [if_neg (fun r => by have := cmp_ge.mp r; omega), if_pos q, f53]
        · rw [if_pos (cmp_ge.mpr (by omega)), if_neg q, f53]
      rw [f32, f32]
      by_cases qa : a < 0
      · rw [if_neg (fun r => by have := cmp_ge.mp r; omega), if_pos rfl, if_neg (show ¬ (1 : Int) = 0 from by decide)]
        by_cases qb : b < 0
        · rw [if_pos qb, decide_eq_true qa, decide_eq_true qb, if_pos rfl]
        · rw [if_neg qb, decide_eq_true qa, decide_eq_false qb, if_neg (fun r => Bool.noConfusion r), if_neg c1]
      · rw [if_pos (cmp_ge.mpr (by omega)), if_pos rfl, if_neg (show ¬ (0 : Int) = 1 from by decide)]
        by_cases qb : b < 0
        · rw [if_pos qb, decide_eq_false qa, decide_eq_true qb, if_neg (fun r => Bool.noConfusion r), if_neg c1]
        · rw [if_neg qb, decide_eq_false qa, decide_eq_false qb, if_pos rfl]
theorem jn_m {w : Nat → Int} {q a b c : Int} (hA : w (Int.toNat (q - 2)) = a) (hB : w (Int.toNat (q - 1)) = b) (ha : in6 a) (hb : in6 b) (h10 : c = 10 ∨ c = 11 → (a = 0 ∨ a = 1) ∧ (b = 0 ∨ b = 1)) (h1 : 1 ≤ c) (h11 : c ≤ 11) : F_X10_qJoins q w c = (q - 2 + 1, lf_up w (q - 2) (opV c a b)) := by
  have hc : c = 1 ∨ c = 2 ∨ c = 3 ∨ c = 4 ∨ c = 5 ∨ c = 6 ∨ c = 7 ∨ c = 8 ∨ c = 9 ∨ c = 10 ∨ c = 11 := by omega
  rcases hc with r | r | r | r | r | r | r | r | r | r | r
  · have e2 : opV c a b = (clp (a + b)) := by
      unfold opV
      rw [if_pos r]
    unfold F_X10_qJoins F_X10_qPuts
    rw [if_pos (by omega), hA, hB, e2]
    rw [lf_b_e, clip_m, ol_add ha hb, lf_p_e]
  · have e2 : opV c a b = (clp (a - b)) := by
      unfold opV
      rw [if_neg (by omega), if_pos r]
    unfold F_X10_qJoins F_X10_qPuts
    rw [if_neg (by omega), if_pos (by omega), hA, hB, e2]
    rw [lf_b_e, clip_m, ol_sub ha hb, lf_p_e]
  · have e2 : opV c a b = (clp (a * b)) := by
      unfold opV
      rw [if_neg (by omega), if_neg (by omega), if_pos r]
    unfold F_X10_qJoins F_X10_qPuts
    rw [if_neg (by omega), if_neg (by omega), if_pos (by omega), hA, hB, e2]
    rw [lf_b_e, clip_m, ol_mul ha hb, lf_p_e]
  · have e2 : opV c a b = (fdv a b) := by
      unfold opV
      rw [if_neg (by omega), if_neg (by omega), if_neg (by omega), if_pos r]
    unfold F_X10_qJoins F_X10_qPuts
    rw [if_neg (by omega), if_neg (by omega), if_neg (by omega), if_pos (by omega), hA, hB, e2]
    rw [lf_b_e, floor_m ha hb, lf_p_e]
  · have e2 : opV c a b = (if a < b then a else b) := by
      unfold opV
      rw [if_neg (by omega), if_neg (by omega), if_neg (by omega), if_neg (by omega), if_pos r]
    unfold F_X10_qJoins F_X10_qPuts
    rw [if_neg (by omega), if_neg (by omega), if_neg (by omega), if_neg (by omega), if_pos (by omega), hA, hB, e2]
    by_cases x : a < b
    · rw [if_neg (fun s => by have := cmp_ge.mp s; omega), if_pos x, lf_p_e]
    · rw [if_pos (cmp_ge.mpr (by omega)), if_neg x, lf_p_e]
  · have e2 : opV c a b = (if b < a then a else b) := by
      unfold opV
      rw [if_neg (by omega), if_neg (by omega), if_neg (by omega), if_neg (by omega), if_neg (by omega), if_pos r]
    unfold F_X10_qJoins F_X10_qPuts
    rw [if_neg (by omega), if_neg (by omega), if_neg (by omega), if_neg (by omega), if_neg (by omega), if_pos (by omega), hA, hB, e2]
    by_cases x : b < a
    · rw [if_neg (fun s => by have := cmp_le.mp s; omega), if_pos x, lf_p_e]
    · rw [if_pos (cmp_le.mpr (by omega)), if_neg x, lf_p_e]
  · have e2 : opV c a b = (if a < b then 1 else 0) := by
      unfold opV
      rw [if_neg (by omega), if_neg (by omega), if_neg (by omega), if_neg (by omega), if_neg (by omega), if_neg (by omega), if_pos r]
    unfold F_X10_qJoins F_X10_qPuts
    rw [if_neg (by omega), if_neg (by omega), if_neg (by omega), if_neg (by omega), if_neg (by omega), if_neg (by omega), if_pos (by omega), hA, hB, e2]
    by_cases x : a < b
    · rw [if_neg (fun s => by have := cmp_ge.mp s; omega), if_pos x, lf_p_e]
    · rw [if_pos (cmp_ge.mpr (by omega)), if_neg x, lf_p_e]
  · have e2 : opV c a b = (if b < a then 1 else 0) := by
      unfold opV
      rw [if_neg (by omega), if_neg (by omega), if_neg (by omega), if_neg (by omega), if_neg (by omega), if_neg (by omega), if_neg (by omega), if_pos r]
    unfold F_X10_qJoins F_X10_qPuts
    rw [if_neg (by omega), if_neg (by omega), if_neg (by omega), if_neg (by omega), if_neg (by omega), if_neg (by omega), if_neg (by omega), if_pos (by omega), hA, hB, e2]
    by_cases x : b < a
    · rw [if_neg (fun s => by have := cmp_le.mp s; omega), if_pos x, lf_p_e]
    · rw [if_pos (cmp_le.mpr (by omega)), if_neg x, lf_p_e]
  · have e2 : opV c a b = (if a = b then 1 else 0) := by
      unfold opV
      rw [if_neg (by omega), if_neg (by omega), if_neg (by omega), if_neg (by omega), if_neg (by omega), if_neg (by omega), if_neg (by omega), if_neg (by omega), if_pos r]
    unfold F_X10_qJoins F_X10_qPuts
    rw [if_neg (by omega), if_neg (by omega), if_neg (by omega), if_neg (by omega), if_neg (by omega), if_neg (by omega), if_neg (by omega), if_neg (by omega), if_pos (by omega), hA, hB, e2]
    by_cases x : a = b
    · rw [if_pos (cmp_eq.mpr x), if_pos x, lf_p_e]
    · rw [if_neg (fun s => x (cmp_eq.mp s)), if_neg x, lf_p_e]
  · have e2 : opV c a b = (a * b) := by
      unfold opV
      rw [if_neg (by omega), if_neg (by omega), if_neg (by omega), if_neg (by omega), if_neg (by omega), if_neg (by omega), if_neg (by omega), if_neg (by omega), if_neg (by omega), if_pos r]
    unfold F_X10_qJoins F_X10_qPuts
    rw [if_neg (by omega), if_neg (by omega), if_neg (by omega), if_neg (by omega), if_neg (by omega), if_neg (by omega), if_neg (by omega), if_neg (by omega), if_neg (by omega), if_pos (by omega), hA, hB, e2]
    rw [lf_p_e, ol_mul ha hb]
  · have e2 : opV c a b = (if 0 < a + b then 1 else 0) := by
      unfold opV
      rw [if_neg (by omega), if_neg (by omega), if_neg (by omega), if_neg (by omega), if_neg (by omega), if_neg (by omega), if_neg (by omega), if_neg (by omega), if_neg (by omega), if_neg (by omega)]
    unfold F_X10_qJoins F_X10_qPuts
    rw [if_neg (by omega), if_neg (by omega), if_neg (by omega), if_neg (by omega), if_neg (by omega), if_neg (by omega), if_neg (by omega), if_neg (by omega), if_neg (by omega), if_neg (by omega), hA, hB, e2]
    rw [ol_add ha hb]
    by_cases x : 0 < a + b
    · rw [if_neg (fun s => by have := cmp_le.mp s; omega), if_pos x, lf_p_e]
    · rw [if_pos (cmp_le.mpr (by omega)), if_neg x, lf_p_e]
theorem vm_step0 {ask red p1 : Int} {bar kd wk ce codes nw gp wt go hm : Nat → Int} {w : Nat → Int} {i : Nat} {S S1 : List Int} {ρ : Int → Int} {κ al c : Int} {K : Int → Int → (Nat → Int) → Int × Int × (Nat → Int)} (hi : (i : Int) < ce 3) (hc : codes (1600 + i) = c) (hw : pwl w S) (hf : ∀ j : Int, 0 ≤ j → j < 12 → alB al j = true → F_X10_qPartOf (0 : Int) ask red bar kd wk nw gp wt go hm j p1 = ρ j) (h37 : ¬ al = 3707) (h : stR ρ κ al c S S1) : ∃ w1, F_X10_codesTell_a0_0_19b ask red bar kd wk ce codes nw gp wt go hm p1 K (i : Int) (S.length : Int) w = K ((i : Int) + (1 : Int)) (S1.length : Int) w1 ∧ pwl w1 S1 := by
  unfold F_X10_codesTell_a0_0_19b
  rw [if_neg (by omega), show (Int.toNat ((1600 : Int) + (i : Int))) = 1600 + i from by omega, hc]
  rcases h with ⟨h1, h2, h3, h4⟩ | ⟨h1, h2, x, T, h3, h4⟩ | ⟨h1, h2, h3, h4, h5⟩ | ⟨h1, h2, h3⟩ | ⟨h1, x, T, h2, h3, h4⟩ | ⟨h1, h2, a, b, T, h3, h4, h5, h6, h7⟩
  · unfold F_X10_qPuts
    rw [if_neg (by omega), lf_p_e, h4]
    exact ⟨_, rfl, pwl_push hw _⟩
  · exact absurd h2 h37
  · unfold F_X10_qPuts
    rw [if_pos (by omega), if_neg (by omega), lf_b_e, hf (c - 40) (by omega) (by omega) h3, lf_p_e, h5]
    exact ⟨_, rfl, pwl_push hw _⟩
  · unfold F_X10_qPuts
    rw [if_pos (by omega), if_pos (by omega), if_pos h1, lf_p_e, h3]
    exact ⟨_, rfl, pwl_push hw _⟩
  · subst h2
    have hw1 : w T.length = x := hw.1
    rw [if_pos (by omega), if_pos (by omega), if_neg (by omega), if_pos h1, len_i, Int.toNat_natCast, hw1, h4, ol_sub (by unfold in6; omega) (by unfold in6; omega)]
    exact ⟨_, rfl, pwl_push hw.2 _⟩
  · subst h3
    have hw1 : w (a :: T).length = b := hw.1
    have hw2 : w T.length = a := hw.2.1
    have l2 : ((((b :: a :: T).length : Nat)) : Int) = (T.length : Int) + 2 := rfl
    have l3 : (T.length : Int) + 2 - 2 = (T.length : Int) := by omega
    have l4 : (T.length : Int) + 2 - 1 = (((a :: T).length : Nat) : Int) := by
      show _ = ((T.length + 1 : Nat) : Int)
      omega
    rw [if_pos (by omega), if_pos (by omega), if_neg (by omega), if_neg (by omega), l2, jn_m (by rw [l3, Int.toNat_natCast]; exact hw2) (by rw [l4, Int.toNat_natCast]; exact hw1) h4 h5 h6 h1 h2, lf_p_e, l3, h7]
    exact ⟨_, rfl, pwl_push hw.2.2 _⟩
theorem vm_run0 {ask red p1 : Int} {bar kd wk ce codes nw gp wt go hm : Nat → Int} {ρ : Int → Int} {κ al : Int} (hf : ∀ j : Int, 0 ≤ j → j < 12 → alB al j = true → F_X10_qPartOf (0 : Int) ask red bar kd wk nw gp wt go hm j p1 = ρ j) (h37 : ¬ al = 3707) : ∀ (L : List Int) (i f : Nat) (S S2 : List Int) (w : Nat → Int), (∀ j, j < L.length → codes (1600 + (i + j)) = L.getD j 0) → (i : Int) + (L.length : Int) = ce 3 → L.length < f → pwl w S → rnR ρ κ al L S S2 → ∃ w2, F_X10_codesTell_a0_0_19 ask red bar kd wk ce codes nw gp wt go hm p1 f (i : Int) (S.length : Int) w = (w2 0, (S2.length : Int), w2) ∧ pwl w2 S2 := by
  intro L
  induction L with
  | nil =>
    intro i f S S2 w hc ht hl hw h
    obtain ⟨k, rfl⟩ : ∃ k, f = k + 1 := ⟨f - 1, by have : 0 < f := hl; omega⟩
    have e : S2 = S := h
    subst e
    have ht' : (i : Int) + ((0 : Nat) : Int) = ce 3 := ht
    refine ⟨w, ?_, hw⟩
    show F_X10_codesTell_a0_0_19b ask red bar kd wk ce codes nw gp wt go hm p1 _ (i : Int) (S2.length : Int) w = _
    unfold F_X10_codesTell_a0_0_19b
    rw [if_pos (by omega)]
    rfl
  | cons c L ih =>
    intro i f S S2 w hc ht hl hw h
    obtain ⟨k, rfl⟩ : ∃ k, f = k + 1 := ⟨f - 1, by have : 0 < f := Nat.lt_of_le_of_lt (Nat.zero_le _) hl; omega⟩
    obtain ⟨S1, h1, h2⟩ := h
    have ht' : (i : Int) + ((L.length + 1 : Nat) : Int) = ce 3 := ht
    have hl' : L.length + 1 < k + 1 := hl
    have hc0 : codes (1600 + i) = c := hc 0 (Nat.zero_lt_succ _)
    obtain ⟨w1, e1, e2⟩ := vm_step0 (K := F_X10_codesTell_a0_0_19 ask red bar kd wk ce codes nw gp wt go hm p1 k) (w := w) (i := i) (ce := ce) (by omega) hc0 hw hf h37 h1
    show ∃ w2, F_X10_codesTell_a0_0_19b ask red bar kd wk ce codes nw gp wt go hm p1 (F_X10_codesTell_a0_0_19 ask red bar kd wk ce codes nw gp wt go hm p1 k) (i : Int) (S.length : Int) w = (w2 0, (S2.length : Int), w2) ∧ pwl w2 S2
    rw [e1]
    exact ih (i + 1) k S1 S2 w1 (fun j hj => by
      have := hc (j + 1) (Nat.succ_lt_succ hj)
      rw [show 1600 + (i + (j + 1)) = 1600 + (i + 1 + j) from by omega] at this
      exact this) (by omega) (by omega) e2 h2
theorem vm_val0 {ask red p1 : Int} {cf bar kd wk ce codes nw gp wt go hm : Nat → Int} {pile : Nat → Int} {ρ : Int → Int} {κ al v : Int} {L : List Int} {i : Nat} (hf : ∀ j : Int, 0 ≤ j → j < 12 → alB al j = true → F_X10_qPartOf (0 : Int) ask red bar kd wk nw gp wt go hm j p1 = ρ j) (h37 : ¬ al = 3707) (h0 : cf 3 = (i : Int)) (hc : ∀ j, j < L.length → codes (1600 + (i + j)) = L.getD j 0) (ht : (i : Int) + (L.length : Int) = ce 3) (hl : L.length ≤ 1600) (h : rnR ρ κ al L [] [v]) : (F_X10_codesTell_a0_0 ask red bar kd wk cf ce codes nw gp wt go hm pile p1).1 = v := by
  obtain ⟨w2, e1, e2⟩ := vm_run0 (ask := ask) (red := red) (bar := bar) (kd := kd) (wk := wk) (nw := nw) (gp := gp) (wt := wt) (go := go) (hm := hm) (p1 := p1) hf h37 L i 1602 [] [v] pile hc ht (by omega) True.intro h
  unfold F_X10_codesTell_a0_0
  rw [h0]
  have e3 : F_X10_codesTell_a0_0_19 ask red bar kd wk ce codes nw gp wt go hm p1 1602 (i : Int) (0 : Int) pile = (w2 0, (([v] : List Int).length : Int), w2) := e1
  rw [e3]
  exact e2.1
theorem vm_step1 {ask red p1 : Int} {bar kd wk ce codes nw gp wt go hm : Nat → Int} {w : Nat → Int} {i : Nat} {S S1 : List Int} {ρ : Int → Int} {κ al c : Int} {K : Int → Int → (Nat → Int) → Int × Int × (Nat → Int)} (hi : (i : Int) < ce 4) (hc : codes (1600 + i) = c) (hw : pwl w S) (hf : ∀ j : Int, 0 ≤ j → j < 12 → alB al j = true → F_X10_qPartOf (1 : Int) ask red bar kd wk nw gp wt go hm j p1 = ρ j) (h37 : ¬ al = 3707) (h : stR ρ κ al c S S1) : ∃ w1, F_X10_codesTell_a0_1_19b ask red bar kd wk ce codes nw gp wt go hm p1 K (i : Int) (S.length : Int) w = K ((i : Int) + (1 : Int)) (S1.length : Int) w1 ∧ pwl w1 S1 := by
  unfold F_X10_codesTell_a0_1_19b
  rw [if_neg (by omega), show (Int.toNat ((1600 : Int) + (i : Int))) = 1600 + i from by omega, hc]
  rcases h with ⟨h1, h2, h3, h4⟩ | ⟨h1, h2, x, T, h3, h4⟩ | ⟨h1, h2, h3, h4, h5⟩ | ⟨h1, h2, h3⟩ | ⟨h1, x, T, h2, h3, h4⟩ | ⟨h1, h2, a, b, T, h3, h4, h5, h6, h7⟩
  · unfold F_X10_qPuts
    rw [if_neg (by omega), lf_p_e, h4]
    exact ⟨_, rfl, pwl_push hw _⟩
  · exact absurd h2 h37
  · unfold F_X10_qPuts
    rw [if_pos (by omega), if_neg (by omega), lf_b_e, hf (c - 40) (by omega) (by omega) h3, lf_p_e, h5]
    exact ⟨_, rfl, pwl_push hw _⟩
  · unfold F_X10_qPuts
    rw [if_pos (by omega), if_pos (by omega), if_pos h1, lf_p_e, h3]
    exact ⟨_, rfl, pwl_push hw _⟩
  · subst h2
    have hw1 : w T.length = x := hw.1
    rw [if_pos (by omega), if_pos (by omega), if_neg (by omega), if_pos h1, len_i, Int.toNat_natCast, hw1, h4, ol_sub (by unfold in6; omega) (by unfold in6; omega)]
    exact ⟨_, rfl, pwl_push hw.2 _⟩
  · subst h3
    have hw1 : w (a :: T).length = b := hw.1
    have hw2 : w T.length = a := hw.2.1
    have l2 : ((((b :: a :: T).length : Nat)) : Int) = (T.length : Int) + 2 := rfl
    have l3 : (T.length : Int) + 2 - 2 = (T.length : Int) := by omega
    have l4 : (T.length : Int) + 2 - 1 = (((a :: T).length : Nat) : Int) := by
      show _ = ((T.length + 1 : Nat) : Int)
      omega
    rw [if_pos (by omega), if_pos (by omega), if_neg (by omega), if_neg (by omega), l2, jn_m (by rw [l3, Int.toNat_natCast]; exact hw2) (by rw [l4, Int.toNat_natCast]; exact hw1) h4 h5 h6 h1 h2, lf_p_e, l3, h7]
    exact ⟨_, rfl, pwl_push hw.2.2 _⟩
theorem vm_run1 {ask red p1 : Int} {bar kd wk ce codes nw gp wt go hm : Nat → Int} {ρ : Int → Int} {κ al : Int} (hf : ∀ j : Int, 0 ≤ j → j < 12 → alB al j = true → F_X10_qPartOf (1 : Int) ask red bar kd wk nw gp wt go hm j p1 = ρ j) (h37 : ¬ al = 3707) : ∀ (L : List Int) (i f : Nat) (S S2 : List Int) (w : Nat → Int), (∀ j, j < L.length → codes (1600 + (i + j)) = L.getD j 0) → (i : Int) + (L.length : Int) = ce 4 → L.length < f → pwl w S → rnR ρ κ al L S S2 → ∃ w2, F_X10_codesTell_a0_1_19 ask red bar kd wk ce codes nw gp wt go hm p1 f (i : Int) (S.length : Int) w = (w2 0, (S2.length : Int), w2) ∧ pwl w2 S2 := by
  intro L
  induction L with
  | nil =>
    intro i f S S2 w hc ht hl hw h
    obtain ⟨k, rfl⟩ : ∃ k, f = k + 1 := ⟨f - 1, by have : 0 < f := hl; omega⟩
    have e : S2 = S := h
    subst e
    have ht' : (i : Int) + ((0 : Nat) : Int) = ce 4 := ht
    refine ⟨w, ?_, hw⟩
    show F_X10_codesTell_a0_1_19b ask red bar kd wk ce codes nw gp wt go hm p1 _ (i : Int) (S2.length : Int) w = _
    unfold F_X10_codesTell_a0_1_19b
    rw [if_pos (by omega)]
    rfl
  | cons c L ih =>
    intro i f S S2 w hc ht hl hw h
    obtain ⟨k, rfl⟩ : ∃ k, f = k + 1 := ⟨f - 1, by have : 0 < f := Nat.lt_of_le_of_lt (Nat.zero_le _) hl; omega⟩
    obtain ⟨S1, h1, h2⟩ := h
    have ht' : (i : Int) + ((L.length + 1 : Nat) : Int) = ce 4 := ht
    have hl' : L.length + 1 < k + 1 := hl
    have hc0 : codes (1600 + i) = c := hc 0 (Nat.zero_lt_succ _)
    obtain ⟨w1, e1, e2⟩ := vm_step1 (K := F_X10_codesTell_a0_1_19 ask red bar kd wk ce codes nw gp wt go hm p1 k) (w := w) (i := i) (ce := ce) (by omega) hc0 hw hf h37 h1
    show ∃ w2, F_X10_codesTell_a0_1_19b ask red bar kd wk ce codes nw gp wt go hm p1 (F_X10_codesTell_a0_1_19 ask red bar kd wk ce codes nw gp wt go hm p1 k) (i : Int) (S.length : Int) w = (w2 0, (S2.length : Int), w2) ∧ pwl w2 S2
    rw [e1]
    exact ih (i + 1) k S1 S2 w1 (fun j hj => by
      have := hc (j + 1) (Nat.succ_lt_succ hj)
      rw [show 1600 + (i + (j + 1)) = 1600 + (i + 1 + j) from by omega] at this
      exact this) (by omega) (by omega) e2 h2
theorem vm_val1 {ask red p1 : Int} {cf bar kd wk ce codes nw gp wt go hm : Nat → Int} {pile : Nat → Int} {ρ : Int → Int} {κ al v : Int} {L : List Int} {i : Nat} (hf : ∀ j : Int, 0 ≤ j → j < 12 → alB al j = true → F_X10_qPartOf (1 : Int) ask red bar kd wk nw gp wt go hm j p1 = ρ j) (h37 : ¬ al = 3707) (h0 : cf 4 = (i : Int)) (hc : ∀ j, j < L.length → codes (1600 + (i + j)) = L.getD j 0) (ht : (i : Int) + (L.length : Int) = ce 4) (hl : L.length ≤ 1600) (h : rnR ρ κ al L [] [v]) : (F_X10_codesTell_a0_1 ask red bar kd wk cf ce codes nw gp wt go hm pile p1).1 = v := by
  obtain ⟨w2, e1, e2⟩ := vm_run1 (ask := ask) (red := red) (bar := bar) (kd := kd) (wk := wk) (nw := nw) (gp := gp) (wt := wt) (go := go) (hm := hm) (p1 := p1) hf h37 L i 1602 [] [v] pile hc ht (by omega) True.intro h
  unfold F_X10_codesTell_a0_1
  rw [h0]
  have e3 : F_X10_codesTell_a0_1_19 ask red bar kd wk ce codes nw gp wt go hm p1 1602 (i : Int) (0 : Int) pile = (w2 0, (([v] : List Int).length : Int), w2) := e1
  rw [e3]
  exact e2.1
theorem vm_step2 {ask red p1 : Int} {bar kd wk ce codes nw gp wt go hm : Nat → Int} {w : Nat → Int} {i : Nat} {S S1 : List Int} {ρ : Int → Int} {κ al c : Int} {K : Int → Int → (Nat → Int) → Int × Int × (Nat → Int)} (hi : (i : Int) < ce 5) (hc : codes (1600 + i) = c) (hw : pwl w S) (hf : ∀ j : Int, 0 ≤ j → j < 12 → alB al j = true → F_X10_qPartOf (2 : Int) ask red bar kd wk nw gp wt go hm j p1 = ρ j) (h37 : ¬ al = 3707) (h : stR ρ κ al c S S1) : ∃ w1, F_X10_codesTell_a0_2_19b ask red bar kd wk ce codes nw gp wt go hm p1 K (i : Int) (S.length : Int) w = K ((i : Int) + (1 : Int)) (S1.length : Int) w1 ∧ pwl w1 S1 := by
  unfold F_X10_codesTell_a0_2_19b
  rw [if_neg (by omega), show (Int.toNat ((1600 : Int) + (i : Int))) = 1600 + i from by omega, hc]
  rcases h with ⟨h1, h2, h3, h4⟩ | ⟨h1, h2, x, T, h3, h4⟩ | ⟨h1, h2, h3, h4, h5⟩ | ⟨h1, h2, h3⟩ | ⟨h1, x, T, h2, h3, h4⟩ | ⟨h1, h2, a, b, T, h3, h4, h5, h6, h7⟩
  · unfold F_X10_qPuts
    rw [if_neg (by omega), lf_p_e, h4]
    exact ⟨_, rfl, pwl_push hw _⟩
  · exact absurd h2 h37
  · unfold F_X10_qPuts
    rw [if_pos (by omega), if_neg (by omega), lf_b_e, hf (c - 40) (by omega) (by omega) h3, lf_p_e, h5]
    exact ⟨_, rfl, pwl_push hw _⟩
  · unfold F_X10_qPuts
    rw [if_pos (by omega), if_pos (by omega), if_pos h1, lf_p_e, h3]
    exact ⟨_, rfl, pwl_push hw _⟩
  · subst h2
    have hw1 : w T.length = x := hw.1
    rw [if_pos (by omega), if_pos (by omega), if_neg (by omega), if_pos h1, len_i, Int.toNat_natCast, hw1, h4, ol_sub (by unfold in6; omega) (by unfold in6; omega)]
    exact ⟨_, rfl, pwl_push hw.2 _⟩
  · subst h3
    have hw1 : w (a :: T).length = b := hw.1
    have hw2 : w T.length = a := hw.2.1
    have l2 : ((((b :: a :: T).length : Nat)) : Int) = (T.length : Int) + 2 := rfl
    have l3 : (T.length : Int) + 2 - 2 = (T.length : Int) := by omega
    have l4 : (T.length : Int) + 2 - 1 = (((a :: T).length : Nat) : Int) := by
      show _ = ((T.length + 1 : Nat) : Int)
      omega
    rw [if_pos (by omega), if_pos (by omega), if_neg (by omega), if_neg (by omega), l2, jn_m (by rw [l3, Int.toNat_natCast]; exact hw2) (by rw [l4, Int.toNat_natCast]; exact hw1) h4 h5 h6 h1 h2, lf_p_e, l3, h7]
    exact ⟨_, rfl, pwl_push hw.2.2 _⟩
theorem vm_run2 {ask red p1 : Int} {bar kd wk ce codes nw gp wt go hm : Nat → Int} {ρ : Int → Int} {κ al : Int} (hf : ∀ j : Int, 0 ≤ j → j < 12 → alB al j = true → F_X10_qPartOf (2 : Int) ask red bar kd wk nw gp wt go hm j p1 = ρ j) (h37 : ¬ al = 3707) : ∀ (L : List Int) (i f : Nat) (S S2 : List Int) (w : Nat → Int), (∀ j, j < L.length → codes (1600 + (i + j)) = L.getD j 0) → (i : Int) + (L.length : Int) = ce 5 → L.length < f → pwl w S → rnR ρ κ al L S S2 → ∃ w2, F_X10_codesTell_a0_2_19 ask red bar kd wk ce codes nw gp wt go hm p1 f (i : Int) (S.length : Int) w = (w2 0, (S2.length : Int), w2) ∧ pwl w2 S2 := by
  intro L
  induction L with
  | nil =>
    intro i f S S2 w hc ht hl hw h
    obtain ⟨k, rfl⟩ : ∃ k, f = k + 1 := ⟨f - 1, by have : 0 < f := hl; omega⟩
    have e : S2 = S := h
    subst e
    have ht' : (i : Int) + ((0 : Nat) : Int) = ce 5 := ht
    refine ⟨w, ?_, hw⟩
    show F_X10_codesTell_a0_2_19b ask red bar kd wk ce codes nw gp wt go hm p1 _ (i : Int) (S2.length : Int) w = _
    unfold F_X10_codesTell_a0_2_19b
    rw [if_pos (by omega)]
    rfl
  | cons c L ih =>
    intro i f S S2 w hc ht hl hw h
    obtain ⟨k, rfl⟩ : ∃ k, f = k + 1 := ⟨f - 1, by have : 0 < f := Nat.lt_of_le_of_lt (Nat.zero_le _) hl; omega⟩
    obtain ⟨S1, h1, h2⟩ := h
    have ht' : (i : Int) + ((L.length + 1 : Nat) : Int) = ce 5 := ht
    have hl' : L.length + 1 < k + 1 := hl
    have hc0 : codes (1600 + i) = c := hc 0 (Nat.zero_lt_succ _)
    obtain ⟨w1, e1, e2⟩ := vm_step2 (K := F_X10_codesTell_a0_2_19 ask red bar kd wk ce codes nw gp wt go hm p1 k) (w := w) (i := i) (ce := ce) (by omega) hc0 hw hf h37 h1
    show ∃ w2, F_X10_codesTell_a0_2_19b ask red bar kd wk ce codes nw gp wt go hm p1 (F_X10_codesTell_a0_2_19 ask red bar kd wk ce codes nw gp wt go hm p1 k) (i : Int) (S.length : Int) w = (w2 0, (S2.length : Int), w2) ∧ pwl w2 S2
    rw [e1]
    exact ih (i + 1) k S1 S2 w1 (fun j hj => by
      have := hc (j + 1) (Nat.succ_lt_succ hj)
      rw [show 1600 + (i + (j + 1)) = 1600 + (i + 1 + j) from by omega] at this
      exact this) (by omega) (by omega) e2 h2
theorem vm_val2 {ask red p1 : Int} {cf bar kd wk ce codes nw gp wt go hm : Nat → Int} {pile : Nat → Int} {ρ : Int → Int} {κ al v : Int} {L : List Int} {i : Nat} (hf : ∀ j : Int, 0 ≤ j → j < 12 → alB al j = true → F_X10_qPartOf (2 : Int) ask red bar kd wk nw gp wt go hm j p1 = ρ j) (h37 : ¬ al = 3707) (h0 : cf 5 = (i : Int)) (hc : ∀ j, j < L.length → codes (1600 + (i + j)) = L.getD j 0) (ht : (i : Int) + (L.length : Int) = ce 5) (hl : L.length ≤ 1600) (h : rnR ρ κ al L [] [v]) : (F_X10_codesTell_a0_2 ask red bar kd wk cf ce codes nw gp wt go hm pile p1).1 = v := by
  obtain ⟨w2, e1, e2⟩ := vm_run2 (ask := ask) (red := red) (bar := bar) (kd := kd) (wk := wk) (nw := nw) (gp := gp) (wt := wt) (go := go) (hm := hm) (p1 := p1) hf h37 L i 1602 [] [v] pile hc ht (by omega) True.intro h
  unfold F_X10_codesTell_a0_2
  rw [h0]
  have e3 : F_X10_codesTell_a0_2_19 ask red bar kd wk ce codes nw gp wt go hm p1 1602 (i : Int) (0 : Int) pile = (w2 0, (([v] : List Int).length : Int), w2) := e1
  rw [e3]
  exact e2.1
theorem vm_step3 {tk ask red qn p1 : Int} {bar kd wk codes nw gp wt go hm : Nat → Int} {w : Nat → Int} {i : Nat} {S S1 : List Int} {ρ : Int → Int} {κ al c : Int} {K : Int → Int → (Nat → Int) → Int × Int × (Nat → Int)} (hi : (i : Int) < qn) (hc : codes i = c) (hw : pwl w S) (hf : ∀ j : Int, 0 ≤ j → j < 12 → alB al j = true → F_X10_qPartOf tk ask red bar kd wk nw gp wt go hm j p1 = ρ j) (h37 : al = 3707 → F_X10_kindOf wk p1 = κ) (hb : ∀ j : Int, 0 ≤ j → j < 12 → alB al j = true → in6 (ρ j)) (h : stR ρ κ al c S S1) : ∃ w1, F_X10_qTold_7b tk ask red qn bar kd wk nw gp wt go hm codes p1 K (i : Int) (S.length : Int) w = K ((i : Int) + (1 : Int)) (S1.length : Int) w1 ∧ pwl w1 S1 := by
  unfold F_X10_qTold_7b
  rw [if_neg (by omega), Int.toNat_natCast, hc]
  rcases h with ⟨h1, h2, h3, h4⟩ | ⟨h1, h2, x, T, h3, h4⟩ | ⟨h1, h2, h3, h4, h5⟩ | ⟨h1, h2, h3⟩ | ⟨h1, x, T, h2, h3, h4⟩ | ⟨h1, h2, a, b, T, h3, h4, h5, h6, h7⟩
  · unfold F_X10_qPuts
    rw [if_neg (by omega), lf_p_e, h4]
    exact ⟨_, rfl, pwl_push hw _⟩
  · subst h3
    have hw1 : w T.length = x := hw.1
    have hcl : ∀ z : Int, z = 0 ∨ z = 1 → clp z = z := by
      intro z hz
      unfold clp
      rw [if_neg (by omega), if_neg (by omega)]
    unfold F_X10_qOf
    rw [if_pos (by omega), if_neg (by omega), len_i, Int.toNat_natCast, hw1, lf_b_e, lf_b_e, h37 h2, lf_b_e, clip_m, h4]
    by_cases q : x = κ
    · rw [if_pos (cmp_eq.mpr q.symm), if_pos q, hcl 1 (Or.inr rfl)]
      exact ⟨_, rfl, pwl_push hw.2 1⟩
    · rw [if_neg (fun r => q (cmp_eq.mp r).symm), if_neg q, hcl 0 (Or.inl rfl)]
      exact ⟨_, rfl, pwl_push hw.2 0⟩
  · have hb2 := hb (c - 40) (by omega) (by omega) h3
    have hcl : clp (ρ (c - 40)) = ρ (c - 40) := by
      unfold clp
      have := hb2.1
      have := hb2.2
      rw [if_neg (by omega), if_neg (by omega)]
    unfold F_X10_qPuts
    rw [if_pos (by omega), if_pos (by omega), if_neg (by omega), lf_b_e, hf (c - 40) (by omega) (by omega) h3, lf_b_e, clip_m, hcl, lf_p_e, h5]
    exact ⟨_, rfl, pwl_push hw _⟩
  · unfold F_X10_qPuts
    rw [if_pos (by omega), if_pos (by omega), if_pos (by omega), if_pos h1, lf_p_e, h3]
    exact ⟨_, rfl, pwl_push hw _⟩
  · subst h2
    have hw1 : w T.length = x := hw.1
    rw [if_pos (by omega), if_pos (by omega), if_pos (by omega), if_neg (by omega), if_pos h1, len_i, Int.toNat_natCast, hw1, h4, ol_sub (by unfold in6; omega) (by unfold in6; omega)]
    exact ⟨_, rfl, pwl_push hw.2 _⟩
  · subst h3
    have hw1 : w (a :: T).length = b := hw.1
    have hw2 : w T.length = a := hw.2.1
    have l2 : ((((b :: a :: T).length : Nat)) : Int) = (T.length : Int) + 2 := rfl
    have l3 : (T.length : Int) + 2 - 2 = (T.length : Int) := by omega
    have l4 : (T.length : Int) + 2 - 1 = (((a :: T).length : Nat) : Int) := by
      show _ = ((T.length + 1 : Nat) : Int)
      omega
    rw [if_pos (by omega), if_pos (by omega), if_pos (by omega), if_neg (by omega), if_neg (by omega), l2, jn_m (by rw [l3, Int.toNat_natCast]; exact hw2) (by rw [l4, Int.toNat_natCast]; exact hw1) h4 h5 h6 h1 h2, lf_p_e, l3, h7]
    exact ⟨_, rfl, pwl_push hw.2.2 _⟩
theorem vm_run3 {tk ask red qn p1 : Int} {bar kd wk codes nw gp wt go hm : Nat → Int} {ρ : Int → Int} {κ al : Int} (hf : ∀ j : Int, 0 ≤ j → j < 12 → alB al j = true → F_X10_qPartOf tk ask red bar kd wk nw gp wt go hm j p1 = ρ j) (h37 : al = 3707 → F_X10_kindOf wk p1 = κ) (hb : ∀ j : Int, 0 ≤ j → j < 12 → alB al j = true → in6 (ρ j)) : ∀ (L : List Int) (i f : Nat) (S S2 : List Int) (w : Nat → Int), (∀ j, j < L.length → codes (i + j) = L.getD j 0) → (i : Int) + (L.length : Int) = qn → L.length < f → pwl w S → rnR ρ κ al L S S2 → ∃ w2, F_X10_qTold_7 tk ask red qn bar kd wk nw gp wt go hm codes p1 f (i : Int) (S.length : Int) w = (w2 0, (S2.length : Int), w2) ∧ pwl w2 S2 := by
  intro L
  induction L with
  | nil =>
    intro i f S S2 w hc ht hl hw h
    obtain ⟨k, rfl⟩ : ∃ k, f = k + 1 := ⟨f - 1, by have : 0 < f := hl; omega⟩
    have e : S2 = S := h
    subst e
    have ht' : (i : Int) + ((0 : Nat) : Int) = qn := ht
    refine ⟨w, ?_, hw⟩
    show F_X10_qTold_7b tk ask red qn bar kd wk nw gp wt go hm codes p1 _ (i : Int) (S2.length : Int) w = _
    unfold F_X10_qTold_7b
    rw [if_pos (by omega)]
    rfl
  | cons c L ih =>
    intro i f S S2 w hc ht hl hw h
    obtain ⟨k, rfl⟩ : ∃ k, f = k + 1 := ⟨f - 1, by have : 0 < f := Nat.lt_of_le_of_lt (Nat.zero_le _) hl; omega⟩
    obtain ⟨S1, h1, h2⟩ := h
    have ht' : (i : Int) + ((L.length + 1 : Nat) : Int) = qn := ht
    have hl' : L.length + 1 < k + 1 := hl
    have hc0 : codes i = c := hc 0 (Nat.zero_lt_succ _)
    obtain ⟨w1, e1, e2⟩ := vm_step3 (K := F_X10_qTold_7 tk ask red qn bar kd wk nw gp wt go hm codes p1 k) (w := w) (i := i) (qn := qn) (by omega) hc0 hw hf h37 hb h1
    show ∃ w2, F_X10_qTold_7b tk ask red qn bar kd wk nw gp wt go hm codes p1 (F_X10_qTold_7 tk ask red qn bar kd wk nw gp wt go hm codes p1 k) (i : Int) (S.length : Int) w = (w2 0, (S2.length : Int), w2) ∧ pwl w2 S2
    rw [e1]
    exact ih (i + 1) k S1 S2 w1 (fun j hj => by
      have := hc (j + 1) (Nat.succ_lt_succ hj)
      rw [show i + (j + 1) = i + 1 + j from by omega] at this
      exact this) (by omega) (by omega) e2 h2
theorem vm_val3 {tk ask red qn p1 : Int} {bar kd wk codes nw gp wt go hm : Nat → Int} {pile : Nat → Int} {ρ : Int → Int} {κ al v : Int} {L : List Int} (hf : ∀ j : Int, 0 ≤ j → j < 12 → alB al j = true → F_X10_qPartOf tk ask red bar kd wk nw gp wt go hm j p1 = ρ j) (h37 : al = 3707 → F_X10_kindOf wk p1 = κ) (hb : ∀ j : Int, 0 ≤ j → j < 12 → alB al j = true → in6 (ρ j)) (hc : ∀ j, j < L.length → codes j = L.getD j 0) (ht : (L.length : Int) = qn) (hl : L.length ≤ 1600) (h : rnR ρ κ al L [] [v]) : (F_X10_qTold tk ask red qn bar kd wk nw gp wt go hm codes pile p1).1 = v := by
  obtain ⟨w2, e1, e2⟩ := vm_run3 (tk := tk) (ask := ask) (red := red) (bar := bar) (kd := kd) (wk := wk) (nw := nw) (gp := gp) (wt := wt) (go := go) (hm := hm) (p1 := p1) (codes := codes) (qn := qn) hf h37 hb L 0 1702 [] [v] pile (fun j hj => by rw [Nat.zero_add]; exact hc j hj) (by show (0 : Int) + _ = _; omega) (by omega) True.intro h
  have e3 : F_X10_qTold tk ask red qn bar kd wk nw gp wt go hm codes pile p1 = (w2 0, (([v] : List Int).length : Int), w2) := e1
  rw [e3]
  exact e2.1
