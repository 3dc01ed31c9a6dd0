/-! what falls is coded: the codes as they become -/
def pcl (cd : Nat → Int) (K : List Int) : Prop := ∀ i, i < K.length → cd i = K.getD i 0
theorem pcl_0 (cd : Nat → Int) : pcl cd [] := fun i hi => absurd hi (Nat.not_lt_zero i)
theorem len_1 (K : List Int) (v : Int) : ((K ++ [v]).length : Int) = (K.length : Int) + 1 := by
  rw [List.length_append]
  rfl
theorem pcl_app {cd : Nat → Int} {K : List Int} (h : pcl cd K) (v : Int) : pcl (lf_up cd (K.length : Int) v) (K ++ [v]) := by
  intro i hi
  have hl : (K ++ [v]).length = K.length + 1 := by
    rw [List.length_append]
    rfl
  by_cases q : i = K.length
  · rw [lf_up_y (by omega), q, List.getD_eq_getElem?_getD, List.getElem?_append_right (Nat.le_refl _), Nat.sub_self]
    rfl
  · rw [lf_up_o (by omega), List.getD_eq_getElem?_getD, List.getElem?_append_left (by omega), ← List.getD_eq_getElem?_getD]
    exact h i (by omega)
theorem dB_1 : ∀ (P K : List Int), (dB P K).1 = drT P
  | [], _ => rfl
  | x :: P, K => by
    show (if isBr x = true then (x :: P, K) else dB P (K ++ [x])).1 = if isBr x = true then x :: P else drT P
    by_cases q : isBr x = true
    · rw [if_pos q, if_pos q]
    · rw [if_neg q, if_neg q]
      exact dB_1 P (K ++ [x])
theorem dE_1 : ∀ (P K : List Int) (o : Int), (dE P K o).1 = (eoD P o).1 ∧ (dE P K o).2.2 = (eoD P o).2
  | [], _, _ => ⟨rfl, rfl⟩
  | x :: P, K, o => by
    show (if x < 60 then (x :: P, K, o) else dE P (K ++ [x]) (o - 1)).1 = (if x < 60 then (x :: P, o) else eoD P (o - 1)).1 ∧ (if x < 60 then (x :: P, K, o) else dE P (K ++ [x]) (o - 1)).2.2 = (if x < 60 then (x :: P, o) else eoD P (o - 1)).2
    by_cases q : x < 60
    · rw [if_pos q, if_pos q]
      exact ⟨rfl, rfl⟩
    · rw [if_neg q, if_neg q]
      exact dE_1 P (K ++ [x]) (o - 1)
theorem dO_1 {lo : Int} : ∀ (P K : List Int), (dO lo P K).1 = opD lo P
  | [], _ => rfl
  | x :: P, K => by
    show (if lo ≤ x ∧ x ≤ 4 then dO lo P (K ++ [x]) else (x :: P, K)).1 = if lo ≤ x ∧ x ≤ 4 then opD lo P else x :: P
    by_cases q : lo ≤ x ∧ x ≤ 4
    · rw [if_pos q, if_pos q]
      exact dO_1 P (K ++ [x])
    · rw [if_neg q, if_neg q]
theorem dN_1 : ∀ (P K : List Int) (o : Int), (dN P K o).1 = (ntD P o).1 ∧ (dN P K o).2.2 = (ntD P o).2
  | [], _, _ => ⟨rfl, rfl⟩
  | x :: P, K, o => by
    show (if x = 12 then dN P (K ++ [x]) (o - 1) else (x :: P, K, o)).1 = (if x = 12 then ntD P (o - 1) else (x :: P, o)).1 ∧ (if x = 12 then dN P (K ++ [x]) (o - 1) else (x :: P, K, o)).2.2 = (if x = 12 then ntD P (o - 1) else (x :: P, o)).2
    by_cases q : x = 12
    · rw [if_pos q, if_pos q]
      exact dN_1 P (K ++ [x]) (o - 1)
    · rw [if_neg q, if_neg q]
      exact ⟨rfl, rfl⟩
theorem dA_1 {hi : Int} : ∀ (P K : List Int), (dA hi P K).1 = opQ hi P
  | [], _ => rfl
  | x :: P, K => by
    show (if 10 ≤ x ∧ x ≤ hi then dA hi P (K ++ [x]) else (x :: P, K)).1 = if 10 ≤ x ∧ x ≤ hi then opQ hi P else x :: P
    by_cases q : 10 ≤ x ∧ x ≤ hi
    · rw [if_pos q, if_pos q]
      exact dA_1 P (K ++ [x])
    · rw [if_neg q, if_neg q]
theorem dS_1 : ∀ (P K : List Int), (dS P K).1 = tPop P
  | [], _ => rfl
  | x :: P, K => by
    show (if x = 25 then (P, K) else dS P (K ++ [x])).1 = if x = 25 then P else tPop P
    by_cases q : x = 25
    · rw [if_pos q, if_pos q]
    · rw [if_neg q, if_neg q]
      exact dS_1 P (K ++ [x])
theorem qc_dtb {w : Nat → Int} {B : List Int} : ∀ (T : List Int) (f : Nat) (K : List Int) (cd : Nat → Int), pwl w (T ++ B) → T.length < f → pcl cd K → ∃ cd2, F_X10_qDropsToBracket_0 (B.length : Int) w f (K.length : Int) ((T ++ B).length : Int) cd = (((dB T K).2.length : Int), (((dB T K).1 ++ B).length : Int), cd2) ∧ pcl cd2 (dB T K).2 := by
  intro T
  induction T with
  | nil =>
    intro f K cd h hf hK
    obtain ⟨k, rfl⟩ : ∃ k, f = k + 1 := ⟨f - 1, by have : 0 < f := hf; omega⟩
    refine ⟨cd, ?_, hK⟩
    show F_X10_qDropsToBracket_0b (B.length : Int) w _ (K.length : Int) (B.length : Int) cd = _
    unfold F_X10_qDropsToBracket_0b
    rw [if_pos (Int.le_refl _)]
    rfl
  | cons x T ih =>
    intro f K cd h hf hK
    obtain ⟨k, rfl⟩ : ∃ k, f = k + 1 := ⟨f - 1, by have : 0 < f := Nat.lt_of_le_of_lt (Nat.zero_le _) hf; omega⟩
    have hl : (T ++ B).length = T.length + B.length := List.length_append
    have hx : w (T ++ B).length = x := h.1
    have e1 : (((x :: T) ++ B).length : Int) = ((T ++ B).length : Int) + 1 := rfl
    have e2 : (((x :: T) ++ B).length : Int) - 1 = ((T ++ B).length : Int) := by omega
    show ∃ cd2, F_X10_qDropsToBracket_0b (B.length : Int) w (F_X10_qDropsToBracket_0 (B.length : Int) w k) (K.length : Int) (((x :: T) ++ B).length : Int) cd = (((if isBr x = true then (x :: T, K) else dB T (K ++ [x])).2.length : Int), (((if isBr x = true then (x :: T, K) else dB T (K ++ [x])).1 ++ B).length : Int), cd2) ∧ pcl cd2 (if isBr x = true then (x :: T, K) else dB T (K ++ [x])).2
    unfold F_X10_qDropsToBracket_0b
    rw [if_neg (by omega), lf_b_e, e2, Int.toNat_natCast, hx, q_br]
    cases cc : isBr x with
    | true =>
      rw [if_neg (show ¬ b2 true = 0 from by decide), if_pos rfl]
      exact ⟨cd, rfl, hK⟩
    | false =>
      obtain ⟨cd2, e3, e4⟩ := ih k (K ++ [x]) (lf_up cd (K.length : Int) x) h.2 (by have : T.length + 1 < k + 1 := hf; omega) (pcl_app hK x)
      rw [len_1] at e3
      rw [if_pos (show b2 false = 0 from rfl), if_neg (fun r => Bool.noConfusion r), show F_X10_qDrops (K.length : Int) (((x :: T) ++ B).length : Int) cd w = (((K.length : Int) + 1), ((T ++ B).length : Int), lf_up cd (K.length : Int) (w (T ++ B).length)) from q_drop, lf_p_e, lf_p_e, hx]
      exact ⟨cd2, e3, e4⟩
theorem qc_eop {w : Nat → Int} {B : List Int} : ∀ (T : List Int) (f : Nat) (K : List Int) (o : Int) (cd : Nat → Int), pwl w (T ++ B) → T.length < f → -2000 ≤ o - (T.length : Int) → o ≤ 2000 → pcl cd K → ∃ cd2, F_X10_qEndsPart_0 (0 : Int) (B.length : Int) w f (K.length : Int) ((T ++ B).length : Int) o cd = (((dE T K o).2.1.length : Int), (((dE T K o).1 ++ B).length : Int), (dE T K o).2.2, cd2) ∧ pcl cd2 (dE T K o).2.1 := by
  intro T
  induction T with
  | nil =>
    intro f K o cd h hf h1 h2 hK
    obtain ⟨k, rfl⟩ : ∃ k, f = k + 1 := ⟨f - 1, by have : 0 < f := hf; omega⟩
    refine ⟨cd, ?_, hK⟩
    show F_X10_qEndsPart_0b (0 : Int) (B.length : Int) w _ (K.length : Int) (B.length : Int) o cd = _
    unfold F_X10_qEndsPart_0b
    rw [if_pos rfl, if_pos (Int.le_refl _)]
    rfl
  | cons x T ih =>
    intro f K o cd h hf h1 h2 hK
    obtain ⟨k, rfl⟩ : ∃ k, f = k + 1 := ⟨f - 1, by have : 0 < f := Nat.lt_of_le_of_lt (Nat.zero_le _) hf; omega⟩
    have h1' : -2000 ≤ o - ((T.length + 1 : Nat) : Int) := h1
    have hl : (T ++ B).length = T.length + B.length := List.length_append
    have hx : w (T ++ B).length = x := h.1
    have e1 : (((x :: T) ++ B).length : Int) = ((T ++ B).length : Int) + 1 := rfl
    have e2 : (((x :: T) ++ B).length : Int) - 1 = ((T ++ B).length : Int) := by omega
    show ∃ cd2, F_X10_qEndsPart_0b (0 : Int) (B.length : Int) w (F_X10_qEndsPart_0 (0 : Int) (B.length : Int) w k) (K.length : Int) (((x :: T) ++ B).length : Int) o cd = (((if x < 60 then (x :: T, K, o) else dE T (K ++ [x]) (o - 1)).2.1.length : Int), (((if x < 60 then (x :: T, K, o) else dE T (K ++ [x]) (o - 1)).1 ++ B).length : Int), (if x < 60 then (x :: T, K, o) else dE T (K ++ [x]) (o - 1)).2.2, cd2) ∧ pcl cd2 (if x < 60 then (x :: T, K, o) else dE T (K ++ [x]) (o - 1)).2.1
    unfold F_X10_qEndsPart_0b
    rw [if_pos rfl, if_neg (by omega), e2, Int.toNat_natCast, hx]
    by_cases q : x < 60
    · rw [if_pos q, if_pos q]
      exact ⟨cd, rfl, hK⟩
    · obtain ⟨cd2, e3, e4⟩ := ih k (K ++ [x]) (o - 1) (lf_up cd (K.length : Int) x) h.2 (by have : T.length + 1 < k + 1 := hf; omega) (by omega) (by omega) (pcl_app hK x)
      rw [len_1] at e3
      rw [if_neg q, if_neg q, show F_X10_qDrops (K.length : Int) (((x :: T) ++ B).length : Int) cd w = (((K.length : Int) + 1), ((T ++ B).length : Int), lf_up cd (K.length : Int) (w (T ++ B).length)) from q_drop, lf_p_e, lf_p_e, lo_sub (by omega) (by omega) (by omega) (by omega) (by omega) (by omega), hx]
      exact ⟨cd2, e3, e4⟩
