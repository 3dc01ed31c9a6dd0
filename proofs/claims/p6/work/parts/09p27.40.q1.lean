/-! what waits, as a list: the last first -/
def pwl (w : Nat → Int) : List Int → Prop
  | [] => True
  | x :: K => w K.length = x ∧ pwl w K
theorem pwl_up {w : Nat → Int} {j : Nat} {v : Int} : ∀ {K : List Int}, pwl w K → K.length ≤ j → pwl (lf_up w (j : Int) v) K
  | [], _, _ => True.intro
  | x :: K, h, hj => by
    have hj' : K.length + 1 ≤ j := hj
    refine ⟨?_, pwl_up h.2 (by omega)⟩
    unfold lf_up
    rw [Int.toNat_natCast, if_neg (by omega)]
    exact h.1
theorem pwl_push {w : Nat → Int} {K : List Int} (h : pwl w K) (v : Int) : pwl (lf_up w (K.length : Int) v) (v :: K) := by
  refine ⟨?_, pwl_up h (Nat.le_refl _)⟩
  unfold lf_up
  rw [Int.toNat_natCast, if_pos rfl]
theorem pwl_tl {w : Nat → Int} : ∀ {T B : List Int}, pwl w (T ++ B) → pwl w B
  | [], _, h => h
  | _ :: T, _, h => pwl_tl (T := T) h.2
def isBr (x : Int) : Bool := decide (20 ≤ x) && decide (x ≤ 24)
theorem q_br (x : Int) : F_X10_qIsBracket x = b2 (isBr x) := by
  unfold F_X10_qIsBracket isBr
  by_cases q1 : x < 20
  · rw [if_pos q1, decide_eq_false (by omega)]
    rfl
  · rw [if_neg q1, decide_eq_true (by omega)]
    by_cases q2 : 24 < x
    · rw [if_pos q2, decide_eq_false (by omega)]
      rfl
    · rw [if_neg q2, decide_eq_true (by omega)]
      rfl
/-- the bracket that is open last -/
def brT : List Int → Int
  | [] => -1
  | x :: T => if isBr x = true then x else brT T
theorem q_brk {w : Nat → Int} {B : List Int} : ∀ (T : List Int) (f : Nat), pwl w (T ++ B) → T.length < f → F_X10_qBracket_7 (B.length : Int) w f (((T ++ B).length : Int) - 1) = brT T := by
  intro T
  induction T with
  | nil =>
    intro f h hf
    obtain ⟨k, rfl⟩ : ∃ k, f = k + 1 := ⟨f - 1, by have : 0 < f := hf; omega⟩
    show F_X10_qBracket_7b (B.length : Int) w _ ((B.length : Int) - 1) = -1
    unfold F_X10_qBracket_7b
    rw [if_pos (by omega), if_pos (by omega)]
  | cons x T ih =>
    intro f h hf
    obtain ⟨k, rfl⟩ : ∃ k, f = k + 1 := ⟨f - 1, by have : 0 < f := Nat.lt_of_le_of_lt (Nat.zero_le _) hf; omega⟩
    have hl : (T ++ B).length = T.length + B.length := List.length_append
    have e1 : (((x :: T) ++ B).length : Int) - 1 = ((T ++ B).length : Int) := by
      show (((T ++ B).length + 1 : Nat) : Int) - 1 = _
      omega
    have hx : w (T ++ B).length = x := h.1
    rw [e1]
    show F_X10_qBracket_7b (B.length : Int) w (F_X10_qBracket_7 (B.length : Int) w k) ((T ++ B).length : Int) = if isBr x = true then x else brT T
    unfold F_X10_qBracket_7b
    rw [if_neg (by omega), lf_b_e, Int.toNat_natCast, hx, q_br]
    cases c : isBr x with
    | true => rw [if_neg (show ¬ b2 true = 0 from by decide), if_neg (by omega), if_pos rfl]
    | false =>
      rw [if_pos (show b2 false = 0 from rfl), if_neg (fun r => Bool.noConfusion r), show ((T ++ B).length : Int) + (-1 : Int) = ((T ++ B).length : Int) - 1 from by omega]
      exact ih k h.2 (by have : T.length + 1 < k + 1 := hf; omega)
theorem q_bracket {w : Nat → Int} {T B : List Int} (h : pwl w (T ++ B)) (hl : T.length ≤ 1700) : F_X10_qBracket ((T ++ B).length : Int) (B.length : Int) w = brT T := q_brk T 1702 h (by omega)
/-- all down to the bracket falls -/
def drT : List Int → List Int
  | [] => []
  | x :: T => if isBr x = true then x :: T else drT T
theorem q_drop {w cd : Nat → Int} {c : Int} {x : Int} {K : List Int} : F_X10_qDrops c ((x :: K).length : Int) cd w = ((c + 1), (K.length : Int), lf_up cd c (w K.length)) := by
  unfold F_X10_qDrops F_X10_qCode
  rw [lf_p_e, show (((x :: K).length : Nat) : Int) - (1 : Int) = (K.length : Int) from by show ((K.length + 1 : Nat) : Int) - 1 = _; omega, Int.toNat_natCast]
theorem q_dtb {w : Nat → Int} {B : List Int} : ∀ (T : List Int) (f : Nat) (c : Int) (cd : Nat → Int), pwl w (T ++ B) → T.length < f → ∃ c2 cd2, F_X10_qDropsToBracket_0 (B.length : Int) w f c ((T ++ B).length : Int) cd = (c2, ((drT T ++ B).length : Int), cd2) ∧ c2 + ((drT T).length : Int) = c + (T.length : Int) := by
  intro T
  induction T with
  | nil =>
    intro f c cd h hf
    obtain ⟨k, rfl⟩ : ∃ k, f = k + 1 := ⟨f - 1, by have : 0 < f := hf; omega⟩
    refine ⟨c, cd, ?_, rfl⟩
    show F_X10_qDropsToBracket_0b (B.length : Int) w _ c (B.length : Int) cd = _
    unfold F_X10_qDropsToBracket_0b
    rw [if_pos (Int.le_refl _)]
    rfl
  | cons x T ih =>
    intro f c cd h hf
    obtain ⟨k, rfl⟩ : ∃ k, f = k + 1 := ⟨f - 1, by have : 0 < f := Nat.lt_of_le_of_lt (Nat.zero_le _) hf; omega⟩
    have hl : (T ++ B).length = T.length + B.length := List.length_append
    have hx : w (T ++ B).length = x := h.1
    have e1 : (((x :: T) ++ B).length : Int) = ((T ++ B).length : Int) + 1 := rfl
    have e2 : (((x :: T) ++ B).length : Int) - 1 = ((T ++ B).length : Int) := by omega
    obtain ⟨c2, cd2, e3, e4⟩ := ih k (c + 1) (lf_up cd c (w (T ++ B).length)) h.2 (by have : T.length + 1 < k + 1 := hf; omega)
    show ∃ c2 cd2, F_X10_qDropsToBracket_0b (B.length : Int) w (F_X10_qDropsToBracket_0 (B.length : Int) w k) c (((x :: T) ++ B).length : Int) cd = (c2, (((if isBr x = true then x :: T else drT T) ++ B).length : Int), cd2) ∧ c2 + ((if isBr x = true then x :: T else drT T).length : Int) = c + ((T.length + 1 : Nat) : Int)
    unfold F_X10_qDropsToBracket_0b
    rw [if_neg (by omega), lf_b_e, e2, Int.toNat_natCast, hx, q_br]
    cases cc : isBr x with
    | true =>
      rw [if_neg (show ¬ b2 true = 0 from by decide), if_pos rfl]
      exact ⟨c, cd, rfl, rfl⟩
    | false =>
      rw [if_pos (show b2 false = 0 from rfl), if_neg (fun r => Bool.noConfusion r), show F_X10_qDrops c (((x :: T) ++ B).length : Int) cd w = ((c + 1), ((T ++ B).length : Int), lf_up cd c (w (T ++ B).length)) from q_drop, lf_p_e, lf_p_e]
      exact ⟨c2, cd2, e3, by omega⟩
theorem q_drops {w cd : Nat → Int} {T B : List Int} {c : Int} (h : pwl w (T ++ B)) (hl : T.length ≤ 1700) : ∃ c2 cd2, F_X10_qDropsToBracket c ((T ++ B).length : Int) (B.length : Int) cd w = (c2, ((drT T ++ B).length : Int), cd2) ∧ c2 + ((drT T).length : Int) = c + (T.length : Int) := q_dtb T 1702 c cd h (by omega)
/-- what waits for a part falls behind it -/
def eoD : List Int → Int → List Int × Int
  | [], o => ([], o)
  | x :: T, o => if x < 60 then (x :: T, o) else eoD T (o - 1)
theorem q_eop {w : Nat → Int} {B : List Int} : ∀ (T : List Int) (f : Nat) (c o : Int) (cd : Nat → Int), pwl w (T ++ B) → T.length < f → -2000 ≤ o - (T.length : Int) → o ≤ 2000 → ∃ c2 cd2, F_X10_qEndsPart_0 (0 : Int) (B.length : Int) w f c ((T ++ B).length : Int) o cd = (c2, (((eoD T o).1 ++ B).length : Int), (eoD T o).2, cd2) ∧ c2 + ((eoD T o).1.length : Int) = c + (T.length : Int) := by
  intro T
  induction T with
  | nil =>
    intro f c o cd h hf h1 h2
    obtain ⟨k, rfl⟩ : ∃ k, f = k + 1 := ⟨f - 1, by have : 0 < f := hf; omega⟩
    refine ⟨c, cd, ?_, rfl⟩
    show F_X10_qEndsPart_0b (0 : Int) (B.length : Int) w _ c (B.length : Int) o cd = _
    unfold F_X10_qEndsPart_0b
    rw [if_pos rfl, if_pos (Int.le_refl _)]
    rfl
  | cons x T ih =>
    intro f c o cd h hf h1 h2
    obtain ⟨k, rfl⟩ : ∃ k, f = k + 1 := ⟨f - 1, by have : 0 < f := Nat.lt_of_le_of_lt (Nat.zero_le _) hf; omega⟩
    have h1' : -2000 ≤ o - ((T.length + 1 : Nat) : Int) := h1
    have hl : (T ++ B).length = T.length + B.length := List.length_append
    have hx : w (T ++ B).length = x := h.1
    have e1 : (((x :: T) ++ B).length : Int) = ((T ++ B).length : Int) + 1 := rfl
    have e2 : (((x :: T) ++ B).length : Int) - 1 = ((T ++ B).length : Int) := by omega
    obtain ⟨c2, cd2, e3, e4⟩ := ih k (c + 1) (o - 1) (lf_up cd c (w (T ++ B).length)) h.2 (by have : T.length + 1 < k + 1 := hf; omega) (by omega) (by omega)
    show ∃ c2 cd2, F_X10_qEndsPart_0b (0 : Int) (B.length : Int) w (F_X10_qEndsPart_0 (0 : Int) (B.length : Int) w k) c (((x :: T) ++ B).length : Int) o cd = (c2, (((if x < 60 then (x :: T, o) else eoD T (o - 1)).1 ++ B).length : Int), (if x < 60 then (x :: T, o) else eoD T (o - 1)).2, cd2) ∧ c2 + ((if x < 60 then (x :: T, o) else eoD T (o - 1)).1.length : Int) = c + ((T.length + 1 : Nat) : Int)
    unfold F_X10_qEndsPart_0b
    rw [if_pos rfl, if_neg (by omega), e2, Int.toNat_natCast, hx]
    by_cases q : x < 60
    · rw [if_pos q, if_pos q]
      exact ⟨c, cd, rfl, rfl⟩
    · rw [if_neg q, if_neg q, show F_X10_qDrops c (((x :: T) ++ B).length : Int) cd w = ((c + 1), ((T ++ B).length : Int), lf_up cd c (w (T ++ B).length)) from q_drop, lf_p_e, lf_p_e, lo_sub (by omega) (by omega) (by omega) (by omega) (by omega) (by omega)]
      exact ⟨c2, cd2, e3, by omega⟩
theorem q_ends {w cd : Nat → Int} {T B : List Int} {c o : Int} (h : pwl w (T ++ B)) (hl : T.length ≤ 1700) (h1 : -2000 ≤ o - (T.length : Int)) (h2 : o ≤ 2000) : ∃ c2 cd2, F_X10_qEndsPart (0 : Int) c ((T ++ B).length : Int) o (B.length : Int) cd w = (c2, (((eoD T o).1 ++ B).length : Int), (eoD T o).2, cd2) ∧ c2 + ((eoD T o).1.length : Int) = c + (T.length : Int) := q_eop T 1702 c o cd h (by omega) h1 h2
theorem q_ends0 {w cd : Nat → Int} {xb c m o b : Int} (h : ¬ xb = 0) : F_X10_qEndsPart xb c m o b cd w = (c, m, o, cd) := by
  unfold F_X10_qEndsPart
  show F_X10_qEndsPart_0b xb b w _ c m o cd = _
  unfold F_X10_qEndsPart_0b
  rw [if_neg h]
theorem eoD_p {w : Nat → Int} {B : List Int} : ∀ (T : List Int) (o : Int), pwl w (T ++ B) → pwl w ((eoD T o).1 ++ B)
  | [], _, h => h
  | x :: T, o, h => by
    show pwl w ((if x < 60 then (x :: T, o) else eoD T (o - 1)).1 ++ B)
    by_cases q : x < 60
    · rw [if_pos q]; exact h
    · rw [if_neg q]; exact eoD_p T (o - 1) h.2
theorem drT_p {w : Nat → Int} {B : List Int} : ∀ (T : List Int), pwl w (T ++ B) → pwl w (drT T ++ B)
  | [], h => h
  | x :: T, h => by
    show pwl w ((if isBr x = true then x :: T else drT T) ++ B)
    by_cases q : isBr x = true
    · rw [if_pos q]; exact h
    · rw [if_neg q]; exact drT_p T h.2
