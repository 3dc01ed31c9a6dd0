/-! what waits with its operators; the machine's list is without them -/
def isOp (x : Int) : Bool := decide (1 ≤ x) && decide (x ≤ 4)
theorem isOp_i {x : Int} : isOp x = true ↔ (1 ≤ x ∧ x ≤ 4) := by
  unfold isOp
  rw [Bool.and_eq_true, decide_eq_true_iff, decide_eq_true_iff]
theorem isBr_i {x : Int} : isBr x = true ↔ (20 ≤ x ∧ x ≤ 24) := by
  unfold isBr
  rw [Bool.and_eq_true, decide_eq_true_iff, decide_eq_true_iff]
theorem op_br {x : Int} (h : isOp x = true) : ¬ isBr x = true := by
  rw [isBr_i]
  rw [isOp_i] at h
  omega
theorem br_op {x : Int} (h : isBr x = true) : ¬ isOp x = true := by
  rw [isOp_i]
  rw [isBr_i] at h
  omega
def stT : List Int → List Int
  | [] => []
  | x :: P => if isOp x = true then stT P else x :: stT P
theorem stT_o {x : Int} {P : List Int} (h : isOp x = true) : stT (x :: P) = stT P := if_pos h
theorem stT_n {x : Int} {P : List Int} (h : ¬ isOp x = true) : stT (x :: P) = x :: stT P := if_neg h
def h6 : List Int → Prop
  | [] => True
  | x :: _ => x < 60
def okP : List Int → Prop
  | [] => True
  | x :: P => okP P ∧ ((isOp x = true ∧ h6 P) ∨ isBr x = true ∨ x = 60)
theorem stT_br : ∀ P : List Int, brT (stT P) = brT P
  | [] => rfl
  | x :: P => by
    show _ = if isBr x = true then x else brT P
    by_cases q : isOp x = true
    · rw [stT_o q, if_neg (op_br q)]
      exact stT_br P
    · rw [stT_n q, ← stT_br P]
      rfl
def hb : List Int → Prop
  | [] => True
  | x :: _ => isBr x = true
theorem hb_eo {T : List Int} (h : hb T) (k : Int) : eoD T k = (T, k) := by
  cases T with
  | nil => rfl
  | cons x T =>
    have h1 : isBr x = true := h
    rw [isBr_i] at h1
    exact if_pos (by omega)
theorem ok_hb : ∀ {P : List Int}, okP P → h6 P → hb (stT P)
  | [], _, _ => True.intro
  | x :: P, h, h2 => by
    have h2' : x < 60 := h2
    rcases h.2 with r | r | r
    · rw [stT_o r.1]
      exact ok_hb h.1 r.2
    · rw [stT_n (br_op r)]
      exact r
    · omega
theorem ok_eo : ∀ {P : List Int} (o : Int), okP P → stT (eoD P o).1 = (eoD (stT P) o).1 ∧ (eoD P o).2 = (eoD (stT P) o).2 ∧ okP (eoD P o).1 ∧ h6 (eoD P o).1 ∧ (eoD P o).2 + ((stT P).length : Int) = o + ((stT (eoD P o).1).length : Int) ∧ (eoD P o).1.length ≤ P.length
  | [], _, _ => ⟨rfl, rfl, True.intro, True.intro, rfl, Nat.le_refl _⟩
  | x :: P, o, h => by
    by_cases q : x < 60
    · have e : eoD (x :: P) o = (x :: P, o) := if_pos q
      have e2 : eoD (stT (x :: P)) o = (stT (x :: P), o) := hb_eo (ok_hb h q) o
      rw [e, e2]
      exact ⟨rfl, rfl, h, q, rfl, Nat.le_refl _⟩
    · have hx : x = 60 := by
        rcases h.2 with r | r | r
        · have := isOp_i.mp r.1
          omega
        · have := isBr_i.mp r
          omega
        · exact r
      have e : eoD (x :: P) o = eoD P (o - 1) := if_neg q
      have e1 : stT (x :: P) = x :: stT P := stT_n (fun r => by have := isOp_i.mp r; omega)
      have e2 : eoD (x :: stT P) o = eoD (stT P) (o - 1) := if_neg q
      rw [e, e1, e2]
      obtain ⟨a1, a2, a3, a4, a5, a6⟩ := ok_eo (o - 1) h.1
      refine ⟨a1, a2, a3, a4, ?_, Nat.le_succ_of_le a6⟩
      show _ + (((stT P).length + 1 : Nat) : Int) = _
      omega
theorem ok_dr : ∀ {P : List Int}, okP P → h6 P → (brT P = -1 ∧ stT P = []) ∨ (∃ x Q, drT P = x :: Q ∧ isBr x = true ∧ brT P = x ∧ stT P = x :: stT Q ∧ okP Q ∧ Q.length + 1 ≤ P.length)
  | [], _, _ => Or.inl ⟨rfl, rfl⟩
  | x :: P, h, h2 => by
    have h2' : x < 60 := h2
    have eb : brT (x :: P) = if isBr x = true then x else brT P := rfl
    have ed : drT (x :: P) = if isBr x = true then x :: P else drT P := rfl
    rcases h.2 with r | r | r
    · rw [eb, ed, stT_o r.1, if_neg (op_br r.1), if_neg (op_br r.1)]
      rcases ok_dr h.1 r.2 with s | ⟨y, Q, a1, a2, a3, a4, a5, a6⟩
      · exact Or.inl s
      · exact Or.inr ⟨y, Q, a1, a2, a3, a4, a5, Nat.le_succ_of_le a6⟩
    · refine Or.inr ⟨x, P, ?_, r, ?_, stT_n (br_op r), h.1, Nat.le_refl _⟩
      · rw [ed, if_pos r]
      · rw [eb, if_pos r]
    · omega
theorem drT_br {T : List Int} (h : hb T) : drT T = T := by
  cases T with
  | nil => rfl
  | cons x T => exact if_pos h
/-- operators of one kind fall -/
def opD (lo : Int) : List Int → List Int
  | [] => []
  | x :: P => if lo ≤ x ∧ x ≤ 4 then opD lo P else x :: P
theorem opD_ok {lo : Int} (hlo : 1 ≤ lo) : ∀ {P : List Int}, okP P → h6 P → okP (opD lo P) ∧ h6 (opD lo P) ∧ stT (opD lo P) = stT P ∧ (opD lo P).length ≤ P.length
  | [], _, _ => ⟨True.intro, True.intro, rfl, Nat.le_refl _⟩
  | x :: P, h, h2 => by
    by_cases q : lo ≤ x ∧ x ≤ 4
    · have e : opD lo (x :: P) = opD lo P := if_pos q
      have q2 : isOp x = true := isOp_i.mpr ⟨by omega, q.2⟩
      rcases h.2 with r | r | r
      · rw [e, stT_o r.1]
        obtain ⟨a1, a2, a3, a4⟩ := opD_ok hlo h.1 r.2
        exact ⟨a1, a2, a3, Nat.le_succ_of_le a4⟩
      · exact absurd q2 (br_op r)
      · omega
    · have e : opD lo (x :: P) = x :: P := if_neg q
      rw [e]
      exact ⟨h, h2, rfl, Nat.le_refl _⟩
theorem opD_p {lo : Int} {w : Nat → Int} {B : List Int} : ∀ (P : List Int), pwl w (P ++ B) → pwl w (opD lo P ++ B)
  | [], h => h
  | x :: P, h => by
    show pwl w ((if lo ≤ x ∧ x ≤ 4 then opD lo P else x :: P) ++ B)
    by_cases q : lo ≤ x ∧ x ≤ 4
    · rw [if_pos q]; exact opD_p P h.2
    · rw [if_neg q]; exact h
/-- the last of what waits -/
theorem pw_hd {w : Nat → Int} {K : List Int} (h : pwl w K) (hK : ¬ K.length = 0) : w (((K.length : Int) - 1).toNat) = K.headD 0 := by
  cases K with
  | nil => exact absurd rfl hK
  | cons x K =>
    rw [show (((x :: K).length : Nat) : Int) - 1 = (K.length : Int) from by show ((K.length + 1 : Nat) : Int) - 1 = _; omega, Int.toNat_natCast]
    exact h.1
/-- is this on? -/
def gOn (k m : Int) (w : Nat → Int) : Int := if m ≤ 0 then 0 else if w (Int.toNat (m - 1)) = k then 1 else 0
theorem g_on {w : Nat → Int} {K : List Int} (h : pwl w K) (k : Int) (hk : ¬ k = 0) : gOn k (K.length : Int) w = if K.headD 0 = k then 1 else 0 := by
  unfold gOn
  by_cases q : K.length = 0
  · have e : K = [] := List.length_eq_zero_iff.mp q
    rw [if_pos (by omega), e]
    exact (if_neg (fun r => hk r.symm)).symm
  · rw [if_neg (by omega), pw_hd h q]
