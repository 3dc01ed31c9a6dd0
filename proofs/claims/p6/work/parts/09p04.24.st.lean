/-! a reader's state: a fault and its place, or where the last token ended -/
abbrev ST : Type := Sum (Int × Int) Nat
def sb (s : ST) (k : Nat → ST) : ST := match s with
  | .inl q => .inl q
  | .inr p => k p
/-- what the class holds of it: at, behind, sort, fault, place -/
def cst (g : Nat → Int) (n : Nat) : ST → Int × Int × Int × Int × Int
  | .inl q => ((n : Int), (n : Int), (0 : Int), q.1, q.2)
  | .inr p => ((tx_a g n p : Int), (tx_e g n p : Int), (tx_k g n p : Int), (0 : Int), (-1 : Int))
def sv (n : Nat) : ST → Prop
  | .inl q => ¬ q.1 = 0
  | .inr p => p ≤ n
theorem sv_l {n : Nat} {c x : Int} (h : ¬ c = 0) : sv n (.inl (c, x)) := h
theorem sv_sb {n : Nat} {s : ST} {k : Nat → ST} (h : sv n s) (hk : ∀ p, p ≤ n → sv n (k p)) : sv n (sb s k) := by
  cases s with
  | inl q => exact h
  | inr p => exact hk p h
theorem cl_fail0 (c pl : Int) : F_X5_fail (0 : Int) (-1 : Int) c pl = (c, pl) := rfl
theorem cl_fail1 {f : Int} (h : ¬ f = 0) (q c pl : Int) : F_X5_fail f q c pl = (f, q) := by
  unfold F_X5_fail F_X5_fail_17
  rw [if_neg h]
theorem cl_mvn {g : Nat → Int} {n : Nat} (hn : n ≤ 1600) : F_X5_moveTo g (n : Int) (n : Int) = ((n : Int), (n : Int), (0 : Int)) := by
  rw [cl_mv hn (Nat.le_refl n), tx_a_n, tx_e_n, tx_k_n]
  rfl
theorem cl_mve {g : Nat → Int} {n p : Nat} (hn : n ≤ 1600) (hp : p ≤ n) : F_X5_moveTo g (n : Int) (tx_e g n p : Int) = ((tx_a g n (tx_e g n p) : Int), (tx_e g n (tx_e g n p) : Int), (tx_k g n (tx_e g n p) : Int)) := cl_mv hn (tx_e_le hp)
/-- a sign -/
def tsn (g : Nat → Int) (n : Nat) (c : Int) (p : Nat) : Prop := tx_k g n p = 3 ∧ g (tx_a g n p) = c
theorem cl_see1 {g : Nat → Int} {n p : Nat} {c : Int} (h : tsn g n c p) : F_X5_sees g (tx_a g n p : Int) (tx_k g n p : Int) c = 1 := by
  unfold F_X5_sees
  rw [Int.toNat_natCast, if_pos (by have := h.1; omega), if_pos h.2]
theorem cl_see0 {g : Nat → Int} {n p : Nat} {c : Int} (h : ¬ tsn g n c p) : F_X5_sees g (tx_a g n p : Int) (tx_k g n p : Int) c = 0 := by
  unfold F_X5_sees F_X5_sees_25
  rw [Int.toNat_natCast]
  by_cases q : tx_k g n p = 3
  · rw [if_pos (by omega), if_neg (fun r => h ⟨q, r⟩)]
  · rw [if_neg (by omega)]
theorem cl_seen (g : Nat → Int) (x c : Int) : F_X5_sees g x (0 : Int) c = 0 := by
  unfold F_X5_sees F_X5_sees_25
  rw [if_neg (by decide)]
def sp_need (g : Nat → Int) (n : Nat) (c : Int) (p : Nat) : ST := if tx_k g n p = 3 ∧ g (tx_a g n p) = c then .inr (tx_e g n p) else .inl (1, (tx_a g n p : Int))
theorem sp_need_v {g : Nat → Int} {n p : Nat} (c : Int) (hp : p ≤ n) : sv n (sp_need g n c p) := by
  unfold sp_need
  split
  · exact tx_e_le hp
  · exact sv_l (by decide)
theorem cl_need1 {g : Nat → Int} {n p : Nat} (hn : n ≤ 1600) (hp : p ≤ n) (c : Int) : F_X5_need g (n : Int) (tx_a g n p : Int) (tx_e g n p : Int) (tx_k g n p : Int) (0 : Int) (-1 : Int) c = cst g n (sp_need g n c p) := by
  unfold F_X5_need
  repeat rw [lf_b_e]
  by_cases q : tsn g n c p
  · rw [cl_see1 q, if_neg (by decide), cl_mve hn hp, show sp_need g n c p = .inr (tx_e g n p) from if_pos q]
    rfl
  · rw [cl_see0 q, if_pos rfl, cl_fail0, show sp_need g n c p = .inl (1, (tx_a g n p : Int)) from if_neg q]
    rfl
theorem cl_need0 {g : Nat → Int} {n : Nat} {f q : Int} (h : ¬ f = 0) (c : Int) : F_X5_need g (n : Int) (n : Int) (n : Int) (0 : Int) f q c = cst g n (.inl (f, q)) := by
  unfold F_X5_need
  repeat rw [lf_b_e]
  rw [cl_seen, if_pos rfl, cl_fail1 h]
  rfl
/-- a word of a list is asked -/
def gW (r : Int) (g : Nat → Int) (n a e f q : Int) : Int × Int × Int × Int × Int := if r = (-1 : Int) then (lf_p (F_X5_fail f q (1 : Int) a) (fun x y => (n, n, (0 : Int), x, y))) else (lf_p (F_X5_moveTo g n e) (fun x t => (lf_p t (fun y z => (x, y, z, f, q)))))
def wl (g : Nat → Int) (n : Nat) (ws : List (List Int)) (p : Nat) : Int := if tx_k g n p = 1 then wfind g (tx_a g n p) (tx_e g n p) ws 0 else -1
def sp_w (g : Nat → Int) (n : Nat) (ws : List (List Int)) (p : Nat) : ST := if wl g n ws p = -1 then .inl (1, (tx_a g n p : Int)) else .inr (tx_e g n p)
theorem sp_w_v {g : Nat → Int} {n p : Nat} (ws : List (List Int)) (hp : p ≤ n) : sv n (sp_w g n ws p) := by
  unfold sp_w
  split
  · exact sv_l (by decide)
  · exact tx_e_le hp
theorem gW_1 {g : Nat → Int} {n p : Nat} (hn : n ≤ 1600) (hp : p ≤ n) (ws : List (List Int)) : gW (wl g n ws p) g (n : Int) (tx_a g n p : Int) (tx_e g n p : Int) (0 : Int) (-1 : Int) = cst g n (sp_w g n ws p) := by
  unfold gW
  by_cases q : wl g n ws p = -1
  · rw [if_pos q, cl_fail0, show sp_w g n ws p = .inl (1, (tx_a g n p : Int)) from if_pos q]
    rfl
  · rw [if_neg q, cl_mve hn hp, show sp_w g n ws p = .inr (tx_e g n p) from if_neg q]
    rfl
theorem gW_0 {g : Nat → Int} {n : Nat} {f q : Int} (h : ¬ f = 0) : gW (-1) g (n : Int) (n : Int) (n : Int) f q = cst g n (.inl (f, q)) := by
  unfold gW
  rw [if_pos rfl, cl_fail1 h]
  rfl
theorem wl_c {g : Nat → Int} {n p : Nat} {ws : List (List Int)} : (if (tx_k g n p : Int) = 1 then wfind g (tx_a g n p) (tx_e g n p) ws 0 else -1) = wl g n ws p := by
  unfold wl
  by_cases q : tx_k g n p = 1
  · rw [if_pos (by omega), if_pos q]
  · rw [if_neg (by omega), if_neg q]
/-- a number -/
def dval (g : Nat → Int) : Nat → Nat → Int → Int
  | 0, _, v => v
  | k + 1, a, v => dval g k (a + 1) (v * 10 + g a - 48)
def gn_94 (n a f q lo : Int) : Int × Int × Int × Int × Int × Int := lf_p (F_X5_fail f q (2 : Int) a) (fun x y => (lo, n, n, (0 : Int), x, y))
def gn_f (g : Nat → Int) (n a e f q lo hi v : Int) : Int × Int × Int × Int × Int × Int := if v < lo then gn_94 n a f q lo else if v ≤ hi then (lf_p (F_X5_moveTo g n e) (fun x t => (lf_p t (fun y z => (v, x, y, z, f, q))))) else gn_94 n a f q lo
def gn_b (g : Nat → Int) (n a e f q lo hi : Int) (K : Int → Int → Int × Int × Int × Int × Int × Int) (v j : Int) : Int × Int × Int × Int × Int × Int := if e ≤ j then gn_f g n a e f q lo hi v else K (lf_o lf_isub (lf_o lf_iadd (lf_o lf_imul v (10 : Int)) (g (Int.toNat j))) (48 : Int)) (j + (1 : Int))
def gn (g : Nat → Int) (n a e f q lo hi : Int) : Nat → Int → Int → Int × Int × Int × Int × Int × Int
  | 0 => fun _ _ => ((0 : Int), (0 : Int), (0 : Int), (0 : Int), (0 : Int), (0 : Int))
  | k + 1 => gn_b g n a e f q lo hi (gn g n a e f q lo hi k)
def gN (g : Nat → Int) (n a e k f q lo hi : Int) : Int × Int × Int × Int × Int × Int := if k = (2 : Int) then (if (e - a) ≤ (4 : Int) then gn g n a e f q lo hi 1602 (0 : Int) a else (lf_p (F_X5_fail f q (1 : Int) (a + (4 : Int))) (fun x y => (lo, n, n, (0 : Int), x, y)))) else (lf_p (F_X5_fail f q (1 : Int) a) (fun x y => (lo, n, n, (0 : Int), x, y)))
def bd10 : Nat → Int
  | 0 => 10000
  | 1 => 1000
  | 2 => 100
  | 3 => 10
  | _ => 1
theorem gn_st {v d : Int} (h1 : 0 ≤ v) (h2 : v ≤ 99999) (h3 : 48 ≤ d) (h4 : d ≤ 57) : lf_o lf_isub (lf_o lf_iadd (lf_o lf_imul v (10 : Int)) d) (48 : Int) = v * 10 + d - 48 := by
  rw [lo_mul (by omega) (by omega) (by omega) (by omega) (by omega) (by omega), lo_add (by omega) (by omega) (by omega) (by omega) (by omega) (by omega), lo_sub (by omega) (by omega) (by omega) (by omega) (by omega) (by omega)]
theorem bd10_s {r : Nat} {v d : Int} (hr : r + 1 ≤ 4) (h0 : 0 ≤ v) (h1 : v < bd10 (r + 1)) (h3 : 48 ≤ d) (h4 : d ≤ 57) : v ≤ 99999 ∧ 0 ≤ v * 10 + d - 48 ∧ v * 10 + d - 48 < bd10 r := by
  rcases (by omega : r = 0 ∨ r = 1 ∨ r = 2 ∨ r = 3) with e | e | e | e
  · subst e
    have e1 : bd10 (0 + 1) = 1000 := rfl
    have e0 : bd10 0 = 10000 := rfl
    rw [e1] at h1
    rw [e0]
    omega
  · subst e
    have e1 : bd10 (1 + 1) = 100 := rfl
    have e0 : bd10 1 = 1000 := rfl
    rw [e1] at h1
    rw [e0]
    omega
  · subst e
    have e1 : bd10 (2 + 1) = 10 := rfl
    have e0 : bd10 2 = 100 := rfl
    rw [e1] at h1
    rw [e0]
    omega
  · subst e
    have e1 : bd10 (3 + 1) = 1 := rfl
    have e0 : bd10 3 = 10 := rfl
    rw [e1] at h1
    rw [e0]
    omega
theorem gn_loop {g : Nat → Int} {n f q lo hi : Int} {a e : Nat} (he : e ≤ 1600) (hd : ∀ k, a ≤ k → k < e → 48 ≤ g k ∧ g k ≤ 57) : ∀ (k j : Nat) (v : Int), a ≤ j → j ≤ e → e - j ≤ 4 → e - j < k → 0 ≤ v → v < bd10 (e - j) → gn g n (a : Int) (e : Int) f q lo hi k v (j : Int) = gn_f g n (a : Int) (e : Int) f q lo hi (dval g (e - j) j v) := by
  intro k
  induction k with
  | zero => intro j v h1 h2 h3 h4; omega
  | succ k ih =>
    intro j v h1 h2 h3 h4 h5 h6
    show gn_b g n (a : Int) (e : Int) f q lo hi (gn g n (a : Int) (e : Int) f q lo hi k) v (j : Int) = _
    unfold gn_b
    by_cases c : j = e
    · rw [if_pos (by omega), show e - j = 0 from by omega]
      rfl
    · have hj := hd j h1 (by omega)
      obtain ⟨r, hr⟩ : ∃ r, e - j = r + 1 := ⟨e - j - 1, by omega⟩
      rw [hr] at h6
      obtain ⟨b1, b2, b3⟩ := bd10_s (by omega) h5 h6 hj.1 hj.2
      rw [if_neg (by omega), Int.toNat_natCast, gn_st h5 b1 hj.1 hj.2, show (j : Int) + (1 : Int) = ((j + 1 : Nat) : Int) from by omega, ih (j + 1) _ (by omega) (by omega) (by omega) (by omega) b2 (by rw [show e - (j + 1) = r from by omega]; exact b3), hr, show e - (j + 1) = r from by omega]
      rfl
def sp_num (g : Nat → Int) (n : Nat) (lo hi : Int) (p : Nat) : Int × ST := if tx_k g n p = 2 then (if tx_e g n p - tx_a g n p ≤ 4 then (if dval g (tx_e g n p - tx_a g n p) (tx_a g n p) 0 < lo ∨ hi < dval g (tx_e g n p - tx_a g n p) (tx_a g n p) 0 then (lo, .inl (2, (tx_a g n p : Int))) else (dval g (tx_e g n p - tx_a g n p) (tx_a g n p) 0, .inr (tx_e g n p))) else (lo, .inl (1, (tx_a g n p : Int) + 4))) else (lo, .inl (1, (tx_a g n p : Int)))
/-- bytes of a token are of its sort -/
theorem tx_e_in {g : Nat → Int} {n p s : Nat} (hk : tx_k g n p = s) (h1 : s = 1 ∨ s = 2) : tx_a g n p < tx_e g n p ∧ ∀ k, tx_a g n p ≤ k → k < tx_e g n p → tx_so g n k = s := by
  have hs : tx_so g n (tx_a g n p) = s := by
    unfold tx_k at hk
    split at hk
    · omega
    · exact hk
  have e : tx_e g n p = tx_run (tx_s g n (tx_so g n (tx_a g n p))) n (tx_a g n p + 1) := by
    unfold tx_e
    rw [if_neg (by omega), if_neg (by omega)]
  have ge := tx_run_ge (tx_s g n (tx_so g n (tx_a g n p))) n (tx_a g n p + 1)
  refine ⟨by omega, fun k h2 h3 => ?_⟩
  by_cases c : k = tx_a g n p
  · rw [c]
    exact hs
  · rw [e] at h3
    have := of_decide_eq_true (tx_run_in (P := tx_s g n (tx_so g n (tx_a g n p))) (i := tx_a g n p + 1) (by omega) h3)
    omega
theorem tx_so_2 {g : Nat → Int} {n k : Nat} (h : tx_so g n k = 2) : k < n ∧ 48 ≤ g k ∧ g k ≤ 57 := by
  unfold tx_so at h
  split at h
  · omega
  · split at h
    · omega
    · split at h
      · omega
      · omega
theorem tx_so_1 {g : Nat → Int} {n k : Nat} (h : tx_so g n k = 1) : k < n ∧ 97 ≤ g k ∧ g k ≤ 122 := by
  unfold tx_so at h
  split at h
  · omega
  · split at h
    · omega
    · split at h
      · omega
      · omega
theorem sp_num_v {g : Nat → Int} {n p : Nat} (lo hi : Int) (hp : p ≤ n) : sv n (sp_num g n lo hi p).2 := by
  unfold sp_num
  split
  · split
    · split
      · exact sv_l (by decide)
      · exact tx_e_le hp
    · exact sv_l (by decide)
  · exact sv_l (by decide)
theorem gN_1 {g : Nat → Int} {n p : Nat} (hn : n ≤ 1600) (hp : p ≤ n) (lo hi : Int) : gN g (n : Int) (tx_a g n p : Int) (tx_e g n p : Int) (tx_k g n p : Int) (0 : Int) (-1 : Int) lo hi = ((sp_num g n lo hi p).1, cst g n (sp_num g n lo hi p).2) := by
  have he := tx_e_le (f := g) hp
  unfold gN sp_num
  by_cases q : tx_k g n p = 2
  · have h9 := tx_e_in q (Or.inr rfl)
    rw [if_pos (by omega), if_pos q]
    by_cases q2 : tx_e g n p - tx_a g n p ≤ 4
    · rw [if_pos (by omega), if_pos q2, gn_loop (by omega) (fun k h1 h2 => (tx_so_2 (h9.2 k h1 h2)).2) 1602 (tx_a g n p) 0 (Nat.le_refl _) (by omega) q2 (by omega) (by omega) (by
        rcases (by omega : tx_e g n p - tx_a g n p = 0 ∨ tx_e g n p - tx_a g n p = 1 ∨ tx_e g n p - tx_a g n p = 2 ∨ tx_e g n p - tx_a g n p = 3 ∨ tx_e g n p - tx_a g n p = 4) with e | e | e | e | e <;> (rw [e]; decide))]
      generalize dval g (tx_e g n p - tx_a g n p) (tx_a g n p) 0 = v
      unfold gn_f gn_94
      rw [cl_fail0, cl_mve hn hp]
      by_cases q3 : v < lo
      · rw [if_pos q3, if_pos (Or.inl q3)]
        rfl
      · by_cases q4 : v ≤ hi
        · rw [if_neg q3, if_pos q4, if_neg (by omega)]
          rfl
        · rw [if_neg q3, if_neg q4, if_pos (Or.inr (by omega))]
          rfl
    · rw [if_neg (by omega), if_neg q2, cl_fail0]
      rfl
  · rw [if_neg (by omega), if_neg q, cl_fail0]
    rfl
theorem gN_0 {g : Nat → Int} {n : Nat} {f q : Int} (h : ¬ f = 0) (lo hi : Int) : gN g (n : Int) (n : Int) (n : Int) (0 : Int) f q lo hi = (lo, cst g n (.inl (f, q))) := by
  unfold gN
  rw [if_neg (by decide), cl_fail1 h]
  rfl
