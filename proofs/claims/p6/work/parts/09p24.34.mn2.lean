/-! names as numbers -/
theorem lol_mul {X Y : Int} (h1 : 0 ≤ X) (h2 : X ≤ 1000000000) (h3 : 0 ≤ Y) (h4 : Y ≤ 1000000000) (h5 : 0 ≤ X * Y) (h6 : X * Y ≤ 1000000000000) : lf_ol lf_lmul X Y = X * Y := by
  have e : (2 : Int) ^ 63 = 9223372036854775808 := by decide
  show (Int64.ofInt X * Int64.ofInt Y).toInt = X * Y
  rw [Int64.toInt_mul, Int64.toInt_ofInt_of_le (by omega) (by omega), Int64.toInt_ofInt_of_le (by omega) (by omega)]
  exact Int.bmod_eq_of_le (by omega) (by omega)
theorem lol_add {X Y : Int} (h1 : -1000000000000 ≤ X) (h2 : X ≤ 1000000000000) (h3 : -1000000000000 ≤ Y) (h4 : Y ≤ 1000000000000) : lf_ol lf_ladd X Y = X + Y := by
  have e : (2 : Int) ^ 63 = 9223372036854775808 := by decide
  show (Int64.ofInt X + Int64.ofInt Y).toInt = X + Y
  rw [Int64.toInt_add, Int64.toInt_ofInt_of_le (by omega) (by omega), Int64.toInt_ofInt_of_le (by omega) (by omega)]
  exact Int.bmod_eq_of_le (by omega) (by omega)
theorem lol_sub {X Y : Int} (h1 : -1000000000000 ≤ X) (h2 : X ≤ 1000000000000) (h3 : -1000000000000 ≤ Y) (h4 : Y ≤ 1000000000000) : lf_ol lf_lsub X Y = X - Y := by
  have e : (2 : Int) ^ 63 = 9223372036854775808 := by decide
  show (Int64.ofInt X - Int64.ofInt Y).toInt = X - Y
  rw [Int64.toInt_sub, Int64.toInt_ofInt_of_le (by omega) (by omega), Int64.toInt_ofInt_of_le (by omega) (by omega)]
  exact Int.bmod_eq_of_le (by omega) (by omega)
def nr : List Int → Int
  | [] => 0
  | d :: w => 27 * nr w + d - 97 + 1
def wr (g : Nat → Int) (a : Nat) : Nat → List Int
  | 0 => []
  | k + 1 => g (a + k) :: wr g a k
def b27 : Nat → Int
  | 0 => 1
  | k + 1 => 27 * b27 k
def v27 (w : List Int) : Int := nr w.reverse
theorem b27_le {k : Nat} (h : k ≤ 5) : b27 k ≤ 14348907 := by
  rcases (by omega : k = 0 ∨ k = 1 ∨ k = 2 ∨ k = 3 ∨ k = 4 ∨ k = 5) with e | e | e | e | e | e <;> (rw [e]; decide)
theorem nr_b {g : Nat → Int} {a : Nat} : ∀ k : Nat, (∀ i, i < k → 97 ≤ g (a + i) ∧ g (a + i) ≤ 122) → 0 ≤ nr (wr g a k) ∧ nr (wr g a k) < b27 k
  | 0, _ => ⟨Int.le_refl 0, show (0 : Int) < 1 by decide⟩
  | k + 1, h => by
    have i1 := nr_b k (fun i hi => h i (by omega))
    have i2 := h k (by omega)
    show 0 ≤ 27 * nr (wr g a k) + g (a + k) - 97 + 1 ∧ 27 * nr (wr g a k) + g (a + k) - 97 + 1 < 27 * b27 k
    exact ⟨by omega, by omega⟩
theorem nr_st {v d : Int} (h1 : 0 ≤ v) (h2 : v ≤ 14348907) (h3 : 97 ≤ d) (h4 : d ≤ 122) : lf_ol lf_ladd (lf_ol lf_lsub (lf_ol lf_ladd (lf_ol lf_lmul (27 : Int) v) d) (97 : Int)) (1 : Int) = 27 * v + d - 97 + 1 := by
  have e1 : lf_ol lf_lmul (27 : Int) v = 27 * v := lol_mul (by omega) (by omega) (by omega) (by omega) (by omega) (by omega)
  have e2 : lf_ol lf_ladd (27 * v) d = 27 * v + d := lol_add (by omega) (by omega) (by omega) (by omega)
  have e3 : lf_ol lf_lsub (27 * v + d) (97 : Int) = 27 * v + d - 97 := lol_sub (by omega) (by omega) (by omega) (by omega)
  rw [e1, e2, e3]
  exact lol_add (by omega) (by omega) (by omega) (by omega)
theorem wr_rev (g : Nat → Int) (a : Nat) : ∀ m : Nat, ((List.range m).map (fun i => g (a + i))).reverse = wr g a m
  | 0 => rfl
  | m + 1 => by
    rw [List.range_succ, List.map_append, List.reverse_append, wr_rev g a m]
    rfl
theorem wd_v {g : Nat → Int} {n p : Nat} : nr (wr g (tx_a g n p) (tx_e g n p - tx_a g n p)) = v27 (wd g n p) := by
  unfold v27 wd
  rw [wr_rev]
theorem nr_ge : ∀ w : List Int, (∀ x ∈ w, 97 ≤ x ∧ x ≤ 122) → 0 ≤ nr w
  | [], _ => by decide
  | d :: w, h => by
    have i1 := nr_ge w (fun x hx => h x (List.mem_cons_of_mem _ hx))
    have i2 := h d (List.mem_cons_self ..)
    show 0 ≤ 27 * nr w + d - 97 + 1
    omega
theorem nr_inj : ∀ v w : List Int, (∀ x ∈ v, 97 ≤ x ∧ x ≤ 122) → (∀ x ∈ w, 97 ≤ x ∧ x ≤ 122) → nr v = nr w → v = w
  | [], [], _, _, _ => rfl
  | [], d :: w, _, h, e => by
    have i1 := nr_ge w (fun x hx => h x (List.mem_cons_of_mem _ hx))
    have i2 := h d (List.mem_cons_self ..)
    have e2 : (0 : Int) = 27 * nr w + d - 97 + 1 := e
    omega
  | d :: w, [], h, _, e => by
    have i1 := nr_ge w (fun x hx => h x (List.mem_cons_of_mem _ hx))
    have i2 := h d (List.mem_cons_self ..)
    have e2 : 27 * nr w + d - 97 + 1 = (0 : Int) := e
    omega
  | c :: v, d :: w, h1, h2, e => by
    have i1 := h1 c (List.mem_cons_self ..)
    have i2 := h2 d (List.mem_cons_self ..)
    have e2 : 27 * nr v + c - 97 + 1 = 27 * nr w + d - 97 + 1 := e
    have e3 : c = d := by omega
    have e4 : nr v = nr w := by omega
    rw [e3, nr_inj v w (fun x hx => h1 x (List.mem_cons_of_mem _ hx)) (fun x hx => h2 x (List.mem_cons_of_mem _ hx)) e4]
theorem isW_m {w : List Int} (h : isW w) : ∀ x ∈ w.reverse, 97 ≤ x ∧ x ≤ 122 := by
  intro x hx
  rw [List.mem_reverse] at hx
  obtain ⟨i, hi, e⟩ := List.getElem_of_mem hx
  have := h.2 i hi
  rw [List.getD_eq_getElem?_getD, List.getElem?_eq_getElem hi] at this
  have h2 : 97 ≤ w[i] ∧ w[i] ≤ 122 := this
  rw [e] at h2
  exact h2
theorem v27_inj {v w : List Int} (hv : isW v) (hw : isW w) (h : v27 v = v27 w) : v = w := List.reverse_inj.mp (nr_inj _ _ (isW_m hv) (isW_m hw) h)
/-- the model's names, from a place on -/
def keptM (N : Nat → Int) (fr : Nat) (L : List (List Int)) : Prop := ∀ i, i < L.length → N (fr + i) = v27 (L.getD i [])
def gO_b (N : Nat → Int) (t fr v : Int) (K : Int → Int) (k : Int) : Int := if t ≤ k then (-1 : Int) else if (lf_cmp (N (Int.toNat (fr + k))) v) = (0 : Int) then k else K (k + (1 : Int))
def gO (N : Nat → Int) (t fr v : Int) : Nat → Int → Int
  | 0 => fun _ => (0 : Int)
  | m + 1 => gO_b N t fr v (gO N t fr v m)
theorem cmp_0 {X Y : Int} : lf_cmp X Y = 0 ↔ X = Y := by
  unfold lf_cmp
  constructor
  · intro h
    split at h
    · omega
    · split at h
      · assumption
      · omega
  · intro h
    rw [if_neg (by omega), if_pos h]
theorem gO_s {N : Nat → Int} {fr : Nat} {w : List Int} (hw : isW w) : ∀ (L : List (List Int)) (m i : Nat), (∀ j, j < L.length → isW (L.getD j [])) → keptM N (fr + i) L → L.length < m → gO N ((i + L.length : Nat) : Int) (fr : Int) (v27 w) m (i : Int) = fi w L i := by
  intro L
  induction L with
  | nil =>
    intro m i h1 h2 h3
    obtain ⟨k, rfl⟩ : ∃ k, m = k + 1 := ⟨m - 1, by have : 0 < m := h3; omega⟩
    show gO_b N _ _ _ _ _ = _
    unfold gO_b
    rw [if_pos (by show ((i + 0 : Nat) : Int) ≤ _; omega)]
    rfl
  | cons x L ih =>
    intro m i h1 h2 h3
    obtain ⟨k, rfl⟩ : ∃ k, m = k + 1 := ⟨m - 1, by have : 0 < m := Nat.lt_of_le_of_lt (Nat.zero_le _) h3; omega⟩
    have h3' : L.length + 1 < k + 1 := h3
    show gO_b N _ _ _ (gO N _ _ _ k) _ = _
    unfold gO_b
    rw [if_neg (by show ¬ ((i + (L.length + 1) : Nat) : Int) ≤ _; omega), show Int.toNat ((fr : Int) + (i : Int)) = fr + i from by omega]
    have hx : N (fr + i) = v27 x := h2 0 (by show 0 < L.length + 1; omega)
    have h1x : isW x := h1 0 (by show 0 < L.length + 1; omega)
    rw [hx]
    show _ = if x = w then (i : Int) else fi w L (i + 1)
    by_cases q : x = w
    · rw [if_pos (cmp_0.mpr (by rw [q])), if_pos q]
    · rw [if_neg (fun r => q (v27_inj h1x hw (cmp_0.mp r))), if_neg q]
      have := ih k (i + 1) (fun j hj => h1 (j + 1) (by show j + 1 < L.length + 1; omega)) (fun j hj => by
        have := h2 (j + 1) (by show j + 1 < L.length + 1; omega)
        rw [show fr + (i + 1) + j = fr + i + (j + 1) from by omega]
        exact this) (by omega)
      rw [show (i : Int) + 1 = ((i + 1 : Nat) : Int) from by omega, show (i + (x :: L).length) = i + 1 + L.length from by show i + (L.length + 1) = _; omega]
      exact this
/-- the names of the model -/
def mnm (M N : Nat → Int) (Ks Ws : List (List Int)) : Prop := M 0 = (Ks.length : Int) ∧ M 1 = (Ws.length : Int) ∧ (∀ j, j < Ks.length → isW (Ks.getD j [])) ∧ (∀ j, j < Ws.length → isW (Ws.getD j [])) ∧ keptM N 0 Ks ∧ keptM N 12 Ws ∧ Ks.length ≤ 6 ∧ Ws.length ≤ 12
theorem no_0l (M N : Nat → Int) (v : Int) : ∀ m : Nat, F_X10_nameOf_a0_0_3 M N v m = gO N (M 0) (0 : Int) v m
  | 0 => rfl
  | m + 1 => by
    show F_X10_nameOf_a0_0_3b M N v (F_X10_nameOf_a0_0_3 M N v m) = gO_b N (M 0) (0 : Int) v (gO N (M 0) (0 : Int) v m)
    rw [no_0l M N v m]
    rfl
theorem no_1l (M N : Nat → Int) (v : Int) : ∀ m : Nat, F_X10_nameOf_a0_1_3 M N v m = gO N (M 1) (12 : Int) v m
  | 0 => rfl
  | m + 1 => by
    show F_X10_nameOf_a0_1_3b M N v (F_X10_nameOf_a0_1_3 M N v m) = gO_b N (M 1) (12 : Int) v (gO N (M 1) (12 : Int) v m)
    rw [no_1l M N v m]
    rfl
theorem no_0 {M N : Nat → Int} {Ks Ws : List (List Int)} {w : List Int} (hw : isW w) (h : mnm M N Ks Ws) : F_X10_nameOf_a0_0 M N (v27 w) = fi w Ks 0 := by
  obtain ⟨h1, h2, h3, h4, h5, h6, h7, h8⟩ := h
  unfold F_X10_nameOf_a0_0
  rw [no_0l, h1, show (Ks.length : Int) = ((0 + Ks.length : Nat) : Int) from by omega]
  exact gO_s (fr := 0) hw Ks 8 0 h3 h5 (by omega)
theorem no_1 {M N : Nat → Int} {Ks Ws : List (List Int)} {w : List Int} (hw : isW w) (h : mnm M N Ks Ws) : F_X10_nameOf_a0_1 M N (v27 w) = fi w Ws 0 := by
  obtain ⟨h1, h2, h3, h4, h5, h6, h7, h8⟩ := h
  unfold F_X10_nameOf_a0_1
  rw [no_1l, h2, show (Ws.length : Int) = ((0 + Ws.length : Nat) : Int) from by omega]
  exact gO_s (fr := 12) hw Ws 14 0 h4 h6 (by omega)
theorem wq_own : ws_12.all (fun w => decide (w.length ≤ 6)) = true := by decide
theorem wfind_len {g : Nat → Int} {a e : Nat} : ∀ (ws : List (List Int)) (i : Nat), ws.all (fun w => decide (w.length ≤ 6)) = true → ¬ wfind g a e ws i = -1 → e ≤ a + 6
  | [], _, _, h => absurd rfl h
  | w :: ws, i, hl, h => by
    have h1 : w.length ≤ 6 := of_decide_eq_true (List.all_eq_true.mp hl w (List.mem_cons_self ..))
    have h2 : ws.all (fun w => decide (w.length ≤ 6)) = true := List.all_eq_true.mpr (fun x hx => List.all_eq_true.mp hl x (List.mem_cons_of_mem _ hx))
    have h3 : ¬ (if wq g e w a = true then (i : Int) else wfind g a e ws (i + 1)) = -1 := h
    by_cases q : wq g e w a = true
    · have := wq_len w a q
      omega
    · rw [if_neg q] at h3
      exact wfind_len ws (i + 1) h2 h3
theorem ow_len {g : Nat → Int} {n p : Nat} (h : ¬ wl g n ws_12 p = -1) : tx_e g n p ≤ tx_a g n p + 6 := by
  have hk := wl_k h
  unfold wl at h
  rw [if_pos hk] at h
  exact wfind_len ws_12 0 wq_own h
/-- the letters of a name -/
theorem nm_loop {g : Nat → Int} {n b e : Nat} {xe : Int} (he : e ≤ n) (hd : ∀ k, b ≤ k → k < e → tx_so g n k = 1) (hx : e < n → ¬ tx_so g n e = 1) : ∀ (m a : Nat), b ≤ a → a ≤ e → a ≤ b + 6 → n - a < m → F_X10_name_58 (n : Int) xe (0 : Int) (-1 : Int) g m (a : Int) (b : Int) (nr (wr g b (a - b))) = if e ≤ b + 6 then (nr (wr g b (e - b)), (e : Int), (e : Int), (0 : Int), (-1 : Int), (b : Int)) else ((0 : Int), (b : Int) + 6, xe, (1 : Int), (b : Int) + 6, (b : Int)) := by
  intro m
  induction m with
  | zero => intro a h1 h2 h3 h4; omega
  | succ m ih =>
    intro a h1 h2 h3 h4
    show F_X10_name_58b (n : Int) xe (0 : Int) (-1 : Int) g (F_X10_name_58 (n : Int) xe (0 : Int) (-1 : Int) g m) (a : Int) (b : Int) (nr (wr g b (a - b))) = _
    unfold F_X10_name_58b F_X10_name_145
    rw [Int.toNat_natCast, lf_b_e]
    by_cases c : a = e
    · rw [if_pos (by omega : e ≤ b + 6)]
      by_cases c2 : a < n
      · rw [if_neg (by omega), so_let c2, if_neg (show ¬ tx_so g n a = 1 from by rw [c]; exact hx (by omega)), if_pos rfl, c]
      · rw [if_pos (by omega), c]
    · have h7 := hd a h1 (by omega)
      have h8 := tx_so_1 h7
      rw [if_neg (by omega), so_let h8.1, if_pos h7, if_neg (show ¬ (1 : Int) = 0 from by decide)]
      by_cases c3 : a = b + 6
      · rw [if_pos (by omega), if_neg (by omega), show (a : Int) = (b : Int) + 6 from by omega]
      · have hb := nr_b (g := g) (a := b) (a - b) (fun i hi => (tx_so_1 (hd (b + i) (by omega) (by omega))).2)
        have hb2 := b27_le (k := a - b) (by omega)
        rw [if_neg (by omega), nr_st hb.1 (by omega) h8.2.1 h8.2.2, show (a : Int) + (1 : Int) = ((a + 1 : Nat) : Int) from by omega]
        have e9 : 27 * nr (wr g b (a - b)) + g a - 97 + 1 = nr (wr g b (a + 1 - b)) := by
          rw [show a + 1 - b = (a - b) + 1 from by omega]
          show _ = 27 * nr (wr g b (a - b)) + g (b + (a - b)) - 97 + 1
          rw [show b + (a - b) = a from by omega]
        rw [e9]
        exact ih (a + 1) (by omega) (by omega) (by omega) (by omega)
def rm6 (g : Nat → Int) (n : Nat) (s : ST) (o : Int × Int × Int × Int × Int × Int) : Prop := rm g n s o.2.1 o.2.2.1 o.2.2.2.1 o.2.2.2.2.1
def sp_nm (g : Nat → Int) (n p : Nat) : ST := if isNm g n p = true then .inr (tx_e g n p) else .inl (1, wrN g n p)
theorem nm_1 {g : Nat → Int} {n p : Nat} {xa xe np : Int} {w1 w2 w3 w4 w5 w6 w7 w8 w9 w10 w11 w12 w13 w14 w15 w16 w17 w18 w19 w20 w21 w22 w23 w24 w25 w26 w27 w28 w29 w30 : Nat → Int} (hn : n ≤ 1600) (hm : mw w1 w2 w3 w4 w5 w6 w7 w8 w9 w10 w11 w12 w13 w14 w15 w16 w17 w18 w19 w20 w21 w22 w23 w24 w25 w26 w27 w28 w29 w30) (h : mp g n p xa xe) : rm6 g n (sp_nm g n p) (F_X10_name xa (n : Int) xe (0 : Int) (-1 : Int) np g w1 w2 w3 w4 w5 w6 w7 w8 w9 w10 w11 w12 w13 w14 w15 w16 w17 w18 w19 w20 w21 w22 w23 w24 w25 w26 w27 w28 w29 w30) ∧ (isNm g n p = true → (F_X10_name xa (n : Int) xe (0 : Int) (-1 : Int) np g w1 w2 w3 w4 w5 w6 w7 w8 w9 w10 w11 w12 w13 w14 w15 w16 w17 w18 w19 w20 w21 w22 w23 w24 w25 w26 w27 w28 w29 w30).1 = v27 (wd g n p) ∧ (F_X10_name xa (n : Int) xe (0 : Int) (-1 : Int) np g w1 w2 w3 w4 w5 w6 w7 w8 w9 w10 w11 w12 w13 w14 w15 w16 w17 w18 w19 w20 w21 w22 w23 w24 w25 w26 w27 w28 w29 w30).2.2.2.2.2 = (tx_a g n p : Int)) := by
  have e1 : F_X10_name xa (n : Int) xe (0 : Int) (-1 : Int) np g w1 w2 w3 w4 w5 w6 w7 w8 w9 w10 w11 w12 w13 w14 w15 w16 w17 w18 w19 w20 w21 w22 w23 w24 w25 w26 w27 w28 w29 w30 = if isNm g n p = true then (v27 (wd g n p), (tx_e g n p : Int), (tx_e g n p : Int), (0 : Int), (-1 : Int), (tx_a g n p : Int)) else if tx_k g n p = 1 ∧ ¬ tx_e g n p - tx_a g n p ≤ 6 then ((0 : Int), (tx_a g n p : Int) + 6, xe, (1 : Int), (tx_a g n p : Int) + 6, (tx_a g n p : Int)) else ((0 : Int), (tx_a g n p : Int), xe, (1 : Int), (tx_a g n p : Int), np) := by
    unfold F_X10_name F_X10_name_37
    rw [if_pos rfl, ml_look hn h, lf_p_e, lf_b_e, lk_let]
    by_cases q : tx_so g n (tx_a g n p) = 1
    · have hlt := tx_so_1 q
      rw [if_pos q, if_neg (show ¬ (1 : Int) = 0 from by decide)]
      by_cases q2 : (tx_a g n p : Int) = xe
      · have q3 := (mp_gl h).mp q2
        have hk := tx_k_yes rfl q3.1 q3.2.1 q3.2.2 (Or.inl q)
        have hN : ¬ isNm g n p = true := fun r => by have := (isNm_W r).1; omega
        rw [if_pos q2, if_neg hN, if_neg (fun r => by omega)]
      · have hk : tx_k g n p = 1 := by
          rw [tx_k_no rfl (fun r => q2 ((mp_gl h).mpr ⟨r.1, r.2.1, r.2.2.1⟩))]
          exact q
        have h9 := tx_e_in hk (Or.inl rfl)
        have he := tx_e_le (f := g) h.1
        have hx : tx_e g n p < n → ¬ tx_so g n (tx_e g n p) = 1 := by
          intro r1 r2
          have e : tx_e g n p = tx_run (tx_s g n 1) n (tx_a g n p + 1) := by
            unfold tx_e
            rw [if_neg (by omega), if_neg (by omega), q]
          have := tx_run_end (tx_s g n 1) n (tx_a g n p + 1)
          rw [← e] at this
          exact this ⟨r1, decide_eq_true r2⟩
        rw [if_neg q2, ow_own hn hm (mp_a h), lf_p_e]
        unfold ow
        by_cases q4 : wl g n ws_12 p = -1
        · rw [decide_eq_false (fun r => r q4), if_pos (show b2 false = 0 from rfl)]
          have e0 : nr (wr g (tx_a g n p) (tx_a g n p - tx_a g n p)) = (0 : Int) := by rw [Nat.sub_self]; rfl
          have e8 := nm_loop (xe := xe) he (fun k h1 h2 => h9.2 k h1 h2) hx 1602 (tx_a g n p) (Nat.le_refl _) (by omega) (by omega) (by omega)
          rw [e0] at e8
          rw [e8]
          by_cases q5 : tx_e g n p ≤ tx_a g n p + 6
          · have hN : isNm g n p = true := by
              unfold isNm
              rw [decide_eq_true hk, decide_eq_true (by omega), decide_eq_true q4]
              rfl
            rw [if_pos q5, if_pos hN, wd_v]
          · have hN : ¬ isNm g n p = true := fun r => by have := (isNm_W r).2.1; rw [wd_len] at this; omega
            rw [if_neg q5, if_neg hN, if_pos ⟨hk, by omega⟩]
        · have hN : ¬ isNm g n p = true := fun r => by
            unfold isNm at r
            rw [decide_eq_false q4, Bool.and_false] at r
            exact Bool.noConfusion r
          have := ow_len q4
          rw [decide_eq_true q4, if_neg (show ¬ b2 true = 0 from by decide), if_neg hN, if_neg (fun r => r.2 (by omega))]
    · have hk : ¬ tx_k g n p = 1 := by
        rcases tx_k_so (g := g) (n := n) (p := p) with r | r
        · omega
        · omega
      have hN : ¬ isNm g n p = true := fun r => hk (isNm_W r).1
      rw [if_neg q, if_pos rfl, if_neg hN, if_neg (fun r => hk r.1)]
  rw [e1]
  unfold sp_nm wrN
  by_cases hN : isNm g n p = true
  · rw [if_pos hN, if_pos hN]
    exact ⟨⟨rfl, rfl, mp_tok h.1 (isNm_W hN).1 (Or.inl rfl)⟩, fun _ => ⟨rfl, rfl⟩⟩
  · rw [if_neg hN, if_neg hN]
    refine ⟨?_, fun r => absurd r hN⟩
    by_cases q : tx_k g n p = 1 ∧ ¬ tx_e g n p - tx_a g n p ≤ 6
    · rw [if_pos q, if_pos q]
      exact ⟨rfl, rfl⟩
    · rw [if_neg q, if_neg q]
      exact ⟨rfl, rfl⟩
theorem nm_0 {g : Nat → Int} {xa n xe xb xp np : Int} {w1 w2 w3 w4 w5 w6 w7 w8 w9 w10 w11 w12 w13 w14 w15 w16 w17 w18 w19 w20 w21 w22 w23 w24 w25 w26 w27 w28 w29 w30 : Nat → Int} (h : ¬ xb = 0) : F_X10_name xa n xe xb xp np g w1 w2 w3 w4 w5 w6 w7 w8 w9 w10 w11 w12 w13 w14 w15 w16 w17 w18 w19 w20 w21 w22 w23 w24 w25 w26 w27 w28 w29 w30 = ((0 : Int), xa, xe, xb, xp, np) := by
  unfold F_X10_name
  rw [if_neg h]
/-- a new name -/
theorem nw_1 {g M N : Nat → Int} {n p : Nat} {xa xe np : Int} {Ks Ws : List (List Int)} {w1 w2 w3 w4 w5 w6 w7 w8 w9 w10 w11 w12 w13 w14 w15 w16 w17 w18 w19 w20 w21 w22 w23 w24 w25 w26 w27 w28 w29 w30 : Nat → Int} (hn : n ≤ 1600) (hm : mw w1 w2 w3 w4 w5 w6 w7 w8 w9 w10 w11 w12 w13 w14 w15 w16 w17 w18 w19 w20 w21 w22 w23 w24 w25 w26 w27 w28 w29 w30) (h : mp g n p xa xe) (hN : mnm M N Ks Ws) : rm6 g n (sp_new g n Ks Ws p) (F_X10_newName xa (n : Int) xe (0 : Int) (-1 : Int) np g w1 w2 w3 w4 w5 w6 w7 w8 w9 w10 w11 w12 w13 w14 w15 w16 w17 w18 w19 w20 w21 w22 w23 w24 w25 w26 w27 w28 w29 w30 M N) ∧ (∀ q, sp_new g n Ks Ws p = .inr q → (F_X10_newName xa (n : Int) xe (0 : Int) (-1 : Int) np g w1 w2 w3 w4 w5 w6 w7 w8 w9 w10 w11 w12 w13 w14 w15 w16 w17 w18 w19 w20 w21 w22 w23 w24 w25 w26 w27 w28 w29 w30 M N).1 = v27 (wd g n p)) := by
  have h1 := nm_1 (np := np) hn hm h
  unfold F_X10_newName
  generalize F_X10_name xa (n : Int) xe (0 : Int) (-1 : Int) np g w1 w2 w3 w4 w5 w6 w7 w8 w9 w10 w11 w12 w13 w14 w15 w16 w17 w18 w19 w20 w21 w22 w23 w24 w25 w26 w27 w28 w29 w30 = o at h1 ⊢
  obtain ⟨r1, a1, x1, b1, p1, n1⟩ := o
  rw [lf_p_e, lf_p_e, lf_p_e, lf_p_e, lf_p_e]
  obtain ⟨h2, h3⟩ := h1
  unfold sp_nm at h2
  unfold sp_new
  by_cases c : isNm g n p = true
  · rw [if_pos c] at h2
    obtain ⟨y1, y2, y3⟩ := h2
    have z1 : r1 = v27 (wd g n p) := (h3 c).1
    have z2 : n1 = (tx_a g n p : Int) := (h3 c).2
    have y1 : b1 = 0 := y1
    have y2 : p1 = -1 := y2
    have y3 : mp g n (tx_e g n p) a1 x1 := y3
    subst y1
    subst y2
    subst z1
    subst z2
    rw [if_pos rfl, if_pos c, lf_b_e, no_0 (isNm_W c).2 hN, lf_b_e]
    by_cases q1 : fi (wd g n p) Ks 0 = -1
    · rw [if_pos q1, no_1 (isNm_W c).2 hN]
      by_cases q2 : fi (wd g n p) Ws 0 = -1
      · rw [if_pos q2, if_pos ⟨q1, q2⟩]
        exact ⟨⟨rfl, rfl, y3⟩, fun _ _ => rfl⟩
      · rw [if_neg q2, if_neg (fun r => q2 r.2)]
        exact ⟨⟨rfl, rfl⟩, fun q r => by cases r⟩
    · rw [if_neg q1, if_neg (fun r => q1 r.1)]
      exact ⟨⟨rfl, rfl⟩, fun q r => by cases r⟩
  · rw [if_neg c] at h2
    obtain ⟨y1, y2⟩ := h2
    have y1 : b1 = 1 := y1
    subst y1
    rw [if_neg (show ¬ (1 : Int) = 0 from by decide), if_neg c]
    exact ⟨⟨rfl, y2⟩, fun q r => by cases r⟩
theorem nw_0 {g M N : Nat → Int} {xa n xe xb xp np : Int} {w1 w2 w3 w4 w5 w6 w7 w8 w9 w10 w11 w12 w13 w14 w15 w16 w17 w18 w19 w20 w21 w22 w23 w24 w25 w26 w27 w28 w29 w30 : Nat → Int} (h : ¬ xb = 0) : F_X10_newName xa n xe xb xp np g w1 w2 w3 w4 w5 w6 w7 w8 w9 w10 w11 w12 w13 w14 w15 w16 w17 w18 w19 w20 w21 w22 w23 w24 w25 w26 w27 w28 w29 w30 M N = ((0 : Int), xa, xe, xb, xp, np) := by
  unfold F_X10_newName
  rw [nm_0 h, lf_p_e, lf_p_e, lf_p_e, lf_p_e, lf_p_e, if_neg h]
