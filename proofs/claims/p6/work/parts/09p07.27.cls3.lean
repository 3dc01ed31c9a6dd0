/-- a name stands here: a word of at most six letters that is none of the language's own -/
def isNm (g : Nat → Int) (n p : Nat) : Bool := decide (tx_k g n p = 1) && decide (tx_e g n p - tx_a g n p ≤ 6) && decide (wl g n ws_12 p = -1)
def wrN (g : Nat → Int) (n p : Nat) : Int := if tx_k g n p = 1 ∧ ¬ tx_e g n p - tx_a g n p ≤ 6 then (tx_a g n p : Int) + 6 else (tx_a g n p : Int)
theorem cl_isN {g : Nat → Int} {n p : Nat} : F_X5_isName g (tx_a g n p : Int) (tx_e g n p : Int) (tx_k g n p : Int) = b2 (isNm g n p) := by
  unfold F_X5_isName F_X5_isName_36 isNm
  repeat rw [lf_b_e]
  rw [cl_w_12, wl_c]
  by_cases q : tx_k g n p = 1
  · have h := tx_e_in q (Or.inl rfl)
    rw [if_pos (by omega), decide_eq_true q]
    by_cases q2 : tx_e g n p - tx_a g n p ≤ 6
    · rw [if_neg (by omega), decide_eq_true q2]
      by_cases q3 : wl g n ws_12 p = -1
      · rw [if_pos q3, decide_eq_true q3]
        rfl
      · rw [if_neg q3, decide_eq_false q3]
        rfl
    · rw [if_pos (by omega), decide_eq_false q2]
      rfl
  · rw [if_neg (by omega), decide_eq_false q]
    rfl
theorem cl_isN0 (g : Nat → Int) (a e : Int) : F_X5_isName g a e (0 : Int) = 0 := by
  unfold F_X5_isName F_X5_isName_36
  rw [if_neg (by decide)]
theorem cl_wrN {g : Nat → Int} {n p : Nat} : F_X5_wrongInName (tx_a g n p : Int) (tx_e g n p : Int) (tx_k g n p : Int) = wrN g n p := by
  unfold F_X5_wrongInName F_X5_wrongInName_32 wrN
  by_cases q : tx_k g n p = 1
  · have h := tx_e_in q (Or.inl rfl)
    rw [if_pos (by omega)]
    by_cases q2 : tx_e g n p - tx_a g n p ≤ 6
    · rw [if_pos (by omega), if_neg (fun r => r.2 q2)]
    · rw [if_neg (by omega), if_pos ⟨q, q2⟩]
  · rw [if_neg (by omega), if_neg (fun r => q r.1)]
theorem isNm_W {g : Nat → Int} {n p : Nat} (h : isNm g n p = true) : tx_k g n p = 1 ∧ isW (wd g n p) := by
  unfold isNm at h
  rw [Bool.and_eq_true, Bool.and_eq_true] at h
  have h1 := of_decide_eq_true h.1.1
  exact ⟨h1, wd_isW h1 (of_decide_eq_true h.1.2)⟩
theorem sl_0l (g : Nat → Int) (a e : Int) (N : Nat → Int) (s : Int) (K : Int → Int) : ∀ k : Nat, F_X5_slotOf_a0_0_i1_0_6_12 g a e N s K k = gs_12 g a e N s K k
  | 0 => rfl
  | k + 1 => by
    show F_X5_slotOf_a0_0_i1_0_6_12b g a e N s K (F_X5_slotOf_a0_0_i1_0_6_12 g a e N s K k) = gs_12b g a e N s K (gs_12 g a e N s K k)
    rw [sl_0l g a e N s K k]
    rfl
theorem sl_0m (g : Nat → Int) (a e : Int) (N : Nat → Int) (c : Int) : ∀ k : Nat, F_X5_slotOf_a0_0_i1_0_6_2 g a e N c k = gs_2 g a e N ((0 : Int) + c) k
  | 0 => rfl
  | k + 1 => by
    show F_X5_slotOf_a0_0_i1_0_6_2b g a e N c (F_X5_slotOf_a0_0_i1_0_6_2 g a e N c k) = gs_2b g a e N ((0 : Int) + c) (gs_2 g a e N ((0 : Int) + c) k)
    rw [sl_0m g a e N c k]
    funext s
    unfold F_X5_slotOf_a0_0_i1_0_6_2b gs_2b
    rw [sl_0l]
theorem sl_6l (g : Nat → Int) (a e : Int) (N : Nat → Int) (s : Int) (K : Int → Int) : ∀ k : Nat, F_X5_slotOf_a0_6_i1_0_12_12 g a e N s K k = gs_12 g a e N s K k
  | 0 => rfl
  | k + 1 => by
    show F_X5_slotOf_a0_6_i1_0_12_12b g a e N s K (F_X5_slotOf_a0_6_i1_0_12_12 g a e N s K k) = gs_12b g a e N s K (gs_12 g a e N s K k)
    rw [sl_6l g a e N s K k]
    rfl
theorem sl_6m (g : Nat → Int) (a e : Int) (N : Nat → Int) (c : Int) : ∀ k : Nat, F_X5_slotOf_a0_6_i1_0_12_2 g a e N c k = gs_2 g a e N ((6 : Int) + c) k
  | 0 => rfl
  | k + 1 => by
    show F_X5_slotOf_a0_6_i1_0_12_2b g a e N c (F_X5_slotOf_a0_6_i1_0_12_2 g a e N c k) = gs_2b g a e N ((6 : Int) + c) (gs_2 g a e N ((6 : Int) + c) k)
    rw [sl_6m g a e N c k]
    funext s
    unfold F_X5_slotOf_a0_6_i1_0_12_2b gs_2b
    rw [sl_6l]
theorem fi_ge (w : List Int) : ∀ (L : List (List Int)) (i : Nat), fi w L i = -1 ∨ (i : Int) ≤ fi w L i
  | [], _ => Or.inl rfl
  | x :: L, i => by
    show (if x = w then (i : Int) else fi w L (i + 1)) = -1 ∨ (i : Int) ≤ (if x = w then (i : Int) else fi w L (i + 1))
    by_cases q : x = w
    · rw [if_pos q]
      exact Or.inr (Int.le_refl _)
    · rw [if_neg q]
      rcases fi_ge w L (i + 1) with r | r
      · exact Or.inl r
      · exact Or.inr (by omega)
/-- the names that stand: kinds, walkers -/
def nms (N : Nat → Int) (Ks Ws : List (List Int)) : Prop := (∀ j, j < Ks.length → isW (Ks.getD j [])) ∧ (∀ j, j < Ws.length → isW (Ws.getD j [])) ∧ kept N 0 Ks ∧ kept N 6 Ws ∧ Ks.length ≤ 6 ∧ Ws.length ≤ 12
theorem cl_sl0 {g : Nat → Int} {n p : Nat} {N : Nat → Int} {Ks Ws : List (List Int)} (hw : isW (wd g n p)) (h : nms N Ks Ws) : F_X5_slotOf_a0_0_i1_0_6 g (tx_a g n p : Int) (tx_e g n p : Int) N (Ks.length : Int) = fi (wd g n p) Ks 0 := by
  unfold F_X5_slotOf_a0_0_i1_0_6
  rw [sl_0m]
  have e := gs_2s (fr := 0) hw Ks 8 0 h.1 h.2.2.1 (by have := h.2.2.2.2.1; omega)
  rw [show (0 : Int) + (Ks.length : Int) = ((0 + 0 + Ks.length : Nat) : Int) from by omega]
  refine Eq.trans e ?_
  split
  · rename_i q; exact q.symm
  · show fi (wd g n p) Ks 0 + ((0 : Nat) : Int) = _; omega
theorem cl_sl6 {g : Nat → Int} {n p : Nat} {N : Nat → Int} {Ks Ws : List (List Int)} (hw : isW (wd g n p)) (h : nms N Ks Ws) : F_X5_slotOf_a0_6_i1_0_12 g (tx_a g n p : Int) (tx_e g n p : Int) N (Ws.length : Int) = -1 ↔ fi (wd g n p) Ws 0 = -1 := by
  unfold F_X5_slotOf_a0_6_i1_0_12
  rw [sl_6m]
  have e := gs_2s (fr := 6) hw Ws 14 0 h.2.1 h.2.2.2.1 (by have := h.2.2.2.2.2; omega)
  rw [show (6 : Int) + (Ws.length : Int) = ((6 + 0 + Ws.length : Nat) : Int) from by omega]
  have e2 : gs_2 g (tx_a g n p : Int) (tx_e g n p : Int) N ((6 + 0 + Ws.length : Nat) : Int) 14 (6 : Int) = _ := e
  rw [e2]
  have h9 := fi_ge (wd g n p) Ws 0
  split
  · rename_i q; exact ⟨fun _ => q, fun _ => rfl⟩
  · rename_i q; exact ⟨fun r => by omega, fun r => absurd r q⟩
def ap5 {α : Type} (c : Int × Int × Int × Int × Int) (x : α) : Int × Int × Int × Int × Int × α := (c.1, c.2.1, c.2.2.1, c.2.2.2.1, c.2.2.2.2, x)
/-- a name put into a slot: its first j letters -/
def nputj (N : Nat → Int) (s : Nat) (w : List Int) (j : Nat) : Nat → Int := fun i => if 6 * s ≤ i ∧ i < 6 * s + j then nl w (i - 6 * s) else N i
theorem nputj_s {N : Nat → Int} {s j : Nat} {w : List Int} : lf_up (nputj N s w j) ((s : Int) * (6 : Int) + (j : Int)) (nl w j) = nputj N s w (j + 1) := by
  funext i
  unfold lf_up nputj
  rw [show Int.toNat ((s : Int) * (6 : Int) + (j : Int)) = 6 * s + j from by omega]
  by_cases q : i = 6 * s + j
  · rw [if_pos q, if_pos (by omega), show i - 6 * s = j from by omega]
  · rw [if_neg q]
    by_cases q2 : 6 * s ≤ i ∧ i < 6 * s + j
    · rw [if_pos q2, if_pos (by omega)]
    · rw [if_neg q2, if_neg (by omega)]
theorem nputj_0 (N : Nat → Int) (s : Nat) (w : List Int) : nputj N s w 0 = N := by
  funext i
  unfold nputj
  rw [if_neg (by omega)]
theorem cl_new66 {g : Nat → Int} {n p : Nat} {N : Nat → Int} {s : Nat} (hn : n ≤ 1600) (hp : p ≤ n) : ∀ (f j : Nat), j ≤ 6 → 6 - j < f → F_X5_newName_66 g (n : Int) (tx_a g n p : Int) (tx_e g n p : Int) (0 : Int) (-1 : Int) (s : Int) f (j : Int) (nputj N s (wd g n p) j) = ap5 (cst g n (.inr (tx_e g n p))) (nputj N s (wd g n p) 6) := by
  intro f
  induction f with
  | zero => intro j h1 h2; omega
  | succ f ih =>
    intro j h1 h2
    show F_X5_newName_66b g (n : Int) (tx_a g n p : Int) (tx_e g n p : Int) (0 : Int) (-1 : Int) (s : Int) (F_X5_newName_66 g (n : Int) (tx_a g n p : Int) (tx_e g n p : Int) (0 : Int) (-1 : Int) (s : Int) f) (j : Int) (nputj N s (wd g n p) j) = _
    unfold F_X5_newName_66b
    repeat rw [lf_b_e]
    rw [cl_nl]
    by_cases q : j = 6
    · rw [if_pos (by omega), cl_mve hn hp, q]
      rfl
    · rw [if_neg (by omega), nputj_s, show (j : Int) + (1 : Int) = ((j + 1 : Nat) : Int) from by omega]
      exact ih (j + 1) (by omega) (by omega)
/-- a new name is read -/
def sp_new (g : Nat → Int) (n : Nat) (Ks Ws : List (List Int)) (p : Nat) : ST := if isNm g n p = true then (if fi (wd g n p) Ks 0 = -1 ∧ fi (wd g n p) Ws 0 = -1 then .inr (tx_e g n p) else .inl (3, (tx_a g n p : Int))) else .inl (1, wrN g n p)
theorem sp_new_v {g : Nat → Int} {n p : Nat} (Ks Ws : List (List Int)) (hp : p ≤ n) : sv n (sp_new g n Ks Ws p) := by
  unfold sp_new
  split
  · split
    · exact tx_e_le hp
    · exact sv_l (by decide)
  · exact sv_l (by decide)
theorem cl_new1 {g : Nat → Int} {n p : Nat} {N : Nat → Int} {Ks Ws : List (List Int)} {s : Nat} (hn : n ≤ 1600) (hp : p ≤ n) (h : nms N Ks Ws) : F_X5_newName g (n : Int) (tx_a g n p : Int) (tx_e g n p : Int) (tx_k g n p : Int) (Ks.length : Int) (Ws.length : Int) N (0 : Int) (-1 : Int) (s : Int) = ap5 (cst g n (sp_new g n Ks Ws p)) (match sp_new g n Ks Ws p with | .inl _ => N | .inr _ => nputj N s (wd g n p) 6) := by
  unfold F_X5_newName F_X5_newName_52
  repeat rw [lf_b_e]
  rw [cl_isN, cl_wrN]
  unfold sp_new
  cases c : isNm g n p with
  | false =>
    rw [if_pos (show b2 false = 0 from rfl), cl_fail0, if_neg (fun r => Bool.noConfusion r)]
    rfl
  | true =>
    have hw := (isNm_W c).2
    rw [if_neg (show ¬ b2 true = 0 from by decide), if_pos rfl, cl_sl0 hw h]
    by_cases q1 : fi (wd g n p) Ks 0 = -1
    · rw [if_pos q1]
      by_cases q2 : fi (wd g n p) Ws 0 = -1
      · rw [if_pos ((cl_sl6 hw h).mpr q2), if_pos ⟨q1, q2⟩]
        have e := cl_new66 (g := g) (N := N) (s := s) hn hp 8 0 (by omega) (by omega)
        rw [nputj_0] at e
        exact e
      · rw [if_neg (fun r => q2 ((cl_sl6 hw h).mp r)), if_neg (fun r => q2 r.2), cl_fail0]
        rfl
    · rw [if_neg q1, if_neg (fun r => q1 r.1), cl_fail0]
      rfl
theorem cl_new0 {g : Nat → Int} {n : Nat} {N : Nat → Int} {f q : Int} (h : ¬ f = 0) (x y s : Int) : F_X5_newName g (n : Int) (n : Int) (n : Int) (0 : Int) x y N f q s = ap5 (cst g n (.inl (f, q))) N := by
  unfold F_X5_newName
  repeat rw [lf_b_e]
  rw [cl_isN0, if_pos rfl, cl_fail1 h]
  rfl
/-- a kind's name is read -/
def sp_kn (g : Nat → Int) (n : Nat) (Ks : List (List Int)) (p : Nat) : Int × ST := if isNm g n p = true then (if fi (wd g n p) Ks 0 = -1 then (0, .inl (3, (tx_a g n p : Int))) else (fi (wd g n p) Ks 0, .inr (tx_e g n p))) else (0, .inl (1, wrN g n p))
theorem sp_kn_v {g : Nat → Int} {n p : Nat} (Ks : List (List Int)) (hp : p ≤ n) : sv n (sp_kn g n Ks p).2 := by
  unfold sp_kn
  split
  · split
    · exact sv_l (by decide)
    · exact tx_e_le hp
  · exact sv_l (by decide)
theorem cl_kn1 {g : Nat → Int} {n p : Nat} {N : Nat → Int} {Ks Ws : List (List Int)} (hn : n ≤ 1600) (hp : p ≤ n) (h : nms N Ks Ws) : F_X5_knownKind g (n : Int) (tx_a g n p : Int) (tx_e g n p : Int) (tx_k g n p : Int) (Ks.length : Int) N (0 : Int) (-1 : Int) = ((sp_kn g n Ks p).1, cst g n (sp_kn g n Ks p).2) := by
  unfold F_X5_knownKind
  repeat rw [lf_b_e]
  rw [cl_isN, cl_wrN]
  unfold sp_kn
  cases c : isNm g n p with
  | false =>
    rw [if_pos (show b2 false = 0 from rfl), cl_fail0, if_neg (fun r => Bool.noConfusion r)]
    rfl
  | true =>
    have hw := (isNm_W c).2
    rw [if_neg (show ¬ b2 true = 0 from by decide), if_pos rfl, cl_sl0 hw h]
    by_cases q1 : fi (wd g n p) Ks 0 = -1
    · rw [if_pos q1, if_pos q1, cl_fail0]
      rfl
    · rw [if_neg q1, if_neg q1, cl_mve hn hp]
      rfl
theorem cl_kn0 {g : Nat → Int} {n : Nat} {N : Nat → Int} {f q : Int} (h : ¬ f = 0) (x : Int) : F_X5_knownKind g (n : Int) (n : Int) (n : Int) (0 : Int) x N f q = ((0 : Int), cst g n (.inl (f, q))) := by
  unfold F_X5_knownKind
  repeat rw [lf_b_e]
  rw [cl_isN0, if_pos rfl, cl_fail1 h]
  rfl
