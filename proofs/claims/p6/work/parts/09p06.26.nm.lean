/-! names: words of small letters; the class keeps six numbers for each -/
def wd (g : Nat → Int) (n p : Nat) : List Int := (List.range (tx_e g n p - tx_a g n p)).map (fun i => g (tx_a g n p + i))
/-- a letter of a name: 0 behind its end -/
def nl (w : List Int) (k : Nat) : Int := if k < w.length then w.getD k 0 - 97 + 1 else 0
theorem wd_len (g : Nat → Int) (n p : Nat) : (wd g n p).length = tx_e g n p - tx_a g n p := by
  unfold wd
  rw [List.length_map, List.length_range]
theorem wd_get {g : Nat → Int} {n p k : Nat} (h : k < tx_e g n p - tx_a g n p) : (wd g n p).getD k 0 = g (tx_a g n p + k) := by
  unfold wd
  rw [List.getD_eq_getElem?_getD, List.getElem?_map, List.getElem?_range h]
  rfl
theorem cl_nl {g : Nat → Int} {n p k : Nat} : F_X5_nameLetter g (tx_a g n p : Int) (tx_e g n p : Int) (k : Int) = nl (wd g n p) k := by
  unfold F_X5_nameLetter nl
  rw [wd_len, show Int.toNat ((tx_a g n p : Int) + (k : Int)) = tx_a g n p + k from by omega]
  by_cases q : k < tx_e g n p - tx_a g n p
  · rw [if_neg (by omega), if_pos q, wd_get q]
  · rw [if_pos (by omega), if_neg q]
/-- a word of at most six small letters -/
def isW (w : List Int) : Prop := w.length ≤ 6 ∧ ∀ k, k < w.length → 97 ≤ w.getD k 0 ∧ w.getD k 0 ≤ 122
theorem wd_isW {g : Nat → Int} {n p : Nat} (hk : tx_k g n p = 1) (h6 : tx_e g n p - tx_a g n p ≤ 6) : isW (wd g n p) := by
  have h := tx_e_in hk (Or.inl rfl)
  refine ⟨by rw [wd_len]; exact h6, fun k hk2 => ?_⟩
  rw [wd_len] at hk2
  rw [wd_get hk2]
  exact (tx_so_1 (h.2 _ (by omega) (by omega))).2
theorem nl_inj {v w : List Int} (hv : isW v) (hw : isW w) (h : ∀ k, k < 6 → nl v k = nl w k) : v = w := by
  have hl : v.length = w.length := by
    rcases Nat.lt_trichotomy v.length w.length with q | q | q
    · have h1 := h v.length (by have := hw.1; omega)
      have h2 := hw.2 v.length q
      unfold nl at h1
      rw [if_neg (Nat.lt_irrefl _), if_pos q] at h1
      omega
    · exact q
    · have h1 := h w.length (by have := hv.1; omega)
      have h2 := hv.2 w.length q
      unfold nl at h1
      rw [if_neg (Nat.lt_irrefl _), if_pos q] at h1
      omega
  apply List.ext_getElem hl
  intro k h1 h2
  have h3 := h k (by have := hv.1; omega)
  unfold nl at h3
  rw [if_pos h1, if_pos h2, List.getD_eq_getElem?_getD, List.getD_eq_getElem?_getD, List.getElem?_eq_getElem h1, List.getElem?_eq_getElem h2] at h3
  have h4 : v[k] - 97 + 1 = w[k] - 97 + 1 := h3
  omega
/-- a name's place among names -/
def fi (w : List Int) : List (List Int) → Nat → Int
  | [], _ => -1
  | x :: xs, i => if x = w then (i : Int) else fi w xs (i + 1)
def s6 (N : Nat → Int) (s : Nat) (w : List Int) : Bool := (List.range 6).all (fun k => decide (N (6 * s + k) = nl w k))
theorem s6_t {N : Nat → Int} {s : Nat} {w : List Int} (h : ∀ k, k < 6 → N (6 * s + k) = nl w k) : s6 N s w = true := List.all_eq_true.mpr (fun k hk => decide_eq_true (h k (List.mem_range.mp hk)))
theorem s6_f {N : Nat → Int} {s : Nat} {w : List Int} (h : s6 N s w = true) {k : Nat} (hk : k < 6) : N (6 * s + k) = nl w k := of_decide_eq_true (List.all_eq_true.mp h k (List.mem_range.mpr hk))
def gs_49 (s : Int) (K : Int → Int) (j : Int) : Int := if j = (6 : Int) then s else K (s + (1 : Int))
def gs_12b (g : Nat → Int) (a e : Int) (N : Nat → Int) (s : Int) (K K2 : Int → Int) (j : Int) : Int := if (6 : Int) ≤ j then gs_49 s K j else (lf_b (F_X5_nameLetter g a e j) (fun r => (if N (Int.toNat ((s * (6 : Int)) + j)) = r then K2 (j + (1 : Int)) else gs_49 s K j)))
def gs_12 (g : Nat → Int) (a e : Int) (N : Nat → Int) (s : Int) (K : Int → Int) : Nat → Int → Int
  | 0 => fun _ => (0 : Int)
  | k + 1 => gs_12b g a e N s K (gs_12 g a e N s K k)
def gs_2b (g : Nat → Int) (a e : Int) (N : Nat → Int) (t : Int) (K : Int → Int) (s : Int) : Int := if t ≤ s then (-1 : Int) else gs_12 g a e N s K 8 (0 : Int)
def gs_2 (g : Nat → Int) (a e : Int) (N : Nat → Int) (t : Int) : Nat → Int → Int
  | 0 => fun _ => (0 : Int)
  | k + 1 => gs_2b g a e N t (gs_2 g a e N t k)
theorem gs_12s {g : Nat → Int} {n p : Nat} {N : Nat → Int} {s : Nat} {K : Int → Int} : ∀ (f j : Nat), j ≤ 6 → 6 - j < f → (∀ k, k < j → N (6 * s + k) = nl (wd g n p) k) → gs_12 g (tx_a g n p : Int) (tx_e g n p : Int) N (s : Int) K f (j : Int) = if s6 N s (wd g n p) = true then (s : Int) else K ((s : Int) + 1) := by
  intro f
  induction f with
  | zero => intro j h1 h2; omega
  | succ f ih =>
    intro j h1 h2 h3
    show gs_12b g (tx_a g n p : Int) (tx_e g n p : Int) N (s : Int) K (gs_12 g (tx_a g n p : Int) (tx_e g n p : Int) N (s : Int) K f) (j : Int) = _
    unfold gs_12b
    repeat rw [lf_b_e]
    rw [cl_nl, show Int.toNat ((s : Int) * (6 : Int) + (j : Int)) = 6 * s + j from by omega]
    by_cases q : j = 6
    · rw [if_pos (by omega)]
      unfold gs_49
      rw [if_pos (by omega), if_pos (s6_t (fun k hk => h3 k (by omega)))]
    · rw [if_neg (by omega)]
      by_cases q2 : N (6 * s + j) = nl (wd g n p) j
      · rw [if_pos q2, show (j : Int) + (1 : Int) = ((j + 1 : Nat) : Int) from by omega]
        exact ih (j + 1) (by omega) (by omega) (fun k hk => by
          by_cases q3 : k = j
          · rw [q3]; exact q2
          · exact h3 k (by omega))
      · rw [if_neg q2]
        unfold gs_49
        rw [if_neg (by omega), if_neg (fun r => q2 (s6_f r (by omega)))]
/-- names kept from a slot on -/
def kept (N : Nat → Int) (fr : Nat) (L : List (List Int)) : Prop := ∀ i, i < L.length → ∀ k, k < 6 → N (6 * (fr + i) + k) = nl (L.getD i []) k
theorem s6_iff {N : Nat → Int} {s : Nat} {v w : List Int} (hv : isW v) (hw : isW w) (h : ∀ k, k < 6 → N (6 * s + k) = nl v k) : s6 N s w = true ↔ v = w := by
  constructor
  · intro q
    exact nl_inj hv hw (fun k hk => (h k hk).symm.trans (s6_f q hk))
  · intro q
    exact s6_t (fun k hk => by rw [← q]; exact h k hk)
theorem gs_2s {g : Nat → Int} {n p : Nat} {N : Nat → Int} {fr : Nat} (hw : isW (wd g n p)) : ∀ (L : List (List Int)) (f i : Nat), (∀ j, j < L.length → isW (L.getD j [])) → kept N (fr + i) L → L.length < f → gs_2 g (tx_a g n p : Int) (tx_e g n p : Int) N ((fr + i + L.length : Nat) : Int) f ((fr + i : Nat) : Int) = if fi (wd g n p) L i = -1 then -1 else fi (wd g n p) L i + (fr : Int) := by
  intro L
  induction L with
  | nil =>
    intro f i h1 h2 h3
    obtain ⟨k, rfl⟩ : ∃ k, f = k + 1 := ⟨f - 1, by have : 0 < f := h3; omega⟩
    show gs_2b g _ _ N _ _ _ = _
    unfold gs_2b
    rw [if_pos (by show ((fr + i + 0 : Nat) : Int) ≤ _; omega)]
    rfl
  | cons x L ih =>
    intro f i h1 h2 h3
    obtain ⟨k, rfl⟩ : ∃ k, f = k + 1 := ⟨f - 1, by have : 0 < f := Nat.lt_of_le_of_lt (Nat.zero_le _) h3; omega⟩
    have h3' : L.length + 1 < k + 1 := h3
    show gs_2b g _ _ N _ (gs_2 g _ _ N _ k) _ = _
    unfold gs_2b
    rw [if_neg (by show ¬ ((fr + i + (L.length + 1) : Nat) : Int) ≤ _; omega)]
    have hx : ∀ k, k < 6 → N (6 * (fr + i) + k) = nl x k := fun k hk => h2 0 (by show 0 < L.length + 1; omega) k hk
    have e := gs_12s (g := g) (n := n) (p := p) (N := N) (s := fr + i) (K := gs_2 g (tx_a g n p : Int) (tx_e g n p : Int) N ((fr + i + (x :: L).length : Nat) : Int) k) 8 0 (by omega) (by omega) (fun k hk => by omega)
    refine Eq.trans e ?_
    show _ = if (if x = wd g n p then (i : Int) else fi (wd g n p) L (i + 1)) = -1 then -1 else (if x = wd g n p then (i : Int) else fi (wd g n p) L (i + 1)) + (fr : Int)
    have h1x : isW x := h1 0 (by show 0 < L.length + 1; omega)
    by_cases q : x = wd g n p
    · rw [if_pos ((s6_iff h1x hw hx).mpr q), if_pos q, if_neg (by omega)]
      omega
    · rw [if_neg (fun r => q ((s6_iff h1x hw hx).mp r)), if_neg q]
      have := ih k (i + 1) (fun j hj => h1 (j + 1) (by show j + 1 < L.length + 1; omega)) (fun j hj k hk => by
        have := h2 (j + 1) (by show j + 1 < L.length + 1; omega) k hk
        rw [show fr + (i + 1) + j = fr + i + (j + 1) from by omega]
        exact this) (by omega)
      rw [show ((fr + i : Nat) : Int) + 1 = ((fr + (i + 1) : Nat) : Int) from by omega, show (fr + i + (x :: L).length) = fr + (i + 1) + L.length from by show fr + i + (L.length + 1) = _; omega]
      exact this
