/-! what the text tells as codes: from the reading to the working out -/
theorem okc_GS {f : Nat → Int32} {n : Int32} {w : Nat → Int32} {m b t : Int32} {c : Nat} (h : GS f n w m b t c) (ht : ¬ t = 1) : okc f 0 false 0 n := by
  have e0 : (0 : Int32).toInt.toNat = 0 := by decide
  refine ⟨?_, fun _ i _ hi => ?_⟩
  · rw [e0]; exact ⟨_, h.2.2.2.1⟩
  · rw [Nat.zero_add]; exact h.2.2.2.2.1 ht i hi
def TI (f e c : Nat → Int32) (co : Int32) : Prop := ∀ w : Nat, w < 3 → ¬ f w = -1 → 0 ≤ (f w).toInt ∧ (e w).toInt ≤ co.toInt ∧ okc c 0 (decide (w = 1)) (f w) (e w)
def okw (q : Nat → Int32) (n t : Int32) : Prop := (∃ D, wfs q 0 n.toInt.toNat D) ∧ (¬ t = 1 → ∀ i : Nat, i < n.toInt.toNat → ¬ q i = 47)
theorem TI_0 {f e c : Nat → Int32} {co : Int32} (h0 : f 0 = -1) (h1 : f 1 = -1) (h2 : f 2 = -1) : TI f e c co := by
  intro w hw hn
  match w, hw with
  | 0, _ => exact absurd h0 hn
  | 1, _ => exact absurd h1 hn
  | 2, _ => exact absurd h2 hn
theorem okc_congr {c d : Nat → Int32} {o p : Nat} {red : Bool} {a b : Int32} (h : okc c o red a b) (hc : ∀ i : Nat, a.toInt.toNat ≤ i → i < b.toInt.toNat → d (p + i) = c (o + i)) : okc d p red a b := by
  obtain ⟨⟨D, hD⟩, h47⟩ := h
  refine ⟨⟨D, wfs_congr (fun i hi => ?_) hD⟩, fun hr i h1 h2 => by rw [hc i h1 h2]; exact h47 hr i h1 h2⟩
  have e1 : p + a.toInt.toNat + i = p + (a.toInt.toNat + i) := by omega
  have e2 : o + a.toInt.toNat + i = o + (a.toInt.toNat + i) := by omega
  rw [e1, e2]
  exact hc _ (by omega) (by omega)
theorem TI_new {f e c c' q : Nat → Int32} {co co' n t : Int32} (k : Nat) (hk : k < 3) (ht : t = 1 → k = 1) (h : TI f e c co) (h0 : 0 ≤ co.toInt) (hn : 0 ≤ n.toInt) (hco : co'.toInt = co.toInt + n.toInt) (hq : okw q n t) (hold : ∀ p : Nat, p < co.toInt.toNat → c' p = c p) (hnew : ∀ j : Nat, j < n.toInt.toNat → c' (co.toInt.toNat + j) = q j) : TI (upd f k co) (upd e k co') c' co' := by
  intro w hw hn1
  by_cases e1 : w = k
  · subst e1
    rw [pk_us] at hn1 ⊢
    rw [pk_us]
    refine ⟨h0, Int.le_refl _, ?_, ?_⟩
    · obtain ⟨D, hD⟩ := hq.1
      refine ⟨D, ?_⟩
      have e2 : co'.toInt.toNat - co.toInt.toNat = n.toInt.toNat := by omega
      rw [e2]
      exact wfs_congr (fun i hi => by rw [Nat.zero_add, Nat.zero_add]; exact hnew i hi) hD
    · intro hr i h1 h2
      rw [Nat.zero_add]
      have e3 : i = co.toInt.toNat + (i - co.toInt.toNat) := by omega
      rw [e3, hnew _ (by omega)]
      exact hq.2 (fun q1 => by have := ht q1; simp [this] at hr) _ (by omega)
  · rw [pk_un e1] at hn1 ⊢
    rw [pk_un e1]
    obtain ⟨a1, a2, a3⟩ := h w hw hn1
    refine ⟨a1, by omega, okc_congr a3 (fun i h1 h2 => ?_)⟩
    rw [Nat.zero_add]
    exact hold i (by omega)
theorem cp_step {c c' g q : Nat → Int32} {co i i' z : Int32} {xc : Nat} (h1 : ∀ j : Nat, (j : Int) < i.toInt → c (xc + j) = q j) (h2 : ∀ p : Nat, p < xc ∨ 1600 ≤ p → c p = g p) (hu : c' = upd c (Int32.toNatClampNeg co) z) (hz : z = q (Int32.toNatClampNeg i)) (hco : co.toInt = (xc : Int) + i.toInt) (hi0 : 0 ≤ i.toInt) (hlt : co.toInt < 1600) (hi : i'.toInt = i.toInt + (1 : Int32).toInt) : (∀ j : Nat, (j : Int) < i'.toInt → c' (xc + j) = q j) ∧ (∀ p : Nat, p < xc ∨ 1600 ≤ p → c' p = g p) := by
  have e1 : (1 : Int32).toInt = 1 := by decide
  have ec : Int32.toNatClampNeg co = xc + i.toInt.toNat := by show co.toInt.toNat = _; omega
  have ei : Int32.toNatClampNeg i = i.toInt.toNat := rfl
  subst hu
  rw [ec]
  constructor
  · intro j hj
    by_cases e : j = i.toInt.toNat
    · subst e; rw [pk_us, hz, ei]
    · rw [pk_un (by omega)]; exact h1 j (by omega)
  · intro p hp
    rw [pk_un (by omega)]; exact h2 p hp
theorem ST_ok {f e c f' e' c' : Nat → Int32} {co : Int32} (h : TI f e c co) (hf : ∀ w : Nat, w < 3 → f' (3 + w) = f w) (he : ∀ w : Nat, w < 3 → e' (3 + w) = e w) (hc : ∀ j : Nat, (j : Int) < co.toInt → c' (1600 + j) = c j) (w : Nat) (hw : w < 3) (hn : ¬ f' (3 + w) = -1) : okc c' 1600 (decide (w = 1)) (f' (3 + w)) (e' (3 + w)) := by
  rw [hf w hw] at hn ⊢
  rw [he w hw]
  obtain ⟨a1, a2, a3⟩ := h w hw hn
  exact okc_congr a3 (fun i h1 h2 => by rw [Nat.zero_add]; exact hc i (by omega))
theorem cf_3 {g f1 f2 f3 : Nat → Int32} (h1 : f1 = upd g 3 (g 0)) (h2 : f2 = upd f1 4 (f1 1)) (h3 : f3 = upd f2 5 (f2 2)) : ∀ w : Nat, w < 3 → f3 (3 + w) = g w := by
  intro w hw
  subst h3; subst h2; subst h1
  match w, hw with
  | 0, _ => rw [pk_un (by decide), pk_un (by decide), pk_us]
  | 1, _ => rw [pk_un (by decide), pk_us, pk_un (by decide)]
  | 2, _ => rw [pk_us, pk_un (by decide), pk_un (by decide)]
theorem okc_up {f e c f' e' c' : Nat → Int32} {red : Bool} {k : Nat} (h : ¬ f k = -1 → okc c 1600 red (f k) (e k)) (hf : f' k = f k) (he : e' k = e k) (hc : ∀ p : Nat, 1600 ≤ p → c' p = c p) : ¬ f' k = -1 → okc c' 1600 red (f' k) (e' k) := by
  intro q
  rw [hf] at q ⊢
  rw [he]
  exact okc_congr (h q) (fun i h1 h2 => hc _ (by omega))
