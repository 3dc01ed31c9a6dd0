/-! codes and the pile: what a code takes and leaves -/
def stp (c : Int32) (d e : Nat) : Prop := if 1000 ≤ c.toInt then e = d + 1 else if 60 ≤ c.toInt then 1 ≤ d ∧ e = d else if 40 ≤ c.toInt then e = d + 1 else if c = 13 then e = d + 1 else if c = 12 then 1 ≤ d ∧ e = d else 2 ≤ d ∧ e + 1 = d
def wfs (f : Nat → Int32) (a : Nat) : Nat → Nat → Prop
  | 0, d => d = 0
  | n + 1, d => ∃ e, wfs f a n e ∧ stp (f (a + n)) e d
theorem stp_det {c : Int32} {d e e' : Nat} (h : stp c d e) (h' : stp c d e') : e = e' := by
  unfold stp at h h'
  split at h
  · rw [if_pos (by assumption)] at h'; omega
  · rw [if_neg (by assumption)] at h'
    split at h
    · rw [if_pos (by assumption)] at h'; omega
    · rw [if_neg (by assumption)] at h'
      split at h
      · rw [if_pos (by assumption)] at h'; omega
      · rw [if_neg (by assumption)] at h'
        split at h
        · rw [if_pos (by assumption)] at h'; omega
        · rw [if_neg (by assumption)] at h'
          split at h
          · rw [if_pos (by assumption)] at h'; omega
          · rw [if_neg (by assumption)] at h'; omega
theorem stp_push {c : Int32} {d e : Nat} (h : stp c d e) (hc : 40 ≤ c.toInt ∨ c = 13) : e ≤ d + 1 := by
  unfold stp at h
  have e13 : (13 : Int32).toInt = 13 := by decide
  split at h
  · omega
  · split at h
    · omega
    · split at h
      · omega
      · split at h
        · omega
        · rcases hc with hc | hc
          · omega
          · exact absurd hc (by assumption)
theorem stp_of {c : Int32} {d e : Nat} (h : stp c d e) (h1 : c.toInt < 1000) (h2 : 60 ≤ c.toInt) : 1 ≤ d ∧ e = d := by
  unfold stp at h
  rw [if_neg (by omega), if_pos h2] at h
  exact h
theorem stp_not {c : Int32} {d e : Nat} (h : stp c d e) (hc : c = 12) : 1 ≤ d ∧ e = d := by
  subst hc
  exact h
theorem stp_join {c : Int32} {d e : Nat} (h : stp c d e) (h1 : c.toInt < 40) (h2 : ¬ c = 13) (h3 : ¬ c = 12) : 2 ≤ d ∧ e + 1 = d := by
  unfold stp at h
  rw [if_neg (by omega), if_neg (by omega), if_neg (by omega), if_neg h2, if_neg h3] at h
  exact h
theorem wfs_det {f : Nat → Int32} {a : Nat} : ∀ {n d e : Nat}, wfs f a n d → wfs f a n e → d = e
  | 0, d, e, h, h' => by have h : d = 0 := h; have h' : e = 0 := h'; omega
  | n + 1, d, e, h, h' => by
    obtain ⟨x, h1, h2⟩ := h
    obtain ⟨y, h3, h4⟩ := h'
    have := wfs_det h1 h3
    subst this
    exact stp_det h2 h4
theorem wfs_pre {f : Nat → Int32} {a n : Nat} : ∀ {m D : Nat}, wfs f a (n + m) D → ∃ d, wfs f a n d
  | 0, D, h => ⟨D, h⟩
  | m + 1, D, h => by
    obtain ⟨x, h1, -⟩ := h
    exact wfs_pre h1
theorem wfs_congr {f g : Nat → Int32} {a b : Nat} : ∀ {n d : Nat}, (∀ i, i < n → g (b + i) = f (a + i)) → wfs f a n d → wfs g b n d
  | 0, d, _, h => h
  | n + 1, d, hc, h => by
    obtain ⟨x, h1, h2⟩ := h
    exact ⟨x, wfs_congr (fun i hi => hc i (Nat.lt_succ_of_lt hi)) h1, by rw [hc n (Nat.lt_succ_self n)]; exact h2⟩
/-- a stretch of codes that can be worked out, without part 7 unless it may be -/
def okc (f : Nat → Int32) (o : Nat) (red : Bool) (a b : Int32) : Prop := (∃ D, wfs f (o + a.toInt.toNat) (b.toInt.toNat - a.toInt.toNat) D) ∧ (red = false → ∀ i : Nat, a.toInt.toNat ≤ i → i < b.toInt.toNat → ¬ f (o + i) = 47)
def cdl (f : Nat → Int32) (o : Nat) (a k q : Int32) : Prop := a.toInt ≤ k.toInt ∧ ∃ d, wfs f (o + a.toInt.toNat) (k.toInt.toNat - a.toInt.toNat) d ∧ (d : Int) ≤ q.toInt
def cdm (f : Nat → Int32) (o : Nat) (a k q : Int32) : Prop := a.toInt ≤ k.toInt ∧ ∃ d, wfs f (o + a.toInt.toNat) (k.toInt.toNat + 1 - a.toInt.toNat) d ∧ (d : Int) ≤ q.toInt
theorem cdl_0 (f : Nat → Int32) (o : Nat) (a : Int32) : cdl f o a a 0 := by
  refine ⟨Int.le_refl _, 0, ?_, by decide⟩
  rw [Nat.sub_self]
  rfl
theorem cdl_code {f : Nat → Int32} {o : Nat} {red : Bool} {a b k q z : Int32} (hok : okc f o red a b) (hg : cdl f o a k q) (ha : 0 ≤ a.toInt) (hk : k.toInt < b.toInt) (hc : f (o + k.toInt.toNat) = z) : ∃ d e : Nat, (d : Int) ≤ q.toInt ∧ stp z d e ∧ wfs f (o + a.toInt.toNat) (k.toInt.toNat + 1 - a.toInt.toNat) e := by
  obtain ⟨⟨D, hD⟩, -⟩ := hok
  obtain ⟨hak, d, hd, hq⟩ := hg
  have e1 : b.toInt.toNat - a.toInt.toNat = (k.toInt.toNat - a.toInt.toNat + 1) + (b.toInt.toNat - k.toInt.toNat - 1) := by omega
  rw [e1] at hD
  obtain ⟨e, he⟩ := wfs_pre hD
  obtain ⟨d', h1, h2⟩ := he
  have := wfs_det hd h1
  subst this
  have e2 : o + a.toInt.toNat + (k.toInt.toNat - a.toInt.toNat) = o + k.toInt.toNat := by omega
  rw [e2, hc] at h2
  refine ⟨d, e, hq, h2, ?_⟩
  have e3 : k.toInt.toNat + 1 - a.toInt.toNat = (k.toInt.toNat - a.toInt.toNat) + 1 := by omega
  rw [e3]
  exact ⟨d, hd, by rw [e2, hc]; exact h2⟩
theorem cdl_ge1 {f : Nat → Int32} {o : Nat} {red : Bool} {a b k q z : Int32} (hok : okc f o red a b) (hg : cdl f o a k q) (ha : 0 ≤ a.toInt) (hk : k.toInt < b.toInt) (hc : f (o + k.toInt.toNat) = z) (h : z = 12 ∨ (z.toInt < 1000 ∧ 60 ≤ z.toInt)) : 1 ≤ q.toInt := by
  obtain ⟨d, e, h1, h2, -⟩ := cdl_code hok hg ha hk hc
  rcases h with h | h
  · have := stp_not h2 h; omega
  · have := stp_of h2 h.1 h.2; omega
theorem cdl_ge2 {f : Nat → Int32} {o : Nat} {red : Bool} {a b k q z : Int32} (hok : okc f o red a b) (hg : cdl f o a k q) (ha : 0 ≤ a.toInt) (hk : k.toInt < b.toInt) (hc : f (o + k.toInt.toNat) = z) (h : z.toInt < 40) (h2 : ¬ z = 13) (h3 : ¬ z = 12) : 2 ≤ q.toInt := by
  obtain ⟨d, e, h1, h4, -⟩ := cdl_code hok hg ha hk hc
  have := stp_join h4 h h2 h3
  omega
theorem cdm_push {f : Nat → Int32} {o : Nat} {red : Bool} {a b k q z q' : Int32} (hok : okc f o red a b) (hg : cdl f o a k q) (ha : 0 ≤ a.toInt) (hk : k.toInt < b.toInt) (hc : f (o + k.toInt.toNat) = z) (h : 40 ≤ z.toInt ∨ z = 13) (hq : q'.toInt = q.toInt + 1) : cdm f o a k q' := by
  obtain ⟨d, e, h1, h2, h3⟩ := cdl_code hok hg ha hk hc
  have := stp_push h2 h
  exact ⟨hg.1, e, h3, by omega⟩
theorem cdm_same {f : Nat → Int32} {o : Nat} {red : Bool} {a b k q z : Int32} (hok : okc f o red a b) (hg : cdl f o a k q) (ha : 0 ≤ a.toInt) (hk : k.toInt < b.toInt) (hc : f (o + k.toInt.toNat) = z) (h : z = 12 ∨ (z.toInt < 1000 ∧ 60 ≤ z.toInt)) : cdm f o a k q := by
  obtain ⟨d, e, h1, h2, h3⟩ := cdl_code hok hg ha hk hc
  rcases h with h | h
  · have := stp_not h2 h
    exact ⟨hg.1, e, h3, by omega⟩
  · have := stp_of h2 h.1 h.2
    exact ⟨hg.1, e, h3, by omega⟩
theorem cdm_join {f : Nat → Int32} {o : Nat} {red : Bool} {a b k q z q' : Int32} (hok : okc f o red a b) (hg : cdl f o a k q) (ha : 0 ≤ a.toInt) (hk : k.toInt < b.toInt) (hc : f (o + k.toInt.toNat) = z) (h : z.toInt < 40) (h2 : ¬ z = 13) (h3 : ¬ z = 12) (hq : q'.toInt = q.toInt - 1) : cdm f o a k q' := by
  obtain ⟨d, e, h1, h4, h5⟩ := cdl_code hok hg ha hk hc
  have := stp_join h4 h h2 h3
  exact ⟨hg.1, e, h5, by omega⟩
theorem cdl_next {f : Nat → Int32} {o : Nat} {a k k' q : Int32} (h : cdm f o a k q) (ha : 0 ≤ a.toInt) (hk : k'.toInt = k.toInt + (1 : Int32).toInt) : cdl f o a k' q := by
  have e1 : (1 : Int32).toInt = 1 := by decide
  obtain ⟨h1, d, h2, h3⟩ := h
  refine ⟨by omega, d, ?_, h3⟩
  have e : k'.toInt.toNat - a.toInt.toNat = k.toInt.toNat + 1 - a.toInt.toNat := by omega
  rw [e]
  exact h2
theorem okc_47 {f : Nat → Int32} {o : Nat} {a b k z y : Int32} (hok : okc f o false a b) (ha : a.toInt ≤ k.toInt) (h0 : 0 ≤ a.toInt) (hk : k.toInt < b.toInt) (hc : f (o + k.toInt.toNat) = z) (hy : y.toInt = z.toInt - (40 : Int32).toInt) (h7 : y = 7) : False := by
  have e40 : (40 : Int32).toInt = 40 := by decide
  have e7 : (7 : Int32).toInt = 7 := by decide
  have e47 : (47 : Int32).toInt = 47 := by decide
  refine hok.2 rfl k.toInt.toNat (by omega) (by omega) ?_
  rw [hc]
  subst h7
  exact Int32.toInt_inj.mp (by omega)
theorem ldv_lt {x z : Int64} {n : Nat} (e : z = x / 27) (hx : ¬ lg_cmp x 0 ≤ 0) (h : x.toInt.toNat < n + 1) : z.toInt.toNat < n := by
  have h0 : (0 : Int64) < x := (lg_cmp_gt x 0).mp (by
    rw [Int32.lt_iff_toInt_lt]
    rw [Int32.le_iff_toInt_le] at hx
    omega)
  rw [Int64.lt_iff_toInt_lt] at h0
  have e0 : (0 : Int64).toInt = 0 := by decide
  have e27 : (27 : Int64).toInt = 27 := by decide
  have hz : z.toInt = x.toInt.tdiv 27 := by
    rw [e, Int64.toInt_div, e27]
    have l1 := Int64.toInt_lt x
    refine Int.bmod_eq_of_le ?_ ?_
    · have := Int.tdiv_nonneg (a := x.toInt) (b := 27) (by omega) (by decide); omega
    · have := Int.tdiv_le_self (a := x.toInt) 27 (by omega); omega
  have hb : x.toInt.tdiv 27 = x.toInt / 27 := Int.tdiv_eq_ediv_of_nonneg (by omega)
  omega
theorem sd_use2 {f : Nat → Int32} {y : Int32} (h : ∀ j : Nat, 3 * (j : Int) < y.toInt → ib (f (3 * j)) 0 11) (i k : Int32) (hi : i.toInt = 3 * k.toInt) (h0 : 0 ≤ k.toInt) (h1 : 3 * k.toInt < y.toInt) : ib (f (Int32.toNatClampNeg i)) 0 11 := by
  have e : Int32.toNatClampNeg i = 3 * k.toInt.toNat := by
    show i.toInt.toNat = 3 * k.toInt.toNat
    omega
  rw [e]
  exact h _ (by omega)
theorem ib_shl1 {y : Int32} (d : Nat) (h : ib y 0 d) (hd : decide (d ≤ 12) = true) : ib (1 <<< (y &&& 31)) 1 (2 ^ d : Nat) := by
  simp only [decide_eq_true_eq] at hd
  have h1 := h.1
  have h2 := h.2
  have key : ∀ j : Nat, j ≤ 12 → ∀ d : Nat, j ≤ d → d ≤ 12 → ib (1 <<< (nI j &&& 31)) 1 (2 ^ d : Nat) := by
    intro j hj d hjd hd
    have e : ∀ j : Nat, j < 13 → (1 <<< (nI j &&& 31)).toInt = ((2 ^ j : Nat) : Int) := by decide
    rw [ib, e j (by omega)]
    have p1 : 0 < 2 ^ j := Nat.pow_pos (by decide)
    have p2 : 2 ^ j ≤ 2 ^ d := Nat.pow_le_pow_right (by decide) hjd
    omega
  have e : y = nI y.toInt.toNat := Int32.toInt_inj.mp (by rw [nI_toInt (by omega)]; omega)
  rw [e]
  exact key _ (by omega) d (by omega) hd
