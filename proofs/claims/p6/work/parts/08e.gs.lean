/-! reading codes: what waits, and how many are done -/
abbrev isb (x : Int32) : Prop := (1 ≤ x.toInt ∧ x.toInt ≤ 4) ∨ (10 ≤ x.toInt ∧ x.toInt ≤ 11) ∨ (23 ≤ x.toInt ∧ x.toInt ≤ 24)
def inS (x : Int32) : Prop := (1 ≤ x.toInt ∧ x.toInt ≤ 4) ∨ (20 ≤ x.toInt ∧ x.toInt ≤ 24) ∨ x.toInt = 60
def inT (x : Int32) : Prop := (10 ≤ x.toInt ∧ x.toInt ≤ 12) ∨ x.toInt = 25
def brk (x : Int32) : Prop := 20 ≤ x.toInt ∧ x.toInt ≤ 24
def bc (w : Nat → Int32) : Nat → Nat
  | 0 => 0
  | m + 1 => bc w m + (if isb (w m) then 1 else 0)
def GS (f : Nat → Int32) (n : Int32) (w : Nat → Int32) (m b t : Int32) (c : Nat) : Prop :=
  0 ≤ n.toInt ∧ 0 ≤ b.toInt ∧ b.toInt ≤ m.toInt ∧ wfs f 0 n.toInt.toNat (bc w m.toInt.toNat + c) ∧ (¬ t = 1 → ∀ i : Nat, i < n.toInt.toNat → ¬ f i = 47) ∧ (∀ i : Nat, i < b.toInt.toNat → inT (w i)) ∧ (∀ i : Nat, b.toInt.toNat ≤ i → i < m.toInt.toNat → inS (w i))
theorem bc_congr {w v : Nat → Int32} : ∀ {m : Nat}, (∀ i, i < m → v i = w i) → bc v m = bc w m
  | 0, _ => rfl
  | m + 1, h => by
    show bc v m + _ = bc w m + _
    rw [bc_congr (fun i hi => h i (Nat.lt_succ_of_lt hi)), h m (Nat.lt_succ_self m)]
theorem upd_lt {w : Nat → Int32} {k : Nat} {x : Int32} : ∀ i, i < k → upd w k x i = w i := fun i hi => pk_un (by omega)
theorem cl_nat {x : Int32} : Int32.toNatClampNeg x = x.toInt.toNat := rfl
theorem wfs_snoc {f : Nat → Int32} {n d e : Nat} {v : Int32} (h : wfs f 0 n d) (hs : stp v d e) : wfs (upd f n v) 0 (n + 1) e := by
  refine ⟨d, wfs_congr (fun i hi => ?_) h, ?_⟩
  · exact upd_lt _ (by omega)
  · rw [Nat.zero_add, pk_us]; exact hs
theorem no47_snoc {f : Nat → Int32} {n : Nat} {v t : Int32} (h : ¬ t = 1 → ∀ i : Nat, i < n → ¬ f i = 47) (hv : ¬ t = 1 → ¬ v = 47) : ¬ t = 1 → ∀ i : Nat, i < n + 1 → ¬ upd f n v i = 47 := by
  intro ht i hi
  by_cases e : i = n
  · subst e; rw [pk_us]; exact hv ht
  · rw [pk_un e]; exact h ht i (by omega)
/-- a code that puts one -/
theorem GS_code {f : Nat → Int32} {n : Int32} {w : Nat → Int32} {m b t : Int32} {c : Nat} {n' v : Int32} (h : GS f n w m b t c) (hn : n'.toInt = n.toInt + 1) (hv : (40 ≤ v.toInt ∧ v.toInt < 60) ∨ 1000 ≤ v.toInt ∨ v.toInt = 13) (h47 : ¬ t = 1 → ¬ v = 47) : GS (upd f (Int32.toNatClampNeg n) v) n' w m b t (c + 1) := by
  obtain ⟨h0, h1, h2, h3, h4, h5, h6⟩ := h
  have e : n'.toInt.toNat = n.toInt.toNat + 1 := by omega
  have e13 : (13 : Int32).toInt = 13 := by decide
  refine ⟨by omega, h1, h2, ?_, ?_, h5, h6⟩
  · rw [e, cl_nat]
    refine wfs_snoc h3 ?_
    unfold stp
    rcases hv with hv | hv | hv
    · rw [if_neg (by omega), if_neg (by omega), if_pos (by omega)]; omega
    · rw [if_pos hv]; omega
    · rw [if_neg (by omega), if_neg (by omega), if_neg (by omega), if_pos (Int32.toInt_inj.mp (by omega))]; omega
  · rw [e, cl_nat]; exact no47_snoc h4 h47
theorem ne47 {v : Int32} (h : ¬ v.toInt = 47) : ¬ v = 47 := fun e => h (by rw [e]; decide)
theorem bc_pop {w : Nat → Int32} {k : Nat} (hk : 0 < k) : bc w k = bc w (k - 1) + (if isb (w (k - 1)) then 1 else 0) := by
  obtain ⟨j, rfl⟩ : ∃ j, k = j + 1 := ⟨k - 1, by omega⟩
  rfl
/-- the last that waits becomes a code -/
theorem drop_wfs {f : Nat → Int32} {n : Nat} {w : Nat → Int32} {k c : Nat} {x : Int32} (hk : 0 < k) (h : wfs f 0 n (bc w k + (c + 1))) (hx : w (k - 1) = x) (hc : (1 ≤ x.toInt ∧ x.toInt ≤ 4) ∨ (10 ≤ x.toInt ∧ x.toInt ≤ 12) ∨ x.toInt = 60) : wfs (upd f n x) 0 (n + 1) (bc w (k - 1) + (c + 1)) := by
  have e12 : (12 : Int32).toInt = 12 := by decide
  have e13 : (13 : Int32).toInt = 13 := by decide
  rw [bc_pop hk, hx] at h
  refine wfs_snoc h ?_
  unfold stp
  by_cases hb : isb x
  · rw [if_pos hb]
    unfold isb at hb
    rw [if_neg (by omega), if_neg (by omega), if_neg (by omega), if_neg (fun e => by rw [e] at hb; omega), if_neg (fun e => by rw [e] at hb; omega)]
    omega
  · rw [if_neg hb]
    unfold isb at hb
    by_cases h6 : x.toInt = 60
    · rw [if_neg (by omega), if_pos (by omega)]; omega
    · rw [if_neg (by omega), if_neg (by omega), if_neg (by omega), if_neg (fun e => by rw [e] at hb hc; omega), if_pos (Int32.toInt_inj.mp (by omega))]; omega
theorem GS_dropS {f : Nat → Int32} {n : Int32} {w : Nat → Int32} {m b t : Int32} {c : Nat} {n' m' x : Int32} (h : GS f n w m b t (c + 1)) (hn : n'.toInt = n.toInt + 1) (hm : m'.toInt = m.toInt - 1) (hb : b.toInt ≤ m'.toInt) (hx : w (Int32.toNatClampNeg m') = x) (hbr : ¬ brk x) : GS (upd f (Int32.toNatClampNeg n) x) n' w m' b t (c + 1) := by
  obtain ⟨h0, h1, h2, h3, h4, h5, h6⟩ := h
  have e : n'.toInt.toNat = n.toInt.toNat + 1 := by omega
  have em : m'.toInt.toNat = m.toInt.toNat - 1 := by omega
  rw [cl_nat, em] at hx
  have hs := h6 (m.toInt.toNat - 1) (by omega) (by omega)
  rw [hx] at hs
  unfold inS at hs
  unfold brk at hbr
  refine ⟨by omega, h1, hb, ?_, ?_, h5, fun i hi hj => h6 i hi (by omega)⟩
  · rw [e, em, cl_nat]; exact drop_wfs (by omega) h3 hx (by omega)
  · rw [e, cl_nat]; exact no47_snoc h4 (fun _ => ne47 (by omega))
theorem GS_dropT {f : Nat → Int32} {n : Int32} {w : Nat → Int32} {m t : Int32} {c : Nat} {n' m' x : Int32} (h : GS f n w m m t (c + 1)) (hn : n'.toInt = n.toInt + 1) (hm : m'.toInt = m.toInt - 1) (hb : 0 ≤ m'.toInt) (hx : w (Int32.toNatClampNeg m') = x) (hbr : ¬ x.toInt = 25) : GS (upd f (Int32.toNatClampNeg n) x) n' w m' m' t (c + 1) := by
  obtain ⟨h0, h1, h2, h3, h4, h5, h6⟩ := h
  have e : n'.toInt.toNat = n.toInt.toNat + 1 := by omega
  have em : m'.toInt.toNat = m.toInt.toNat - 1 := by omega
  rw [cl_nat, em] at hx
  have hs := h5 (m.toInt.toNat - 1) (by omega)
  rw [hx] at hs
  unfold inT at hs
  refine ⟨by omega, hb, Int.le_refl _, ?_, ?_, fun i hi => h5 i (by omega), fun i hi hj => absurd hi (by omega)⟩
  · rw [e, em, cl_nat]; exact drop_wfs (by omega) h3 hx (by omega)
  · rw [e, cl_nat]; exact no47_snoc h4 (fun _ => ne47 (by omega))
/-- one more waits -/
theorem GS_open {f : Nat → Int32} {n : Int32} {w : Nat → Int32} {m b t : Int32} {c : Nat} {m' x : Int32} (h : GS f n w m b t c) (hm : m'.toInt = m.toInt + 1) (hx : (20 ≤ x.toInt ∧ x.toInt ≤ 22) ∨ x.toInt = 60) : GS f n (upd w (Int32.toNatClampNeg m) x) m' b t c := by
  obtain ⟨h0, h1, h2, h3, h4, h5, h6⟩ := h
  have em : m'.toInt.toNat = m.toInt.toNat + 1 := by omega
  rw [cl_nat]
  refine ⟨h0, h1, by omega, ?_, h4, fun i hi => by rw [upd_lt i (by omega)]; exact h5 i hi, fun i hi hj => ?_⟩
  · rw [em]
    have e1 : bc (upd w m.toInt.toNat x) (m.toInt.toNat + 1) = bc w m.toInt.toNat := by
      show bc _ m.toInt.toNat + _ = _
      rw [bc_congr (upd_lt (w := w) (x := x)), pk_us, if_neg (by unfold isb; omega), Nat.add_zero]
    rw [e1]; exact h3
  · by_cases e : i = m.toInt.toNat
    · subst e; rw [pk_us]; unfold inS; omega
    · rw [pk_un e]; exact h6 i hi (by omega)
theorem GS_openT {f : Nat → Int32} {n : Int32} {w : Nat → Int32} {m t : Int32} {c : Nat} {m' x : Int32} (h : GS f n w m m t c) (hm : m'.toInt = m.toInt + 1) (hx : x.toInt = 12 ∨ x.toInt = 25) : GS f n (upd w (Int32.toNatClampNeg m) x) m' m' t c := by
  obtain ⟨h0, h1, h2, h3, h4, h5, h6⟩ := h
  have em : m'.toInt.toNat = m.toInt.toNat + 1 := by omega
  rw [cl_nat]
  refine ⟨h0, by omega, Int.le_refl _, ?_, h4, fun i hi => ?_, fun i hi hj => absurd hi (by omega)⟩
  · rw [em]
    have e1 : bc (upd w m.toInt.toNat x) (m.toInt.toNat + 1) = bc w m.toInt.toNat := by
      show bc _ m.toInt.toNat + _ = _
      rw [bc_congr (upd_lt (w := w) (x := x)), pk_us, if_neg (by unfold isb; omega), Nat.add_zero]
    rw [e1]; exact h3
  · by_cases e : i = m.toInt.toNat
    · subst e; rw [pk_us]; unfold inT; omega
    · rw [pk_un e]; exact h5 i (by omega)
/-- an operation waits behind its first -/
theorem GS_op {f : Nat → Int32} {n : Int32} {w : Nat → Int32} {m b t : Int32} {c : Nat} {m' x : Int32} (h : GS f n w m b t (c + 1)) (hm : m'.toInt = m.toInt + 1) (hx : 1 ≤ x.toInt ∧ x.toInt ≤ 4) : GS f n (upd w (Int32.toNatClampNeg m) x) m' b t c := by
  obtain ⟨h0, h1, h2, h3, h4, h5, h6⟩ := h
  have em : m'.toInt.toNat = m.toInt.toNat + 1 := by omega
  rw [cl_nat]
  refine ⟨h0, h1, by omega, ?_, h4, fun i hi => by rw [upd_lt i (by omega)]; exact h5 i hi, fun i hi hj => ?_⟩
  · rw [em]
    have e1 : bc (upd w m.toInt.toNat x) (m.toInt.toNat + 1) = bc w m.toInt.toNat + 1 := by
      show bc _ m.toInt.toNat + _ = _
      rw [bc_congr (upd_lt (w := w) (x := x)), pk_us, if_pos (by unfold isb; omega)]
    rw [e1, Nat.add_assoc, Nat.add_comm 1 c]; exact h3
  · by_cases e : i = m.toInt.toNat
    · subst e; rw [pk_us]; unfold inS; omega
    · rw [pk_un e]; exact h6 i hi (by omega)
theorem GS_opT {f : Nat → Int32} {n : Int32} {w : Nat → Int32} {m t : Int32} {c : Nat} {m' x : Int32} (h : GS f n w m m t (c + 1)) (hm : m'.toInt = m.toInt + 1) (hx : 10 ≤ x.toInt ∧ x.toInt ≤ 11) : GS f n (upd w (Int32.toNatClampNeg m) x) m' m' t c := by
  obtain ⟨h0, h1, h2, h3, h4, h5, h6⟩ := h
  have em : m'.toInt.toNat = m.toInt.toNat + 1 := by omega
  rw [cl_nat]
  refine ⟨h0, by omega, Int.le_refl _, ?_, h4, fun i hi => ?_, fun i hi hj => absurd hi (by omega)⟩
  · rw [em]
    have e1 : bc (upd w m.toInt.toNat x) (m.toInt.toNat + 1) = bc w m.toInt.toNat + 1 := by
      show bc _ m.toInt.toNat + _ = _
      rw [bc_congr (upd_lt (w := w) (x := x)), pk_us, if_pos (by unfold isb; omega)]
    rw [e1, Nat.add_assoc, Nat.add_comm 1 c]; exact h3
  · by_cases e : i = m.toInt.toNat
    · subst e; rw [pk_us]; unfold inT; omega
    · rw [pk_un e]; exact h5 i (by omega)
/-- a bracket goes -/
theorem GS_pop {f : Nat → Int32} {n : Int32} {w : Nat → Int32} {m b t : Int32} {c : Nat} {m' : Int32} (h : GS f n w m b t (c + 1)) (hm : m'.toInt = m.toInt - 1) (hb : b.toInt ≤ m'.toInt) (hx : (w (Int32.toNatClampNeg m')).toInt = 20) : GS f n w m' b t (c + 1) := by
  obtain ⟨h0, h1, h2, h3, h4, h5, h6⟩ := h
  have em : m'.toInt.toNat = m.toInt.toNat - 1 := by omega
  rw [cl_nat, em] at hx
  refine ⟨h0, h1, hb, ?_, h4, h5, fun i hi hj => h6 i hi (by omega)⟩
  rw [bc_pop (by omega), if_neg (by unfold isb; omega), Nat.add_zero] at h3
  rw [em]; exact h3
theorem GS_popT {f : Nat → Int32} {n : Int32} {w : Nat → Int32} {m t : Int32} {c : Nat} {m' : Int32} (h : GS f n w m m t (c + 1)) (hm : m'.toInt = m.toInt - 1) (hb : 0 ≤ m'.toInt) (hx : (w (Int32.toNatClampNeg m')).toInt = 25) : GS f n w m' m' t (c + 1) := by
  obtain ⟨h0, h1, h2, h3, h4, h5, h6⟩ := h
  have em : m'.toInt.toNat = m.toInt.toNat - 1 := by omega
  rw [cl_nat, em] at hx
  refine ⟨h0, hb, Int.le_refl _, ?_, h4, fun i hi => h5 i (by omega), fun i hi hj => absurd hi (by omega)⟩
  rw [bc_pop (by omega), if_neg (by unfold isb; omega), Nat.add_zero] at h3
  rw [em]; exact h3
/-- least of, most of: behind the second -/
theorem GS_mm {f : Nat → Int32} {n : Int32} {w : Nat → Int32} {m b t : Int32} {c : Nat} {n' m' v : Int32} (h : GS f n w m b t (c + 1)) (hm : m'.toInt = m.toInt - 1) (hb : b.toInt ≤ m'.toInt) (hx : 23 ≤ (w (Int32.toNatClampNeg m')).toInt ∧ (w (Int32.toNatClampNeg m')).toInt ≤ 24) (hn : n'.toInt = n.toInt + 1) (hv : 5 ≤ v.toInt ∧ v.toInt ≤ 6) : GS (upd f (Int32.toNatClampNeg n) v) n' w m' b t (c + 1) := by
  obtain ⟨h0, h1, h2, h3, h4, h5, h6⟩ := h
  have e : n'.toInt.toNat = n.toInt.toNat + 1 := by omega
  have em : m'.toInt.toNat = m.toInt.toNat - 1 := by omega
  have e12 : (12 : Int32).toInt = 12 := by decide
  have e13 : (13 : Int32).toInt = 13 := by decide
  rw [cl_nat, em] at hx
  refine ⟨by omega, h1, hb, ?_, ?_, h5, fun i hi hj => h6 i hi (by omega)⟩
  · rw [bc_pop (by omega), if_pos (by unfold isb; omega)] at h3
    rw [e, em, cl_nat]
    refine wfs_snoc h3 ?_
    unfold stp
    rw [if_neg (by omega), if_neg (by omega), if_neg (by omega), if_neg (fun q => by rw [q] at hv; omega), if_neg (fun q => by rw [q] at hv; omega)]
    omega
  · rw [e, cl_nat]; exact no47_snoc h4 (fun _ => ne47 (by omega))
theorem GS_comma {f : Nat → Int32} {n : Int32} {w : Nat → Int32} {m b t : Int32} {c : Nat} {k x : Int32} (h : GS f n w m b t (c + 1)) (hk : k.toInt = m.toInt - 1) (hb : b.toInt ≤ k.toInt) (hx : 21 ≤ (w (Int32.toNatClampNeg k)).toInt ∧ (w (Int32.toNatClampNeg k)).toInt ≤ 22) (hv : 23 ≤ x.toInt ∧ x.toInt ≤ 24) : GS f n (upd w (Int32.toNatClampNeg k) x) m b t c := by
  obtain ⟨h0, h1, h2, h3, h4, h5, h6⟩ := h
  have em : k.toInt.toNat = m.toInt.toNat - 1 := by omega
  rw [cl_nat, em] at hx
  rw [cl_nat, em]
  refine ⟨h0, h1, h2, ?_, h4, fun i hi => by rw [pk_un (by omega)]; exact h5 i hi, fun i hi hj => ?_⟩
  · rw [bc_pop (by omega), if_neg (by unfold isb; omega), Nat.add_zero] at h3
    rw [bc_pop (by omega), pk_us, if_pos (by unfold isb; omega), bc_congr (upd_lt (w := w) (x := x)), Nat.add_assoc, Nat.add_comm 1 c]
    exact h3
  · by_cases e : i = m.toInt.toNat - 1
    · subst e; rw [pk_us]; unfold inS; omega
    · rw [pk_un e]; exact h6 i hi hj
/-- below, above, same -/
theorem GS_cmp {f : Nat → Int32} {n : Int32} {w : Nat → Int32} {m b t : Int32} {c : Nat} {n' v : Int32} (h : GS f n w m b t (c + 2)) (hn : n'.toInt = n.toInt + 1) (hv : 7 ≤ v.toInt ∧ v.toInt ≤ 9) : GS (upd f (Int32.toNatClampNeg n) v) n' w m b t (c + 1) := by
  obtain ⟨h0, h1, h2, h3, h4, h5, h6⟩ := h
  have e : n'.toInt.toNat = n.toInt.toNat + 1 := by omega
  have e12 : (12 : Int32).toInt = 12 := by decide
  have e13 : (13 : Int32).toInt = 13 := by decide
  refine ⟨by omega, h1, h2, ?_, ?_, h5, h6⟩
  · rw [e, cl_nat]
    refine wfs_snoc h3 ?_
    unfold stp
    rw [if_neg (by omega), if_neg (by omega), if_neg (by omega), if_neg (fun q => by rw [q] at hv; omega), if_neg (fun q => by rw [q] at hv; omega)]
    omega
  · rw [e, cl_nat]; exact no47_snoc h4 (fun _ => ne47 (by omega))
theorem GS_0 (f w : Nat → Int32) (t : Int32) : GS f 0 w 0 0 t 0 := by
  have e0 : (0 : Int32).toInt = 0 := by decide
  refine ⟨by decide, by decide, Int.le_refl _, ?_, fun _ i hi => absurd hi (by rw [e0]; simp), fun i hi => absurd hi (by rw [e0]; simp), fun i hi hj => absurd hj (by rw [e0]; simp)⟩
  rw [e0]
  rfl
/-- the sum at hand is done: nothing waits above its base -/
theorem GS_top {f : Nat → Int32} {n : Int32} {w : Nat → Int32} {m b t m' : Int32} {c : Nat} (h : GS f n w m b t c) (hm : m.toInt ≤ b.toInt) (e : m' = b) : GS f n w m' m' t c := by
  obtain ⟨h0, h1, h2, h3, h4, h5, h6⟩ := h
  have : m = b := Int32.toInt_inj.mp (by omega)
  subst this
  subst e
  exact ⟨h0, h1, Int.le_refl _, h3, h4, h5, fun i hi hj => absurd hj (by omega)⟩
theorem GS_okc {f : Nat → Int32} {n : Int32} {w : Nat → Int32} {m b t : Int32} {c : Nat} (h : GS f n w m b t c) : (∃ D, wfs f 0 n.toInt.toNat D) ∧ (¬ t = 1 → ∀ i : Nat, i < n.toInt.toNat → ¬ f i = 47) := ⟨⟨_, h.2.2.2.1⟩, h.2.2.2.2.1⟩
/-- what qBracket tells -/
def BR (w : Nat → Int32) (m b r : Int32) : Prop := (r = -1 ∧ ∀ i : Nat, b.toInt.toNat ≤ i → i < m.toInt.toNat → ¬ brk (w i)) ∨ (∃ i : Nat, b.toInt.toNat ≤ i ∧ i < m.toInt.toNat ∧ w i = r ∧ brk r ∧ ∀ j : Nat, i < j → j < m.toInt.toNat → ¬ brk (w j))
/-- where qDropsToBracket stops -/
def DB (w : Nat → Int32) (m b m' : Int32) : Prop := ∀ i : Nat, b.toInt.toNat ≤ i → i < m.toInt.toNat → brk (w i) → (∀ j : Nat, i < j → j < m.toInt.toNat → ¬ brk (w j)) → m'.toInt.toNat = i + 1
theorem BR_DB {w : Nat → Int32} {m b r m' : Int32} (h : BR w m b r) (hd : DB w m b m') (hr : ¬ r = -1) : w (m'.toInt.toNat - 1) = r ∧ b.toInt.toNat < m'.toInt.toNat := by
  rcases h with h | ⟨i, h1, h2, h3, h4, h5⟩
  · exact absurd h.1 hr
  · have := hd i h1 h2 (by rw [h3]; exact h4) h5
    rw [this]
    exact ⟨h3, by omega⟩
theorem cn {a b : Int32} (h : a.toInt = b.toInt) : a = b := Int32.toInt_inj.mp h
theorem DB_end {w : Nat → Int32} {m0 b m : Int32} (hg : ∀ i : Nat, m.toInt ≤ (i : Int) → (i : Int) < m0.toInt → ¬ brk (w i)) (hb : 0 ≤ b.toInt) (h0 : 0 ≤ m.toInt) (hm : m.toInt ≤ m0.toInt) (h : m.toInt ≤ b.toInt ∨ (1 ≤ m.toInt ∧ brk (w (m.toInt.toNat - 1)))) : DB w m0 b m := by
  intro i h1 h2 h3 h4
  have q1 : ¬ m.toInt ≤ (i : Int) := fun q => hg i q (by omega) h3
  rcases h with h | ⟨h, h5⟩
  · omega
  · by_cases q2 : i + 1 = m.toInt.toNat
    · exact q2.symm
    · exact absurd h5 (h4 (m.toInt.toNat - 1) (by omega) (by omega))
/-- 1 where a loop ends at its next test -/
def stq (a b : Int32) : Int := if a = 0 ∨ ¬ b = 0 then 1 else 0
theorem stq_le (a b : Int32) : 0 ≤ stq a b ∧ stq a b ≤ 1 := by unfold stq; split <;> omega
theorem stq_0 {a b : Int32} (ha : ¬ a = 0) (hb : b = 0) : stq a b = 0 := by unfold stq; rw [if_neg (fun q => q.elim ha (fun q => q hb))]
theorem stq_1 {a b : Int32} (h : a = 0 ∨ ¬ b = 0) : stq a b = 1 := by unfold stq; rw [if_pos h]
theorem GS_base {f : Nat → Int32} {n : Int32} {w : Nat → Int32} {m b t : Int32} {c : Nat} (h : GS f n w m b t c) (hm : 1 ≤ m.toInt) (hx : ¬ inT (w (m.toInt - 1).toNat)) : b.toInt ≤ m.toInt - 1 := by
  obtain ⟨h0, h1, h2, h3, h4, h5, h6⟩ := h
  rcases Int.lt_or_le (m.toInt - 1) b.toInt with q | q
  · exact absurd (h5 (m.toInt - 1).toNat (by omega)) hx
  · exact q
theorem BR_none {w : Nat → Int32} {m b r : Int32} (h : BR w m b r) (hr : r = -1) : ∀ i : Nat, b.toInt.toNat ≤ i → i < m.toInt.toNat → ¬ brk (w i) := by
  rcases h with h | ⟨i, h1, h2, h3, h4, h5⟩
  · exact h.2
  · subst hr
    have e : (-1 : Int32).toInt = -1 := by decide
    unfold brk at h4
    omega
theorem add_1000 {r z : Int32} (e : z = 1000 + r) (h : ib r 0 9999) : 1000 ≤ z.toInt := by
  have q := (ib_add (ib_c 1000 1000 1000 (by decide)) h (by decide)).2
  have e1 : (1000 : Int32).toInt = 1000 := by decide
  have h1 := h.1
  rw [e, q]
  omega
/-- no blank stands here -/
def NB (f : Nat → Int32) (a e : Int32) : Prop := e.toInt ≤ a.toInt ∨ (¬ f (Int32.toNatClampNeg a) = 10 ∧ ¬ f (Int32.toNatClampNeg a) = 32)
theorem GS_top2 {f : Nat → Int32} {n : Int32} {w : Nat → Int32} {m b t : Int32} {c : Nat} (h : GS f n w m b t c) (hm : m.toInt ≤ b.toInt) : GS f n w m m t c := by
  have e : m = b := cn (by have := h.2.2.1; omega)
  exact GS_top h hm e
theorem hs_drop {w : Nat → Int32} {m m' : Int32} (h : ∃ i : Nat, i < m.toInt.toNat ∧ w i = 25) (hm : m'.toInt = m.toInt - 1) (hx : ¬ w (Int32.toNatClampNeg m') = 25) : ∃ i : Nat, i < m'.toInt.toNat ∧ w i = 25 := by
  obtain ⟨i, h1, h2⟩ := h
  refine ⟨i, ?_, h2⟩
  by_cases e : i = Int32.toNatClampNeg m'
  · exact absurd h2 (e ▸ hx)
  · have e2 : ¬ i = m'.toInt.toNat := e
    omega
theorem hs_pos {w : Nat → Int32} {m : Int32} (h : ∃ i : Nat, i < m.toInt.toNat ∧ w i = 25) : 1 ≤ m.toInt := by
  obtain ⟨i, h1, -⟩ := h
  omega
