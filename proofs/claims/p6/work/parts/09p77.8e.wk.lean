/-! who walks when: one description -/
abbrev wzT : Type := (Nat → Int) × (Nat → Int) × Int
def upn (f : Nat → Int) (w : Nat) (v : Int) : Nat → Int := fun k => if k = w then v else f k
theorem upn_y (f : Nat → Int) (w : Nat) (v : Int) : upn f w v w = v := if_pos rfl
theorem upn_o {f : Nat → Int} {w k : Nat} {v : Int} (h : ¬ k = w) : upn f w v k = f k := if_neg h
def here (cA : Nat → Int) (ab : Nat → Bool) (s w : Nat) (z : wzT) : Bool := decide (cA w ≤ (s : Int)) && !ab w && decide (z.1 w = -1)
def wstep (cA pcw : Nat → Int) (ab : Nat → Bool) (lf gp : Nat → Int) (G : Nat → Nat → Int → Bool) (s w : Nat) (z : wzT) : wzT := if here cA ab s w z = true then (if pcw w ≤ lf s then (upn z.1 w (s : Int), upn z.2.1 w 1, z.2.2) else if G w s z.2.2 = true then (upn z.1 w (s : Int), upn z.2.1 w (if gp s < pcw w then 3 else 2), z.2.2 + 1) else z) else z
def wrow (cA pcw : Nat → Int) (ab : Nat → Bool) (lf gp : Nat → Int) (G : Nat → Nat → Int → Bool) (s : Nat) : Nat → wzT → wzT
  | 0, z => z
  | k + 1, z => wstep cA pcw ab lf gp G s k (wrow cA pcw ab lf gp G s k z)
def wzS (nW : Nat) (cA pcw : Nat → Int) (ab : Nat → Bool) (lf gp : Nat → Int) (G : Nat → Nat → Int → Bool) : Nat → wzT
  | 0 => (fun _ => -1, fun _ => 0, 0)
  | s + 1 => wrow cA pcw ab lf gp G s nW (wzS nW cA pcw ab lf gp G s)
/-- how many of the first k -/
def cnf (f : Nat → Bool) : Nat → Int
  | 0 => 0
  | k + 1 => cnf f k + b2 (f k)
theorem cnf_le (f : Nat → Bool) : ∀ k, 0 ≤ cnf f k ∧ cnf f k ≤ (k : Int)
  | 0 => ⟨Int.le_refl _, Int.le_refl _⟩
  | k + 1 => by
    have ih := cnf_le f k
    show 0 ≤ cnf f k + b2 (f k) ∧ cnf f k + b2 (f k) ≤ ((k + 1 : Nat) : Int)
    cases f k
    · show 0 ≤ cnf f k + 0 ∧ cnf f k + 0 ≤ ((k + 1 : Nat) : Int)
      omega
    · show 0 ≤ cnf f k + 1 ∧ cnf f k + 1 ≤ ((k + 1 : Nat) : Int)
      omega
theorem cnf_lt {f : Nat → Bool} {w : Nat} : ∀ k, w < k → f w = false → cnf f k ≤ (k : Int) - 1
  | 0, h, _ => absurd h (Nat.not_lt_zero w)
  | k + 1, h, hf => by
    show cnf f k + b2 (f k) ≤ ((k + 1 : Nat) : Int) - 1
    by_cases q : w = k
    · rw [← q, hf]
      have := (cnf_le f w).2
      show cnf f w + 0 ≤ _
      omega
    · have := cnf_lt k (by omega) hf
      cases f k
      · show cnf f k + 0 ≤ _
        omega
      · show cnf f k + 1 ≤ _
        omega
theorem cnf_cg {f g : Nat → Bool} : ∀ k, (∀ w, w < k → f w = g w) → cnf f k = cnf g k
  | 0, _ => rfl
  | k + 1, h => by
    show cnf f k + b2 (f k) = cnf g k + b2 (g k)
    rw [cnf_cg k (fun w hw => h w (by omega)), h k (Nat.lt_succ_self k)]
theorem cnf_up {f g : Nat → Bool} {w : Nat} (hf : f w = false) (hg : g w = true) (h : ∀ v, ¬ v = w → g v = f v) : ∀ k, w < k → cnf g k = cnf f k + 1
  | 0, h0 => absurd h0 (Nat.not_lt_zero w)
  | k + 1, h0 => by
    show cnf g k + b2 (g k) = cnf f k + b2 (f k) + 1
    by_cases q : w = k
    · rw [← q, hf, hg, cnf_cg (f := g) (g := f) w (fun v hv => h v (by omega))]
      show cnf f w + 1 = cnf f w + 0 + 1
      omega
    · rw [cnf_up hf hg h k (by omega), h k (fun r => q r.symm)]
      omega
/-- what stands at each second -/
def spI (nW : Nat) (cA : Nat → Int) (ab : Nat → Bool) (s : Nat) (z : wzT) : Prop := (∀ w, (z.1 w = -1 ↔ z.2.1 w = 0) ∧ (0 ≤ z.2.1 w ∧ z.2.1 w ≤ 3) ∧ (¬ z.1 w = -1 → w < nW ∧ 0 ≤ z.1 w ∧ z.1 w < (s : Int) ∧ cA w ≤ z.1 w ∧ ab w = false)) ∧ z.2.2 = cnf (fun w => decide (2 ≤ z.2.1 w)) nW
section WK
variable {nW : Nat} {cA pcw : Nat → Int} {ab : Nat → Bool} {lf gp : Nat → Int} {G : Nat → Nat → Int → Bool}
theorem spI_up {s w : Nat} {z : wzT} {v : Int} (h : spI nW cA ab (s + 1) z) (hw : w < nW) (hh : here cA ab s w z = true) (hv : 1 ≤ v ∧ v ≤ 3) : spI nW cA ab (s + 1) (upn z.1 w (s : Int), upn z.2.1 w v, if 2 ≤ v then z.2.2 + 1 else z.2.2) := by
  unfold here at hh
  rw [Bool.and_eq_true, Bool.and_eq_true] at hh
  have h1 := of_decide_eq_true hh.1.1
  have h2 : ab w = false := by
    have := hh.1.2
    cases c : ab w
    · rfl
    · rw [c] at this
      exact Bool.noConfusion this
  have h3 := of_decide_eq_true hh.2
  have h30 := ((h.1 w).1).mp h3
  refine ⟨fun u => ?_, ?_⟩
  · by_cases q : u = w
    · subst q
      show (upn z.1 u (s : Int) u = -1 ↔ upn z.2.1 u v u = 0) ∧ (0 ≤ upn z.2.1 u v u ∧ upn z.2.1 u v u ≤ 3) ∧ (¬ upn z.1 u (s : Int) u = -1 → u < nW ∧ 0 ≤ upn z.1 u (s : Int) u ∧ upn z.1 u (s : Int) u < ((s + 1 : Nat) : Int) ∧ cA u ≤ upn z.1 u (s : Int) u ∧ ab u = false)
      rw [upn_y, upn_y]
      exact ⟨⟨fun r => by omega, fun r => by omega⟩, ⟨by omega, by omega⟩, fun _ => ⟨hw, by omega, by omega, h1, h2⟩⟩
    · show (upn z.1 w (s : Int) u = -1 ↔ upn z.2.1 w v u = 0) ∧ (0 ≤ upn z.2.1 w v u ∧ upn z.2.1 w v u ≤ 3) ∧ (¬ upn z.1 w (s : Int) u = -1 → u < nW ∧ 0 ≤ upn z.1 w (s : Int) u ∧ upn z.1 w (s : Int) u < ((s + 1 : Nat) : Int) ∧ cA u ≤ upn z.1 w (s : Int) u ∧ ab u = false)
      rw [upn_o q, upn_o q]
      exact h.1 u
  · show (if 2 ≤ v then z.2.2 + 1 else z.2.2) = cnf (fun u => decide (2 ≤ upn z.2.1 w v u)) nW
    by_cases q : 2 ≤ v
    · rw [if_pos q, h.2]
      refine (cnf_up (f := fun u => decide (2 ≤ z.2.1 u)) (w := w) ?_ ?_ ?_ nW hw).symm
      · exact decide_eq_false (by omega)
      · show decide (2 ≤ upn z.2.1 w v w) = true
        rw [upn_y]
        exact decide_eq_true q
      · intro u hu
        show decide (2 ≤ upn z.2.1 w v u) = _
        rw [upn_o hu]
    · rw [if_neg q, h.2]
      refine cnf_cg nW (fun u _ => ?_)
      show _ = decide (2 ≤ upn z.2.1 w v u)
      by_cases e : u = w
      · rw [e, upn_y, decide_eq_false q]
        exact decide_eq_false (by omega)
      · rw [upn_o e]
theorem spI_step {s w : Nat} {z : wzT} (h : spI nW cA ab (s + 1) z) (hw : w < nW) : spI nW cA ab (s + 1) (wstep cA pcw ab lf gp G s w z) := by
  unfold wstep
  by_cases c1 : here cA ab s w z = true
  · rw [if_pos c1]
    by_cases c2 : pcw w ≤ lf s
    · rw [if_pos c2]
      exact spI_up (v := 1) h hw c1 (by omega)
    · rw [if_neg c2]
      by_cases c3 : G w s z.2.2 = true
      · rw [if_pos c3]
        by_cases c4 : gp s < pcw w
        · rw [if_pos c4]
          exact spI_up (v := 3) h hw c1 (by omega)
        · rw [if_neg c4]
          exact spI_up (v := 2) h hw c1 (by omega)
      · rw [if_neg c3]
        exact h
  · rw [if_neg c1]
    exact h
theorem spI_row {s : Nat} : ∀ (k : Nat) (z : wzT), k ≤ nW → spI nW cA ab (s + 1) z → spI nW cA ab (s + 1) (wrow cA pcw ab lf gp G s k z)
  | 0, z, _, h => h
  | k + 1, z, hk, h => spI_step (spI_row k z (by omega) h) (by omega)
theorem spI_w {s : Nat} {z : wzT} (h : spI nW cA ab s z) : spI nW cA ab (s + 1) z := ⟨fun w => ⟨(h.1 w).1, (h.1 w).2.1, fun r => by
  obtain ⟨a, b, c, d, e⟩ := (h.1 w).2.2 r
  exact ⟨a, b, by omega, d, e⟩⟩, h.2⟩
theorem spI_S : ∀ s, spI nW cA ab s (wzS nW cA pcw ab lf gp G s)
  | 0 => ⟨fun w => ⟨⟨fun _ => rfl, fun _ => rfl⟩, ⟨Int.le_refl _, by show (0 : Int) ≤ 3; decide⟩, fun r => absurd rfl r⟩, by
    have e : cnf (fun w => decide (2 ≤ ((fun _ => 0 : Nat → Int) w))) nW = cnf (fun _ => false) nW := cnf_cg nW (fun w _ => rfl)
    have e2 : ∀ k, cnf (fun _ => false) k = 0 := by
      intro k
      induction k with
      | zero => rfl
      | succ k ih =>
        show cnf (fun _ => false) k + 0 = 0
        omega
    exact ((e.trans (e2 nW)).symm)⟩
  | s + 1 => spI_row nW _ (Nat.le_refl _) (spI_w (spI_S s))
/-- the class: what its bits hold amid a second -/
def crH (nW : Nat) (cA : Nat → Int) (ab : Nat → Bool) (s : Nat) (z : wzT) (l2 c14 c15 c16 : Int) (a1 : Nat → Int) : Prop := (rg l2 ∧ ∀ w, w < 12 → bt l2 w = (decide (w < nW) && here cA ab s w z)) ∧ (rg c14 ∧ ∀ w, w < 12 → bt c14 w = decide (z.2.1 w = 1)) ∧ (rg c15 ∧ ∀ w, w < 12 → bt c15 w = decide (2 ≤ z.2.1 w)) ∧ (rg c16 ∧ ∀ w, w < 12 → bt c16 w = decide (z.2.1 w = 3)) ∧ ∀ w, w < 12 → a1 w = z.1 w
theorem bt_add {X : Int} {w : Nat} (hX : rg X) (hw : w < 12) : rg (lf_o lf_ior X (lf_o lf_ishl (1 : Int) (w : Int))) ∧ ∀ v, bt (lf_o lf_ior X (lf_o lf_ishl (1 : Int) (w : Int))) v = (bt X v || decide (w = v)) := by
  have h1 := rg_sh hw
  have h2 := rg_or hX h1.1
  exact ⟨h2.1, fun v => by rw [h2.2, h1.2]⟩
theorem bt_del {X : Int} {w : Nat} (hX : rg X) (hw : w < 12) : rg (lf_o lf_iand X (lf_o lf_ixor (lf_o lf_ishl (1 : Int) (w : Int)) (-1 : Int))) ∧ ∀ v, bt (lf_o lf_iand X (lf_o lf_ixor (lf_o lf_ishl (1 : Int) (w : Int)) (-1 : Int))) v = (bt X v && !decide (w = v)) := by
  have h1 := rg_sh hw
  have h2 := rg_andn hX h1.1
  exact ⟨h2.1, fun v => by rw [h2.2, h1.2]⟩
theorem here_up {s w v : Nat} {z : wzT} {x : Nat → Int} {y : Int} : here cA ab s v (upn z.1 w (s : Int), x, y) = (here cA ab s v z && !decide (w = v)) := by
  unfold here
  show (decide (cA v ≤ (s : Int)) && !ab v && decide (upn z.1 w (s : Int) v = -1)) = _
  by_cases q : v = w
  · rw [q, upn_y, decide_eq_false (show ¬ (s : Int) = -1 from by omega), decide_eq_true (show w = w from rfl), Bool.not_true, Bool.and_false, Bool.and_false]
  · rw [upn_o q, decide_eq_false (show ¬ w = v from fun r => q r.symm), Bool.not_false, Bool.and_true]
theorem CR_up {s w : Nat} {z : wzT} {l2 c14 c15 c16 v : Int} {a1 : Nat → Int} {y : Int} (hw : w < nW) (hn : nW ≤ 12) (h : crH nW cA ab s z l2 c14 c15 c16 a1) {d14 d15 d16 : Int} (h14 : rg d14 ∧ ∀ u, u < 12 → bt d14 u = (bt c14 u || (decide (w = u) && decide (v = 1)))) (h15 : rg d15 ∧ ∀ u, u < 12 → bt d15 u = (bt c15 u || (decide (w = u) && decide (2 ≤ v)))) (h16 : rg d16 ∧ ∀ u, u < 12 → bt d16 u = (bt c16 u || (decide (w = u) && decide (v = 3)))) (h0 : z.2.1 w = 0) : crH nW cA ab s (upn z.1 w (s : Int), upn z.2.1 w v, y) (lf_o lf_iand l2 (lf_o lf_ixor (lf_o lf_ishl (1 : Int) (w : Int)) (-1 : Int))) d14 d15 d16 (lf_up a1 (w : Int) (s : Int)) := by
  obtain ⟨r1, r2, r3, r4, r5⟩ := h
  have hd := bt_del r1.1 (w := w) (by omega)
  have one : ∀ (c : Int) (d : Int) (P : Int → Bool), P 0 = false → (∀ u, u < 12 → bt c u = P (z.2.1 u)) → (∀ u, u < 12 → bt d u = (bt c u || (decide (w = u) && P v))) → ∀ u, u < 12 → bt d u = P (upn z.2.1 w v u) := by
    intro c d P hP hc hd u hu
    rw [hd u hu]
    by_cases q : u = w
    · rw [q, upn_y, hc w (by omega), h0, hP, decide_eq_true (show w = w from rfl), Bool.true_and, Bool.false_or]
    · rw [upn_o q, hc u hu, decide_eq_false (show ¬ w = u from fun r => q r.symm), Bool.false_and, Bool.or_false]
  refine ⟨⟨hd.1, fun u hu => ?_⟩, ⟨h14.1, fun u hu => ?_⟩, ⟨h15.1, fun u hu => ?_⟩, ⟨h16.1, fun u hu => ?_⟩, fun u hu => ?_⟩
  · rw [hd.2, r1.2 u hu, here_up, Bool.and_assoc]
  · exact one c14 d14 (fun x => decide (x = 1)) rfl r2.2 h14.2 u hu
  · exact one c15 d15 (fun x => decide (2 ≤ x)) rfl r3.2 h15.2 u hu
  · exact one c16 d16 (fun x => decide (x = 3)) rfl r4.2 h16.2 u hu
  · show lf_up a1 (w : Int) (s : Int) u = upn z.1 w (s : Int) u
    by_cases q : u = w
    · rw [q, upn_y, lf_up_y (by omega)]
    · rw [upn_o q, lf_up_o (by omega)]
      exact r5 u hu
end WK
