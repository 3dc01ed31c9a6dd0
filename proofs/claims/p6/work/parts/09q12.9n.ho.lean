/-! hold, on both sides -/
section HW
variable {nW : Nat} {cA pcw : Nat → Int} {lf gp : Nat → Int} {G : Nat → Nat → Int → Bool} {Hd : Nat → Bool}
/-- nobody has gone -/
def nog (z : wzT) : Prop := ∀ v, ¬ 2 ≤ z.2.1 v
theorem nog_r {ab : Nat → Bool} {s : Nat} {z : wzT} (h : spI nW cA ab s z) (hn : nog z) : z.2.2 = 0 := by
  rw [h.2, cnf_0]
  exact fun w _ => decide_eq_false (hn w)
theorem nog_st {ab : Nat → Bool} {s w : Nat} {z : wzT} (h : spI nW cA ab (s + 1) z) (hn : nog (wstep cA pcw ab lf gp G s w z)) : nog z := by
  intro v hv
  apply hn v
  unfold wstep
  by_cases hh : here cA ab s w z = true
  · have hne : ¬ v = w := by
      intro e
      have h2 := hh
      unfold here at h2
      rw [Bool.and_eq_true] at h2
      have h3 := ((h.1 w).1).mp (of_decide_eq_true h2.2)
      rw [e, h3] at hv
      omega
    rw [if_pos hh]
    by_cases c1 : pcw w ≤ lf s
    · rw [if_pos c1]
      show 2 ≤ upn z.2.1 w 1 v
      rw [upn_o hne]
      exact hv
    · rw [if_neg c1]
      by_cases c2 : G w s z.2.2 = true
      · rw [if_pos c2]
        show 2 ≤ upn z.2.1 w _ v
        rw [upn_o hne]
        exact hv
      · rw [if_neg c2]
        exact hv
  · rw [if_neg hh]
    exact hv
theorem nog_row {ab : Nat → Bool} {s : Nat} {z : wzT} (h : spI nW cA ab (s + 1) z) : ∀ k, k ≤ nW → nog (wrow cA pcw ab lf gp G s k z) → nog z
  | 0, _, hn => hn
  | k + 1, hk, hn => nog_row h k (by omega) (nog_st (spI_row k z (by omega) h) hn)
theorem nog_rowk {ab : Nat → Bool} {s : Nat} {z : wzT} (h : spI nW cA ab (s + 1) z) : ∀ j k, k + j ≤ nW → nog (wrow cA pcw ab lf gp G s (k + j) z) → nog (wrow cA pcw ab lf gp G s k z)
  | 0, _, _, hn => hn
  | j + 1, k, hk, hn => nog_rowk h j k (by omega) (nog_st (spI_row (k + j) z (by omega) h) hn)
theorem nog_S {ab : Nat → Bool} : ∀ j s, nog (wzS nW cA pcw ab lf gp G (s + j)) → nog (wzS nW cA pcw ab lf gp G s)
  | 0, _, hn => hn
  | j + 1, s, hn => nog_S j s (nog_row (spI_w (spI_S (s + j))) nW (Nat.le_refl _) hn)
/-- one who is still there has not crossed, and would not have gone -/
def stay (cA pcw : Nat → Int) (lf : Nat → Int) (G : Nat → Nat → Int → Bool) (Hd : Nat → Bool) (s w : Nat) : Prop := ∀ t : Nat, cA w ≤ (t : Int) → t < s → ¬ pcw w ≤ lf t ∧ (Hd w = true ∨ G w t 0 = false)
theorem goF_i {pc : Int} {lf : Nat → Int} {g : Nat → Bool} : ∀ (f s : Nat), 300 - s < f → (goF pc lf g f s = true ↔ ∃ t, s ≤ t ∧ t < 300 ∧ (∀ u, s ≤ u → u ≤ t → ¬ pc ≤ lf u) ∧ (∀ u, s ≤ u → u < t → g u = false) ∧ g t = true) := by
  intro f
  induction f with
  | zero => intro s h; omega
  | succ f ih =>
    intro s h
    have e : goF pc lf g (f + 1) s = if 300 ≤ s then false else if pc ≤ lf s then false else if g s = true then true else goF pc lf g f (s + 1) := rfl
    rw [e]
    by_cases c0 : 300 ≤ s
    · rw [if_pos c0]
      exact ⟨fun r => Bool.noConfusion r, fun ⟨t, h1, h2, _⟩ => by omega⟩
    rw [if_neg c0]
    by_cases c1 : pc ≤ lf s
    · rw [if_pos c1]
      exact ⟨fun r => Bool.noConfusion r, fun ⟨t, h1, h2, h3, _⟩ => absurd c1 (h3 s (Nat.le_refl s) h1)⟩
    rw [if_neg c1]
    by_cases c2 : g s = true
    · rw [if_pos c2]
      refine ⟨fun _ => ⟨s, Nat.le_refl s, by omega, fun u h1 h2 => ?_, fun u h1 h2 => absurd h2 (by omega), c2⟩, fun _ => rfl⟩
      have : u = s := by omega
      rw [this]
      exact c1
    rw [if_neg c2, ih (s + 1) (by omega)]
    constructor
    · intro ⟨t, h1, h2, h3, h4, h5⟩
      refine ⟨t, by omega, h2, fun u u1 u2 => ?_, fun u u1 u2 => ?_, h5⟩
      · by_cases y : u = s
        · rw [y]
          exact c1
        · exact h3 u (by omega) u2
      · by_cases y : u = s
        · rw [y]
          exact eq_false_of_ne_true c2
        · exact h4 u (by omega) u2
    · intro ⟨t, h1, h2, h3, h4, h5⟩
      have hne : ¬ t = s := fun y => c2 (by rw [← y]; exact h5)
      exact ⟨t, by omega, h2, fun u u1 u2 => h3 u (by omega) u2, fun u u1 u2 => h4 u (by omega) u2, h5⟩
/-- where all are held who go by themselves, none goes -/
theorem ho_step {s w : Nat} {z : wzT} (hk : ∀ w, w < nW → Hd w = true ∨ goF (pcw w) lf (fun t => G w t 0) 302 (cA w).toNat = false) (hc : ∀ w, w < nW → 0 ≤ cA w) (hs : s < 300) (hw : w < nW) (h : spI nW cA (fun _ => false) (s + 1) z) (hn : nog z) (hst : ∀ v, v < nW → z.1 v = -1 → stay cA pcw lf G Hd (if v < w then s + 1 else s) v) : nog (wstep cA pcw (fun _ => false) lf gp (fun w s r => !Hd w && G w s r) s w z) ∧ ∀ v, v < nW → (wstep cA pcw (fun _ => false) lf gp (fun w s r => !Hd w && G w s r) s w z).1 v = -1 → stay cA pcw lf G Hd (if v < w + 1 then s + 1 else s) v := by
  have h0 := nog_r h hn
  unfold wstep
  by_cases hh : here cA (fun _ => false) s w z = true
  · have hh2 := hh
    unfold here at hh2
    rw [Bool.and_eq_true, Bool.and_eq_true] at hh2
    have hz1 := of_decide_eq_true hh2.2
    have hca := of_decide_eq_true hh2.1.1
    have hsw := hst w hw hz1
    rw [if_neg (Nat.lt_irrefl w)] at hsw
    rw [if_pos hh]
    by_cases c1 : pcw w ≤ lf s
    · rw [if_pos c1]
      refine ⟨fun v => ?_, fun v hv hv1 => ?_⟩
      · show ¬ 2 ≤ upn z.2.1 w 1 v
        by_cases y : v = w
        · rw [y, upn_y]
          decide
        · rw [upn_o y]
          exact hn v
      · have hv2 : upn z.1 w (s : Int) v = -1 := hv1
        have y : ¬ v = w := fun y => by
          rw [y, upn_y] at hv2
          omega
        rw [upn_o y] at hv2
        have := hst v hv hv2
        by_cases x : v < w
        · rw [if_pos x] at this
          rw [if_pos (by omega)]
          exact this
        · rw [if_neg x] at this
          rw [if_neg (by omega)]
          exact this
    · rw [if_neg c1]
      have hg : (!Hd w && G w s z.2.2) = false := by
        rw [h0]
        rcases hk w hw with r | r
        · rw [r]
          rfl
        · cases hG : G w s 0 with
          | false => rw [Bool.and_false]
          | true =>
            cases hH : Hd w with
            | true => rfl
            | false =>
              exfalso
              have h1 : goF (pcw w) lf (fun t => G w t 0) 302 (cA w).toNat = true := by
                rw [goF_i 302 (cA w).toNat (by omega)]
                have hc0 := hc w hw
                refine ⟨s, by omega, hs, fun u u1 u2 => ?_, fun u u1 u2 => ?_, hG⟩
                · by_cases y : u = s
                  · rw [y]
                    exact c1
                  · exact (hsw u (by omega) (by omega)).1
                · have h3 := (hsw u (by omega) (by omega)).2
                  rw [hH] at h3
                  exact h3.elim (fun r => Bool.noConfusion r) (fun r => r)
              rw [h1] at r
              exact Bool.noConfusion r
      have hg2 : ¬ (!Hd w && G w s z.2.2) = true := fun r => Bool.noConfusion (hg.symm.trans r)
      rw [if_neg hg2]
      refine ⟨hn, fun v hv hv1 => ?_⟩
      by_cases y : v = w
      · rw [y, if_pos (Nat.lt_succ_self w)]
        intro t t1 t2
        by_cases x : t = s
        · rw [x]
          refine ⟨c1, ?_⟩
          rw [h0] at hg
          cases hH : Hd w with
          | true => exact Or.inl rfl
          | false =>
            rw [hH] at hg
            exact Or.inr hg
        · exact hsw t t1 (by omega)
      · have := hst v hv hv1
        by_cases x : v < w
        · rw [if_pos x] at this
          rw [if_pos (by omega)]
          exact this
        · rw [if_neg x] at this
          rw [if_neg (by omega)]
          exact this
  · rw [if_neg hh]
    refine ⟨hn, fun v hv hv1 => ?_⟩
    have hx := hst v hv hv1
    by_cases y : v = w
    · rw [y, if_pos (Nat.lt_succ_self w)]
      rw [y, if_neg (Nat.lt_irrefl w)] at hx
      have hca : ¬ cA w ≤ (s : Int) := by
        intro r
        apply hh
        unfold here
        rw [decide_eq_true r, decide_eq_true (show z.1 w = -1 from by rw [← y]; exact hv1)]
        rfl
      intro t t1 t2
      exact hx t t1 (by omega)
    · by_cases x : v < w
      · rw [if_pos x] at hx
        rw [if_pos (by omega)]
        exact hx
      · rw [if_neg x] at hx
        rw [if_neg (by omega)]
        exact hx
theorem ho_row {s : Nat} {z : wzT} (hk : ∀ w, w < nW → Hd w = true ∨ goF (pcw w) lf (fun t => G w t 0) 302 (cA w).toNat = false) (hc : ∀ w, w < nW → 0 ≤ cA w) (hs : s < 300) (h : spI nW cA (fun _ => false) (s + 1) z) (hn : nog z) (hst : ∀ v, v < nW → z.1 v = -1 → stay cA pcw lf G Hd s v) : ∀ k, k ≤ nW → nog (wrow cA pcw (fun _ => false) lf gp (fun w s r => !Hd w && G w s r) s k z) ∧ ∀ v, v < nW → (wrow cA pcw (fun _ => false) lf gp (fun w s r => !Hd w && G w s r) s k z).1 v = -1 → stay cA pcw lf G Hd (if v < k then s + 1 else s) v
  | 0, _ => ⟨hn, fun v hv hv1 => by
    rw [if_neg (Nat.not_lt_zero v)]
    exact hst v hv hv1⟩
  | k + 1, hk1 => by
    obtain ⟨i1, i2⟩ := ho_row hk hc hs h hn hst k (by omega)
    exact ho_step hk hc hs (by omega) (spI_row k z (by omega) h) i1 i2
theorem ho_S (hk : ∀ w, w < nW → Hd w = true ∨ goF (pcw w) lf (fun t => G w t 0) 302 (cA w).toNat = false) (hc : ∀ w, w < nW → 0 ≤ cA w) : ∀ s, s ≤ 300 → nog (wzS nW cA pcw (fun _ => false) lf gp (fun w s r => !Hd w && G w s r) s) ∧ ∀ v, v < nW → (wzS nW cA pcw (fun _ => false) lf gp (fun w s r => !Hd w && G w s r) s).1 v = -1 → stay cA pcw lf G Hd s v
  | 0, _ => ⟨fun v => by
    show ¬ 2 ≤ (0 : Int)
    decide, fun v hv _ t _ t2 => absurd t2 (Nat.not_lt_zero t)⟩
  | s + 1, hs => by
    obtain ⟨i1, i2⟩ := ho_S hk hc s (by omega)
    obtain ⟨j1, j2⟩ := ho_row (gp := gp) hk hc (by omega) (spI_w (spI_S s)) i1 i2 nW (Nat.le_refl _)
    refine ⟨j1, fun v hv hv1 => ?_⟩
    have := j2 v hv hv1
    rw [if_pos hv] at this
    exact this
/-- where none goes, all are held who go by themselves -/
theorem hn_keep {w s : Nat} {z : wzT} (h : spI nW cA (fun _ => false) (s + 1) z) (hz : z.1 w = -1) (hc : ¬ pcw w ≤ lf s) (hg : G w s 0 = false) : ∀ k, k ≤ nW → nog (wrow cA pcw (fun _ => false) lf gp (fun w s r => !Hd w && G w s r) s k z) → (wrow cA pcw (fun _ => false) lf gp (fun w s r => !Hd w && G w s r) s k z).1 w = -1
  | 0, _, _ => hz
  | k + 1, hk, hn => by
    have hI := spI_row (pcw := pcw) (lf := lf) (gp := gp) (G := fun w s r => !Hd w && G w s r) k z (by omega) h
    have hn0 := nog_st hI hn
    have ih := hn_keep h hz hc hg k (by omega) hn0
    have h0 := nog_r hI hn0
    show (wstep cA pcw (fun _ => false) lf gp (fun w s r => !Hd w && G w s r) s k _).1 w = -1
    unfold wstep
    by_cases hh : here cA (fun _ => false) s k (wrow cA pcw (fun _ => false) lf gp (fun w s r => !Hd w && G w s r) s k z) = true
    · rw [if_pos hh]
      by_cases y : k = w
      · subst y
        have hgn : (!Hd k && G k s 0) = false := by
          rw [hg, Bool.and_false]
        rw [if_neg hc, h0, if_neg (show ¬ (fun w s r => !Hd w && G w s r) k s (0 : Int) = true from fun r => Bool.noConfusion (hgn.symm.trans r))]
        exact ih
      · by_cases c1 : pcw k ≤ lf s
        · rw [if_pos c1]
          show upn _ k _ w = -1
          rw [upn_o (fun r => y r.symm)]
          exact ih
        · rw [if_neg c1]
          by_cases c2 : (!Hd k && G k s (wrow cA pcw (fun _ => false) lf gp (fun w s r => !Hd w && G w s r) s k z).2.2) = true
          · rw [if_pos c2]
            show upn _ k _ w = -1
            rw [upn_o (fun r => y r.symm)]
            exact ih
          · rw [if_neg c2]
            exact ih
    · rw [if_neg hh]
      exact ih
theorem hn_S {w : Nat} (hw : w < nW) (hH : Hd w = false) (hc0 : 0 ≤ cA w) (hgo : goF (pcw w) lf (fun t => G w t 0) 302 (cA w).toNat = true) : ¬ nog (wzS nW cA pcw (fun _ => false) lf gp (fun w s r => !Hd w && G w s r) 300) := by
  intro hn
  rw [goF_i 302 (cA w).toNat (by omega)] at hgo
  obtain ⟨t, h1, h2, h3, h4, h5⟩ := hgo
  have key : ∀ s, s ≤ t → (wzS nW cA pcw (fun _ => false) lf gp (fun w s r => !Hd w && G w s r) s).1 w = -1 := by
    intro s
    induction s with
    | zero => intro _; rfl
    | succ s ih =>
      intro hs
      have i := ih (by omega)
      have hns : nog (wzS nW cA pcw (fun _ => false) lf gp (fun w s r => !Hd w && G w s r) (s + 1)) := nog_S (300 - (s + 1)) (s + 1) (by rw [show s + 1 + (300 - (s + 1)) = 300 from by omega]; exact hn)
      have hI := spI_w (spI_S (nW := nW) (cA := cA) (pcw := pcw) (ab := fun _ => false) (lf := lf) (gp := gp) (G := fun w s r => !Hd w && G w s r) s)
      by_cases y : (cA w).toNat ≤ s
      · exact hn_keep hI i (h3 s y (by omega)) (h4 s y (by omega)) nW (Nat.le_refl _) hns
      · have hz2 := (spI_S (nW := nW) (cA := cA) (pcw := pcw) (ab := fun _ => false) (lf := lf) (gp := gp) (G := fun w s r => !Hd w && G w s r) (s + 1)).1 w
        by_cases x : (wzS nW cA pcw (fun _ => false) lf gp (fun w s r => !Hd w && G w s r) (s + 1)).1 w = -1
        · exact x
        · have := hz2.2.2 x
          omega
  have i := key t (Nat.le_refl t)
  have hI := spI_w (spI_S (nW := nW) (cA := cA) (pcw := pcw) (ab := fun _ => false) (lf := lf) (gp := gp) (G := fun w s r => !Hd w && G w s r) t)
  have hns : nog (wzS nW cA pcw (fun _ => false) lf gp (fun w s r => !Hd w && G w s r) (t + 1)) := nog_S (300 - (t + 1)) (t + 1) (by rw [show t + 1 + (300 - (t + 1)) = 300 from by omega]; exact hn)
  have hr : nog (wrow cA pcw (fun _ => false) lf gp (fun w s r => !Hd w && G w s r) t nW (wzS nW cA pcw (fun _ => false) lf gp (fun w s r => !Hd w && G w s r) t)) := hns
  -- up to him in this second
  have hk : ∀ k, k ≤ w → (wrow cA pcw (fun _ => false) lf gp (fun w s r => !Hd w && G w s r) t k (wzS nW cA pcw (fun _ => false) lf gp (fun w s r => !Hd w && G w s r) t)).1 w = -1 := by
    intro k
    induction k with
    | zero => intro _; exact i
    | succ k ihk =>
      intro hk
      have ih := ihk (by omega)
      show (wstep cA pcw (fun _ => false) lf gp (fun w s r => !Hd w && G w s r) t k _).1 w = -1
      unfold wstep
      by_cases hh : here cA (fun _ => false) t k (wrow cA pcw (fun _ => false) lf gp (fun w s r => !Hd w && G w s r) t k (wzS nW cA pcw (fun _ => false) lf gp (fun w s r => !Hd w && G w s r) t)) = true
      · rw [if_pos hh]
        by_cases c1 : pcw k ≤ lf t
        · rw [if_pos c1]
          show upn _ k _ w = -1
          rw [upn_o (by omega)]
          exact ih
        · rw [if_neg c1]
          by_cases c2 : (!Hd k && G k t (wrow cA pcw (fun _ => false) lf gp (fun w s r => !Hd w && G w s r) t k (wzS nW cA pcw (fun _ => false) lf gp (fun w s r => !Hd w && G w s r) t)).2.2) = true
          · rw [if_pos c2]
            show upn _ k _ w = -1
            rw [upn_o (by omega)]
            exact ih
          · rw [if_neg c2]
            exact ih
      · rw [if_neg hh]
        exact ih
  have hiw := hk w (Nat.le_refl w)
  have hIw := spI_row (pcw := pcw) (lf := lf) (gp := gp) (G := fun w s r => !Hd w && G w s r) w (wzS nW cA pcw (fun _ => false) lf gp (fun w s r => !Hd w && G w s r) t) (by omega) hI
  have hn1 : nog (wrow cA pcw (fun _ => false) lf gp (fun w s r => !Hd w && G w s r) t (w + 1) (wzS nW cA pcw (fun _ => false) lf gp (fun w s r => !Hd w && G w s r) t)) := nog_rowk hI (nW - (w + 1)) (w + 1) (by omega) (by rw [show w + 1 + (nW - (w + 1)) = nW from by omega]; exact hr)
  have hn0 := nog_st hIw hn1
  have h0 := nog_r hIw hn0
  apply hn1 w
  show 2 ≤ (wstep cA pcw (fun _ => false) lf gp (fun w s r => !Hd w && G w s r) t w _).2.1 w
  unfold wstep
  have hh : here cA (fun _ => false) t w (wrow cA pcw (fun _ => false) lf gp (fun w s r => !Hd w && G w s r) t w (wzS nW cA pcw (fun _ => false) lf gp (fun w s r => !Hd w && G w s r) t)) = true := by
    unfold here
    rw [decide_eq_true (show cA w ≤ (t : Int) from by omega), decide_eq_true hiw]
    rfl
  have hgy : (!Hd w && G w t 0) = true := by
    rw [h5, hH]
    rfl
  rw [if_pos hh, if_neg (h3 t h1 (Nat.le_refl t)), h0, if_pos (show (fun w s r => !Hd w && G w s r) w t (0 : Int) = true from hgy)]
  show 2 ≤ upn _ w _ w
  rw [upn_y]
  by_cases y : gp t < pcw w
  · rw [if_pos y]
    decide
  · rw [if_neg y]
    decide
end HW
