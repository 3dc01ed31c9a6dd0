/-! what acts keep, on both sides -/
def rXi (next : Int) (i : Nat) : Nat := ((next + 39 - (i : Int)) % 20).toNat
def mXi (newest : Int) (i : Nat) : Nat := ((newest + 40 - (i : Int)) % 20).toNat
/-- bounds of what acts change -/
def stB (nK : Nat) (d ru gr : Int) (tr : Nat → Int) : Prop := (0 ≤ d ∧ d ≤ 999) ∧ (0 ≤ ru ∧ ru ≤ 2) ∧ (1 ≤ gr ∧ gr ≤ 60) ∧ ∀ k, k < nK → 0 ≤ tr k ∧ tr k ≤ 9
def hsH (nK : Nat) (next count : Int) (rD rR rG : Nat → Int) (rF : Nat → Nat → Int) (newest und : Int) (kept : Nat → Int) : Prop := ((0 ≤ next ∧ next ≤ 19) ∧ (0 ≤ newest ∧ newest ≤ 19) ∧ count = und ∧ (0 ≤ count ∧ count ≤ 20)) ∧ ∀ i : Nat, (i : Int) < count → stB nK (rD (rXi next i)) (rR (rXi next i)) (rG (rXi next i)) (rF (rXi next i)) ∧ ndH nK (rD (rXi next i)) (rR (rXi next i)) (rG (rXi next i)) (rF (rXi next i)) (fun j => kept (9 * mXi newest i + j))
theorem hs_0 {nK nK2 : Nat} {next count : Int} {rD rR rG : Nat → Int} {rF : Nat → Nat → Int} {newest und : Int} {kept : Nat → Int} (h : hsH nK next count rD rR rG rF newest und kept) : hsH nK2 next 0 rD rR rG rF newest 0 kept := ⟨⟨h.1.1, h.1.2.1, rfl, by decide, by decide⟩, fun i hi => absurd hi (by omega)⟩
theorem cpy_6 {F G : Nat → Int} {k : Nat} (h : k < 6) : lf_cpy F G 0 0 6 k = F k := by
  unfold lf_cpy
  rw [if_pos (show (0 : Int).toNat ≤ k ∧ k < (0 : Int).toNat + (6 : Int).toNat from ⟨Nat.zero_le _, h⟩)]
  show F (0 + (k - 0)) = F k
  rw [Nat.zero_add, Nat.sub_zero]
theorem kp_run {und nw : Int} {now : Nat → Int} (h0 : 0 ≤ und ∧ und ≤ 20) (hn : 0 ≤ nw) : ∀ (f l : Nat) (a2 : Nat → Int), l ≤ 9 → 9 - l < f → ∃ K, F_X10_keeps_15 und now f nw (l : Int) a2 = (min (und + 1) 20, nw, K) ∧ (∀ j, l ≤ j → j < 9 → K (9 * nw.toNat + j) = now j) ∧ ∀ i, i < 9 * nw.toNat + l ∨ 9 * nw.toNat + 9 ≤ i → K i = a2 i := by
  intro f
  induction f with
  | zero => intro l a2 h1 h2; omega
  | succ f ih =>
    intro l a2 h1 h2
    have e0 : F_X10_keeps_15 und now (f + 1) nw (l : Int) a2 = F_X10_keeps_15b und now (F_X10_keeps_15 und now f) nw (l : Int) a2 := rfl
    rw [e0]
    unfold F_X10_keeps_15b
    by_cases q : l = 9
    · rw [if_pos (by omega)]
      refine ⟨a2, ?_, fun j h3 h4 => absurd h4 (by omega), fun _ _ => rfl⟩
      by_cases q2 : (20 : Int) ≤ und
      · rw [if_pos q2, show min (und + 1) 20 = und from by omega]
      · rw [if_neg q2, show min (und + 1) 20 = und + 1 from by omega]
    · rw [if_neg (by omega), Int.toNat_natCast]
      obtain ⟨K, e, e1, e2⟩ := ih (l + 1) (lf_up a2 (((9 : Int) * nw) + (l : Int)) (now l)) (by omega) (by omega)
      refine ⟨K, e, fun j h3 h4 => ?_, fun i hi => ?_⟩
      · by_cases q3 : j = l
        · rw [q3, e2 _ (by omega), lf_up_y (by omega)]
        · exact e1 j (by omega) h4
      · rw [e2 i (by omega), lf_up_o (by omega)]
theorem kp_m {und nw : Int} {now kept : Nat → Int} (h0 : 0 ≤ und ∧ und ≤ 20) (hn : 0 ≤ nw ∧ nw ≤ 19) : ∃ K, F_X10_keeps und nw now kept = (min (und + 1) 20, (nw + 1) % 20, K) ∧ (∀ j, j < 9 → K (9 * ((nw + 1) % 20).toNat + j) = now j) ∧ ∀ i, i < 9 * ((nw + 1) % 20).toNat ∨ 9 * ((nw + 1) % 20).toNat + 9 ≤ i → K i = kept i := by
  unfold F_X10_keeps
  rw [lo_rem (by omega) (by omega) (by decide) (by decide)]
  obtain ⟨K, e, e1, e2⟩ := kp_run (now := now) h0 (show 0 ≤ (nw + 1) % 20 from by omega) 11 0 kept (by decide) (by decide)
  exact ⟨K, e, fun j hj => e1 j (Nat.zero_le _) hj, fun i hi => e2 i (by omega)⟩
/-- an act is kept on both sides -/
theorem hs_keep {nK : Nat} {next count newest und d ru gr : Int} {rD rR rG tr now kept tX : Nat → Int} {rF : Nat → Nat → Int} (hk : nK ≤ 6) (h : hsH nK next count rD rR rG rF newest und kept) (hB : stB nK d ru gr tr) (hn : ndH nK d ru gr tr now) (hX : ∀ k, k < nK → tX k = tr k) : ∃ n2 c2 D2 R2 G2 F2 u2 w2 K2, F_X9_act d ru gr tX rD rR rG rF next count = (n2, c2, D2, R2, G2, F2) ∧ F_X10_keeps und newest now kept = (u2, w2, K2) ∧ hsH nK n2 c2 D2 R2 G2 F2 w2 u2 K2 := by
  obtain ⟨⟨⟨a1, a2⟩, ⟨a3, a4⟩, a5, a6, a7⟩, hR⟩ := h
  obtain ⟨K, e, e1, e2⟩ := kp_m (now := now) (kept := kept) (und := und) (nw := newest) ⟨by omega, by omega⟩ ⟨a3, a4⟩
  unfold F_X9_act F_X2_keep F_X6_copy
  rw [lf_b_e, lf_p_e, lf_p_e, lf_p_e, lf_p_e, lf_p_e, lo_rem (by omega) (by omega) (by decide) (by decide), e]
  refine ⟨_, _, _, _, _, _, _, _, K, rfl, rfl, ⟨⟨by omega, by omega⟩, ⟨by omega, by omega⟩, by omega, by omega, by omega⟩, fun i hi => ?_⟩
  have key : ∀ i : Nat, rXi ((next + 1) % 20) i = if i = 0 then next.toNat else if i < 20 then rXi next (i - 1) else rXi ((next + 1) % 20) i := by
    intro i
    unfold rXi
    by_cases q : i = 0
    · rw [if_pos q]
      omega
    · rw [if_neg q]
      by_cases q2 : i < 20
      · rw [if_pos q2]
        omega
      · rw [if_neg q2]
  have key2 : ∀ i : Nat, i < 20 → mXi ((newest + 1) % 20) i = if i = 0 then ((newest + 1) % 20).toNat else mXi newest (i - 1) := by
    intro i hi
    unfold mXi
    by_cases q : i = 0
    · rw [if_pos q]
      omega
    · rw [if_neg q]
      omega
  have hi20 : i < 20 := by omega
  rw [key i, key2 i hi20]
  by_cases q : i = 0
  · rw [if_pos q, if_pos q]
    have eF : ∀ k, k < nK → lf_upR rF next (lf_cpy tX (rF (Int.toNat next)) (0 : Int) (0 : Int) (6 : Int)) next.toNat k = tr k := by
      intro k hk2
      show (if next.toNat = next.toNat then lf_cpy tX (rF (Int.toNat next)) (0 : Int) (0 : Int) (6 : Int) else rF next.toNat) k = tr k
      rw [if_pos rfl, cpy_6 (by omega)]
      exact hX k hk2
    rw [lf_up_y rfl, lf_up_y rfl, lf_up_y rfl]
    refine ⟨⟨hB.1, hB.2.1, hB.2.2.1, fun k hk2 => ?_⟩, ?_, ?_, ?_, fun k hk2 => ?_⟩
    · rw [eF k hk2]
      exact hB.2.2.2 k hk2
    · show K (9 * ((newest + 1) % 20).toNat + 0) = d
      rw [e1 0 (by decide)]
      exact hn.1
    · show K (9 * ((newest + 1) % 20).toNat + 1) = ru
      rw [e1 1 (by decide)]
      exact hn.2.1
    · show K (9 * ((newest + 1) % 20).toNat + 2) = gr
      rw [e1 2 (by decide)]
      exact hn.2.2.1
    · rw [eF k hk2]
      show K (9 * ((newest + 1) % 20).toNat + (3 + k)) = tr k ∧ _
      rw [e1 (3 + k) (by omega)]
      exact hn.2.2.2 k hk2
  · rw [if_neg q, if_pos hi20, if_neg q]
    have hr := hR (i - 1) (by omega)
    have ne1 : ¬ rXi next (i - 1) = next.toNat := by
      unfold rXi
      omega
    have eF : lf_upR rF next (lf_cpy tX (rF (Int.toNat next)) (0 : Int) (0 : Int) (6 : Int)) (rXi next (i - 1)) = rF (rXi next (i - 1)) := if_neg ne1
    rw [lf_up_o ne1, lf_up_o ne1, lf_up_o ne1, eF]
    have eK : ∀ j, j < 9 → K (9 * mXi newest (i - 1) + j) = kept (9 * mXi newest (i - 1) + j) := by
      intro j hj
      refine e2 _ ?_
      have : ¬ mXi newest (i - 1) = ((newest + 1) % 20).toNat := by
        unfold mXi
        omega
      omega
    obtain ⟨b1, b2', b3, b4⟩ := hr.2
    refine ⟨hr.1, ?_, ?_, ?_, fun k hk2 => ?_⟩
    · show K (9 * mXi newest (i - 1) + 0) = _
      rw [eK 0 (by decide)]
      exact b1
    · show K (9 * mXi newest (i - 1) + 1) = _
      rw [eK 1 (by decide)]
      exact b2'
    · show K (9 * mXi newest (i - 1) + 2) = _
      rw [eK 2 (by decide)]
      exact b3
    · show K (9 * mXi newest (i - 1) + (3 + k)) = _ ∧ _
      rw [eK (3 + k) (by omega)]
      exact b4 k hk2
theorem un_run {und nw : Int} {refu kept : Nat → Int} (hn : 0 ≤ nw ∧ nw ≤ 19) : ∀ (f l : Nat) (a3 : Nat → Int), l ≤ 9 → 9 - l < f → ∃ N, F_X10_undo_21 und nw refu kept f (l : Int) a3 = ((1 : Int), und - 1, (nw + 19) % 20, refu, N) ∧ (∀ j, l ≤ j → j < 9 → N j = kept (9 * nw.toNat + j)) ∧ ∀ j, j < l → N j = a3 j := by
  intro f
  induction f with
  | zero => intro l a3 h1 h2; omega
  | succ f ih =>
    intro l a3 h1 h2
    have e0 : F_X10_undo_21 und nw refu kept (f + 1) (l : Int) a3 = F_X10_undo_21b und nw refu kept (F_X10_undo_21 und nw refu kept f) (l : Int) a3 := rfl
    rw [e0]
    unfold F_X10_undo_21b
    by_cases q : l = 9
    · rw [if_pos (by omega), lo_rem (by omega) (by omega) (by decide) (by decide), show (nw + 20 - 1) % 20 = (nw + 19) % 20 from by omega]
      exact ⟨a3, rfl, fun j h3 h4 => absurd h4 (by omega), fun _ _ => rfl⟩
    · rw [if_neg (by omega)]
      obtain ⟨N, e, e1, e2⟩ := ih (l + 1) (lf_up a3 (l : Int) (kept (Int.toNat (((9 : Int) * nw) + (l : Int))))) (by omega) (by omega)
      refine ⟨N, e, fun j h3 h4 => ?_, fun j hj => ?_⟩
      · by_cases q3 : j = l
        · rw [q3, e2 l (Nat.lt_succ_self l), lf_up_y (by omega), show Int.toNat (((9 : Int) * nw) + (l : Int)) = 9 * nw.toNat + l from by omega]
        · exact e1 j (by omega) h4
      · rw [e2 j (by omega), lf_up_o (by omega)]
/-- what was kept comes back on both sides -/
theorem hs_back {nK : Nat} {next count newest und d ru gr : Int} {rD rR rG now kept tX refu : Nat → Int} {rF : Nat → Nat → Int} (hk : nK ≤ 6) (h : hsH nK next count rD rR rG rF newest und kept) (h0 : ¬ count = 0) : ∃ n2 d2 ru2 gr2 t2 w2 N2, F_X2_giveBack rD rR rG rF next count d ru gr tX = ((1 : Int), n2, count - 1, d2, ru2, gr2, t2) ∧ F_X10_undo und newest refu now kept = ((1 : Int), und - 1, w2, refu, N2) ∧ hsH nK n2 (count - 1) rD rR rG rF w2 (und - 1) kept ∧ stB nK d2 ru2 gr2 t2 ∧ ndH nK d2 ru2 gr2 t2 N2 := by
  obtain ⟨⟨⟨a1, a2⟩, ⟨a3, a4⟩, a5, a6, a7⟩, hR⟩ := h
  obtain ⟨N, e, e1, e2⟩ := un_run (und := und) (refu := refu) (kept := kept) (nw := newest) ⟨a3, a4⟩ 11 0 now (by decide) (by decide)
  unfold F_X2_giveBack F_X10_undo F_X6_copy
  have e' : F_X10_undo_21 und newest refu kept 11 (0 : Int) now = ((1 : Int), und - 1, (newest + 19) % 20, refu, N) := e
  rw [if_neg h0, if_neg (show ¬ und = 0 from by omega), lf_b_e, lo_rem (by omega) (by omega) (by decide) (by decide), e']
  have er : ((next + 20 - 1) % 20).toNat = rXi next 0 := by
    unfold rXi
    omega
  have em : newest.toNat = mXi newest 0 := by
    unfold mXi
    omega
  have h1 := hR 0 (by omega)
  rw [er]
  refine ⟨_, _, _, _, _, _, N, rfl, rfl, ⟨⟨⟨by omega, by omega⟩, ⟨by omega, by omega⟩, by omega, by omega, by omega⟩, fun i hi => ?_⟩, ⟨h1.1.1, h1.1.2.1, h1.1.2.2.1, fun k hk2 => ?_⟩, ?_, ?_, ?_, fun k hk2 => ?_⟩
  · have h2 := hR (i + 1) (by omega)
    rw [show rXi ((next + 20 - 1) % 20) i = rXi next (i + 1) from by unfold rXi; omega, show mXi ((newest + 19) % 20) i = mXi newest (i + 1) from by unfold mXi; omega]
    exact h2
  · rw [cpy_6 (by omega)]
    exact h1.1.2.2.2 k hk2
  · rw [e1 0 (Nat.zero_le _) (by decide), em]
    exact h1.2.1
  · rw [e1 1 (Nat.zero_le _) (by decide), em]
    exact h1.2.2.1
  · rw [e1 2 (Nat.zero_le _) (by decide), em]
    exact h1.2.2.2.1
  · rw [e1 (3 + k) (Nat.zero_le _) (by omega), em, cpy_6 (by omega)]
    exact h1.2.2.2.2 k hk2
