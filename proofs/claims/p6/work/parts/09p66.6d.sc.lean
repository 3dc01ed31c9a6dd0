/-- what qSums leaves, with what is coded -/
def qUC (g : Nat → Int) (n : Nat) (B : List Int) (o0 : Int) (d : Nat) (S : SL) (p : Nat) (R : Int × Int × Int × Int × Int × Int × Int × (Nat → Int) × (Nat → Int)) : Prop := (∃ q : Int × Int, S = .inl q ∧ ¬ q.1 = 0 ∧ R.2.2.1 = q.1 ∧ R.2.2.2.1 = q.2) ∨ (∃ p2 K2, S = .inr (p2, K2) ∧ p < p2 ∧ qSC g n B o0 d [] K2 o0 p2 R.1 R.2.1 R.2.2.1 R.2.2.2.1 R.2.2.2.2.1 R.2.2.2.2.2.1 R.2.2.2.2.2.2.1 R.2.2.2.2.2.2.2.1 R.2.2.2.2.2.2.2.2)
theorem qc_53 {w : Nat → Int} {B : List Int} {l xa xe xp o : Int} : ∀ (P : List Int) (f : Nat) (K : List Int) (cd : Nat → Int), pwl w (P ++ B) → P.length < f → pcl cd K → ∃ cd2, F_X10_qSums_53 (B.length : Int) f l xa xe (0 : Int) xp (K.length : Int) ((P ++ B).length : Int) o w cd = (xa, xe, (0 : Int), xp, ((K ++ P).length : Int), (B.length : Int), o, w, cd2) ∧ pcl cd2 (K ++ P) := by
  intro P
  induction P with
  | nil =>
    intro f K cd h hf hK
    obtain ⟨k, rfl⟩ : ∃ k, f = k + 1 := ⟨f - 1, by have : 0 < f := hf; omega⟩
    rw [List.append_nil]
    refine ⟨cd, ?_, hK⟩
    show F_X10_qSums_53b (B.length : Int) _ l xa xe (0 : Int) xp (K.length : Int) (B.length : Int) o w cd = _
    unfold F_X10_qSums_53b
    rw [if_pos rfl, if_pos (Int.le_refl _)]
  | cons x P ih =>
    intro f K cd h hf hK
    obtain ⟨k, rfl⟩ : ∃ k, f = k + 1 := ⟨f - 1, by have : 0 < f := Nat.lt_of_le_of_lt (Nat.zero_le _) hf; omega⟩
    obtain ⟨cd2, e, ek⟩ := ih k (K ++ [x]) (lf_up cd (K.length : Int) x) h.2 (by have : P.length + 1 < k + 1 := hf; omega) (pcl_app hK x)
    rw [len_1, List.append_assoc] at e
    rw [List.append_assoc] at ek
    have hl : (P ++ B).length = P.length + B.length := List.length_append
    have e1 : (((x :: P) ++ B).length : Int) = ((P ++ B).length : Int) + 1 := rfl
    refine ⟨cd2, ?_, ek⟩
    show F_X10_qSums_53b (B.length : Int) (F_X10_qSums_53 (B.length : Int) k) l xa xe (0 : Int) xp (K.length : Int) (((x :: P) ++ B).length : Int) o w cd = _
    unfold F_X10_qSums_53b
    rw [if_pos rfl, if_neg (by omega), show F_X10_qDrops (K.length : Int) (((x :: P) ++ B).length : Int) cd w = (((K.length : Int) + 1), ((P ++ B).length : Int), lf_up cd (K.length : Int) x) from qc_drop h, lf_p_e, lf_p_e]
    exact e
section QUC
variable {g : Nat → Int} {n : Nat} {al tk : Int} {B : List Int} {o0 : Int} {d : Nat} {vmin vmax v1 v2 v3 v4 v5 v6 v7 v8 v9 v10 v11 v12 v13 : Nat → Int}
theorem qc_sum (hn : n ≤ 1600) (hB : ¬ (1 ≤ B.headD 0 ∧ B.headD 0 ≤ 4)) (hq : qw v1 v2 v3 v4 v5 v6 v7 v8 v9 v10 v11 v12 v13) (hmin : wa vmin W_min) (hmax : wa vmax W_max) (ht : tkA tk al) : ∀ (f : Nat) (P K : List Int) (o : Int) (p : Nat) (xa xe : Int) (w cd : Nat → Int), qS g n B o0 d P o p xa xe (0 : Int) (-1 : Int) (K.length : Int) ((P ++ B).length : Int) o w → n - p + 1 < f → pcl cd K → qUC g n B o0 d (RC g n al true P K o p) p (F_X10_qSums_15 (n : Int) tk (B.length : Int) g vmin vmax v1 v2 v3 v4 v5 v6 v7 v8 v9 v10 v11 v12 v13 f (1 : Int) xa xe (0 : Int) (-1 : Int) (K.length : Int) ((P ++ B).length : Int) o w cd) := by
  intro f
  induction f with
  | zero => intro P K o p xa xe w cd h hf; omega
  | succ f ih =>
    intro P K o p xa xe w cd h hf hK
    obtain ⟨f, rfl⟩ : ∃ k, f = k + 1 := ⟨f - 1, by omega⟩
    show qUC g n B o0 d (RC g n al true P K o p) p (F_X10_qSums_15b (n : Int) tk (B.length : Int) g vmin vmax v1 v2 v3 v4 v5 v6 v7 v8 v9 v10 v11 v12 v13 (F_X10_qSums_15 (n : Int) tk (B.length : Int) g vmin vmax v1 v2 v3 v4 v5 v6 v7 v8 v9 v10 v11 v12 v13 (f + 1)) (1 : Int) xa xe (0 : Int) (-1 : Int) (K.length : Int) ((P ++ B).length : Int) o w cd)
    unfold F_X10_qSums_15b
    rw [if_neg (show ¬ (1 : Int) = 0 from by decide), if_pos rfl]
    have hpn := h.2.2.2.2.2.2.1.1
    have hpt : qTC g n al B o0 d (RC g n al true P K o p) p (F_X10_qPartTold xa (n : Int) xe (0 : Int) (-1 : Int) tk (K.length : Int) ((P ++ B).length : Int) o (B.length : Int) g vmin vmax v1 v2 v3 v4 v5 v6 v7 v8 v9 v10 v11 v12 v13 cd w) := qc_pt hn hq hmin hmax ht hK 3203 P o p xa xe w h (by omega)
    generalize F_X10_qPartTold xa (n : Int) xe (0 : Int) (-1 : Int) tk (K.length : Int) ((P ++ B).length : Int) o (B.length : Int) g vmin vmax v1 v2 v3 v4 v5 v6 v7 v8 v9 v10 v11 v12 v13 cd w = R at hpt ⊢
    obtain ⟨y1, y2, y3, y4, y5, y6, y7, y8, y9⟩ := R
    rw [lf_p_e, lf_p_e, lf_p_e, lf_p_e, lf_p_e, lf_p_e, lf_p_e, lf_p_e]
    rcases hpt with ⟨q, e, q1, q2, q3⟩ | ⟨P2, K2, o2, p2, e, hlt, h62, hs, hc2, hk2⟩
    · have q2' : y3 = q.1 := q2
      rw [if_neg (show ¬ y3 = 0 from fun r => q1 (q2'.symm.trans r)), q_s0 (show ¬ y3 = 0 from fun r => q1 (q2'.symm.trans r))]
      exact Or.inl ⟨q, e, q1, q2, q3⟩
    · have hs' : qS g n B o0 d P2 o2 p2 y1 y2 y3 y4 y5 y6 y7 y8 := hs
      obtain ⟨s1, s2, s3, s4, s5, s6, s7, s8, s9, s10, s11, s12⟩ := hs'
      subst s8
      subst s9
      subst s10
      subst s11
      have hc2' : y5 = (K2.length : Int) := hc2
      subst hc2'
      have hk2' : pcl y9 K2 := hk2
      have hp2 := s7.1
      rw [if_pos rfl, e]
      have hgo : qGC g n al B o0 d y2 (RC g n al false P2 K2 y7 p2) p2 (F_X10_qGoesOn y1 (n : Int) (0 : Int) (-1 : Int) (K2.length : Int) ((P2 ++ B).length : Int) y7 (B.length : Int) g y9 y8) := qc_goes hn hB 1602 P2 K2 y7 p2 y1 y9 ⟨s1, s2, s3, s4, s5, s6, s7, rfl, rfl, rfl, rfl, s12⟩ h62 (by omega) hk2'
      generalize F_X10_qGoesOn y1 (n : Int) (0 : Int) (-1 : Int) (K2.length : Int) ((P2 ++ B).length : Int) y7 (B.length : Int) g y9 y8 = R at hgo ⊢
      obtain ⟨z1, z2, z3, z4, z5, z6, z7, z8, z9⟩ := R
      rw [lf_p_e, lf_p_e, lf_p_e, lf_p_e, lf_p_e, lf_p_e, lf_p_e, lf_p_e]
      rcases hgo with ⟨r1, P3, K3, o3, p3, e3, hlt3, hs3, hc3, hk3⟩ | ⟨r1, q, e3, q1, q2, q3⟩ | ⟨r1, P3, K3, o3, p3, e3, hle3, hnil, hs3, hc3, hk3⟩
      · have r1' : z1 = 1 := r1
        have hs' : qS g n B o0 d P3 o3 p3 z2 y2 z3 z4 z5 z6 z7 z8 := hs3
        obtain ⟨t1, t2, t3, t4, t5, t6, t7, t8, t9, t10, t11, t12⟩ := hs'
        subst t8
        subst t9
        subst t10
        subst t11
        have hc3' : z5 = (K3.length : Int) := hc3
        subst hc3'
        rw [if_neg (show ¬ z1 = 0 from by omega), e3]
        rcases ih P3 K3 z7 p3 z2 y2 z8 z9 ⟨t1, t2, t3, t4, t5, t6, t7, rfl, rfl, rfl, rfl, t12⟩ (by omega) hk3 with r | ⟨p4, K4, a1, a2, a3⟩
        · exact Or.inl r
        · exact Or.inr ⟨p4, K4, a1, by omega, a3⟩
      · have r1' : z1 = 0 := r1
        have q2' : z3 = q.1 := q2
        rw [if_pos r1', q_s0 (show ¬ z3 = 0 from fun r => q1 (q2'.symm.trans r))]
        exact Or.inl ⟨q, e3, q1, q2, q3⟩
      · have r1' : z1 = 0 := r1
        have hs' : qS g n B o0 d P3 o3 p3 z2 y2 z3 z4 z5 z6 z7 z8 := hs3
        have hlen := q_len hn hs'
        obtain ⟨t1, t2, t3, t4, t5, t6, t7, t8, t9, t10, t11, t12⟩ := hs'
        subst t8
        subst t9
        subst t10
        subst t11
        have hl1 : (P3 ++ B).length = P3.length + B.length := List.length_append
        have ho : z7 = o0 := by
          rw [t2, hnil]
          show o0 + ((0 : Nat) : Int) = o0
          omega
        have hc3' : z5 = (K3.length : Int) := hc3
        subst hc3'
        obtain ⟨cd2, e5, e5k⟩ := qc_53 (B := B) (w := z8) (l := (0 : Int)) (xa := z2) (xe := y2) (xp := (-1 : Int)) (o := z7) P3 1625 K3 z9 t12 (by omega) hk3
        have hlk : (K3 ++ P3).length = K3.length + P3.length := List.length_append
        rw [if_pos r1']
        show qUC g n B o0 d _ p (F_X10_qSums_15b (n : Int) tk (B.length : Int) g vmin vmax v1 v2 v3 v4 v5 v6 v7 v8 v9 v10 v11 v12 v13 (F_X10_qSums_15 (n : Int) tk (B.length : Int) g vmin vmax v1 v2 v3 v4 v5 v6 v7 v8 v9 v10 v11 v12 v13 f) (0 : Int) z2 y2 (0 : Int) (-1 : Int) (K3.length : Int) ((P3 ++ B).length : Int) z7 z8 z9)
        unfold F_X10_qSums_15b
        rw [if_pos rfl, e5, e3]
        refine Or.inr ⟨p3, K3 ++ P3, rfl, by omega, ⟨True.intro, ?_, t3, ?_, ?_, ?_, t7, rfl, rfl, rfl, ho, pwl_tl t12⟩, rfl, e5k⟩
        · show o0 = o0 + ((0 : Nat) : Int)
          omega
        · omega
        · show ((K3 ++ P3).length : Int) + (d : Int) + (B.length : Int) ≤ (p3 : Int)
          omega
        · show 0 ≤ ((K3 ++ P3).length : Int)
          omega
/-- qSums codes as the machine does -/
theorem qc_sums (hn : n ≤ 1600) (hB : ¬ (1 ≤ B.headD 0 ∧ B.headD 0 ≤ 4)) (hq : qw v1 v2 v3 v4 v5 v6 v7 v8 v9 v10 v11 v12 v13) (hmin : wa vmin W_min) (hmax : wa vmax W_max) (ht : tkA tk al) {p : Nat} {xa xe : Int} {K : List Int} {w cd : Nat → Int} (h : qS g n B o0 d [] o0 p xa xe (0 : Int) (-1 : Int) (K.length : Int) (B.length : Int) o0 w) (hK : pcl cd K) : qUC g n B o0 d (RC g n al true [] K o0 p) p (F_X10_qSums xa (n : Int) xe (0 : Int) (-1 : Int) tk (K.length : Int) (B.length : Int) o0 g vmin vmax v1 v2 v3 v4 v5 v6 v7 v8 v9 v10 v11 v12 v13 cd w) := by
  have hpn := h.2.2.2.2.2.2.1.1
  exact qc_sum hn hB hq hmin hmax ht 3203 [] K o0 p xa xe w cd h (by omega) hK
end QUC
