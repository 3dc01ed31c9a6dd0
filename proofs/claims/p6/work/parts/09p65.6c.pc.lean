/-- what qPartTold leaves, with what is coded -/
def qTC (g : Nat → Int) (n : Nat) (al : Int) (B : List Int) (o0 : Int) (d : Nat) (S : SL) (p : Nat) (R : Int × Int × Int × Int × Int × Int × Int × (Nat → Int) × (Nat → Int)) : Prop := (∃ q : Int × Int, S = .inl q ∧ ¬ q.1 = 0 ∧ R.2.2.1 = q.1 ∧ R.2.2.2.1 = q.2) ∨ (∃ P2 K2 o2 p2, S = RC g n al false P2 K2 o2 p2 ∧ p < p2 ∧ h6 P2 ∧ qSC g n B o0 d P2 K2 o2 p2 R.1 R.2.1 R.2.2.1 R.2.2.2.1 R.2.2.2.2.1 R.2.2.2.2.2.1 R.2.2.2.2.2.2.1 R.2.2.2.2.2.2.2.1 R.2.2.2.2.2.2.2.2)
theorem qTC_m {g : Nat → Int} {n : Nat} {al : Int} {B : List Int} {o0 : Int} {d : Nat} {S : SL} {p p1 : Nat} {R : Int × Int × Int × Int × Int × Int × Int × (Nat → Int) × (Nat → Int)} (h : p ≤ p1) (hq : qTC g n al B o0 d S p1 R) : qTC g n al B o0 d S p R := by
  rcases hq with r | ⟨P2, K2, o2, p2, b, c, d⟩
  · exact Or.inl r
  · exact Or.inr ⟨P2, K2, o2, p2, b, by omega, d⟩
theorem sp_num_hi {g : Nat → Int} {n p q : Nat} {lo hi : Int} (h : (sp_num g n lo hi p).2 = .inr q) : (sp_num g n lo hi p).1 ≤ hi := by
  unfold sp_num at h ⊢
  by_cases k : tx_k g n p = 2
  · rw [if_pos k] at h ⊢
    by_cases k2 : tx_e g n p - tx_a g n p ≤ 4
    · rw [if_pos k2] at h ⊢
      by_cases k3 : dval g (tx_e g n p - tx_a g n p) (tx_a g n p) 0 < lo ∨ hi < dval g (tx_e g n p - tx_a g n p) (tx_a g n p) 0
      · rw [if_pos k3] at h
        cases h
      · rw [if_neg k3]
        show dval g (tx_e g n p - tx_a g n p) (tx_a g n p) 0 ≤ hi
        omega
    · rw [if_neg k2] at h
      cases h
  · rw [if_neg k] at h
    cases h
theorem bL_num {g : Nat → Int} {n p : Nat} (k : Nat → List Int → SL) : bL (numM g n p) k = ndL (sp_num g n 0 9999 p).2 (fun q => k q [1000 + (sp_num g n 0 9999 p).1]) := by
  unfold numM
  cases (sp_num g n 0 9999 p).2 with
  | inl z => rfl
  | inr z => rfl
section QPC
variable {g : Nat → Int} {n : Nat} {al tk : Int} {B : List Int} {o0 : Int} {d : Nat} {vmin vmax v1 v2 v3 v4 v5 v6 v7 v8 v9 v10 v11 v12 v13 : Nat → Int}
theorem qc_ep {P K : List Int} {o v : Int} {p : Nat} {xa xe : Int} {w cd : Nat → Int} (hn : n ≤ 1600) (h : qS g n B o0 d P o p xa xe (0 : Int) (-1 : Int) (K.length : Int) ((P ++ B).length : Int) o w) {s : ST} (hs : sv n s) (hs2 : ∀ q, s = .inr q → p < q) {ya ye yb yp : Int} (hr : rm g n s ya ye yb yp) (hK : ∀ q, s = .inr q → pcl cd (K ++ [v])) : qTC g n al B o0 d (ndL s (fun p2 => RC g n al false (dE P (K ++ [v]) o).1 (dE P (K ++ [v]) o).2.1 (dE P (K ++ [v]) o).2.2 p2)) p (lf_p (F_X10_qEndsPart yb ((K.length : Int) + 1) ((P ++ B).length : Int) o (B.length : Int) cd w) (fun v52 t_v53 => (lf_p t_v53 (fun v53 t_v54 => (lf_p t_v54 (fun v54 f55 => (ya, ye, yb, yp, v52, v53, v54, w, f55))))))) := by
  have hlen := q_len hn h
  obtain ⟨h1, h2, h3, h4, h5, h6', h7, h8, h9, h10, h11, h12⟩ := h
  have hl1 : (P ++ B).length = P.length + B.length := List.length_append
  cases s with
  | inl q =>
    obtain ⟨r1, r2⟩ := hr
    rw [q_ends0 (show ¬ yb = 0 from fun e => hs (r1.symm.trans e)), lf_p_e, lf_p_e, lf_p_e]
    exact Or.inl ⟨q, rfl, hs, r1, r2⟩
  | inr p2 =>
    obtain ⟨r1, r2, r3⟩ := hr
    subst r1
    subst r2
    have hlt := hs2 p2 rfl
    obtain ⟨cd3, e3, e4⟩ := qc_ends (K := K ++ [v]) (cd := cd) (o := o) (T := P) h12 (by omega) (by omega) (by omega) (hK p2 rfl)
    rw [len_1] at e3
    obtain ⟨u1, u2, u3, u4, u5, u6⟩ := ok_eo o h1
    have u7 := eoD_le P o
    have u8 := dE_len P (K ++ [v]) o
    have u9 := dE_1 P (K ++ [v]) o
    rw [u9.1, List.length_append] at u8
    have u8' : (dE P (K ++ [v]) o).2.1.length + (eoD P o).1.length = K.length + 1 + P.length := u8
    have hl3 : ((eoD P o).1 ++ B).length = (eoD P o).1.length + B.length := List.length_append
    rw [e3, lf_p_e, lf_p_e, lf_p_e]
    refine Or.inr ⟨(eoD P o).1, (dE P (K ++ [v]) o).2.1, (eoD P o).2, p2, ?_, hlt, u4, ⟨u3, by omega, h3, by omega, ?_, ?_, r3, rfl, rfl, rfl, rfl, eoD_p P o h12⟩, rfl, e4⟩
    · show RC g n al false (dE P (K ++ [v]) o).1 (dE P (K ++ [v]) o).2.1 (dE P (K ++ [v]) o).2.2 p2 = _
      rw [u9.1, u9.2]
    · show ((dE P (K ++ [v]) o).2.1.length : Int) + (d : Int) + (((eoD P o).1 ++ B).length : Int) ≤ _
      omega
    · show 0 ≤ ((dE P (K ++ [v]) o).2.1.length : Int)
      omega
theorem qc_at {P K : List Int} {o : Int} {p : Nat} {xa xe : Int} {w cd : Nat → Int} (hn : n ≤ 1600) (hq : qw v1 v2 v3 v4 v5 v6 v7 v8 v9 v10 v11 v12 v13) (ht : tkA tk al) (h : qS g n B o0 d P o p xa xe (0 : Int) (-1 : Int) (K.length : Int) ((P ++ B).length : Int) o w) (hK : pcl cd K) (f : Nat) : qTC g n al B o0 d (bL (atM g n al p) (fun q L => RC g n al false (dE P (K ++ L) o).1 (dE P (K ++ L) o).2.1 (dE P (K ++ L) o).2.2 q)) p (F_X10_qPartTold_2 (n : Int) tk (K.length : Int) (B.length : Int) g vmin vmax v1 v2 v3 v4 v5 v6 v7 v8 v9 v10 v11 v12 v13 cd (f + 1) xa xe (0 : Int) (-1 : Int) ((P ++ B).length : Int) o w (0 : Int)) := by
  have h7 := h.2.2.2.2.2.2.1
  show qTC g n al B o0 d _ p (F_X10_qPartTold_2b (n : Int) tk (K.length : Int) (B.length : Int) g vmin vmax v1 v2 v3 v4 v5 v6 v7 v8 v9 v10 v11 v12 v13 cd (F_X10_qPartTold_2 (n : Int) tk (K.length : Int) (B.length : Int) g vmin vmax v1 v2 v3 v4 v5 v6 v7 v8 v9 v10 v11 v12 v13 cd f) xa xe (0 : Int) (-1 : Int) ((P ++ B).length : Int) o w (0 : Int))
  unfold F_X10_qPartTold_2b
  rw [if_pos rfl, if_pos rfl, q_wo1 hn hq ht h7, lf_p_e]
  by_cases q : wl g n ws_20 p = -1 ∨ alB al (wl g n ws_20 p) = false
  · have er : (if wl g n ws_20 p = -1 then (-1 : Int) else if alB al (wl g n ws_20 p) = true then wl g n ws_20 p else -1) = -1 := by
      by_cases q1 : wl g n ws_20 p = -1
      · rw [if_pos q1]
      · rcases q with q | q
        · exact absurd q q1
        · rw [if_neg q1, q, if_neg (fun r => Bool.noConfusion r)]
    rw [er, if_pos rfl, F_X10_number_a0_0_a1_9999_g]
    have e1 : atM g n al p = numM g n p := by
      unfold atM
      by_cases k : tx_k g n p = 2
      · rw [if_pos k]
      · rw [if_neg k]
        have e2 : (sp_num g n 0 9999 p).2 = .inl (1, (tx_a g n p : Int)) := by
          unfold sp_num
          rw [if_neg k]
        unfold numM
        rw [e2]
        unfold pwM
        rw [if_pos]
        · rfl
        · rcases q with q | q
          · exact Or.inl q
          · refine Or.inr ?_
            unfold alB at q
            have := of_decide_eq_false q
            exact Decidable.not_not.mp this
    have hm := gM_1 hn (mp_a h7) 0 9999
    have hv := sp_num_v (g := g) 0 9999 h7.1
    have hg : ∀ q, (sp_num g n 0 9999 p).2 = .inr q → p < q := fun q e => sp_num_gt e
    have hlo : 0 ≤ (sp_num g n 0 9999 p).1 := sp_num_lo
    have hhi : ∀ q, (sp_num g n 0 9999 p).2 = .inr q → (sp_num g n 0 9999 p).1 ≤ 9999 := fun q e => sp_num_hi e
    rw [e1, bL_num]
    generalize gM (tx_a g n p : Int) (n : Int) xe (0 : Int) (-1 : Int) g (0 : Int) (9999 : Int) = R at hm ⊢
    obtain ⟨r1, r2, r3, r4, r5⟩ := R
    rw [lf_p_e, lf_p_e, lf_p_e, lf_p_e]
    unfold F_X10_qCode
    rw [lf_p_e]
    refine qc_ep hn h hv hg hm.1 (fun q e => ?_)
    have e3 : r1 = (sp_num g n 0 9999 p).1 := hm.2 q e
    have e4 := hhi q e
    rw [lo_add (by omega) (by omega) (by omega) (by omega) (by omega) (by omega), e3]
    exact pcl_app hK _
  · have q1 : ¬ wl g n ws_20 p = -1 := fun r => q (Or.inl r)
    have q2 : alB al (wl g n ws_20 p) = true := by
      cases c : alB al (wl g n ws_20 p) with
      | true => rfl
      | false => exact absurd (Or.inr c) q
    have hb := wl_20 q1
    have hk := wl_k q1
    have e1 : atM g n al p = .inr (tx_e g n p, [40 + wl g n ws_20 p]) := by
      unfold atM
      rw [if_neg (by omega)]
      unfold pwM
      rw [if_neg]
      intro r
      rcases r with r | r
      · exact q1 r
      · unfold alB at q2
        exact of_decide_eq_true q2 r
    have hm := q_aw hn hq (mp_a h7) (r := wl g n ws_20 p) (by rw [wl_q, if_neg q1]) q1
    have hg : ∀ q, (.inr (tx_e g n p) : ST) = .inr q → p < q := fun q e => by
      cases e
      exact tx_e_gt' (by omega)
    have hv : sv n (.inr (tx_e g n p) : ST) := tx_e_le h7.1
    rw [e1, if_neg q1, if_pos q2, if_neg (show ¬ wl g n ws_20 p = -1 from q1)]
    generalize F_X10_qAsksWord (tx_a g n p : Int) (n : Int) xe (0 : Int) (-1 : Int) g v1 v2 v3 v4 v5 v6 v7 v8 v9 v10 v11 v12 v13 (wl g n ws_20 p) = R at hm ⊢
    obtain ⟨r1, r2, r3, r4⟩ := R
    rw [lf_p_e, lf_p_e, lf_p_e]
    unfold F_X10_qCode
    rw [lf_p_e]
    exact qc_ep (s := .inr (tx_e g n p)) hn h hv hg hm (fun q e => pcl_app hK _)
theorem qc_mm {P : List Int} {o : Int} {p : Nat} {K : List Int} {xa xe : Int} {w : Nat → Int} (x : Int) (hx : x = 21 ∨ x = 22) (hn : n ≤ 1600) (h : qS g n B o0 d P o p xa xe (0 : Int) (-1 : Int) (K.length : Int) ((P ++ B).length : Int) o w) {cd : Nat → Int} (f : Nat) (ih : ∀ (P : List Int) (o : Int) (p : Nat) (xa xe : Int) (w : Nat → Int), qS g n B o0 d P o p xa xe (0 : Int) (-1 : Int) (K.length : Int) ((P ++ B).length : Int) o w → n - p + 1 < f + 1 → qTC g n al B o0 d (RC g n al true P K o p) p (F_X10_qPartTold_2 (n : Int) tk (K.length : Int) (B.length : Int) g vmin vmax v1 v2 v3 v4 v5 v6 v7 v8 v9 v10 v11 v12 v13 cd (f + 1) xa xe (0 : Int) (-1 : Int) ((P ++ B).length : Int) o w (1 : Int))) (hf : n - p < f + 1) : qTC g n al B o0 d (mmC g n al x P K o p) p (lf_p (F_X10_look xa (n : Int) g) (fun r418 v420 => (if r418 = (40 : Int) then (lf_p (F_X10_qOpens (0 : Int) (-1 : Int) ((P ++ B).length : Int) o w x v420) (fun v467 t_v468 => (lf_p t_v468 (fun v468 t_v469 => (lf_p t_v469 (fun v469 t_v470 => (lf_p t_v470 (fun v470 f471 => (lf_p (F_X10_asksSign_a0_40 v420 (n : Int) v467 v468 g) (fun v481 t_v482 => (lf_p t_v482 (fun v482 v483 => (F_X10_qPartTold_2 (n : Int) tk (K.length : Int) (B.length : Int) g vmin vmax v1 v2 v3 v4 v5 v6 v7 v8 v9 v10 v11 v12 v13 cd (f + 1) v481 xe v482 v483 v469 v470 f471 (1 : Int)))))))))))))) else (lf_p (F_X10_asksSign_a0_40 v420 (n : Int) (0 : Int) (-1 : Int) g) (fun v438 t_v439 => (lf_p t_v439 (fun v439 v440 => (F_X10_qPartTold_2 (n : Int) tk (K.length : Int) (B.length : Int) g vmin vmax v1 v2 v3 v4 v5 v6 v7 v8 v9 v10 v11 v12 v13 cd (f + 1) v438 xe v439 v440 ((P ++ B).length : Int) o w (1 : Int))))))))) := by
  have hlen := q_len hn h
  obtain ⟨h1, h2, h3, h4, h5, h6', h7, h8, h9, h10, h11, h12⟩ := h
  have hle := tx_e_le (f := g) h7.1
  rw [ml_look hn h7, lf_p_e]
  unfold mmC
  by_cases q : lk g n p = 40
  · have q' : tx_k g n p = 3 ∧ g (tx_a g n p) = 40 := (lk_sgn (by omega)).mp q
    have hlt : p < tx_e g n p := tx_e_gt' (by have := q'.1; omega)
    unfold F_X10_qOpens
    rw [if_pos q, if_pos q', if_pos rfl]
    by_cases h6o : o = 6
    · rw [if_pos h6o, if_pos h6o, lf_p_e, lf_p_e, lf_p_e, lf_p_e]
      unfold F_X10_asksSign_a0_40
      rw [if_neg (show ¬ (4 : Int) = 0 from by decide), lf_p_e, lf_p_e, q_pt0 (show ¬ (4 : Int) = 0 from by decide)]
      exact Or.inl ⟨(4, (tx_a g n p : Int)), rfl, (show ¬ (4 : Int) = 0 from by decide), rfl, rfl⟩
    · rw [if_neg h6o, if_neg h6o, lf_p_e, lf_p_e, lf_p_e, lf_p_e, F_X10_asksSign_a0_40_1 hn (mp_a h7), if_pos q', lf_p_e, lf_p_e, lo_add (by omega) (by omega) (by omega) (by omega) (by omega) (by omega)]
      have hbr : isBr x = true := isBr_i.mpr (by omega)
      have hs : stT (x :: P) = x :: stT P := stT_n (br_op hbr)
      refine qTC_m (Nat.le_of_lt hlt) (ih (x :: P) (o + 1) (tx_e g n p) _ xe _ ⟨⟨h1, Or.inr (Or.inl hbr)⟩, ?_, h3, by omega, ?_, h6', mp_sgn h7 q'.1, rfl, rfl, rfl, rfl, pwl_push h12 x⟩ (by omega))
      · rw [hs, h2]
        show _ = o0 + (((stT P).length + 1 : Nat) : Int)
        omega
      · show (K.length : Int) + (d : Int) + (((P ++ B).length + 1 : Nat) : Int) ≤ _
        omega
  · have q' : ¬ (tx_k g n p = 3 ∧ g (tx_a g n p) = 40) := fun r => q ((lk_sgn (by omega)).mpr r)
    rw [if_neg q, if_neg q', F_X10_asksSign_a0_40_1 hn (mp_a h7), if_neg q', lf_p_e, lf_p_e, q_pt0 (show ¬ (1 : Int) = 0 from by decide)]
    exact Or.inl ⟨(1, (tx_a g n p : Int)), rfl, (show ¬ (1 : Int) = 0 from by decide), rfl, rfl⟩
theorem qc_pt (hn : n ≤ 1600) (hq : qw v1 v2 v3 v4 v5 v6 v7 v8 v9 v10 v11 v12 v13) (hmin : wa vmin W_min) (hmax : wa vmax W_max) (ht : tkA tk al) {K : List Int} {cd : Nat → Int} (hK : pcl cd K) : ∀ (f : Nat) (P : List Int) (o : Int) (p : Nat) (xa xe : Int) (w : Nat → Int), qS g n B o0 d P o p xa xe (0 : Int) (-1 : Int) (K.length : Int) ((P ++ B).length : Int) o w → n - p + 1 < f → qTC g n al B o0 d (RC g n al true P K o p) p (F_X10_qPartTold_2 (n : Int) tk (K.length : Int) (B.length : Int) g vmin vmax v1 v2 v3 v4 v5 v6 v7 v8 v9 v10 v11 v12 v13 cd f xa xe (0 : Int) (-1 : Int) ((P ++ B).length : Int) o w (1 : Int)) := by
  intro f
  induction f with
  | zero => intro P o p xa xe w h hf; omega
  | succ f ih =>
    intro P o p xa xe w h hf
    obtain ⟨f, rfl⟩ : ∃ k, f = k + 1 := ⟨f - 1, by omega⟩
    have h0 := h
    have hlen := q_len hn h
    obtain ⟨h1, h2, h3, h4, h5, h6', h7, h8, h9, h10, h11, h12⟩ := h
    have hle := tx_e_le (f := g) h7.1
    have hat : qS g n B o0 d P o p (tx_a g n p : Int) xe (0 : Int) (-1 : Int) (K.length : Int) ((P ++ B).length : Int) o w := ⟨h1, h2, h3, h4, h5, h6', mp_a h7, h8, h9, h10, h11, h12⟩
    show qTC g n al B o0 d _ p (F_X10_qPartTold_2b (n : Int) tk (K.length : Int) (B.length : Int) g vmin vmax v1 v2 v3 v4 v5 v6 v7 v8 v9 v10 v11 v12 v13 cd (F_X10_qPartTold_2 (n : Int) tk (K.length : Int) (B.length : Int) g vmin vmax v1 v2 v3 v4 v5 v6 v7 v8 v9 v10 v11 v12 v13 cd (f + 1)) xa xe (0 : Int) (-1 : Int) ((P ++ B).length : Int) o w (1 : Int))
    unfold F_X10_qPartTold_2b
    rw [if_neg (show ¬ (1 : Int) = 0 from by decide), if_pos rfl, ml_look hn h7, lf_p_e, q_wo2 hn hq ht (mp_a h7), lf_p_e]
    by_cases c1 : lk g n p = 40
    · have q' : tx_k g n p = 3 ∧ g (tx_a g n p) = 40 := (lk_sgn (by omega)).mp c1
      have hlt : p < tx_e g n p := tx_e_gt' (by have := q'.1; omega)
      unfold F_X10_qOpens_a0_20
      rw [if_pos c1, if_pos rfl]
      by_cases h6o : o = 6
      · rw [if_pos h6o, lf_p_e, lf_p_e, lf_p_e, lf_p_e, q_pt0 (show ¬ (4 : Int) = 0 from by decide), h6o, RC_o6 q']
        exact Or.inl ⟨(4, (tx_a g n p : Int)), rfl, (show ¬ (4 : Int) = 0 from by decide), rfl, rfl⟩
      · rw [if_neg h6o, lf_p_e, lf_p_e, lf_p_e, lf_p_e, lo_add (by omega) (by omega) (by omega) (by omega) (by omega) (by omega), RC_o1 h7.1 q' h6o]
        have hs : stT (20 :: P) = 20 :: stT P := rfl
        refine qTC_m (Nat.le_of_lt hlt) (ih (20 :: P) (o + 1) (tx_e g n p) _ xe _ ⟨⟨h1, Or.inr (Or.inl rfl)⟩, ?_, h3, by omega, ?_, h6', mp_sgn h7 q'.1, rfl, rfl, rfl, rfl, pwl_push h12 20⟩ (by omega))
        · rw [hs, h2]
          show _ = o0 + (((stT P).length + 1 : Nat) : Int)
          omega
        · show (K.length : Int) + (d : Int) + (((P ++ B).length + 1 : Nat) : Int) ≤ _
          omega
    · have q' : ¬ (tx_k g n p = 3 ∧ g (tx_a g n p) = 40) := fun r => c1 ((lk_sgn (by omega)).mpr r)
      rw [if_neg c1, F_X10_isHere_1 hn (W := W_min) rfl hmin (mp_a h7), lf_p_e]
      cases cm : wh g n W_min p with
      | true =>
        have k17 : ¬ wl g n ws_17 p = -1 := by
          rw [show wl g n ws_17 p = 0 from (wl_1 W_min).trans (if_pos cm)]
          decide
        have hk := (wh_k cm).1
        have hlt : p < tx_e g n p := tx_e_gt' (by omega)
        rw [if_neg (show ¬ b2 true = 0 from by decide), F_X10_takes_1 hn (W := W_min) rfl hmin (mp_a h7), if_pos cm, lf_p_e, lf_p_e, if_neg (show ¬ (1 : Int) = 0 from by decide), RC_mm h7.1 k17]
        exact qTC_m (Nat.le_of_lt hlt) (qc_mm 21 (Or.inl rfl) hn ⟨h1, h2, h3, h4, by omega, h6', mp_tok h7.1 hk (Or.inl rfl), rfl, rfl, rfl, rfl, h12⟩ f ih (by omega))
      | false =>
        have k17 : wl g n ws_17 p = -1 := (wl_1 W_min).trans (if_neg (fun r => Bool.noConfusion (cm.symm.trans r)))
        rw [if_pos (show b2 false = 0 from rfl), F_X10_isHere_1 hn (W := W_max) rfl hmax (mp_a h7), lf_p_e]
        cases cx : wh g n W_max p with
        | true =>
          have k18 : ¬ wl g n ws_18 p = -1 := by
            rw [show wl g n ws_18 p = 0 from (wl_1 W_max).trans (if_pos cx)]
            decide
          have hk := (wh_k cx).1
          have hlt : p < tx_e g n p := tx_e_gt' (by omega)
          rw [if_neg (show ¬ b2 true = 0 from by decide), F_X10_takes_1 hn (W := W_min) rfl hmin (mp_a h7), if_neg (show ¬ wh g n W_min p = true from fun r => Bool.noConfusion (cm.symm.trans r)), lf_p_e, lf_p_e, if_pos rfl, F_X10_asks_t hn (W := W_max) rfl hmax (mp_a h7) cx, lf_p_e, lf_p_e, lf_p_e, RC_mx h7.1 k17 k18]
          exact qTC_m (Nat.le_of_lt hlt) (qc_mm 22 (Or.inr rfl) hn ⟨h1, h2, h3, h4, by omega, h6', mp_tok h7.1 hk (Or.inl rfl), rfl, rfl, rfl, rfl, h12⟩ f ih (by omega))
        | false =>
          have k18 : wl g n ws_18 p = -1 := (wl_1 W_max).trans (if_neg (fun r => Bool.noConfusion (cx.symm.trans r)))
          rw [if_pos (show b2 false = 0 from rfl)]
          by_cases hk : al = 3707 ∧ ¬ wl g n ws_19 p = -1
          · have k20 := wl_19 hk.2
            have hk1 := wl_k hk.2
            have hlt : p < tx_e g n p := tx_e_gt' (by omega)
            rw [if_pos (show wl g n ws_20 p = -1 ∧ ¬ wl g n ws_19 p = -1 ∧ al = 3707 from ⟨k20, hk.2, hk.1⟩), if_neg (show ¬ (12 : Int) = -1 from by decide), show (60 : Int) + 12 - 12 = 60 from rfl]
            unfold F_X10_qOpens
            rw [if_pos rfl]
            by_cases h6o : o = 6
            · rw [if_pos h6o, lf_p_e, lf_p_e, lf_p_e, lf_p_e, q_aw0 (show ¬ (4 : Int) = 0 from by decide), lf_p_e, lf_p_e, lf_p_e, q_pt0 (show ¬ (4 : Int) = 0 from by decide), h6o, RC_k6 k17 k18 hk]
              exact Or.inl ⟨(4, (tx_a g n p : Int)), rfl, (show ¬ (4 : Int) = 0 from by decide), rfl, rfl⟩
            · have hm := q_aw hn hq (mp_a h7) (r := 12) (by rw [wl_q, if_pos k20, if_neg hk.2]) (by decide)
              rw [if_neg h6o, lf_p_e, lf_p_e, lf_p_e, lf_p_e, lo_add (by omega) (by omega) (by omega) (by omega) (by omega) (by omega), RC_k1 h7.1 k17 k18 hk h6o]
              generalize F_X10_qAsksWord (tx_a g n p : Int) (n : Int) xe (0 : Int) (-1 : Int) g v1 v2 v3 v4 v5 v6 v7 v8 v9 v10 v11 v12 v13 (12 : Int) = R at hm ⊢
              obtain ⟨r1, r2, r3, r4⟩ := R
              obtain ⟨m1, m2, m3⟩ := hm
              have m1' : r3 = 0 := m1
              have m2' : r4 = -1 := m2
              subst m1'
              subst m2'
              rw [lf_p_e, lf_p_e, lf_p_e]
              have hs : stT (60 :: P) = 60 :: stT P := rfl
              refine qTC_m (Nat.le_of_lt hlt) (ih (60 :: P) (o + 1) (tx_e g n p) _ _ _ ⟨⟨h1, Or.inr (Or.inr rfl)⟩, ?_, h3, by omega, ?_, h6', m3, rfl, rfl, rfl, rfl, pwl_push h12 60⟩ (by omega))
              · rw [hs, h2]
                show _ = o0 + (((stT P).length + 1 : Nat) : Int)
                omega
              · show (K.length : Int) + (d : Int) + (((P ++ B).length + 1 : Nat) : Int) ≤ _
                omega
          · rw [if_neg (show ¬ (wl g n ws_20 p = -1 ∧ ¬ wl g n ws_19 p = -1 ∧ al = 3707) from fun r => hk ⟨r.2.2, r.2.1⟩), if_pos rfl, RC_at h7.1 q' k17 k18 hk]
            exact qc_at hn hq ht hat hK f
end QPC
