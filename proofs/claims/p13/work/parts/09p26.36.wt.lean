section
/-! 36 -/
theorem nm_s {g : Nat → Int} {n : Nat} {s : ST} {xa xe xb xp np : Int} {w1 w2 w3 w4 w5 w6 w7 w8 w9 w10 w11 w12 w13 w14 w15 w16 w17 w18 w19 w20 w21 w22 w23 w24 w25 w26 w27 w28 w29 w30 : Nat → Int} (hn : n ≤ 1600) (hm : mw w1 w2 w3 w4 w5 w6 w7 w8 w9 w10 w11 w12 w13 w14 w15 w16 w17 w18 w19 w20 w21 w22 w23 w24 w25 w26 w27 w28 w29 w30) (hv : sv n s) (h : rm g n s xa xe xb xp) : rm6 g n (sb s (sp_nm g n)) (F_X10_name xa (n : Int) xe xb xp np g w1 w2 w3 w4 w5 w6 w7 w8 w9 w10 w11 w12 w13 w14 w15 w16 w17 w18 w19 w20 w21 w22 w23 w24 w25 w26 w27 w28 w29 w30) ∧ ∀ p, s = .inr p → isNm g n p = true → (F_X10_name xa (n : Int) xe xb xp np g w1 w2 w3 w4 w5 w6 w7 w8 w9 w10 w11 w12 w13 w14 w15 w16 w17 w18 w19 w20 w21 w22 w23 w24 w25 w26 w27 w28 w29 w30).1 = v27 (wd g n p) ∧ (F_X10_name xa (n : Int) xe xb xp np g w1 w2 w3 w4 w5 w6 w7 w8 w9 w10 w11 w12 w13 w14 w15 w16 w17 w18 w19 w20 w21 w22 w23 w24 w25 w26 w27 w28 w29 w30).2.2.2.2.2 = (tx_a g n p : Int) := by
  cases s with
  | inl q =>
    have hb : ¬ xb = 0 := fun r => hv (h.1.symm.trans r)
    rw [nm_0 hb]
    exact ⟨h, fun p r => by cases r⟩
  | inr p =>
    obtain ⟨h1, h2, h3⟩ := h
    subst h1
    subst h2
    have := nm_1 (np := np) hn hm h3
    exact ⟨this.1, fun p2 r => by cases r; exact this.2⟩
theorem ask2_0 {g w : Nat → Int} {xa n xe xb xp : Int} (h : ¬ xb = 0) : F_X10_asks_r2 xa n xe xb xp g w = (xa, xe, xb, xp) := by
  unfold F_X10_asks_r2
  rw [if_neg h]
theorem gM_0 {g : Nat → Int} {xa n xe xb xp lo hi : Int} (h : ¬ xb = 0) : gM xa n xe xb xp g lo hi = ((0 : Int), xa, xe, xb, xp) := by
  unfold gM
  rw [if_neg h]
theorem mnm_w1 {M N : Nat → Int} {Ks Ws : List (List Int)} {w : List Int} (hw : isW w) (h : mnm M N Ks Ws) (hl : Ws.length < 12) : mnm (lf_up M 1 (M 1 + 1)) (lf_up N (12 + M 1) (v27 w)) Ks (Ws ++ [w]) := by
  obtain ⟨h1, h2, h3, h4, h5, h6, h7, h8⟩ := h
  have e : (Ws ++ [w]).length = Ws.length + 1 := by rw [List.length_append]; rfl
  refine ⟨h1, ?_, h3, fun j hj => ?_, fun i hi => ?_, fun i hi => ?_, h7, by omega⟩
  · show M 1 + 1 = _
    rw [h2, e]
    omega
  · rw [getD_app]
    by_cases q : j < Ws.length
    · rw [if_pos q]; exact h4 j q
    · rw [if_neg q, if_pos (by omega)]; exact hw
  · unfold lf_up
    rw [h2, if_neg (by omega)]
    exact h5 i hi
  · unfold lf_up
    rw [h2, getD_app]
    by_cases q : i < Ws.length
    · rw [if_neg (by omega), if_pos q]; exact h6 i q
    · rw [if_pos (by omega), if_neg q, if_pos (by omega)]
theorem wt_1 {g M N wk : Nat → Int} {n p : Nat} {xa xe np bg : Int} {Ks Ws : List (List Int)} {w1 w2 w3 w4 w5 w6 w7 w8 w9 w10 w11 w12 w13 w14 w15 w16 w17 w18 w19 w20 w21 w22 w23 w24 w25 w26 w27 w28 w29 w30 : Nat → Int} (hn : n ≤ 1600) (hm : mw w1 w2 w3 w4 w5 w6 w7 w8 w9 w10 w11 w12 w13 w14 w15 w16 w17 w18 w19 w20 w21 w22 w23 w24 w25 w26 w27 w28 w29 w30) (hp : p ≤ n) (h : mp g n (tx_e g n p) xa xe) (hN : mnm M N Ks Ws) (hl : Ws.length < 12) : rm g n (sp_c3 g n Ks Ws p).2 (F_X10_walkerTold xa (n : Int) xe (0 : Int) (-1 : Int) np g w1 w2 w3 w4 w5 w6 w7 w8 w9 w10 w11 w12 w13 w14 w15 w16 w17 w18 w19 w20 w21 w22 w23 w24 w25 w26 w27 w28 w29 w30 M N wk bg).1 (F_X10_walkerTold xa (n : Int) xe (0 : Int) (-1 : Int) np g w1 w2 w3 w4 w5 w6 w7 w8 w9 w10 w11 w12 w13 w14 w15 w16 w17 w18 w19 w20 w21 w22 w23 w24 w25 w26 w27 w28 w29 w30 M N wk bg).2.1 (F_X10_walkerTold xa (n : Int) xe (0 : Int) (-1 : Int) np g w1 w2 w3 w4 w5 w6 w7 w8 w9 w10 w11 w12 w13 w14 w15 w16 w17 w18 w19 w20 w21 w22 w23 w24 w25 w26 w27 w28 w29 w30 M N wk bg).2.2.1 (F_X10_walkerTold xa (n : Int) xe (0 : Int) (-1 : Int) np g w1 w2 w3 w4 w5 w6 w7 w8 w9 w10 w11 w12 w13 w14 w15 w16 w17 w18 w19 w20 w21 w22 w23 w24 w25 w26 w27 w28 w29 w30 M N wk bg).2.2.2.1 ∧ ∀ q, (sp_c3 g n Ks Ws p).2 = .inr q → mnm (F_X10_walkerTold xa (n : Int) xe (0 : Int) (-1 : Int) np g w1 w2 w3 w4 w5 w6 w7 w8 w9 w10 w11 w12 w13 w14 w15 w16 w17 w18 w19 w20 w21 w22 w23 w24 w25 w26 w27 w28 w29 w30 M N wk bg).2.2.2.2.2.1 (F_X10_walkerTold xa (n : Int) xe (0 : Int) (-1 : Int) np g w1 w2 w3 w4 w5 w6 w7 w8 w9 w10 w11 w12 w13 w14 w15 w16 w17 w18 w19 w20 w21 w22 w23 w24 w25 w26 w27 w28 w29 w30 M N wk bg).2.2.2.2.2.2.1 Ks (Ws ++ [wd g n (tx_e g n p)]) := by
  unfold F_X10_walkerTold F_X10_isFull_a0_1_a1_12
  rw [if_pos rfl, if_neg (show ¬ M 1 = 12 from by have := hN.2.1; omega), lf_p_e, lf_p_e, if_pos rfl]
  have hv0 : sv n (sp_k0 g n Ks Ws p) := sp_k0_v Ks Ws hp
  have r0 := nw_1 (np := np) hn hm h hN
  generalize F_X10_newName xa (n : Int) xe (0 : Int) (-1 : Int) np g w1 w2 w3 w4 w5 w6 w7 w8 w9 w10 w11 w12 w13 w14 w15 w16 w17 w18 w19 w20 w21 w22 w23 w24 w25 w26 w27 w28 w29 w30 M N = o1 at r0 ⊢
  obtain ⟨y1, xa1, xe1, xb1, xp1, n1⟩ := o1
  have y1h : ∀ q, sp_k0 g n Ks Ws p = .inr q → y1 = v27 (wd g n (tx_e g n p)) := r0.2
  have r1 : rm g n (sp_k0 g n Ks Ws p) xa1 xe1 xb1 xp1 := r0.1
  rw [lf_p_e, lf_p_e, lf_p_e, lf_p_e, lf_p_e]
  have r2 := F_X10_asks_r2_s hn (W := W_is) rfl hm.2.2.2.2.2.2.2.2.2.1 hv0 r1
  have v2 : sv n (sp_c1 g n Ks Ws p) := sp_c1_v Ks Ws hp
  generalize F_X10_asks_r2 xa1 (n : Int) xe1 xb1 xp1 g w10 = o2 at r2 ⊢
  obtain ⟨xa2, xe2, xb2, xp2⟩ := o2
  have r2 : rm g n (sp_c1 g n Ks Ws p) xa2 xe2 xb2 xp2 := r2
  rw [lf_p_e, lf_p_e, lf_p_e]
  have r3 := nm_s (np := n1) hn hm v2 r2
  generalize F_X10_name xa2 (n : Int) xe2 xb2 xp2 n1 g w1 w2 w3 w4 w5 w6 w7 w8 w9 w10 w11 w12 w13 w14 w15 w16 w17 w18 w19 w20 w21 w22 w23 w24 w25 w26 w27 w28 w29 w30 = o3 at r3 ⊢
  obtain ⟨y3, xa3, xe3, xb3, xp3, n3⟩ := o3
  obtain ⟨r4, y3h⟩ := r3
  rw [lf_p_e, lf_p_e, lf_p_e, lf_p_e, lf_p_e, lf_b_e]
  cases ec : sp_c1 g n Ks Ws p with
  | inl x =>
    rw [ec] at r4 v2
    have r4 : xb3 = x.1 ∧ xp3 = x.2 := r4
    have hb : ¬ xb3 = 0 := fun r => v2 (r4.1.symm.trans r)
    have e3 : (sp_c3 g n Ks Ws p).2 = .inl x := by
      unfold sp_c3 sp_c2
      rw [ec]
      rfl
    rw [if_neg hb, ask2_0 hb, lf_p_e, lf_p_e, lf_p_e, F_X10_number_a0_0_a1_199_g, gM_0 hb, lf_p_e, lf_p_e, lf_p_e, lf_p_e, e3]
    exact ⟨r4, fun q r => by cases r⟩
  | inr p2 =>
    rw [ec] at r4 v2
    have hp2 : p2 ≤ n := v2
    by_cases c : isNm g n p2 = true
    · have y4 := y3h p2 ec c
      have e5 : sp_nm g n p2 = .inr (tx_e g n p2) := by
        unfold sp_nm
        exact if_pos c
      have r5 : rm6 g n (sp_nm g n p2) (y3, xa3, xe3, xb3, xp3, n3) := r4
      rw [e5] at r5
      obtain ⟨z1, z2, z3⟩ := r5
      have z1 : xb3 = 0 := z1
      have z2 : xp3 = -1 := z2
      have z3 : mp g n (tx_e g n p2) xa3 xe3 := z3
      have z4 : y3 = v27 (wd g n p2) := y4.1
      have z5 : n3 = (tx_a g n p2 : Int) := y4.2
      subst z1
      subst z2
      subst z4
      subst z5
      rw [if_pos rfl, no_0 (isNm_W c).2 hN]
      by_cases q1 : fi (wd g n p2) Ks 0 = -1
      · have hb : ¬ (3 : Int) = 0 := by decide
        have e3 : (sp_c3 g n Ks Ws p).2 = .inl (3, (tx_a g n p2 : Int)) := by
          unfold sp_c3 sp_c2
          rw [ec]
          show (sbv (sp_kn g n Ks p2).2 (sp_nb g n ws_11 0 199) 0).2 = _
          unfold sp_kn
          rw [if_pos c, if_pos q1]
          rfl
        rw [if_pos q1, ask2_0 hb, lf_p_e, lf_p_e, lf_p_e, F_X10_number_a0_0_a1_199_g, gM_0 hb, lf_p_e, lf_p_e, lf_p_e, lf_p_e, e3]
        exact ⟨⟨rfl, rfl⟩, fun q r => by cases r⟩
      · rw [if_neg q1]
        have e3 : sp_c3 g n Ks Ws p = sbv (.inr (tx_e g n p2)) (sp_nb g n ws_11 0 199) 0 := by
          unfold sp_c3 sp_c2
          rw [ec]
          show sbv (sp_kn g n Ks p2).2 (sp_nb g n ws_11 0 199) 0 = _
          unfold sp_kn
          rw [if_pos c, if_neg q1]
        have v4 : sv n (.inr (tx_e g n p2)) := tx_e_le hp2
        have r6 := F_X10_asks_r2_s (s := .inr (tx_e g n p2)) hn (W := W_at) rfl hm.2.2.2.2.2.2.2.2.2.2.1 v4 ⟨rfl, rfl, z3⟩
        generalize F_X10_asks_r2 xa3 (n : Int) xe3 (0 : Int) (-1 : Int) g w11 = o6 at r6 ⊢
        obtain ⟨xa6, xe6, xb6, xp6⟩ := o6
        have r6 : rm g n (sb (.inr (tx_e g n p2)) (sp_w g n [W_at])) xa6 xe6 xb6 xp6 := r6
        rw [lf_p_e, lf_p_e, lf_p_e]
        have v6 : sv n (sb (.inr (tx_e g n p2)) (sp_w g n [W_at])) := sv_sb v4 (fun _ hp => sp_w_v _ hp)
        have r7 := gM_s hn v6 r6 0 199 0
        rw [F_X10_number_a0_0_a1_199_g]
        generalize gM xa6 (n : Int) xe6 xb6 xp6 g 0 199 = o7 at r7 ⊢
        obtain ⟨y7, xa7, xe7, xb7, xp7⟩ := o7
        rw [sbv_nb] at r7
        have r7 : rm g n (sbv (.inr (tx_e g n p2)) (sp_nb g n ws_11 0 199) 0).2 xa7 xe7 xb7 xp7 := r7.1
        rw [← e3] at r7
        rw [lf_p_e, lf_p_e, lf_p_e, lf_p_e]
        have hv9 := sp_c3_v (g := g) Ks Ws hp
        cases e : (sp_c3 g n Ks Ws p).2 with
        | inl x =>
          rw [e] at r7 hv9
          have hb : ¬ xb7 = 0 := fun r => hv9 (r7.1.symm.trans r)
          rw [if_neg hb]
          exact ⟨r7, fun q r => by cases r⟩
        | inr q9 =>
          have e9 := e
          rw [e] at r7
          rw [if_pos r7.1]
          refine ⟨r7, fun q r => ?_⟩
          obtain ⟨z1, z2, p1, z3⟩ := sp_c3_gt e9
          rw [y1h p1 z3]
          exact mnm_w1 (isNm_W z2).2 hN hl
    · have e5 : sp_nm g n p2 = .inl (1, wrN g n p2) := by
        unfold sp_nm
        exact if_neg c
      have r5 : rm6 g n (sp_nm g n p2) (y3, xa3, xe3, xb3, xp3, n3) := r4
      rw [e5] at r5
      obtain ⟨z1, z2⟩ := r5
      have z1 : xb3 = 1 := z1
      have z2 : xp3 = wrN g n p2 := z2
      have hb : ¬ xb3 = 0 := by rw [z1]; decide
      have e3 : (sp_c3 g n Ks Ws p).2 = .inl (1, wrN g n p2) := by
        unfold sp_c3 sp_c2
        rw [ec]
        show (sbv (sp_kn g n Ks p2).2 (sp_nb g n ws_11 0 199) 0).2 = _
        unfold sp_kn
        rw [if_neg c]
        rfl
      rw [if_neg hb, ask2_0 hb, lf_p_e, lf_p_e, lf_p_e, F_X10_number_a0_0_a1_199_g, gM_0 hb, lf_p_e, lf_p_e, lf_p_e, lf_p_e, e3]
      exact ⟨⟨z1, z2⟩, fun q r => by cases r⟩
end
section
/-! 40 -/
/-! what waits, as a list: the last first -/
def pwl (w : Nat → Int) : List Int → Prop
  | [] => True
  | x :: K => w K.length = x ∧ pwl w K
theorem pwl_up {w : Nat → Int} {j : Nat} {v : Int} : ∀ {K : List Int}, pwl w K → K.length ≤ j → pwl (lf_up w (j : Int) v) K
  | [], _, _ => True.intro
  | x :: K, h, hj => by
    have hj' : K.length + 1 ≤ j := hj
    refine ⟨?_, pwl_up h.2 (by omega)⟩
    unfold lf_up
    rw [Int.toNat_natCast, if_neg (by omega)]
    exact h.1
theorem pwl_push {w : Nat → Int} {K : List Int} (h : pwl w K) (v : Int) : pwl (lf_up w (K.length : Int) v) (v :: K) := by
  refine ⟨?_, pwl_up h (Nat.le_refl _)⟩
  unfold lf_up
  rw [Int.toNat_natCast, if_pos rfl]
theorem pwl_tl {w : Nat → Int} : ∀ {T B : List Int}, pwl w (T ++ B) → pwl w B
  | [], _, h => h
  | _ :: T, _, h => pwl_tl (T := T) h.2
def isBr (x : Int) : Bool := decide (20 ≤ x) && decide (x ≤ 24)
theorem q_br (x : Int) : F_X10_qIsBracket x = b2 (isBr x) := by
  unfold F_X10_qIsBracket isBr
  by_cases q1 : x < 20
  · rw [if_pos q1, decide_eq_false (by omega)]
    rfl
  · rw [if_neg q1, decide_eq_true (by omega)]
    by_cases q2 : 24 < x
    · rw [if_pos q2, decide_eq_false (by omega)]
      rfl
    · rw [if_neg q2, decide_eq_true (by omega)]
      rfl
/-- the bracket that is open last -/
def brT : List Int → Int
  | [] => -1
  | x :: T => if isBr x = true then x else brT T
theorem q_brk {w : Nat → Int} {B : List Int} : ∀ (T : List Int) (f : Nat), pwl w (T ++ B) → T.length < f → F_X10_qBracket_7 (B.length : Int) w f (((T ++ B).length : Int) - 1) = brT T := by
  intro T
  induction T with
  | nil =>
    intro f h hf
    obtain ⟨k, rfl⟩ : ∃ k, f = k + 1 := ⟨f - 1, by have : 0 < f := hf; omega⟩
    show F_X10_qBracket_7b (B.length : Int) w _ ((B.length : Int) - 1) = -1
    unfold F_X10_qBracket_7b
    rw [if_pos (by omega), if_pos (by omega)]
  | cons x T ih =>
    intro f h hf
    obtain ⟨k, rfl⟩ : ∃ k, f = k + 1 := ⟨f - 1, by have : 0 < f := Nat.lt_of_le_of_lt (Nat.zero_le _) hf; omega⟩
    have hl : (T ++ B).length = T.length + B.length := List.length_append
    have e1 : (((x :: T) ++ B).length : Int) - 1 = ((T ++ B).length : Int) := by
      show (((T ++ B).length + 1 : Nat) : Int) - 1 = _
      omega
    have hx : w (T ++ B).length = x := h.1
    rw [e1]
    show F_X10_qBracket_7b (B.length : Int) w (F_X10_qBracket_7 (B.length : Int) w k) ((T ++ B).length : Int) = if isBr x = true then x else brT T
    unfold F_X10_qBracket_7b
    rw [if_neg (by omega), lf_b_e, Int.toNat_natCast, hx, q_br]
    cases c : isBr x with
    | true => rw [if_neg (show ¬ b2 true = 0 from by decide), if_neg (by omega), if_pos rfl]
    | false =>
      rw [if_pos (show b2 false = 0 from rfl), if_neg (fun r => Bool.noConfusion r), show ((T ++ B).length : Int) + (-1 : Int) = ((T ++ B).length : Int) - 1 from by omega]
      exact ih k h.2 (by have : T.length + 1 < k + 1 := hf; omega)
theorem q_bracket {w : Nat → Int} {T B : List Int} (h : pwl w (T ++ B)) (hl : T.length ≤ 1700) : F_X10_qBracket ((T ++ B).length : Int) (B.length : Int) w = brT T := q_brk T 1702 h (by omega)
/-- all down to the bracket falls -/
def drT : List Int → List Int
  | [] => []
  | x :: T => if isBr x = true then x :: T else drT T
theorem q_drop {w cd : Nat → Int} {c : Int} {x : Int} {K : List Int} : F_X10_qDrops c ((x :: K).length : Int) cd w = ((c + 1), (K.length : Int), lf_up cd c (w K.length)) := by
  unfold F_X10_qDrops F_X10_qCode
  rw [lf_p_e, show (((x :: K).length : Nat) : Int) - (1 : Int) = (K.length : Int) from by show ((K.length + 1 : Nat) : Int) - 1 = _; omega, Int.toNat_natCast]
theorem q_dtb {w : Nat → Int} {B : List Int} : ∀ (T : List Int) (f : Nat) (c : Int) (cd : Nat → Int), pwl w (T ++ B) → T.length < f → ∃ c2 cd2, F_X10_qDropsToBracket_0 (B.length : Int) w f c ((T ++ B).length : Int) cd = (c2, ((drT T ++ B).length : Int), cd2) ∧ c2 + ((drT T).length : Int) = c + (T.length : Int) := by
  intro T
  induction T with
  | nil =>
    intro f c cd h hf
    obtain ⟨k, rfl⟩ : ∃ k, f = k + 1 := ⟨f - 1, by have : 0 < f := hf; omega⟩
    refine ⟨c, cd, ?_, rfl⟩
    show F_X10_qDropsToBracket_0b (B.length : Int) w _ c (B.length : Int) cd = _
    unfold F_X10_qDropsToBracket_0b
    rw [if_pos (Int.le_refl _)]
    rfl
  | cons x T ih =>
    intro f c cd h hf
    obtain ⟨k, rfl⟩ : ∃ k, f = k + 1 := ⟨f - 1, by have : 0 < f := Nat.lt_of_le_of_lt (Nat.zero_le _) hf; omega⟩
    have hl : (T ++ B).length = T.length + B.length := List.length_append
    have hx : w (T ++ B).length = x := h.1
    have e1 : (((x :: T) ++ B).length : Int) = ((T ++ B).length : Int) + 1 := rfl
    have e2 : (((x :: T) ++ B).length : Int) - 1 = ((T ++ B).length : Int) := by omega
    obtain ⟨c2, cd2, e3, e4⟩ := ih k (c + 1) (lf_up cd c (w (T ++ B).length)) h.2 (by have : T.length + 1 < k + 1 := hf; omega)
    show ∃ c2 cd2, F_X10_qDropsToBracket_0b (B.length : Int) w (F_X10_qDropsToBracket_0 (B.length : Int) w k) c (((x :: T) ++ B).length : Int) cd = (c2, (((if isBr x = true then x :: T else drT T) ++ B).length : Int), cd2) ∧ c2 + ((if isBr x = true then x :: T else drT T).length : Int) = c + ((T.length + 1 : Nat) : Int)
    unfold F_X10_qDropsToBracket_0b
    rw [if_neg (by omega), lf_b_e, e2, Int.toNat_natCast, hx, q_br]
    cases cc : isBr x with
    | true =>
      rw [if_neg (show ¬ b2 true = 0 from by decide), if_pos rfl]
      exact ⟨c, cd, rfl, rfl⟩
    | false =>
      rw [if_pos (show b2 false = 0 from rfl), if_neg (fun r => Bool.noConfusion r), show F_X10_qDrops c (((x :: T) ++ B).length : Int) cd w = ((c + 1), ((T ++ B).length : Int), lf_up cd c (w (T ++ B).length)) from q_drop, lf_p_e, lf_p_e]
      exact ⟨c2, cd2, e3, by omega⟩
theorem q_drops {w cd : Nat → Int} {T B : List Int} {c : Int} (h : pwl w (T ++ B)) (hl : T.length ≤ 1700) : ∃ c2 cd2, F_X10_qDropsToBracket c ((T ++ B).length : Int) (B.length : Int) cd w = (c2, ((drT T ++ B).length : Int), cd2) ∧ c2 + ((drT T).length : Int) = c + (T.length : Int) := q_dtb T 1702 c cd h (by omega)
/-- what waits for a part falls behind it -/
def eoD : List Int → Int → List Int × Int
  | [], o => ([], o)
  | x :: T, o => if x < 60 then (x :: T, o) else eoD T (o - 1)
theorem q_eop {w : Nat → Int} {B : List Int} : ∀ (T : List Int) (f : Nat) (c o : Int) (cd : Nat → Int), pwl w (T ++ B) → T.length < f → -2000 ≤ o - (T.length : Int) → o ≤ 2000 → ∃ c2 cd2, F_X10_qEndsPart_0 (0 : Int) (B.length : Int) w f c ((T ++ B).length : Int) o cd = (c2, (((eoD T o).1 ++ B).length : Int), (eoD T o).2, cd2) ∧ c2 + ((eoD T o).1.length : Int) = c + (T.length : Int) := by
  intro T
  induction T with
  | nil =>
    intro f c o cd h hf h1 h2
    obtain ⟨k, rfl⟩ : ∃ k, f = k + 1 := ⟨f - 1, by have : 0 < f := hf; omega⟩
    refine ⟨c, cd, ?_, rfl⟩
    show F_X10_qEndsPart_0b (0 : Int) (B.length : Int) w _ c (B.length : Int) o cd = _
    unfold F_X10_qEndsPart_0b
    rw [if_pos rfl, if_pos (Int.le_refl _)]
    rfl
  | cons x T ih =>
    intro f c o cd h hf h1 h2
    obtain ⟨k, rfl⟩ : ∃ k, f = k + 1 := ⟨f - 1, by have : 0 < f := Nat.lt_of_le_of_lt (Nat.zero_le _) hf; omega⟩
    have h1' : -2000 ≤ o - ((T.length + 1 : Nat) : Int) := h1
    have hl : (T ++ B).length = T.length + B.length := List.length_append
    have hx : w (T ++ B).length = x := h.1
    have e1 : (((x :: T) ++ B).length : Int) = ((T ++ B).length : Int) + 1 := rfl
    have e2 : (((x :: T) ++ B).length : Int) - 1 = ((T ++ B).length : Int) := by omega
    obtain ⟨c2, cd2, e3, e4⟩ := ih k (c + 1) (o - 1) (lf_up cd c (w (T ++ B).length)) h.2 (by have : T.length + 1 < k + 1 := hf; omega) (by omega) (by omega)
    show ∃ c2 cd2, F_X10_qEndsPart_0b (0 : Int) (B.length : Int) w (F_X10_qEndsPart_0 (0 : Int) (B.length : Int) w k) c (((x :: T) ++ B).length : Int) o cd = (c2, (((if x < 60 then (x :: T, o) else eoD T (o - 1)).1 ++ B).length : Int), (if x < 60 then (x :: T, o) else eoD T (o - 1)).2, cd2) ∧ c2 + ((if x < 60 then (x :: T, o) else eoD T (o - 1)).1.length : Int) = c + ((T.length + 1 : Nat) : Int)
    unfold F_X10_qEndsPart_0b
    rw [if_pos rfl, if_neg (by omega), e2, Int.toNat_natCast, hx]
    by_cases q : x < 60
    · rw [if_pos q, if_pos q]
      exact ⟨c, cd, rfl, rfl⟩
    · rw [if_neg q, if_neg q, show F_X10_qDrops c (((x :: T) ++ B).length : Int) cd w = ((c + 1), ((T ++ B).length : Int), lf_up cd c (w (T ++ B).length)) from q_drop, lf_p_e, lf_p_e, lo_sub (by omega) (by omega) (by omega) (by omega) (by omega) (by omega)]
      exact ⟨c2, cd2, e3, by omega⟩
theorem q_ends {w cd : Nat → Int} {T B : List Int} {c o : Int} (h : pwl w (T ++ B)) (hl : T.length ≤ 1700) (h1 : -2000 ≤ o - (T.length : Int)) (h2 : o ≤ 2000) : ∃ c2 cd2, F_X10_qEndsPart (0 : Int) c ((T ++ B).length : Int) o (B.length : Int) cd w = (c2, (((eoD T o).1 ++ B).length : Int), (eoD T o).2, cd2) ∧ c2 + ((eoD T o).1.length : Int) = c + (T.length : Int) := q_eop T 1702 c o cd h (by omega) h1 h2
theorem q_ends0 {w cd : Nat → Int} {xb c m o b : Int} (h : ¬ xb = 0) : F_X10_qEndsPart xb c m o b cd w = (c, m, o, cd) := by
  unfold F_X10_qEndsPart
  show F_X10_qEndsPart_0b xb b w _ c m o cd = _
  unfold F_X10_qEndsPart_0b
  rw [if_neg h]
theorem eoD_p {w : Nat → Int} {B : List Int} : ∀ (T : List Int) (o : Int), pwl w (T ++ B) → pwl w ((eoD T o).1 ++ B)
  | [], _, h => h
  | x :: T, o, h => by
    show pwl w ((if x < 60 then (x :: T, o) else eoD T (o - 1)).1 ++ B)
    by_cases q : x < 60
    · rw [if_pos q]; exact h
    · rw [if_neg q]; exact eoD_p T (o - 1) h.2
theorem drT_p {w : Nat → Int} {B : List Int} : ∀ (T : List Int), pwl w (T ++ B) → pwl w (drT T ++ B)
  | [], h => h
  | x :: T, h => by
    show pwl w ((if isBr x = true then x :: T else drT T) ++ B)
    by_cases q : isBr x = true
    · rw [if_pos q]; exact h
    · rw [if_neg q]; exact drT_p T h.2
end
section
/-! 41 -/
/-! the model's way to read a sum: a machine with what is open as a list (operators left out) -/
def atS (g : Nat → Int) (n : Nat) (al : Int) (p : Nat) : ST := if tx_k g n p = 2 then (sp_num g n 0 9999 p).2 else (sp_pw g n al p (0, fun _ => 0)).1
def cmT (T : List Int) : List Int := match drT T with
  | [] => []
  | x :: U => (x + 2) :: U
def opS (g : Nat → Int) (n p : Nat) : Prop := tx_k g n p = 3 ∧ (g (tx_a g n p) = 42 ∨ g (tx_a g n p) = 47 ∨ g (tx_a g n p) = 43 ∨ g (tx_a g n p) = 45)
def mR (g : Nat → Int) (n : Nat) (al : Int) : Nat → Bool → List Int → Int → Nat → ST
  | 0, _, _, _, _ => .inl (0, 0)
  | f + 1, true, T, o, p => if tx_k g n p = 3 ∧ g (tx_a g n p) = 40 then (if o = 6 then .inl (4, (tx_a g n p : Int)) else mR g n al f true (20 :: T) (o + 1) (tx_e g n p)) else if ¬ wl g n ws_17 p = -1 then (if tx_k g n (tx_e g n p) = 3 ∧ g (tx_a g n (tx_e g n p)) = 40 then (if o = 6 then .inl (4, (tx_a g n (tx_e g n p) : Int)) else mR g n al f true (21 :: T) (o + 1) (tx_e g n (tx_e g n p))) else .inl (1, (tx_a g n (tx_e g n p) : Int))) else if ¬ wl g n ws_18 p = -1 then (if tx_k g n (tx_e g n p) = 3 ∧ g (tx_a g n (tx_e g n p)) = 40 then (if o = 6 then .inl (4, (tx_a g n (tx_e g n p) : Int)) else mR g n al f true (22 :: T) (o + 1) (tx_e g n (tx_e g n p))) else .inl (1, (tx_a g n (tx_e g n p) : Int))) else if al = 3707 ∧ ¬ wl g n ws_19 p = -1 then (if o = 6 then .inl (4, (tx_a g n p : Int)) else mR g n al f true (60 :: T) (o + 1) (tx_e g n p)) else sb (atS g n al p) (fun p2 => mR g n al f false (eoD T o).1 (eoD T o).2 p2)
  | f + 1, false, T, o, p => if (tx_k g n p = 3 ∧ g (tx_a g n p) = 41) ∧ (brT T = 20 ∨ brT T = 23 ∨ brT T = 24) then mR g n al f false (eoD (drT T).tail (o - 1)).1 (eoD (drT T).tail (o - 1)).2 (tx_e g n p) else if tx_k g n p = 3 ∧ (g (tx_a g n p) = 42 ∨ g (tx_a g n p) = 47 ∨ g (tx_a g n p) = 43 ∨ g (tx_a g n p) = 45) then mR g n al f true T o (tx_e g n p) else if brT T = 21 ∨ brT T = 22 then (if tx_k g n p = 3 ∧ g (tx_a g n p) = 44 then mR g n al f true (cmT T) o (tx_e g n p) else .inl (1, (tx_a g n p : Int))) else if brT T = -1 then .inr p else .inl (1, (tx_a g n p : Int))
theorem atS_v {g : Nat → Int} {n p : Nat} {al : Int} (hp : p ≤ n) : sv n (atS g n al p) := by
  unfold atS
  split
  · exact sp_num_v 0 9999 hp
  · exact (pw_ok p _ hp).1
theorem atS_gt {g : Nat → Int} {n p q : Nat} {al : Int} (hp : p ≤ n) (h : atS g n al p = .inr q) : p < q := by
  unfold atS at h
  split at h
  · exact sp_num_gt h
  · exact (pw_ok p _ hp).2 q h
theorem sb_cg {s : ST} {k k2 : Nat → ST} (h : ∀ q, s = .inr q → k q = k2 q) : sb s k = sb s k2 := by
  cases s with
  | inl x => rfl
  | inr p => exact h p rfl
/-- enough fuel is enough -/
theorem mR_f {g : Nat → Int} {n : Nat} {al : Int} : ∀ (f f2 : Nat) (m : Bool) (T : List Int) (o : Int) (p : Nat), p ≤ n → n - p < f → n - p < f2 → mR g n al f m T o p = mR g n al f2 m T o p := by
  intro f
  induction f with
  | zero => intro f2 m T o p h1 h2; omega
  | succ f ih =>
    intro f2 m T o p hp h2 h3
    obtain ⟨f2, rfl⟩ : ∃ k, f2 = k + 1 := ⟨f2 - 1, by omega⟩
    have hle := tx_e_le (f := g) hp
    have hle2 := tx_e_le (f := g) hle
    cases m with
    | true =>
      unfold mR
      by_cases c1 : tx_k g n p = 3 ∧ g (tx_a g n p) = 40
      · have hlt : p < tx_e g n p := tx_e_gt' (by omega)
        rw [if_pos c1, if_pos c1, ih f2 true (20 :: T) (o + 1) (tx_e g n p) hle (by omega) (by omega)]
      · rw [if_neg c1, if_neg c1]
        by_cases c2 : wl g n ws_17 p = -1
        · rw [if_neg (show ¬ ¬ wl g n ws_17 p = -1 from fun r => r c2), if_neg (show ¬ ¬ wl g n ws_17 p = -1 from fun r => r c2)]
          by_cases c3 : wl g n ws_18 p = -1
          · rw [if_neg (show ¬ ¬ wl g n ws_18 p = -1 from fun r => r c3), if_neg (show ¬ ¬ wl g n ws_18 p = -1 from fun r => r c3)]
            by_cases c4 : al = 3707 ∧ ¬ wl g n ws_19 p = -1
            · have hlt : p < tx_e g n p := tx_e_gt' (by have := wl_k c4.2; omega)
              rw [if_pos c4, if_pos c4, ih f2 true (60 :: T) (o + 1) (tx_e g n p) hle (by omega) (by omega)]
            · rw [if_neg c4, if_neg c4]
              refine sb_cg (fun q e => ?_)
              have h5 := atS_gt hp e
              have h6 := sv_le (atS_v (al := al) hp) e
              exact ih f2 false _ _ q h6 (by omega) (by omega)
          · have hlt : p < tx_e g n p := tx_e_gt' (by have := wl_k c3; omega)
            rw [if_pos c3, if_pos c3]
            by_cases c5 : tx_k g n (tx_e g n p) = 3 ∧ g (tx_a g n (tx_e g n p)) = 40
            · have hlt2 : tx_e g n p < tx_e g n (tx_e g n p) := tx_e_gt' (by omega)
              rw [if_pos c5, if_pos c5, ih f2 true (22 :: T) (o + 1) (tx_e g n (tx_e g n p)) hle2 (by omega) (by omega)]
            · rw [if_neg c5, if_neg c5]
        · have hlt : p < tx_e g n p := tx_e_gt' (by have := wl_k c2; omega)
          rw [if_pos c2, if_pos c2]
          by_cases c5 : tx_k g n (tx_e g n p) = 3 ∧ g (tx_a g n (tx_e g n p)) = 40
          · have hlt2 : tx_e g n p < tx_e g n (tx_e g n p) := tx_e_gt' (by omega)
            rw [if_pos c5, if_pos c5, ih f2 true (21 :: T) (o + 1) (tx_e g n (tx_e g n p)) hle2 (by omega) (by omega)]
          · rw [if_neg c5, if_neg c5]
    | false =>
      unfold mR
      by_cases c1 : (tx_k g n p = 3 ∧ g (tx_a g n p) = 41) ∧ (brT T = 20 ∨ brT T = 23 ∨ brT T = 24)
      · have hlt : p < tx_e g n p := tx_e_gt' (by omega)
        rw [if_pos c1, if_pos c1]
        exact ih f2 false _ _ (tx_e g n p) hle (by omega) (by omega)
      · rw [if_neg c1, if_neg c1]
        by_cases c2 : tx_k g n p = 3 ∧ (g (tx_a g n p) = 42 ∨ g (tx_a g n p) = 47 ∨ g (tx_a g n p) = 43 ∨ g (tx_a g n p) = 45)
        · have hlt : p < tx_e g n p := tx_e_gt' (by omega)
          rw [if_pos c2, if_pos c2]
          exact ih f2 true T o (tx_e g n p) hle (by omega) (by omega)
        · rw [if_neg c2, if_neg c2]
          by_cases c3 : brT T = 21 ∨ brT T = 22
          · rw [if_pos c3, if_pos c3]
            by_cases c4 : tx_k g n p = 3 ∧ g (tx_a g n p) = 44
            · have hlt : p < tx_e g n p := tx_e_gt' (by omega)
              rw [if_pos c4, if_pos c4]
              exact ih f2 true (cmT T) o (tx_e g n p) hle (by omega) (by omega)
            · rw [if_neg c4, if_neg c4]
          · rw [if_neg c3, if_neg c3]
def RR (g : Nat → Int) (n : Nat) (al : Int) (m : Bool) (T : List Int) (o : Int) (p : Nat) : ST := mR g n al (n - p + 1) m T o p
theorem RR_f {g : Nat → Int} {n : Nat} {al : Int} {m : Bool} {T : List Int} {o : Int} {p q : Nat} (hq : q ≤ n) (hp : p < q) : mR g n al (n - p) m T o q = RR g n al m T o q := mR_f _ _ _ _ _ _ hq (by omega) (by omega)
end
section
/-! 42 -/
section EQ
variable {g : Nat → Int} {n : Nat} {al : Int}
theorem RR_tu {T : List Int} {o : Int} {p : Nat} : RR g n al true T o p = (if tx_k g n p = 3 ∧ g (tx_a g n p) = 40 then (if o = 6 then .inl (4, (tx_a g n p : Int)) else mR g n al (n - p) true (20 :: T) (o + 1) (tx_e g n p)) else if ¬ wl g n ws_17 p = -1 then (if tx_k g n (tx_e g n p) = 3 ∧ g (tx_a g n (tx_e g n p)) = 40 then (if o = 6 then .inl (4, (tx_a g n (tx_e g n p) : Int)) else mR g n al (n - p) true (21 :: T) (o + 1) (tx_e g n (tx_e g n p))) else .inl (1, (tx_a g n (tx_e g n p) : Int))) else if ¬ wl g n ws_18 p = -1 then (if tx_k g n (tx_e g n p) = 3 ∧ g (tx_a g n (tx_e g n p)) = 40 then (if o = 6 then .inl (4, (tx_a g n (tx_e g n p) : Int)) else mR g n al (n - p) true (22 :: T) (o + 1) (tx_e g n (tx_e g n p))) else .inl (1, (tx_a g n (tx_e g n p) : Int))) else if al = 3707 ∧ ¬ wl g n ws_19 p = -1 then (if o = 6 then .inl (4, (tx_a g n p : Int)) else mR g n al (n - p) true (60 :: T) (o + 1) (tx_e g n p)) else sb (atS g n al p) (fun p2 => mR g n al (n - p) false (eoD T o).1 (eoD T o).2 p2)) := rfl
theorem RR_fu {T : List Int} {o : Int} {p : Nat} : RR g n al false T o p = (if (tx_k g n p = 3 ∧ g (tx_a g n p) = 41) ∧ (brT T = 20 ∨ brT T = 23 ∨ brT T = 24) then mR g n al (n - p) false (eoD (drT T).tail (o - 1)).1 (eoD (drT T).tail (o - 1)).2 (tx_e g n p) else if tx_k g n p = 3 ∧ (g (tx_a g n p) = 42 ∨ g (tx_a g n p) = 47 ∨ g (tx_a g n p) = 43 ∨ g (tx_a g n p) = 45) then mR g n al (n - p) true T o (tx_e g n p) else if brT T = 21 ∨ brT T = 22 then (if tx_k g n p = 3 ∧ g (tx_a g n p) = 44 then mR g n al (n - p) true (cmT T) o (tx_e g n p) else .inl (1, (tx_a g n p : Int))) else if brT T = -1 then .inr p else .inl (1, (tx_a g n p : Int))) := rfl
theorem RR_o1 {T : List Int} {o : Int} {p : Nat} (hp : p ≤ n) (c : tx_k g n p = 3 ∧ g (tx_a g n p) = 40) (ho : ¬ o = 6) : RR g n al true T o p = RR g n al true (20 :: T) (o + 1) (tx_e g n p) := by
  have hlt : p < tx_e g n p := tx_e_gt' (by omega)
  rw [← RR_f (p := p) (tx_e_le hp) hlt]
  rw [RR_tu, if_pos c, if_neg ho]
theorem RR_o6 {T : List Int} {p : Nat} (c : tx_k g n p = 3 ∧ g (tx_a g n p) = 40) : RR g n al true T 6 p = .inl (4, (tx_a g n p : Int)) := by
  rw [RR_tu, if_pos c, if_pos rfl]
/-- what stands behind min or max -/
def mmB (g : Nat → Int) (n : Nat) (al : Int) (x : Int) (T : List Int) (o : Int) (p1 : Nat) : ST := if tx_k g n p1 = 3 ∧ g (tx_a g n p1) = 40 then (if o = 6 then .inl (4, (tx_a g n p1 : Int)) else RR g n al true (x :: T) (o + 1) (tx_e g n p1)) else .inl (1, (tx_a g n p1 : Int))
theorem k1_no {p : Nat} {c : Int} (h : tx_k g n p = 1) : ¬ (tx_k g n p = 3 ∧ g (tx_a g n p) = c) := fun r => by have := r.1; omega
theorem RR_mm {T : List Int} {o : Int} {p : Nat} (hp : p ≤ n) (c : ¬ wl g n ws_17 p = -1) : RR g n al true T o p = mmB g n al 21 T o (tx_e g n p) := by
  have hk := wl_k c
  have hlt : p < tx_e g n p := tx_e_gt' (by omega)
  have hle := tx_e_le (f := g) hp
  unfold mmB
  by_cases c5 : tx_k g n (tx_e g n p) = 3 ∧ g (tx_a g n (tx_e g n p)) = 40
  · have hlt2 : tx_e g n p < tx_e g n (tx_e g n p) := tx_e_gt' (by omega)
    rw [← RR_f (p := p) (tx_e_le hle) (by omega)]
    rw [RR_tu, if_neg (k1_no hk), if_pos c, if_pos c5]
  · unfold RR mR
    rw [if_neg (k1_no hk), if_pos c, if_neg c5, if_neg c5]
theorem RR_mx {T : List Int} {o : Int} {p : Nat} (hp : p ≤ n) (c0 : wl g n ws_17 p = -1) (c : ¬ wl g n ws_18 p = -1) : RR g n al true T o p = mmB g n al 22 T o (tx_e g n p) := by
  have hk := wl_k c
  have hlt : p < tx_e g n p := tx_e_gt' (by omega)
  have hle := tx_e_le (f := g) hp
  unfold mmB
  by_cases c5 : tx_k g n (tx_e g n p) = 3 ∧ g (tx_a g n (tx_e g n p)) = 40
  · have hlt2 : tx_e g n p < tx_e g n (tx_e g n p) := tx_e_gt' (by omega)
    rw [← RR_f (p := p) (tx_e_le hle) (by omega)]
    rw [RR_tu, if_neg (k1_no hk), if_neg (show ¬ ¬ wl g n ws_17 p = -1 from fun r => r c0), if_pos c, if_pos c5]
  · unfold RR mR
    rw [if_neg (k1_no hk), if_neg (show ¬ ¬ wl g n ws_17 p = -1 from fun r => r c0), if_pos c, if_neg c5, if_neg c5]
theorem RR_k1 {T : List Int} {o : Int} {p : Nat} (hp : p ≤ n) (c0 : wl g n ws_17 p = -1) (c1 : wl g n ws_18 p = -1) (c : al = 3707 ∧ ¬ wl g n ws_19 p = -1) (ho : ¬ o = 6) : RR g n al true T o p = RR g n al true (60 :: T) (o + 1) (tx_e g n p) := by
  have hk := wl_k c.2
  have hlt : p < tx_e g n p := tx_e_gt' (by omega)
  rw [← RR_f (p := p) (tx_e_le hp) hlt]
  rw [RR_tu, if_neg (k1_no hk), if_neg (show ¬ ¬ wl g n ws_17 p = -1 from fun r => r c0), if_neg (show ¬ ¬ wl g n ws_18 p = -1 from fun r => r c1), if_pos c, if_neg ho]
theorem RR_k6 {T : List Int} {p : Nat} (c0 : wl g n ws_17 p = -1) (c1 : wl g n ws_18 p = -1) (c : al = 3707 ∧ ¬ wl g n ws_19 p = -1) : RR g n al true T 6 p = .inl (4, (tx_a g n p : Int)) := by
  have hk := wl_k c.2
  rw [RR_tu, if_neg (k1_no hk), if_neg (show ¬ ¬ wl g n ws_17 p = -1 from fun r => r c0), if_neg (show ¬ ¬ wl g n ws_18 p = -1 from fun r => r c1), if_pos c, if_pos rfl]
theorem RR_at {T : List Int} {o : Int} {p : Nat} (hp : p ≤ n) (c : ¬ (tx_k g n p = 3 ∧ g (tx_a g n p) = 40)) (c0 : wl g n ws_17 p = -1) (c1 : wl g n ws_18 p = -1) (c2 : ¬ (al = 3707 ∧ ¬ wl g n ws_19 p = -1)) : RR g n al true T o p = sb (atS g n al p) (fun p2 => RR g n al false (eoD T o).1 (eoD T o).2 p2) := by
  have e : sb (atS g n al p) (fun p2 => RR g n al false (eoD T o).1 (eoD T o).2 p2) = sb (atS g n al p) (fun p2 => mR g n al (n - p) false (eoD T o).1 (eoD T o).2 p2) := sb_cg (fun q e => (RR_f (p := p) (sv_le (atS_v (al := al) hp) e) (atS_gt hp e)).symm)
  rw [e]
  rw [RR_tu, if_neg c, if_neg (show ¬ ¬ wl g n ws_17 p = -1 from fun r => r c0), if_neg (show ¬ ¬ wl g n ws_18 p = -1 from fun r => r c1), if_neg c2]
theorem RR_cl {T : List Int} {o : Int} {p : Nat} (hp : p ≤ n) (c : tx_k g n p = 3 ∧ g (tx_a g n p) = 41) (hT : brT T = 20 ∨ brT T = 23 ∨ brT T = 24) : RR g n al false T o p = RR g n al false (eoD (drT T).tail (o - 1)).1 (eoD (drT T).tail (o - 1)).2 (tx_e g n p) := by
  have hlt : p < tx_e g n p := tx_e_gt' (by omega)
  rw [← RR_f (p := p) (tx_e_le hp) hlt]
  rw [RR_fu, if_pos ⟨c, hT⟩]
theorem RR_op {T : List Int} {o : Int} {p : Nat} (hp : p ≤ n) (c : opS g n p) : RR g n al false T o p = RR g n al true T o (tx_e g n p) := by
  have hk := c.1
  have hlt : p < tx_e g n p := tx_e_gt' (by omega)
  rw [← RR_f (p := p) (tx_e_le hp) hlt]
  rw [RR_fu, if_neg (fun r => by have h1 := r.1.2; have h2 := c.2; omega), if_pos (show tx_k g n p = 3 ∧ (g (tx_a g n p) = 42 ∨ g (tx_a g n p) = 47 ∨ g (tx_a g n p) = 43 ∨ g (tx_a g n p) = 45) from c)]
theorem RR_cm {T : List Int} {o : Int} {p : Nat} (hp : p ≤ n) (c : ¬ opS g n p) (hT : brT T = 21 ∨ brT T = 22) : RR g n al false T o p = if tx_k g n p = 3 ∧ g (tx_a g n p) = 44 then RR g n al true (cmT T) o (tx_e g n p) else .inl (1, (tx_a g n p : Int)) := by
  by_cases c4 : tx_k g n p = 3 ∧ g (tx_a g n p) = 44
  · have hlt : p < tx_e g n p := tx_e_gt' (by omega)
    rw [← RR_f (p := p) (tx_e_le hp) hlt]
    rw [RR_fu, if_neg (fun r => by have := r.2; omega), if_neg (show ¬ (tx_k g n p = 3 ∧ (g (tx_a g n p) = 42 ∨ g (tx_a g n p) = 47 ∨ g (tx_a g n p) = 43 ∨ g (tx_a g n p) = 45)) from c), if_pos hT]
  · rw [if_neg c4]
    rw [RR_fu, if_neg (fun r => by have := r.2; omega), if_neg (show ¬ (tx_k g n p = 3 ∧ (g (tx_a g n p) = 42 ∨ g (tx_a g n p) = 47 ∨ g (tx_a g n p) = 43 ∨ g (tx_a g n p) = 45)) from c), if_pos hT, if_neg c4]
theorem RR_nd {T : List Int} {o : Int} {p : Nat} (c : ¬ opS g n p) (hT : brT T = -1) : RR g n al false T o p = .inr p := by
  rw [RR_fu, if_neg (fun r => by have := r.2; omega), if_neg (show ¬ (tx_k g n p = 3 ∧ (g (tx_a g n p) = 42 ∨ g (tx_a g n p) = 47 ∨ g (tx_a g n p) = 43 ∨ g (tx_a g n p) = 45)) from c), if_neg (by omega), if_pos hT]
theorem RR_bd {T : List Int} {o : Int} {p : Nat} (c0 : ¬ (tx_k g n p = 3 ∧ g (tx_a g n p) = 41)) (c : ¬ opS g n p) (h1 : ¬ (brT T = 21 ∨ brT T = 22)) (h2 : ¬ brT T = -1) : RR g n al false T o p = .inl (1, (tx_a g n p : Int)) := by
  rw [RR_fu, if_neg (fun r => c0 r.1), if_neg (show ¬ (tx_k g n p = 3 ∧ (g (tx_a g n p) = 42 ∨ g (tx_a g n p) = 47 ∨ g (tx_a g n p) = 43 ∨ g (tx_a g n p) = 45)) from c), if_neg h1, if_neg h2]
/-- behind the last sum in a bracket -/
theorem RR_br {x : Int} {T : List Int} {o : Int} {p : Nat} (hp : p ≤ n) (c : ¬ opS g n p) (hx : x = 20 ∨ x = 23 ∨ x = 24) : RR g n al false (x :: T) (o + 1) p = sb (sp_need g n 41 p) (fun p2 => RR g n al false (eoD T o).1 (eoD T o).2 p2) := by
  have hb : brT (x :: T) = x := by
    rcases hx with e | e | e <;> (subst e; rfl)
  have hd : drT (x :: T) = x :: T := by
    rcases hx with e | e | e <;> (subst e; rfl)
  by_cases q : tx_k g n p = 3 ∧ g (tx_a g n p) = 41
  · rw [RR_cl hp q (by rw [hb]; exact hx), hd, show sp_need g n 41 p = .inr (tx_e g n p) from if_pos q, show o + 1 - 1 = o from by omega]
    rfl
  · rw [RR_bd q c (by rw [hb]; omega) (by rw [hb]; omega), show sp_need g n 41 p = .inl (1, (tx_a g n p : Int)) from if_neg q]
    rfl
/-- a sum and its end, one level deeper -/
def clS (g : Nat → Int) (n : Nat) (al : Int) (o : Int) (S : Nat → CD → ST × CD) : Prop := (∀ (T : List Int) (p : Nat) (c : CD), p ≤ n → (∀ k, eoD T k = (T, k)) → RR g n al true T o p = sb (S p c).1 (fun p2 => RR g n al false T o p2)) ∧ ∀ (p : Nat) (c : CD) (q : Nat), p ≤ n → (S p c).1 = .inr q → q ≤ n ∧ ¬ opS g n q
def clP (g : Nat → Int) (n : Nat) (al : Int) (o : Int) (P : Nat → CD → ST × CD) : Prop := ∀ (T : List Int) (p : Nat) (c : CD), p ≤ n → RR g n al true T o p = sb (P p c).1 (fun p2 => RR g n al false (eoD T o).1 (eoD T o).2 p2)
theorem mm_eq {x : Int} {b : Bool} {S : Nat → CD → ST × CD} {op o : Int} (hx : x = 21 ∨ x = 22) (h6 : b = false → o = 6) (h7 : b = true → ¬ o = 6 ∧ clS g n al (o + 1) S) (T : List Int) (p : Nat) (c : CD) (hp : p ≤ n) : mmB g n al x T o p = sb (sp_pair g n b S op p c).1 (fun p2 => RR g n al false (eoD T o).1 (eoD T o).2 p2) := by
  unfold mmB sp_pair
  by_cases q : tx_k g n p = 3 ∧ g (tx_a g n p) = 40
  · rw [if_pos q, if_pos q]
    cases b with
    | false =>
      rw [if_pos (h6 rfl), opn_f]
      rfl
    | true =>
      obtain ⟨ho, hS, hE⟩ := h7 rfl
      have hle := tx_e_le (f := g) hp
      have n60 : ∀ (y : Int), y < 60 → ∀ k, eoD (y :: T) k = (y :: T, k) := fun y hy k => if_pos hy
      rw [if_neg ho, opn_t, hS (x :: T) (tx_e g n p) c hle (n60 x (by omega))]
      cases e1 : (S (tx_e g n p) c).1 with
      | inl y => rfl
      | inr p1 =>
        obtain ⟨l1, o1⟩ := hE (tx_e g n p) c p1 hle e1
        show RR g n al false (x :: T) (o + 1) p1 = sb (sb (sbC (sp_need g n 44 p1) (S (tx_e g n p) c).2 S).1 (sp_need g n 41)) _
        have hb : brT (x :: T) = x := by
          rcases hx with e | e <;> (subst e; rfl)
        have hc : cmT (x :: T) = (x + 2) :: T := by
          rcases hx with e | e <;> (subst e; rfl)
        rw [RR_cm l1 o1 (by rw [hb]; exact hx), hc]
        by_cases q2 : tx_k g n p1 = 3 ∧ g (tx_a g n p1) = 44
        · have hle1 := tx_e_le (f := g) l1
          rw [if_pos q2, show sp_need g n 44 p1 = .inr (tx_e g n p1) from if_pos q2, hS ((x + 2) :: T) (tx_e g n p1) (S (tx_e g n p) c).2 hle1 (n60 (x + 2) (by omega))]
          show sb (S (tx_e g n p1) (S (tx_e g n p) c).2).1 _ = sb (sb (S (tx_e g n p1) (S (tx_e g n p) c).2).1 (sp_need g n 41)) _
          cases e2 : (S (tx_e g n p1) (S (tx_e g n p) c).2).1 with
          | inl y => rfl
          | inr p2 =>
            obtain ⟨l2, o2⟩ := hE (tx_e g n p1) (S (tx_e g n p) c).2 p2 hle1 e2
            exact RR_br l2 o2 (by omega)
        · rw [if_neg q2, show sp_need g n 44 p1 = .inl (1, (tx_a g n p1 : Int)) from if_neg q2]
          rfl
  · rw [if_neg q, if_neg q]
    rfl
theorem pw_i {p : Nat} (c c2 : CD) : (sp_pw g n al p c).1 = (sp_pw g n al p c2).1 := by
  unfold sp_pw
  split
  · rfl
  · rfl
theorem part_eq {b : Bool} {S P : Nat → CD → ST × CD} {o : Int} (h6 : b = false → o = 6) (h7 : b = true → ¬ o = 6 ∧ clS g n al (o + 1) S) (h8 : b = true → clP g n al (o + 1) P) : clP g n al o (sp_partD g n al b S P) := by
  intro T p c hp
  have hle := tx_e_le (f := g) hp
  unfold sp_partD
  by_cases q0 : tx_k g n p = 2
  · have n1 : ∀ ws, wl g n ws p = -1 := fun ws => by
      unfold wl
      rw [if_neg (by omega)]
    rw [if_pos q0, RR_at hp (fun r => by omega) (n1 _) (n1 _) (fun r => r.2 (n1 _)), show atS g n al p = (sp_num g n 0 9999 p).2 from if_pos q0]
  · rw [if_neg q0]
    by_cases q1 : tx_k g n p = 3 ∧ g (tx_a g n p) = 40
    · rw [if_pos q1]
      cases b with
      | false =>
        rw [h6 rfl, RR_o6 q1, opn_f]
        rfl
      | true =>
        obtain ⟨ho, hS, hE⟩ := h7 rfl
        rw [RR_o1 hp q1 ho, opn_t, hS (20 :: T) (tx_e g n p) c hle (fun k => if_pos (by decide))]
        cases e1 : (S (tx_e g n p) c).1 with
        | inl y => rfl
        | inr p1 =>
          obtain ⟨l1, o1⟩ := hE (tx_e g n p) c p1 hle e1
          exact RR_br l1 o1 (Or.inl rfl)
    · rw [if_neg q1]
      by_cases q2 : wl g n ws_17 p = -1
      · rw [if_neg (show ¬ ¬ wl g n ws_17 p = -1 from fun r => r q2)]
        by_cases q3 : wl g n ws_18 p = -1
        · rw [if_neg (show ¬ ¬ wl g n ws_18 p = -1 from fun r => r q3)]
          by_cases q4 : al = 3707 ∧ ¬ wl g n ws_19 p = -1
          · rw [if_pos q4]
            cases b with
            | false =>
              rw [h6 rfl, RR_k6 q2 q3 q4, opn_f]
              rfl
            | true =>
              rw [RR_k1 hp q2 q3 q4 (h7 rfl).1, opn_t, h8 rfl (60 :: T) (tx_e g n p) c hle]
              have e9 : eoD (60 :: T) (o + 1) = eoD T o := by
                show (if (60 : Int) < 60 then ((60 :: T), o + 1) else eoD T (o + 1 - 1)) = eoD T o
                rw [if_neg (by decide), show o + 1 - 1 = o from by omega]
              rw [e9]
          · rw [if_neg q4, RR_at hp q1 q2 q3 q4, show atS g n al p = (sp_pw g n al p (0, fun _ => 0)).1 from if_neg q0, pw_i _ c]
        · rw [if_pos q3, RR_mx hp q2 q3]
          exact mm_eq (Or.inr rfl) h6 h7 T (tx_e g n p) c hle
      · rw [if_pos q2, RR_mm hp q2]
        exact mm_eq (Or.inl rfl) h6 h7 T (tx_e g n p) c hle
end EQ
end
section
/-! 43 -/
section EQ3
variable {g : Nat → Int} {n : Nat} {al : Int}
/-- a claim for lists whose first doesn't wait for a part -/
def clN (g : Nat → Int) (n : Nat) (al : Int) (o : Int) (sp : Nat → CD → ST × CD) : Prop := ∀ (T : List Int) (p : Nat) (c : CD), p ≤ n → (∀ k, eoD T k = (T, k)) → RR g n al true T o p = sb (sp p c).1 (fun p2 => RR g n al false T o p2)
theorem clP_N {o : Int} {sp : Nat → CD → ST × CD} (h : clP g n al o sp) : clN g n al o sp := by
  intro T p c hp hT
  rw [h T p c hp, hT o]
theorem sbC_1 {s : ST} {c : CD} {k : Nat → CD → ST × CD} {K : Nat → ST} : sb (sbC s c k).1 K = sb s (fun p => sb (k p c).1 K) := by
  cases s with
  | inl x => rfl
  | inr p => rfl
theorem lp_eq {o : Int} {sp : Nat → CD → ST × CD} {c1 c2 o1 o2 : Int} (h : clN g n al o sp) (hok : okR n sp) (hc : ∀ p, (tx_k g n p = 3 ∧ g (tx_a g n p) = c1) ∨ (tx_k g n p = 3 ∧ g (tx_a g n p) = c2) → opS g n p) : ∀ (m : Nat) (T : List Int) (p : Nat) (c : CD), p ≤ n → (∀ k, eoD T k = (T, k)) → RR g n al false T o p = sb (lpS g n sp c1 c2 o1 o2 m p c).1 (fun p2 => RR g n al false T o p2) := by
  intro m
  induction m with
  | zero => intro T p c hp hT; rfl
  | succ m ih =>
    intro T p c hp hT
    have hle := tx_e_le (f := g) hp
    have step : ∀ op, opS g n p → RR g n al false T o p = sb (sbC (sp (tx_e g n p) c).1 (sp (tx_e g n p) c).2 (fun p2 d => lpS g n sp c1 c2 o1 o2 m p2 (em d op))).1 (fun p2 => RR g n al false T o p2) := by
      intro op hop
      rw [RR_op hp hop, h T (tx_e g n p) c hle hT, sbC_1]
      refine sb_cg (fun q e => ?_)
      exact ih T q _ (sv_le (hok (tx_e g n p) c hle).1 e) hT
    unfold lpS
    by_cases q1 : tx_k g n p = 3 ∧ g (tx_a g n p) = c1
    · rw [if_pos q1]
      exact step o1 (hc p (Or.inl q1))
    · rw [if_neg q1]
      by_cases q2 : tx_k g n p = 3 ∧ g (tx_a g n p) = c2
      · rw [if_pos q2]
        exact step o2 (hc p (Or.inr q2))
      · rw [if_neg q2]
        rfl
theorem spL_eq {o : Int} {sp : Nat → CD → ST × CD} {c1 c2 o1 o2 : Int} (h : clN g n al o sp) (hok : okR n sp) (hc : ∀ p, (tx_k g n p = 3 ∧ g (tx_a g n p) = c1) ∨ (tx_k g n p = 3 ∧ g (tx_a g n p) = c2) → opS g n p) : clN g n al o (spL g n sp c1 c2 o1 o2) := by
  intro T p c hp hT
  unfold spL
  rw [h T p c hp hT, sbC_1]
  refine sb_cg (fun q e => ?_)
  exact lp_eq h hok hc 1602 T q _ (sv_le (hok p c hp).1 e) hT
/-- where a run of signs ends there is none of them, and what held behind each of its members holds -/
theorem lp_end {sp : Nat → CD → ST × CD} {c1 c2 o1 o2 : Int} {Q : Nat → Prop} (hok : okR n sp) (hQ : ∀ p c q, p ≤ n → (sp p c).1 = .inr q → Q q) : ∀ (m p : Nat) (c : CD) (q : Nat), p ≤ n → n - p < m → Q p → (lpS g n sp c1 c2 o1 o2 m p c).1 = .inr q → q ≤ n ∧ Q q ∧ ¬ (tx_k g n q = 3 ∧ g (tx_a g n q) = c1) ∧ ¬ (tx_k g n q = 3 ∧ g (tx_a g n q) = c2) := by
  intro m
  induction m with
  | zero => intro p c q hp h1; omega
  | succ m ih =>
    intro p c q hp h1 hq
    have hle := tx_e_le (f := g) hp
    have step : ∀ op, tx_k g n p = 3 → (sbC (sp (tx_e g n p) c).1 (sp (tx_e g n p) c).2 (fun p2 d => lpS g n sp c1 c2 o1 o2 m p2 (em d op))).1 = .inr q → q ≤ n ∧ Q q ∧ ¬ (tx_k g n q = 3 ∧ g (tx_a g n q) = c1) ∧ ¬ (tx_k g n q = 3 ∧ g (tx_a g n q) = c2) := by
      intro op hk r
      have hlt : p < tx_e g n p := tx_e_gt' (by omega)
      have h5 := hok (tx_e g n p) c hle
      cases e : (sp (tx_e g n p) c).1 with
      | inl x => rw [e] at r; cases r
      | inr p2 =>
        rw [e] at r h5
        have l := h5.2 p2 rfl
        exact ih p2 (em (sp (tx_e g n p) c).2 op) q h5.1 (by omega) (hQ (tx_e g n p) c p2 hle e) r
    unfold lpS
    by_cases q1 : tx_k g n p = 3 ∧ g (tx_a g n p) = c1
    · rw [if_pos q1]
      exact step o1 q1.1
    · rw [if_neg q1]
      by_cases q2 : tx_k g n p = 3 ∧ g (tx_a g n p) = c2
      · rw [if_pos q2]
        exact step o2 q2.1
      · rw [if_neg q2]
        intro r
        cases r
        exact ⟨hp, hq, q1, q2⟩
theorem spL_end {sp : Nat → CD → ST × CD} {c1 c2 o1 o2 : Int} {Q : Nat → Prop} (hn : n ≤ 1600) (hok : okR n sp) (hQ : ∀ p c q, p ≤ n → (sp p c).1 = .inr q → Q q) (p : Nat) (c : CD) (q : Nat) (hp : p ≤ n) (h : (spL g n sp c1 c2 o1 o2 p c).1 = .inr q) : q ≤ n ∧ Q q ∧ ¬ (tx_k g n q = 3 ∧ g (tx_a g n q) = c1) ∧ ¬ (tx_k g n q = 3 ∧ g (tx_a g n q) = c2) := by
  unfold spL at h
  have h5 := hok p c hp
  cases e : (sp p c).1 with
  | inl x => rw [e] at h; cases h
  | inr p2 =>
    rw [e] at h h5
    exact lp_end hok hQ 1602 p2 (sp p c).2 q h5.1 (by have := h5.1; omega) (hQ p c p2 hp e) h
theorem sum_cl {o : Int} {sp : Nat → CD → ST × CD} (hn : n ≤ 1600) (h : clP g n al o sp) (hok : okR n sp) : clS g n al o (sSuO g n sp) := by
  have hpr : clN g n al o (sPrO g n sp) := spL_eq (clP_N h) hok (fun p r => r.elim (fun r => ⟨r.1, Or.inl r.2⟩) (fun r => ⟨r.1, Or.inr (Or.inl r.2)⟩))
  refine ⟨spL_eq hpr (sPrO_ok hok) (fun p r => r.elim (fun r => ⟨r.1, Or.inr (Or.inr (Or.inl r.2))⟩) (fun r => ⟨r.1, Or.inr (Or.inr (Or.inr r.2))⟩)), fun p c q hp e => ?_⟩
  have h9 := spL_end (Q := fun q => ¬ (tx_k g n q = 3 ∧ g (tx_a g n q) = 42) ∧ ¬ (tx_k g n q = 3 ∧ g (tx_a g n q) = 47)) hn (sPrO_ok hok) (fun p c q hp e => by
    have := spL_end (Q := fun _ => True) hn hok (fun _ _ _ _ _ => True.intro) p c q hp e
    exact this.2.2) p c q hp e
  refine ⟨h9.1, fun r => ?_⟩
  rcases r.2 with x | x | x | x
  · exact h9.2.1.1 ⟨r.1, x⟩
  · exact h9.2.1.2 ⟨r.1, x⟩
  · exact h9.2.2.1 ⟨r.1, x⟩
  · exact h9.2.2.2 ⟨r.1, x⟩
theorem P_all (hn : n ≤ 1600) : ∀ d : Nat, d ≤ 6 → clP g n al (6 - (d : Int)) (sPart g n al d)
  | 0, _ => part_eq (fun _ => rfl) (fun r => Bool.noConfusion r) (fun r => Bool.noConfusion r)
  | d + 1, hd => by
    have h1 := P_all hn d (by omega)
    have e : (6 - ((d + 1 : Nat) : Int)) + 1 = 6 - (d : Int) := by omega
    refine part_eq (fun r => Bool.noConfusion r) (fun _ => ⟨by omega, ?_⟩) (fun _ => ?_)
    · rw [e]
      exact sum_cl hn h1 (sPart_ok d)
    · rw [e]
      exact h1
theorem S_all (hn : n ≤ 1600) (d : Nat) (hd : d ≤ 6) : clS g n al (6 - (d : Int)) (sSum g n al d) := sum_cl hn (P_all hn d hd) (sPart_ok d)
/-- a sum read by the machine is a sum read level by level -/
theorem sum_eq (hn : n ≤ 1600) (d : Nat) (hd : d ≤ 6) (p : Nat) (c : CD) (hp : p ≤ n) : RR g n al true [] (6 - (d : Int)) p = (sSum g n al d p c).1 := by
  have h := S_all (g := g) (al := al) hn d hd
  rw [h.1 [] p c hp (fun k => rfl)]
  cases e : (sSum g n al d p c).1 with
  | inl x => rfl
  | inr q =>
    have h2 := h.2 p c q hp e
    exact RR_nd h2.2 rfl
end EQ3
end
section
/-! 44 -/
/-! the same for tests: what is open are squares (25) and nots (12) -/
def ntD : List Int → Int → List Int × Int
  | [], o => ([], o)
  | x :: T, o => if x = 12 then ntD T (o - 1) else (x :: T, o)
/-- a fact without square or not, 6 - o more may open -/
def fcS (g : Nat → Int) (n : Nat) (al : Int) (o : Int) (p : Nat) : ST := if ¬ wl g n ws_16 p = -1 then .inr (tx_e g n p) else sb (RR g n al true [] o p) (fun p1 => sb (sp_sg g n p1).2 (fun p2 => RR g n al true [] o p2))
def tMem (T : List Int) : Bool := T.any (fun x => decide (x = 25))
def tPop : List Int → List Int
  | [] => []
  | x :: T => if x = 25 then T else tPop T
def mT (g : Nat → Int) (n : Nat) (al : Int) : Nat → Bool → List Int → Int → Nat → ST
  | 0, _, _, _, _ => .inl (0, 0)
  | f + 1, true, T, o, p => if tx_k g n p = 3 ∧ g (tx_a g n p) = 91 then (if o = 6 then .inl (4, (tx_a g n p : Int)) else mT g n al f true (25 :: T) (o + 1) (tx_e g n p)) else if ¬ wl g n ws_15 p = -1 then (if o = 6 then .inl (4, (tx_a g n p : Int)) else mT g n al f true (12 :: T) (o + 1) (tx_e g n p)) else sb (fcS g n al o p) (fun p2 => mT g n al f false (ntD T o).1 (ntD T o).2 p2)
  | f + 1, false, T, o, p => if (tx_k g n p = 3 ∧ g (tx_a g n p) = 93) ∧ tMem T = true then mT g n al f false (ntD (tPop T) (o - 1)).1 (ntD (tPop T) (o - 1)).2 (tx_e g n p) else if ¬ wl g n ws_14 p = -1 ∨ ¬ wl g n ws_13 p = -1 then mT g n al f true T o (tx_e g n p) else if tMem T = true then .inl (1, (tx_a g n p : Int)) else .inr p
section EQ4
variable {g : Nat → Int} {n : Nat} {al : Int}
theorem fcS_ok (hn : n ≤ 1600) (d : Nat) (hd : d ≤ 6) (c : CD) {p : Nat} (hp : p ≤ n) : sv n (fcS g n al (6 - (d : Int)) p) ∧ ∀ q, fcS g n al (6 - (d : Int)) p = .inr q → p < q := by
  unfold fcS
  split
  · rename_i k
    refine ⟨tx_e_le hp, fun q r => ?_⟩
    cases r
    exact tx_e_gt' (by have := wl_k k; omega)
  · rw [sum_eq hn d hd p c hp]
    have h1 := sSum_ok (g := g) (al := al) d p c hp
    cases e1 : (sSum g n al d p c).1 with
    | inl x =>
      rw [e1] at h1
      exact ⟨h1.1, fun q r => by cases r⟩
    | inr p1 =>
      rw [e1] at h1
      have l1 := h1.2 p1 rfl
      have l1n : p1 ≤ n := h1.1
      show sv n (sb (sp_sg g n p1).2 _) ∧ ∀ q, sb (sp_sg g n p1).2 _ = .inr q → p < q
      have h2 := sp_sg_v (g := g) l1n
      cases e2 : (sp_sg g n p1).2 with
      | inl x =>
        rw [e2] at h2
        exact ⟨h2, fun q r => by cases r⟩
      | inr p2 =>
        rw [e2] at h2
        have l2 := sp_sg_gt e2
        have l2n : p2 ≤ n := h2
        show sv n (RR g n al true [] (6 - (d : Int)) p2) ∧ ∀ q, RR g n al true [] (6 - (d : Int)) p2 = .inr q → p < q
        rw [sum_eq hn d hd p2 c l2n]
        have h3 := sSum_ok (g := g) (al := al) d p2 c l2n
        exact ⟨h3.1, fun q r => by have := h3.2 q r; omega⟩
/-- a comparison read by the machine -/
theorem fc_eq (hn : n ≤ 1600) (d : Nat) (hd : d ≤ 6) (c : CD) {p : Nat} (hp : p ≤ n) (K : Nat → ST) : sb (fcS g n al (6 - (d : Int)) p) K = sb (if ¬ wl g n ws_16 p = -1 then (.inr (tx_e g n p), em c 1) else spCmp g n (sSum g n al d) p c : ST × CD).1 K := by
  unfold fcS spCmp
  by_cases q : wl g n ws_16 p = -1
  · rw [if_neg (fun r => r q), if_neg (fun r => r q), sum_eq hn d hd p c hp]
    have h1 := sSum_ok (g := g) (al := al) d p c hp
    show sb _ K = sb (sbC (sbv (sSum g n al d p c).1 (sp_sg g n) (-28)).2 (sSum g n al d p c).2 (sSum g n al d)).1 K
    cases e1 : (sSum g n al d p c).1 with
    | inl x => rfl
    | inr p1 =>
      rw [e1] at h1
      have l1n : p1 ≤ n := h1.1
      show sb (sb (sp_sg g n p1).2 _) K = sb (sbC (sp_sg g n p1).2 (sSum g n al d p c).2 (sSum g n al d)).1 K
      have h2 := sp_sg_v (g := g) l1n
      cases e2 : (sp_sg g n p1).2 with
      | inl x => rfl
      | inr p2 =>
        rw [e2] at h2
        show sb (RR g n al true [] (6 - (d : Int)) p2) K = sb (sSum g n al d p2 (sSum g n al d p c).2).1 K
        rw [sum_eq hn d hd p2 (sSum g n al d p c).2 h2]
  · rw [if_pos q, if_pos q]
end EQ4
end
section
/-! 45 -/
section EQ5
variable {g : Nat → Int} {n : Nat} {al : Int}
theorem mR_ok : ∀ (f : Nat) (m : Bool) (T : List Int) (o : Int) (p q : Nat), p ≤ n → mR g n al f m T o p = .inr q → q ≤ n ∧ p ≤ q ∧ (m = true → p < q) := by
  intro f
  induction f with
  | zero => intro m T o p q hp h; cases h
  | succ f ih =>
    intro m T o p q hp
    have hle := tx_e_le (f := g) hp
    have hle2 := tx_e_le (f := g) hle
    have go : ∀ (m2 : Bool) (T2 : List Int) (o2 : Int) (p2 : Nat), p2 ≤ n → p < p2 → mR g n al f m2 T2 o2 p2 = .inr q → q ≤ n ∧ p ≤ q ∧ (m = true → p < q) := by
      intro m2 T2 o2 p2 h1 h2 h3
      have := ih m2 T2 o2 p2 q h1 h3
      exact ⟨this.1, by omega, fun _ => by omega⟩
    have ite6 : ∀ (x : Int × Int) (T2 : List Int) (p2 : Nat), p2 ≤ n → p < p2 → (if o = 6 then (.inl x : ST) else mR g n al f true T2 (o + 1) p2) = .inr q → q ≤ n ∧ p ≤ q ∧ (m = true → p < q) := by
      intro x T2 p2 h1 h2 h3
      by_cases h6 : o = 6
      · rw [if_pos h6] at h3; cases h3
      · rw [if_neg h6] at h3
        exact go true T2 (o + 1) p2 h1 h2 h3
    cases m with
    | true =>
      unfold mR
      split
      · rename_i c
        exact ite6 _ _ _ hle (tx_e_gt' (by omega))
      · split
        · rename_i c
          have hlt : p < tx_e g n p := tx_e_gt' (by have := wl_k c; omega)
          split
          · rename_i c5
            have hlt2 : tx_e g n p < tx_e g n (tx_e g n p) := tx_e_gt' (by omega)
            exact ite6 _ _ _ hle2 (by omega)
          · intro h; cases h
        · split
          · rename_i c
            have hlt : p < tx_e g n p := tx_e_gt' (by have := wl_k c; omega)
            split
            · rename_i c5
              have hlt2 : tx_e g n p < tx_e g n (tx_e g n p) := tx_e_gt' (by omega)
              exact ite6 _ _ _ hle2 (by omega)
            · intro h; cases h
          · split
            · rename_i c
              exact ite6 _ _ _ hle (tx_e_gt' (by have := wl_k c.2; omega))
            · intro h
              obtain ⟨p2, e, h2⟩ := sb_in h
              exact go false _ _ p2 (sv_le (atS_v (al := al) hp) e) (atS_gt hp e) h2
    | false =>
      unfold mR
      split
      · rename_i c
        exact go false _ _ _ hle (tx_e_gt' (by omega))
      · split
        · rename_i c
          exact go true _ _ _ hle (tx_e_gt' (by omega))
        · split
          · split
            · rename_i c
              exact go true _ _ _ hle (tx_e_gt' (by omega))
            · intro h; cases h
          · split
            · intro h
              cases h
              exact ⟨hp, Nat.le_refl _, fun r => Bool.noConfusion r⟩
            · intro h; cases h
theorem RR_ok {T : List Int} {o : Int} {p q : Nat} (hp : p ≤ n) (h : RR g n al true T o p = .inr q) : q ≤ n ∧ p < q := by
  have := mR_ok (n - p + 1) true T o p q hp h
  exact ⟨this.1, this.2.2 rfl⟩
theorem fcS_p {o : Int} {p q : Nat} (hp : p ≤ n) (h : fcS g n al o p = .inr q) : q ≤ n ∧ p < q := by
  unfold fcS at h
  split at h
  · rename_i k
    cases h
    exact ⟨tx_e_le hp, tx_e_gt' (by have := wl_k k; omega)⟩
  · obtain ⟨p1, e1, h1⟩ := sb_in h
    obtain ⟨p2, e2, h2⟩ := sb_in h1
    have l1 := RR_ok hp e1
    have l2 := sp_sg_gt e2
    have l2n : p2 ≤ n := sv_le (sp_sg_v (g := g) l1.1) e2
    have l3 := RR_ok l2n h2
    exact ⟨l3.1, by omega⟩
theorem mT_f : ∀ (f f2 : Nat) (m : Bool) (T : List Int) (o : Int) (p : Nat), p ≤ n → n - p < f → n - p < f2 → mT g n al f m T o p = mT g n al f2 m T o p := by
  intro f
  induction f with
  | zero => intro f2 m T o p h1 h2; omega
  | succ f ih =>
    intro f2 m T o p hp h2 h3
    obtain ⟨f2, rfl⟩ : ∃ k, f2 = k + 1 := ⟨f2 - 1, by omega⟩
    have hle := tx_e_le (f := g) hp
    cases m with
    | true =>
      unfold mT
      by_cases c1 : tx_k g n p = 3 ∧ g (tx_a g n p) = 91
      · have hlt : p < tx_e g n p := tx_e_gt' (by omega)
        rw [if_pos c1, if_pos c1, ih f2 true (25 :: T) (o + 1) (tx_e g n p) hle (by omega) (by omega)]
      · rw [if_neg c1, if_neg c1]
        by_cases c2 : wl g n ws_15 p = -1
        · rw [if_neg (show ¬ ¬ wl g n ws_15 p = -1 from fun r => r c2), if_neg (show ¬ ¬ wl g n ws_15 p = -1 from fun r => r c2)]
          refine sb_cg (fun q e => ?_)
          have h5 := fcS_p hp e
          exact ih f2 false _ _ q h5.1 (by omega) (by omega)
        · have hlt : p < tx_e g n p := tx_e_gt' (by have := wl_k c2; omega)
          rw [if_pos c2, if_pos c2, ih f2 true (12 :: T) (o + 1) (tx_e g n p) hle (by omega) (by omega)]
    | false =>
      unfold mT
      by_cases c1 : (tx_k g n p = 3 ∧ g (tx_a g n p) = 93) ∧ tMem T = true
      · have hlt : p < tx_e g n p := tx_e_gt' (by omega)
        rw [if_pos c1, if_pos c1]
        exact ih f2 false _ _ (tx_e g n p) hle (by omega) (by omega)
      · rw [if_neg c1, if_neg c1]
        by_cases c2 : ¬ wl g n ws_14 p = -1 ∨ ¬ wl g n ws_13 p = -1
        · have hlt : p < tx_e g n p := tx_e_gt' (by have : tx_k g n p = 1 := c2.elim wl_k wl_k; omega)
          rw [if_pos c2, if_pos c2]
          exact ih f2 true T o (tx_e g n p) hle (by omega) (by omega)
        · rw [if_neg c2, if_neg c2]
end EQ5
def TT (g : Nat → Int) (n : Nat) (al : Int) (m : Bool) (T : List Int) (o : Int) (p : Nat) : ST := mT g n al (n - p + 1) m T o p
end
section
/-! 46 -/
section EQ6
variable {g : Nat → Int} {n : Nat} {al : Int}
theorem TT_tu {T : List Int} {o : Int} {p : Nat} : TT g n al true T o p = (if tx_k g n p = 3 ∧ g (tx_a g n p) = 91 then (if o = 6 then .inl (4, (tx_a g n p : Int)) else mT g n al (n - p) true (25 :: T) (o + 1) (tx_e g n p)) else if ¬ wl g n ws_15 p = -1 then (if o = 6 then .inl (4, (tx_a g n p : Int)) else mT g n al (n - p) true (12 :: T) (o + 1) (tx_e g n p)) else sb (fcS g n al o p) (fun p2 => mT g n al (n - p) false (ntD T o).1 (ntD T o).2 p2)) := rfl
theorem TT_fu {T : List Int} {o : Int} {p : Nat} : TT g n al false T o p = (if (tx_k g n p = 3 ∧ g (tx_a g n p) = 93) ∧ tMem T = true then mT g n al (n - p) false (ntD (tPop T) (o - 1)).1 (ntD (tPop T) (o - 1)).2 (tx_e g n p) else if ¬ wl g n ws_14 p = -1 ∨ ¬ wl g n ws_13 p = -1 then mT g n al (n - p) true T o (tx_e g n p) else if tMem T = true then .inl (1, (tx_a g n p : Int)) else .inr p) := rfl
theorem TT_f {m : Bool} {T : List Int} {o : Int} {p q : Nat} (hq : q ≤ n) (hp : p < q) : mT g n al (n - p) m T o q = TT g n al m T o q := mT_f _ _ _ _ _ _ hq (by omega) (by omega)
theorem TT_s1 {T : List Int} {o : Int} {p : Nat} (hp : p ≤ n) (c : tx_k g n p = 3 ∧ g (tx_a g n p) = 91) (ho : ¬ o = 6) : TT g n al true T o p = TT g n al true (25 :: T) (o + 1) (tx_e g n p) := by
  have hlt : p < tx_e g n p := tx_e_gt' (by omega)
  rw [← TT_f (p := p) (tx_e_le hp) hlt]
  rw [TT_tu, if_pos c, if_neg ho]
theorem TT_s6 {T : List Int} {p : Nat} (c : tx_k g n p = 3 ∧ g (tx_a g n p) = 91) : TT g n al true T 6 p = .inl (4, (tx_a g n p : Int)) := by
  rw [TT_tu, if_pos c, if_pos rfl]
theorem TT_n1 {T : List Int} {o : Int} {p : Nat} (hp : p ≤ n) (c : ¬ wl g n ws_15 p = -1) (ho : ¬ o = 6) : TT g n al true T o p = TT g n al true (12 :: T) (o + 1) (tx_e g n p) := by
  have hk := wl_k c
  have hlt : p < tx_e g n p := tx_e_gt' (by omega)
  rw [← TT_f (p := p) (tx_e_le hp) hlt]
  rw [TT_tu, if_neg (k1_no hk), if_pos c, if_neg ho]
theorem TT_n6 {T : List Int} {p : Nat} (c : ¬ wl g n ws_15 p = -1) : TT g n al true T 6 p = .inl (4, (tx_a g n p : Int)) := by
  have hk := wl_k c
  rw [TT_tu, if_neg (k1_no hk), if_pos c, if_pos rfl]
theorem TT_at {T : List Int} {o : Int} {p : Nat} (hp : p ≤ n) (c : ¬ (tx_k g n p = 3 ∧ g (tx_a g n p) = 91)) (c0 : wl g n ws_15 p = -1) : TT g n al true T o p = sb (fcS g n al o p) (fun p2 => TT g n al false (ntD T o).1 (ntD T o).2 p2) := by
  have e : sb (fcS g n al o p) (fun p2 => TT g n al false (ntD T o).1 (ntD T o).2 p2) = sb (fcS g n al o p) (fun p2 => mT g n al (n - p) false (ntD T o).1 (ntD T o).2 p2) := sb_cg (fun q e => (TT_f (p := p) (fcS_p hp e).1 (fcS_p hp e).2).symm)
  rw [e]
  rw [TT_tu, if_neg c, if_neg (show ¬ ¬ wl g n ws_15 p = -1 from fun r => r c0)]
theorem TT_cl {T : List Int} {o : Int} {p : Nat} (hp : p ≤ n) (c : tx_k g n p = 3 ∧ g (tx_a g n p) = 93) : TT g n al false (25 :: T) (o + 1) p = TT g n al false (ntD T o).1 (ntD T o).2 (tx_e g n p) := by
  have hlt : p < tx_e g n p := tx_e_gt' (by omega)
  have e1 : tPop (25 :: T) = T := rfl
  have e2 : tMem (25 :: T) = true := rfl
  rw [← TT_f (p := p) (tx_e_le hp) hlt]
  rw [TT_fu, if_pos ⟨c, e2⟩, e1, show o + 1 - 1 = o from by omega]
def jnW (g : Nat → Int) (n p : Nat) : Prop := ¬ wl g n ws_14 p = -1 ∨ ¬ wl g n ws_13 p = -1
theorem jn_k {p : Nat} (h : jnW g n p) : tx_k g n p = 1 := h.elim wl_k wl_k
theorem TT_jn {T : List Int} {o : Int} {p : Nat} (hp : p ≤ n) (c : jnW g n p) : TT g n al false T o p = TT g n al true T o (tx_e g n p) := by
  have hk := jn_k c
  have hlt : p < tx_e g n p := tx_e_gt' (by omega)
  rw [← TT_f (p := p) (tx_e_le hp) hlt]
  rw [TT_fu, if_neg (fun r => k1_no hk r.1), if_pos (show ¬ wl g n ws_14 p = -1 ∨ ¬ wl g n ws_13 p = -1 from c)]
theorem TT_bd {T : List Int} {o : Int} {p : Nat} (c0 : ¬ (tx_k g n p = 3 ∧ g (tx_a g n p) = 93)) (c : ¬ jnW g n p) : TT g n al false (25 :: T) o p = .inl (1, (tx_a g n p : Int)) := by
  rw [TT_fu, if_neg (fun r => c0 r.1), if_neg (show ¬ (¬ wl g n ws_14 p = -1 ∨ ¬ wl g n ws_13 p = -1) from c), if_pos (show tMem (25 :: T) = true from rfl)]
theorem TT_nd {o : Int} {p : Nat} (c : ¬ jnW g n p) : TT g n al false [] o p = .inr p := by
  rw [TT_fu, if_neg (fun r => Bool.noConfusion r.2), if_neg (show ¬ (¬ wl g n ws_14 p = -1 ∨ ¬ wl g n ws_13 p = -1) from c), if_neg (fun r => Bool.noConfusion r)]
theorem TT_sq {T : List Int} {o : Int} {p : Nat} (hp : p ≤ n) (c : ¬ jnW g n p) : TT g n al false (25 :: T) (o + 1) p = sb (sp_need g n 93 p) (fun p2 => TT g n al false (ntD T o).1 (ntD T o).2 p2) := by
  by_cases q : tx_k g n p = 3 ∧ g (tx_a g n p) = 93
  · rw [TT_cl hp q, show sp_need g n 93 p = .inr (tx_e g n p) from if_pos q]
    rfl
  · rw [TT_bd q c, show sp_need g n 93 p = .inl (1, (tx_a g n p : Int)) from if_neg q]
    rfl
def clF (g : Nat → Int) (n : Nat) (al : Int) (o : Int) (sp : Nat → CD → ST × CD) : Prop := ∀ (T : List Int) (p : Nat) (c : CD), p ≤ n → TT g n al true T o p = sb (sp p c).1 (fun p2 => TT g n al false (ntD T o).1 (ntD T o).2 p2)
def clM (g : Nat → Int) (n : Nat) (al : Int) (o : Int) (sp : Nat → CD → ST × CD) : Prop := ∀ (T : List Int) (p : Nat) (c : CD), p ≤ n → (∀ k, ntD T k = (T, k)) → TT g n al true T o p = sb (sp p c).1 (fun p2 => TT g n al false T o p2)
def clE (g : Nat → Int) (n : Nat) (sp : Nat → CD → ST × CD) : Prop := ∀ (p : Nat) (c : CD) (q : Nat), p ≤ n → (sp p c).1 = .inr q → q ≤ n ∧ ¬ jnW g n q
theorem clF_M {o : Int} {sp : Nat → CD → ST × CD} (h : clF g n al o sp) : clM g n al o sp := by
  intro T p c hp hT
  rw [h T p c hp, hT o]
theorem lv_eq {o : Int} {sp : Nat → CD → ST × CD} {ws : List (List Int)} {op : Int} (h : clM g n al o sp) (hok : okR n sp) (hc : ∀ p, ¬ wl g n ws p = -1 → jnW g n p) : ∀ (m : Nat) (T : List Int) (p : Nat) (c : CD), p ≤ n → (∀ k, ntD T k = (T, k)) → TT g n al false T o p = sb (lpV g n sp ws op m p c).1 (fun p2 => TT g n al false T o p2) := by
  intro m
  induction m with
  | zero => intro T p c hp hT; rfl
  | succ m ih =>
    intro T p c hp hT
    have hle := tx_e_le (f := g) hp
    unfold lpV
    by_cases q1 : wl g n ws p = -1
    · rw [if_pos q1]
      rfl
    · rw [if_neg q1, TT_jn hp (hc p q1), h T (tx_e g n p) c hle hT, sbC_1]
      refine sb_cg (fun q e => ?_)
      exact ih T q _ (sv_le (hok (tx_e g n p) c hle).1 e) hT
theorem spV_eq {o : Int} {sp : Nat → CD → ST × CD} {ws : List (List Int)} {op : Int} (h : clM g n al o sp) (hok : okR n sp) (hc : ∀ p, ¬ wl g n ws p = -1 → jnW g n p) : clM g n al o (spV g n sp ws op) := by
  intro T p c hp hT
  unfold spV
  rw [h T p c hp hT, sbC_1]
  refine sb_cg (fun q e => ?_)
  exact lv_eq h hok hc 1602 T q _ (sv_le (hok p c hp).1 e) hT
theorem lv_end {sp : Nat → CD → ST × CD} {ws : List (List Int)} {op : Int} {Q : Nat → Prop} (hok : okR n sp) (hQ : ∀ p c q, p ≤ n → (sp p c).1 = .inr q → Q q) : ∀ (m p : Nat) (c : CD) (q : Nat), p ≤ n → n - p < m → Q p → (lpV g n sp ws op m p c).1 = .inr q → q ≤ n ∧ Q q ∧ wl g n ws q = -1 := by
  intro m
  induction m with
  | zero => intro p c q hp h1; omega
  | succ m ih =>
    intro p c q hp h1 hq
    have hle := tx_e_le (f := g) hp
    unfold lpV
    by_cases q1 : wl g n ws p = -1
    · rw [if_pos q1]
      intro r
      cases r
      exact ⟨hp, hq, q1⟩
    · rw [if_neg q1]
      intro r
      have hlt : p < tx_e g n p := tx_e_gt' (by have := wl_k q1; omega)
      have h5 := hok (tx_e g n p) c hle
      cases e : (sp (tx_e g n p) c).1 with
      | inl x => rw [e] at r; cases r
      | inr p2 =>
        rw [e] at r h5
        have l := h5.2 p2 rfl
        exact ih p2 (em (sp (tx_e g n p) c).2 op) q h5.1 (by omega) (hQ (tx_e g n p) c p2 hle e) r
theorem spV_end {sp : Nat → CD → ST × CD} {ws : List (List Int)} {op : Int} {Q : Nat → Prop} (hn : n ≤ 1600) (hok : okR n sp) (hQ : ∀ p c q, p ≤ n → (sp p c).1 = .inr q → Q q) (p : Nat) (c : CD) (q : Nat) (hp : p ≤ n) (h : (spV g n sp ws op p c).1 = .inr q) : q ≤ n ∧ Q q ∧ wl g n ws q = -1 := by
  unfold spV at h
  have h5 := hok p c hp
  cases e : (sp p c).1 with
  | inl x => rw [e] at h; cases h
  | inr p2 =>
    rw [e] at h h5
    exact lv_end hok hQ 1602 p2 (sp p c).2 q h5.1 (by have := h5.1; omega) (hQ p c p2 hp e) h
theorem test_cl {o : Int} {sp : Nat → CD → ST × CD} (hn : n ≤ 1600) (h : clF g n al o sp) (hok : okR n sp) : clM g n al o (sTeO g n sp) ∧ clE g n (sTeO g n sp) := by
  have hb : clM g n al o (sBoO g n sp) := spV_eq (clF_M h) hok (fun p r => Or.inl r)
  refine ⟨spV_eq hb (spV_ok hok) (fun p r => Or.inr r), fun p c q hp e => ?_⟩
  have h9 := spV_end (Q := fun q => wl g n ws_14 q = -1) hn (spV_ok hok) (fun p c q hp e => by
    have := spV_end (Q := fun _ => True) hn hok (fun _ _ _ _ _ => True.intro) p c q hp e
    exact this.2.2) p c q hp e
  exact ⟨h9.1, fun r => r.elim (fun r => r h9.2.1) (fun r => r h9.2.2)⟩
theorem fact_eq (hn : n ≤ 1600) {b : Bool} {T1 F1 : Nat → CD → ST × CD} {d : Nat} (hd : d ≤ 6) (h6 : b = false → 6 - (d : Int) = 6) (h7 : b = true → ¬ 6 - (d : Int) = 6 ∧ clM g n al (6 - (d : Int) + 1) T1 ∧ clE g n T1) (h8 : b = true → clF g n al (6 - (d : Int) + 1) F1) : clF g n al (6 - (d : Int)) (sp_factD g n b (sSum g n al d) T1 F1) := by
  intro T p c hp
  have hle := tx_e_le (f := g) hp
  unfold sp_factD
  by_cases q0 : wl g n ws_15 p = -1
  · rw [if_neg (show ¬ ¬ wl g n ws_15 p = -1 from fun r => r q0)]
    by_cases q1 : tx_k g n p = 3 ∧ g (tx_a g n p) = 91
    · rw [if_pos q1]
      cases b with
      | false =>
        rw [h6 rfl, TT_s6 q1, opn_f]
        rfl
      | true =>
        obtain ⟨ho, hM, hE⟩ := h7 rfl
        rw [TT_s1 hp q1 ho, opn_t, hM (25 :: T) (tx_e g n p) c hle (fun k => if_neg (by decide))]
        cases e1 : (T1 (tx_e g n p) c).1 with
        | inl y => rfl
        | inr p1 =>
          obtain ⟨l1, o1⟩ := hE (tx_e g n p) c p1 hle e1
          exact TT_sq l1 o1
    · rw [if_neg q1, TT_at hp q1 q0]
      exact fc_eq hn d hd c hp _
  · rw [if_pos q0]
    cases b with
    | false =>
      rw [h6 rfl, TT_n6 q0, opn_f]
      rfl
    | true =>
      rw [TT_n1 hp q0 (h7 rfl).1, opn_t, h8 rfl (12 :: T) (tx_e g n p) c hle]
      have e9 : ntD (12 :: T) (6 - (d : Int) + 1) = ntD T (6 - (d : Int)) := by
        show (if (12 : Int) = 12 then ntD T (6 - (d : Int) + 1 - 1) else _) = _
        rw [if_pos rfl, show 6 - (d : Int) + 1 - 1 = 6 - (d : Int) from by omega]
      rw [e9]
theorem F_all (hn : n ≤ 1600) : ∀ d : Nat, d ≤ 6 → clF g n al (6 - (d : Int)) (sFact g n al d)
  | 0, _ => fact_eq hn (d := 0) (by omega) (fun _ => rfl) (fun r => Bool.noConfusion r) (fun r => Bool.noConfusion r)
  | d + 1, hd => by
    have h1 := F_all hn d (by omega)
    have e : (6 - ((d + 1 : Nat) : Int)) + 1 = 6 - (d : Int) := by omega
    refine fact_eq hn hd (fun r => Bool.noConfusion r) (fun _ => ⟨by omega, ?_⟩) (fun _ => ?_)
    · rw [e]
      exact test_cl hn h1 (sFact_ok d)
    · rw [e]
      exact h1
/-- a test read by the machine is a test read level by level -/
theorem test_eq (hn : n ≤ 1600) (d : Nat) (hd : d ≤ 6) (p : Nat) (c : CD) (hp : p ≤ n) : TT g n al true [] (6 - (d : Int)) p = (sTest g n al d p c).1 := by
  have h := test_cl (g := g) (al := al) hn (F_all hn d hd) (sFact_ok d)
  rw [h.1 [] p c hp (fun k => rfl)]
  show sb (sTest g n al d p c).1 _ = _
  cases e : (sTest g n al d p c).1 with
  | inl x => rfl
  | inr q =>
    have h2 := h.2 p c q hp e
    exact TT_nd h2.2
end EQ6
end
section
/-! 47 -/
def wlf (g : Nat → Int) (n p : Nat) : List (List Int) → Nat → Int
  | [], _ => -1
  | w :: ws, i => if wh g n w p = true then (i : Int) else wlf g n p ws (i + 1)
theorem wlf_c {g : Nat → Int} {n p i : Nat} {w : List Int} {ws : List (List Int)} : wlf g n p (w :: ws) i = if wh g n w p = true then (i : Int) else wlf g n p ws (i + 1) := rfl
theorem wlf_1 {g : Nat → Int} {n p : Nat} : ∀ (ws : List (List Int)) (i : Nat), wlf g n p ws i = if tx_k g n p = 1 then wfind g (tx_a g n p) (tx_e g n p) ws i else -1
  | [], i => by
    show (-1 : Int) = if tx_k g n p = 1 then -1 else -1
    split
    · rfl
    · rfl
  | w :: ws, i => by
    rw [wlf_c, wlf_1 ws (i + 1)]
    unfold wh
    by_cases q : tx_k g n p = 1
    · rw [if_pos q, if_pos q, decide_eq_true q, Bool.true_and]
      rfl
    · rw [if_neg q, if_neg q, decide_eq_false q]
      rfl
/-- the words that the model asks for in sums -/
def qw (v1 v2 v3 v4 v5 v6 v7 v8 v9 v10 v11 v12 v13 : Nat → Int) : Prop := wa v1 W_second ∧ wa v2 W_day ∧ wa v3 W_phase ∧ wa v4 W_waited ∧ wa v5 W_calm ∧ wa v6 W_pace ∧ wa v7 W_trusts ∧ wa v8 W_gap ∧ wa v9 W_reds ∧ wa v10 W_number ∧ wa v11 W_went ∧ wa v12 W_harm ∧ wa v13 W_kind
def ws_q : List (List Int) := [W_second, W_day, W_phase, W_waited, W_calm, W_pace, W_trusts, W_gap, W_reds, W_number, W_went, W_harm, W_kind]
theorem q_wh {g : Nat → Int} {n p : Nat} {xa xe : Int} {v1 v2 v3 v4 v5 v6 v7 v8 v9 v10 v11 v12 v13 : Nat → Int} (hn : n ≤ 1600) (hq : qw v1 v2 v3 v4 v5 v6 v7 v8 v9 v10 v11 v12 v13) (h : mp g n p xa xe) : F_X10_qWordHere xa (n : Int) xe (0 : Int) g v1 v2 v3 v4 v5 v6 v7 v8 v9 v10 v11 v12 v13 = (wl g n ws_q p, (tx_a g n p : Int)) := by
  have e : wl g n ws_q p = wlf g n p [W_second, W_day, W_phase, W_waited, W_calm, W_pace, W_trusts, W_gap, W_reds, W_number, W_went, W_harm, W_kind] 0 := (wlf_1 ws_q 0).symm
  rw [e]
  unfold F_X10_qWordHere
  rw [F_X10_isHere_r6_1 hn (W := W_second) rfl hq.1 h, lf_p_e, wlf_c]
  cases c0 : wh g n W_second p with
  | true =>
    rw [if_neg (show ¬ b2 true = 0 from by decide)]
    rfl
  | false =>
    rw [if_pos (show b2 false = 0 from rfl), if_neg (show ¬ false = true from fun r => Bool.noConfusion r)]
    rw [F_X10_isHere_1 hn (W := W_day) rfl hq.2.1 (mp_a h), lf_p_e, wlf_c]
    cases c1 : wh g n W_day p with
    | true =>
      rw [if_neg (show ¬ b2 true = 0 from by decide)]
      rfl
    | false =>
      rw [if_pos (show b2 false = 0 from rfl), if_neg (show ¬ false = true from fun r => Bool.noConfusion r)]
      rw [F_X10_isHere_r5_1 hn (W := W_phase) rfl hq.2.2.1 (mp_a h), lf_p_e, wlf_c]
      cases c2 : wh g n W_phase p with
      | true =>
        rw [if_neg (show ¬ b2 true = 0 from by decide)]
        rfl
      | false =>
        rw [if_pos (show b2 false = 0 from rfl), if_neg (show ¬ false = true from fun r => Bool.noConfusion r)]
        rw [F_X10_isHere_r6_1 hn (W := W_waited) rfl hq.2.2.2.1 (mp_a h), lf_p_e, wlf_c]
        cases c3 : wh g n W_waited p with
        | true =>
          rw [if_neg (show ¬ b2 true = 0 from by decide)]
          rfl
        | false =>
          rw [if_pos (show b2 false = 0 from rfl), if_neg (show ¬ false = true from fun r => Bool.noConfusion r)]
          rw [F_X10_isHere_r4_1 hn (W := W_calm) rfl hq.2.2.2.2.1 (mp_a h), lf_p_e, wlf_c]
          cases c4 : wh g n W_calm p with
          | true =>
            rw [if_neg (show ¬ b2 true = 0 from by decide)]
            rfl
          | false =>
            rw [if_pos (show b2 false = 0 from rfl), if_neg (show ¬ false = true from fun r => Bool.noConfusion r)]
            rw [F_X10_isHere_r4_1 hn (W := W_pace) rfl hq.2.2.2.2.2.1 (mp_a h), lf_p_e, wlf_c]
            cases c5 : wh g n W_pace p with
            | true =>
              rw [if_neg (show ¬ b2 true = 0 from by decide)]
              rfl
            | false =>
              rw [if_pos (show b2 false = 0 from rfl), if_neg (show ¬ false = true from fun r => Bool.noConfusion r)]
              rw [F_X10_isHere_r6_1 hn (W := W_trusts) rfl hq.2.2.2.2.2.2.1 (mp_a h), lf_p_e, wlf_c]
              cases c6 : wh g n W_trusts p with
              | true =>
                rw [if_neg (show ¬ b2 true = 0 from by decide)]
                rfl
              | false =>
                rw [if_pos (show b2 false = 0 from rfl), if_neg (show ¬ false = true from fun r => Bool.noConfusion r)]
                rw [F_X10_isHere_1 hn (W := W_gap) rfl hq.2.2.2.2.2.2.2.1 (mp_a h), lf_p_e, wlf_c]
                cases c7 : wh g n W_gap p with
                | true =>
                  rw [if_neg (show ¬ b2 true = 0 from by decide)]
                  rfl
                | false =>
                  rw [if_pos (show b2 false = 0 from rfl), if_neg (show ¬ false = true from fun r => Bool.noConfusion r)]
                  rw [F_X10_isHere_r4_1 hn (W := W_reds) rfl hq.2.2.2.2.2.2.2.2.1 (mp_a h), lf_p_e, wlf_c]
                  cases c8 : wh g n W_reds p with
                  | true =>
                    rw [if_neg (show ¬ b2 true = 0 from by decide)]
                    rfl
                  | false =>
                    rw [if_pos (show b2 false = 0 from rfl), if_neg (show ¬ false = true from fun r => Bool.noConfusion r)]
                    rw [F_X10_isHere_r6_1 hn (W := W_number) rfl hq.2.2.2.2.2.2.2.2.2.1 (mp_a h), lf_p_e, wlf_c]
                    cases c9 : wh g n W_number p with
                    | true =>
                      rw [if_neg (show ¬ b2 true = 0 from by decide)]
                      rfl
                    | false =>
                      rw [if_pos (show b2 false = 0 from rfl), if_neg (show ¬ false = true from fun r => Bool.noConfusion r)]
                      rw [F_X10_isHere_r4_1 hn (W := W_went) rfl hq.2.2.2.2.2.2.2.2.2.2.1 (mp_a h), lf_p_e, wlf_c]
                      cases c10 : wh g n W_went p with
                      | true =>
                        rw [if_neg (show ¬ b2 true = 0 from by decide)]
                        rfl
                      | false =>
                        rw [if_pos (show b2 false = 0 from rfl), if_neg (show ¬ false = true from fun r => Bool.noConfusion r)]
                        rw [F_X10_isHere_r4_1 hn (W := W_harm) rfl hq.2.2.2.2.2.2.2.2.2.2.2.1 (mp_a h), lf_p_e, wlf_c]
                        cases c11 : wh g n W_harm p with
                        | true =>
                          rw [if_neg (show ¬ b2 true = 0 from by decide)]
                          rfl
                        | false =>
                          rw [if_pos (show b2 false = 0 from rfl), if_neg (show ¬ false = true from fun r => Bool.noConfusion r)]
                          rw [F_X10_isHere_r4_1 hn (W := W_kind) rfl hq.2.2.2.2.2.2.2.2.2.2.2.2 (mp_a h), lf_p_e, wlf_c]
                          cases c12 : wh g n W_kind p with
                          | true =>
                            rw [if_neg (show ¬ b2 true = 0 from by decide)]
                            rfl
                          | false =>
                            rw [if_pos (show b2 false = 0 from rfl), if_neg (show ¬ false = true from fun r => Bool.noConfusion r)]
                            rfl
end
section
/-! 48 -/
/-! which words are allowed: by the model's kind of text, by the class's bits -/
def tkA (tk al : Int) : Prop := (tk = 0 ∧ al = 7) ∨ (tk = 1 ∧ al = 507) ∨ (tk = 2 ∧ al = 123) ∨ (tk = 3 ∧ al = 3707)
def alB (al k : Int) : Bool := decide (¬ lf_o lf_iand (lf_o lf_ishr al k) 1 = 0)
theorem al_t (tk al : Int) (h : (List.range 12).all (fun k => decide (F_X10_isAllowed tk (k : Int) = b2 (alB al (k : Int)))) = true) {k : Int} (h0 : 0 ≤ k) (h1 : k < 12) : F_X10_isAllowed tk k = b2 (alB al k) := by
  have := of_decide_eq_true (List.all_eq_true.mp h k.toNat (List.mem_range.mpr (by omega)))
  rw [show ((k.toNat : Nat) : Int) = k from by omega] at this
  exact this
theorem al_eq {tk al k : Int} (h : tkA tk al) (h0 : 0 ≤ k) (h1 : k < 12) : F_X10_isAllowed tk k = b2 (alB al k) := by
  rcases h with ⟨e1, e2⟩ | ⟨e1, e2⟩ | ⟨e1, e2⟩ | ⟨e1, e2⟩ <;> subst e1 <;> subst e2
  · exact al_t 0 7 (by decide +kernel) h0 h1
  · exact al_t 1 507 (by decide +kernel) h0 h1
  · exact al_t 2 123 (by decide +kernel) h0 h1
  · exact al_t 3 3707 (by decide +kernel) h0 h1
theorem al_k {tk al : Int} (h : tkA tk al) : F_X10_isAllowed tk 12 = b2 (decide (al = 3707)) := by
  rcases h with ⟨e1, e2⟩ | ⟨e1, e2⟩ | ⟨e1, e2⟩ | ⟨e1, e2⟩ <;> subst e1 <;> subst e2 <;> decide +kernel
theorem wfind_app {g : Nat → Int} {a e : Nat} (v : List Int) : ∀ (ws : List (List Int)) (i : Nat), wfind g a e (ws ++ [v]) i = if wfind g a e ws i = -1 then (if wq g e v a = true then ((i + ws.length : Nat) : Int) else -1) else wfind g a e ws i
  | [], i => by
    show (if wq g e v a = true then (i : Int) else -1) = _
    rw [if_pos (show wfind g a e [] i = -1 from rfl)]
    rfl
  | w :: ws, i => by
    show (if wq g e w a = true then (i : Int) else wfind g a e (ws ++ [v]) (i + 1)) = if (if wq g e w a = true then (i : Int) else wfind g a e ws (i + 1)) = -1 then _ else (if wq g e w a = true then (i : Int) else wfind g a e ws (i + 1))
    by_cases q : wq g e w a = true
    · rw [if_pos q, if_pos q, if_neg (by omega)]
    · rw [if_neg q, if_neg q, wfind_app v ws (i + 1), show i + (w :: ws).length = i + 1 + ws.length from by show i + (ws.length + 1) = _; omega]
theorem wfind_le {g : Nat → Int} {a e : Nat} : ∀ (ws : List (List Int)) (i : Nat), wfind g a e ws i = -1 ∨ ((i : Int) ≤ wfind g a e ws i ∧ wfind g a e ws i < (i : Int) + (ws.length : Int))
  | [], _ => Or.inl rfl
  | w :: ws, i => by
    show (if wq g e w a = true then (i : Int) else wfind g a e ws (i + 1)) = -1 ∨ ((i : Int) ≤ (if wq g e w a = true then (i : Int) else wfind g a e ws (i + 1)) ∧ (if wq g e w a = true then (i : Int) else wfind g a e ws (i + 1)) < (i : Int) + ((ws.length + 1 : Nat) : Int))
    by_cases q : wq g e w a = true
    · rw [if_pos q]
      exact Or.inr ⟨Int.le_refl _, by omega⟩
    · rw [if_neg q]
      rcases wfind_le ws (i + 1) with r | r
      · exact Or.inl r
      · exact Or.inr ⟨by omega, by omega⟩
theorem wl_q {g : Nat → Int} {n p : Nat} : wl g n ws_q p = if wl g n ws_20 p = -1 then (if wl g n ws_19 p = -1 then -1 else 12) else wl g n ws_20 p := by
  unfold wl
  by_cases hk : tx_k g n p = 1
  · rw [if_pos hk, if_pos hk, if_pos hk, show ws_q = ws_20 ++ [W_kind] from rfl, wfind_app]
    have e19 : wfind g (tx_a g n p) (tx_e g n p) ws_19 0 = if wq g (tx_e g n p) W_kind (tx_a g n p) = true then 0 else -1 := rfl
    rw [e19]
    by_cases c : wfind g (tx_a g n p) (tx_e g n p) ws_20 0 = -1
    · rw [if_pos c, if_pos c]
      by_cases q : wq g (tx_e g n p) W_kind (tx_a g n p) = true
      · rw [if_pos q, if_pos q, if_neg (show ¬ (0 : Int) = -1 from by decide)]
        rfl
      · rw [if_neg q, if_neg q, if_pos rfl]
    · rw [if_neg c, if_neg c]
  · rw [if_neg hk, if_neg hk, if_neg hk, if_pos rfl, if_pos rfl]
theorem wl_20 {g : Nat → Int} {n p : Nat} (h : ¬ wl g n ws_20 p = -1) : 0 ≤ wl g n ws_20 p ∧ wl g n ws_20 p < 12 := by
  have hk := wl_k h
  unfold wl at *
  rw [if_pos hk] at *
  rcases wfind_le (g := g) (a := tx_a g n p) (e := tx_e g n p) ws_20 0 with r | r
  · exact absurd r h
  · have : ((ws_20.length : Nat) : Int) = 12 := rfl
    exact ⟨by omega, by omega⟩
end
section
/-! 49 -/
theorem q_wo1 {g : Nat → Int} {n p : Nat} {xa xe tk al : Int} {v1 v2 v3 v4 v5 v6 v7 v8 v9 v10 v11 v12 v13 : Nat → Int} (hn : n ≤ 1600) (hq : qw v1 v2 v3 v4 v5 v6 v7 v8 v9 v10 v11 v12 v13) (ht : tkA tk al) (h : mp g n p xa xe) : F_X10_qWordOf_a0_0_a1_12 xa (n : Int) xe (0 : Int) tk g v1 v2 v3 v4 v5 v6 v7 v8 v9 v10 v11 v12 v13 = ((if wl g n ws_20 p = -1 then -1 else if alB al (wl g n ws_20 p) = true then wl g n ws_20 p else -1), (tx_a g n p : Int)) := by
  unfold F_X10_qWordOf_a0_0_a1_12
  rw [q_wh hn hq h, lf_p_e, wl_q]
  by_cases c : wl g n ws_20 p = -1
  · rw [if_pos c, if_pos c]
    by_cases c2 : wl g n ws_19 p = -1
    · rw [if_pos c2, if_pos (show (-1 : Int) < 0 from by decide)]
    · rw [if_neg c2, if_neg (show ¬ (12 : Int) < 0 from by decide), if_pos (Int.le_refl _)]
  · have hb := wl_20 c
    rw [if_neg c, if_neg c, if_neg (by omega), if_neg (by omega), lf_b_e, al_eq ht hb.1 hb.2]
    cases alB al (wl g n ws_20 p) with
    | true => rw [if_neg (show ¬ b2 true = 0 from by decide), if_pos rfl]
    | false => rw [if_pos (show b2 false = 0 from rfl), if_neg (show ¬ false = true from fun r => Bool.noConfusion r)]
theorem q_wo2 {g : Nat → Int} {n p : Nat} {xa xe tk al : Int} {v1 v2 v3 v4 v5 v6 v7 v8 v9 v10 v11 v12 v13 : Nat → Int} (hn : n ≤ 1600) (hq : qw v1 v2 v3 v4 v5 v6 v7 v8 v9 v10 v11 v12 v13) (ht : tkA tk al) (h : mp g n p xa xe) : F_X10_qWordOf_a0_12_a1_13 xa (n : Int) xe (0 : Int) tk g v1 v2 v3 v4 v5 v6 v7 v8 v9 v10 v11 v12 v13 = ((if wl g n ws_20 p = -1 ∧ ¬ wl g n ws_19 p = -1 ∧ al = 3707 then 12 else -1), (tx_a g n p : Int)) := by
  unfold F_X10_qWordOf_a0_12_a1_13
  rw [q_wh hn hq h, lf_p_e, wl_q]
  by_cases c : wl g n ws_20 p = -1
  · rw [if_pos c]
    by_cases c2 : wl g n ws_19 p = -1
    · rw [if_pos c2, if_pos (show (-1 : Int) < 12 from by decide), if_neg (fun r => r.2.1 c2)]
    · rw [if_neg c2, if_neg (show ¬ (12 : Int) < 12 from by decide), lf_b_e, al_k ht]
      by_cases c3 : al = 3707
      · rw [decide_eq_true c3, if_neg (show ¬ b2 true = 0 from by decide), if_pos ⟨c, c2, c3⟩]
      · rw [decide_eq_false c3, if_pos (show b2 false = 0 from rfl), if_neg (fun r => c3 r.2.2)]
  · have hb := wl_20 c
    rw [if_neg c, if_pos (by omega), if_neg (fun r => c r.1)]
end
section
/-! 4a -/
/-! what waits with its operators; the machine's list is without them -/
def isOp (x : Int) : Bool := decide (1 ≤ x) && decide (x ≤ 4)
theorem isOp_i {x : Int} : isOp x = true ↔ (1 ≤ x ∧ x ≤ 4) := by
  unfold isOp
  rw [Bool.and_eq_true, decide_eq_true_iff, decide_eq_true_iff]
theorem isBr_i {x : Int} : isBr x = true ↔ (20 ≤ x ∧ x ≤ 24) := by
  unfold isBr
  rw [Bool.and_eq_true, decide_eq_true_iff, decide_eq_true_iff]
theorem op_br {x : Int} (h : isOp x = true) : ¬ isBr x = true := by
  rw [isBr_i]
  rw [isOp_i] at h
  omega
theorem br_op {x : Int} (h : isBr x = true) : ¬ isOp x = true := by
  rw [isOp_i]
  rw [isBr_i] at h
  omega
def stT : List Int → List Int
  | [] => []
  | x :: P => if isOp x = true then stT P else x :: stT P
theorem stT_o {x : Int} {P : List Int} (h : isOp x = true) : stT (x :: P) = stT P := if_pos h
theorem stT_n {x : Int} {P : List Int} (h : ¬ isOp x = true) : stT (x :: P) = x :: stT P := if_neg h
def h6 : List Int → Prop
  | [] => True
  | x :: _ => x < 60
def okP : List Int → Prop
  | [] => True
  | x :: P => okP P ∧ ((isOp x = true ∧ h6 P) ∨ isBr x = true ∨ x = 60)
theorem stT_br : ∀ P : List Int, brT (stT P) = brT P
  | [] => rfl
  | x :: P => by
    show _ = if isBr x = true then x else brT P
    by_cases q : isOp x = true
    · rw [stT_o q, if_neg (op_br q)]
      exact stT_br P
    · rw [stT_n q, ← stT_br P]
      rfl
def hb : List Int → Prop
  | [] => True
  | x :: _ => isBr x = true
theorem hb_eo {T : List Int} (h : hb T) (k : Int) : eoD T k = (T, k) := by
  cases T with
  | nil => rfl
  | cons x T =>
    have h1 : isBr x = true := h
    rw [isBr_i] at h1
    exact if_pos (by omega)
theorem ok_hb : ∀ {P : List Int}, okP P → h6 P → hb (stT P)
  | [], _, _ => True.intro
  | x :: P, h, h2 => by
    have h2' : x < 60 := h2
    rcases h.2 with r | r | r
    · rw [stT_o r.1]
      exact ok_hb h.1 r.2
    · rw [stT_n (br_op r)]
      exact r
    · omega
theorem ok_eo : ∀ {P : List Int} (o : Int), okP P → stT (eoD P o).1 = (eoD (stT P) o).1 ∧ (eoD P o).2 = (eoD (stT P) o).2 ∧ okP (eoD P o).1 ∧ h6 (eoD P o).1 ∧ (eoD P o).2 + ((stT P).length : Int) = o + ((stT (eoD P o).1).length : Int) ∧ (eoD P o).1.length ≤ P.length
  | [], _, _ => ⟨rfl, rfl, True.intro, True.intro, rfl, Nat.le_refl _⟩
  | x :: P, o, h => by
    by_cases q : x < 60
    · have e : eoD (x :: P) o = (x :: P, o) := if_pos q
      have e2 : eoD (stT (x :: P)) o = (stT (x :: P), o) := hb_eo (ok_hb h q) o
      rw [e, e2]
      exact ⟨rfl, rfl, h, q, rfl, Nat.le_refl _⟩
    · have hx : x = 60 := by
        rcases h.2 with r | r | r
        · have := isOp_i.mp r.1
          omega
        · have := isBr_i.mp r
          omega
        · exact r
      have e : eoD (x :: P) o = eoD P (o - 1) := if_neg q
      have e1 : stT (x :: P) = x :: stT P := stT_n (fun r => by have := isOp_i.mp r; omega)
      have e2 : eoD (x :: stT P) o = eoD (stT P) (o - 1) := if_neg q
      rw [e, e1, e2]
      obtain ⟨a1, a2, a3, a4, a5, a6⟩ := ok_eo (o - 1) h.1
      refine ⟨a1, a2, a3, a4, ?_, Nat.le_succ_of_le a6⟩
      show _ + (((stT P).length + 1 : Nat) : Int) = _
      omega
theorem ok_dr : ∀ {P : List Int}, okP P → h6 P → (brT P = -1 ∧ stT P = []) ∨ (∃ x Q, drT P = x :: Q ∧ isBr x = true ∧ brT P = x ∧ stT P = x :: stT Q ∧ okP Q ∧ Q.length + 1 ≤ P.length)
  | [], _, _ => Or.inl ⟨rfl, rfl⟩
  | x :: P, h, h2 => by
    have h2' : x < 60 := h2
    have eb : brT (x :: P) = if isBr x = true then x else brT P := rfl
    have ed : drT (x :: P) = if isBr x = true then x :: P else drT P := rfl
    rcases h.2 with r | r | r
    · rw [eb, ed, stT_o r.1, if_neg (op_br r.1), if_neg (op_br r.1)]
      rcases ok_dr h.1 r.2 with s | ⟨y, Q, a1, a2, a3, a4, a5, a6⟩
      · exact Or.inl s
      · exact Or.inr ⟨y, Q, a1, a2, a3, a4, a5, Nat.le_succ_of_le a6⟩
    · refine Or.inr ⟨x, P, ?_, r, ?_, stT_n (br_op r), h.1, Nat.le_refl _⟩
      · rw [ed, if_pos r]
      · rw [eb, if_pos r]
    · omega
theorem drT_br {T : List Int} (h : hb T) : drT T = T := by
  cases T with
  | nil => rfl
  | cons x T => exact if_pos h
/-- operators of one kind fall -/
def opD (lo : Int) : List Int → List Int
  | [] => []
  | x :: P => if lo ≤ x ∧ x ≤ 4 then opD lo P else x :: P
theorem opD_ok {lo : Int} (hlo : 1 ≤ lo) : ∀ {P : List Int}, okP P → h6 P → okP (opD lo P) ∧ h6 (opD lo P) ∧ stT (opD lo P) = stT P ∧ (opD lo P).length ≤ P.length
  | [], _, _ => ⟨True.intro, True.intro, rfl, Nat.le_refl _⟩
  | x :: P, h, h2 => by
    by_cases q : lo ≤ x ∧ x ≤ 4
    · have e : opD lo (x :: P) = opD lo P := if_pos q
      have q2 : isOp x = true := isOp_i.mpr ⟨by omega, q.2⟩
      rcases h.2 with r | r | r
      · rw [e, stT_o r.1]
        obtain ⟨a1, a2, a3, a4⟩ := opD_ok hlo h.1 r.2
        exact ⟨a1, a2, a3, Nat.le_succ_of_le a4⟩
      · exact absurd q2 (br_op r)
      · omega
    · have e : opD lo (x :: P) = x :: P := if_neg q
      rw [e]
      exact ⟨h, h2, rfl, Nat.le_refl _⟩
theorem opD_p {lo : Int} {w : Nat → Int} {B : List Int} : ∀ (P : List Int), pwl w (P ++ B) → pwl w (opD lo P ++ B)
  | [], h => h
  | x :: P, h => by
    show pwl w ((if lo ≤ x ∧ x ≤ 4 then opD lo P else x :: P) ++ B)
    by_cases q : lo ≤ x ∧ x ≤ 4
    · rw [if_pos q]; exact opD_p P h.2
    · rw [if_neg q]; exact h
/-- the last of what waits -/
theorem pw_hd {w : Nat → Int} {K : List Int} (h : pwl w K) (hK : ¬ K.length = 0) : w (((K.length : Int) - 1).toNat) = K.headD 0 := by
  cases K with
  | nil => exact absurd rfl hK
  | cons x K =>
    rw [show (((x :: K).length : Nat) : Int) - 1 = (K.length : Int) from by show ((K.length + 1 : Nat) : Int) - 1 = _; omega, Int.toNat_natCast]
    exact h.1
/-- is this on? -/
def gOn (k m : Int) (w : Nat → Int) : Int := if m ≤ 0 then 0 else if w (Int.toNat (m - 1)) = k then 1 else 0
theorem g_on {w : Nat → Int} {K : List Int} (h : pwl w K) (k : Int) (hk : ¬ k = 0) : gOn k (K.length : Int) w = if K.headD 0 = k then 1 else 0 := by
  unfold gOn
  by_cases q : K.length = 0
  · have e : K = [] := List.length_eq_zero_iff.mp q
    rw [if_pos (by omega), e]
    exact (if_neg (fun r => hk r.symm)).symm
  · rw [if_neg (by omega), pw_hd h q]
end
section
/-! 4b -/
def gGo (x_end : Int) (x_bad : Int) (x_badPlace : Int) (x_qBase : Int) (g_tape : Nat → Int) (g_qWait : Nat → Int) (J0_c0_111 : Int) (J0_c0_113 : Int) (J0_c0_114 : Int) (J0_a3 : Nat → Int) (v205 : Int) : Int × Int × Int × Int × Int × Int × Int × (Nat → Int) × (Nat → Int) := (lf_p (F_X10_takesSign_a0_42 v205 x_end x_bad g_tape) (fun r217 v219 => (if r217 = (0 : Int) then (lf_p (F_X10_takesSign_a0_47 v219 x_end x_bad g_tape) (fun r255 v257 => (if r255 = (0 : Int) then (lf_p (F_X10_takesSign_a0_43 v257 x_end x_bad g_tape) (fun r270 v272 => (if r270 = (0 : Int) then (lf_p (F_X10_takesSign_a0_45 v272 x_end x_bad g_tape) (fun r302 v304 => (if r302 = (0 : Int) then (lf_b (F_X10_qBracket J0_c0_113 x_qBase g_qWait) (fun r317 => (if r317 = (21 : Int) then (lf_p (F_X10_asksSign_a0_44 v304 x_end x_bad x_badPlace g_tape) (fun v326 t_v327 => (lf_p t_v327 (fun v327 v328 => (if v327 = (0 : Int) then (lf_p (F_X10_qDropsToBracket J0_c0_111 J0_c0_113 x_qBase J0_a3 g_qWait) (fun v343 t_v344 => (lf_p t_v344 (fun v344 f345 => ((1 : Int), v326, v327, v328, v343, v344, J0_c0_114, (lf_up g_qWait (v344 - (1 : Int)) ((g_qWait (Int.toNat (v344 - (1 : Int)))) + (2 : Int))), f345))))) else ((0 : Int), v326, v327, v328, J0_c0_111, J0_c0_113, J0_c0_114, g_qWait, J0_a3)))))) else (lf_b (F_X10_qBracket J0_c0_113 x_qBase g_qWait) (fun r372 => (if r372 = (22 : Int) then (lf_p (F_X10_asksSign_a0_44 v304 x_end x_bad x_badPlace g_tape) (fun v393 t_v394 => (lf_p t_v394 (fun v394 v395 => (if v394 = (0 : Int) then (lf_p (F_X10_qDropsToBracket J0_c0_111 J0_c0_113 x_qBase J0_a3 g_qWait) (fun v410 t_v411 => (lf_p t_v411 (fun v411 f412 => ((1 : Int), v393, v394, v395, v410, v411, J0_c0_114, (lf_up g_qWait (v411 - (1 : Int)) ((g_qWait (Int.toNat (v411 - (1 : Int)))) + (2 : Int))), f412))))) else ((0 : Int), v393, v394, v395, J0_c0_111, J0_c0_113, J0_c0_114, g_qWait, J0_a3)))))) else (lf_b (F_X10_qBracket J0_c0_113 x_qBase g_qWait) (fun r377 => (if r377 = (-1 : Int) then ((0 : Int), v304, x_bad, x_badPlace, J0_c0_111, J0_c0_113, J0_c0_114, g_qWait, J0_a3) else ((0 : Int), v304, (1 : Int), v304, J0_c0_111, J0_c0_113, J0_c0_114, g_qWait, J0_a3)))))))))) else (if (g_tape (Int.toNat (v304 - (1 : Int)))) = (43 : Int) then (F_X10_qGoesOn_247 x_bad x_badPlace g_qWait 1623 v304 (1 : Int) J0_c0_111 J0_c0_113 J0_c0_114 J0_a3) else (F_X10_qGoesOn_247 x_bad x_badPlace g_qWait 1623 v304 (2 : Int) J0_c0_111 J0_c0_113 J0_c0_114 J0_a3))))) else (if (g_tape (Int.toNat (v272 - (1 : Int)))) = (43 : Int) then (F_X10_qGoesOn_247 x_bad x_badPlace g_qWait 1623 v272 (1 : Int) J0_c0_111 J0_c0_113 J0_c0_114 J0_a3) else (F_X10_qGoesOn_247 x_bad x_badPlace g_qWait 1623 v272 (2 : Int) J0_c0_111 J0_c0_113 J0_c0_114 J0_a3))))) else (if (g_tape (Int.toNat (v257 - (1 : Int)))) = (42 : Int) then (F_X10_qGoesOn_162 x_bad x_badPlace g_qWait 1623 v257 (3 : Int) J0_c0_111 J0_c0_113 J0_c0_114 J0_a3) else (F_X10_qGoesOn_162 x_bad x_badPlace g_qWait 1623 v257 (4 : Int) J0_c0_111 J0_c0_113 J0_c0_114 J0_a3))))) else (if (g_tape (Int.toNat (v219 - (1 : Int)))) = (42 : Int) then (F_X10_qGoesOn_162 x_bad x_badPlace g_qWait 1623 v219 (3 : Int) J0_c0_111 J0_c0_113 J0_c0_114 J0_a3) else (F_X10_qGoesOn_162 x_bad x_badPlace g_qWait 1623 v219 (4 : Int) J0_c0_111 J0_c0_113 J0_c0_114 J0_a3)))))
theorem gGo_b (x_end : Int) (x_bad : Int) (x_badPlace : Int) (x_qBase : Int) (g_tape : Nat → Int) (g_qWait : Nat → Int) (K0 : (Int) → (Int) → (Int) → (Int) → (Nat → Int) → (Int × Int × Int × Int × Int × Int × Int × (Nat → Int) × (Nat → Int))) (J0_c0_2 : Int) (J0_c0_111 : Int) (J0_c0_113 : Int) (J0_c0_114 : Int) (J0_a3 : Nat → Int) : F_X10_qGoesOn_0b x_end x_bad x_badPlace x_qBase g_tape g_qWait K0 J0_c0_2 J0_c0_111 J0_c0_113 J0_c0_114 J0_a3 = (lf_p (F_X10_look J0_c0_2 x_end g_tape) (fun r203 v205 => (if r203 = (41 : Int) then (lf_b (F_X10_qBracket J0_c0_113 x_qBase g_qWait) (fun r483 => (if r483 = (20 : Int) then (lf_p (F_X10_qDropsToBracket J0_c0_111 J0_c0_113 x_qBase J0_a3 g_qWait) (fun v498 t_v499 => (lf_p t_v499 (fun v499 f500 => (lf_p (F_X10_qEndsPart x_bad v498 (v499 - (1 : Int)) (lf_o lf_isub J0_c0_114 (1 : Int)) x_qBase f500 g_qWait) (fun v527 t_v528 => (lf_p t_v528 (fun v528 t_v529 => (lf_p t_v529 (fun v529 f530 => (K0 (v205 + (1 : Int)) v527 v528 v529 f530))))))))))) else (lf_b (F_X10_qBracket J0_c0_113 x_qBase g_qWait) (fun r542 => (if r542 = (23 : Int) then (lf_p (F_X10_qDropsToBracket J0_c0_111 J0_c0_113 x_qBase J0_a3 g_qWait) (fun v554 t_v555 => (lf_p t_v555 (fun v555 f556 => (lf_p (F_X10_qCode v554 f556 (5 : Int)) (fun v585 f586 => (lf_p (F_X10_qEndsPart x_bad v585 (v555 - (1 : Int)) (lf_o lf_isub J0_c0_114 (1 : Int)) x_qBase f586 g_qWait) (fun v595 t_v596 => (lf_p t_v596 (fun v596 t_v597 => (lf_p t_v597 (fun v597 f598 => (K0 (v205 + (1 : Int)) v595 v596 v597 f598))))))))))))) else (lf_b (F_X10_qBracket J0_c0_113 x_qBase g_qWait) (fun r607 => (if r607 = (24 : Int) then (lf_p (F_X10_qDropsToBracket J0_c0_111 J0_c0_113 x_qBase J0_a3 g_qWait) (fun v852 t_v853 => (lf_p t_v853 (fun v853 f854 => (lf_p (F_X10_qCode v852 f854 (6 : Int)) (fun v882 f883 => (lf_p (F_X10_qEndsPart x_bad v882 (v853 - (1 : Int)) (lf_o lf_isub J0_c0_114 (1 : Int)) x_qBase f883 g_qWait) (fun v892 t_v893 => (lf_p t_v893 (fun v893 t_v894 => (lf_p t_v894 (fun v894 f895 => (K0 (v205 + (1 : Int)) v892 v893 v894 f895))))))))))))) else (gGo x_end x_bad x_badPlace x_qBase g_tape g_qWait J0_c0_111 J0_c0_113 J0_c0_114 J0_a3 v205)))))))))) else (gGo x_end x_bad x_badPlace x_qBase g_tape g_qWait J0_c0_111 J0_c0_113 J0_c0_114 J0_a3 v205)))) := rfl
theorem q_247 {w : Nat → Int} {B : List Int} {xb xp v l o : Int} (hB : ¬ (1 ≤ B.headD 0 ∧ B.headD 0 ≤ 4)) : ∀ (P : List Int) (f : Nat) (c : Int) (cd : Nat → Int), pwl w (P ++ B) → P.length < f → ∃ c2 cd2, F_X10_qGoesOn_247 xb xp w f v l c ((P ++ B).length : Int) o cd = ((1 : Int), v, xb, xp, c2, ((opD 1 P ++ B).length : Int) + 1, o, lf_up w ((opD 1 P ++ B).length : Int) l, cd2) ∧ c2 + ((opD 1 P).length : Int) = c + (P.length : Int) := by
  intro P
  induction P with
  | nil =>
    intro f c cd h hf
    obtain ⟨k, rfl⟩ : ∃ k, f = k + 1 := ⟨f - 1, by have : 0 < f := hf; omega⟩
    have e3 : F_X10_qIsOn_a0_3 (B.length : Int) w = if B.headD 0 = 3 then 1 else 0 := g_on h 3 (by decide)
    have e4 : F_X10_qIsOn_a0_4 (B.length : Int) w = if B.headD 0 = 4 then 1 else 0 := g_on h 4 (by decide)
    have e1 : F_X10_qIsOn_a0_1 (B.length : Int) w = if B.headD 0 = 1 then 1 else 0 := g_on h 1 (by decide)
    have e2 : F_X10_qIsOn_a0_2 (B.length : Int) w = if B.headD 0 = 2 then 1 else 0 := g_on h 2 (by decide)
    rw [if_neg (by omega)] at e3 e4 e1 e2
    refine ⟨c, cd, ?_, rfl⟩
    show F_X10_qGoesOn_247b xb xp w _ v l c (B.length : Int) o cd = _
    unfold F_X10_qGoesOn_247b
    rw [lf_b_e, e3, if_pos rfl, lf_b_e, e4, if_pos rfl, lf_b_e, e1, if_pos rfl, lf_b_e, e2, if_pos rfl]
    rfl
  | cons x P ih =>
    intro f c cd h hf
    obtain ⟨k, rfl⟩ : ∃ k, f = k + 1 := ⟨f - 1, by have : 0 < f := Nat.lt_of_le_of_lt (Nat.zero_le _) hf; omega⟩
    have e3 : F_X10_qIsOn_a0_3 (((x :: P) ++ B).length : Int) w = if x = 3 then 1 else 0 := g_on h 3 (by decide)
    have e4 : F_X10_qIsOn_a0_4 (((x :: P) ++ B).length : Int) w = if x = 4 then 1 else 0 := g_on h 4 (by decide)
    have e1 : F_X10_qIsOn_a0_1 (((x :: P) ++ B).length : Int) w = if x = 1 then 1 else 0 := g_on h 1 (by decide)
    have e2 : F_X10_qIsOn_a0_2 (((x :: P) ++ B).length : Int) w = if x = 2 then 1 else 0 := g_on h 2 (by decide)
    have ed : F_X10_qDrops c (((x :: P) ++ B).length : Int) cd w = ((c + 1), ((P ++ B).length : Int), lf_up cd c (w (P ++ B).length)) := q_drop
    obtain ⟨c2, cd2, i1, i2⟩ := ih k (c + 1) (lf_up cd c (w (P ++ B).length)) h.2 (by have : P.length + 1 < k + 1 := hf; omega)
    have fin : 1 ≤ x ∧ x ≤ 4 → ∃ c2 cd2, F_X10_qGoesOn_247 xb xp w k v l (c + 1) ((P ++ B).length : Int) o (lf_up cd c (w (P ++ B).length)) = ((1 : Int), v, xb, xp, c2, ((opD 1 (x :: P) ++ B).length : Int) + 1, o, lf_up w ((opD 1 (x :: P) ++ B).length : Int) l, cd2) ∧ c2 + ((opD 1 (x :: P)).length : Int) = c + ((P.length + 1 : Nat) : Int) := by
      intro q
      rw [show opD 1 (x :: P) = opD 1 P from if_pos q]
      exact ⟨c2, cd2, i1, by omega⟩
    show ∃ c2 cd2, F_X10_qGoesOn_247b xb xp w (F_X10_qGoesOn_247 xb xp w k) v l c (((x :: P) ++ B).length : Int) o cd = _ ∧ _
    unfold F_X10_qGoesOn_247b
    rw [lf_b_e, e3]
    by_cases c3 : x = 3
    · rw [if_pos c3, if_neg (show ¬ (1 : Int) = 0 from by decide), ed, lf_p_e, lf_p_e]
      exact fin (by omega)
    · rw [if_neg c3, if_pos rfl, lf_b_e, e4]
      by_cases c4 : x = 4
      · rw [if_pos c4, if_neg (show ¬ (1 : Int) = 0 from by decide), ed, lf_p_e, lf_p_e]
        exact fin (by omega)
      · rw [if_neg c4, if_pos rfl, lf_b_e, e1]
        by_cases c1 : x = 1
        · rw [if_pos c1, if_neg (show ¬ (1 : Int) = 0 from by decide), ed, lf_p_e, lf_p_e]
          exact fin (by omega)
        · rw [if_neg c1, if_pos rfl, lf_b_e, e2]
          by_cases c2' : x = 2
          · rw [if_pos c2', if_neg (show ¬ (1 : Int) = 0 from by decide), ed, lf_p_e, lf_p_e]
            exact fin (by omega)
          · rw [if_neg c2', if_pos rfl, show opD 1 (x :: P) = x :: P from if_neg (by omega)]
            exact ⟨c, cd, rfl, rfl⟩
theorem q_162 {w : Nat → Int} {B : List Int} {xb xp v l o : Int} (hB : ¬ (1 ≤ B.headD 0 ∧ B.headD 0 ≤ 4)) : ∀ (P : List Int) (f : Nat) (c : Int) (cd : Nat → Int), pwl w (P ++ B) → P.length < f → ∃ c2 cd2, F_X10_qGoesOn_162 xb xp w f v l c ((P ++ B).length : Int) o cd = ((1 : Int), v, xb, xp, c2, ((opD 3 P ++ B).length : Int) + 1, o, lf_up w ((opD 3 P ++ B).length : Int) l, cd2) ∧ c2 + ((opD 3 P).length : Int) = c + (P.length : Int) := by
  intro P
  induction P with
  | nil =>
    intro f c cd h hf
    obtain ⟨k, rfl⟩ : ∃ k, f = k + 1 := ⟨f - 1, by have : 0 < f := hf; omega⟩
    have e3 : F_X10_qIsOn_a0_3 (B.length : Int) w = if B.headD 0 = 3 then 1 else 0 := g_on h 3 (by decide)
    have e4 : F_X10_qIsOn_a0_4 (B.length : Int) w = if B.headD 0 = 4 then 1 else 0 := g_on h 4 (by decide)
    rw [if_neg (by omega)] at e3 e4
    refine ⟨c, cd, ?_, rfl⟩
    show F_X10_qGoesOn_162b xb xp w _ v l c (B.length : Int) o cd = _
    unfold F_X10_qGoesOn_162b
    rw [lf_b_e, e3, if_pos rfl, lf_b_e, e4, if_pos rfl]
    rfl
  | cons x P ih =>
    intro f c cd h hf
    obtain ⟨k, rfl⟩ : ∃ k, f = k + 1 := ⟨f - 1, by have : 0 < f := Nat.lt_of_le_of_lt (Nat.zero_le _) hf; omega⟩
    have e3 : F_X10_qIsOn_a0_3 (((x :: P) ++ B).length : Int) w = if x = 3 then 1 else 0 := g_on h 3 (by decide)
    have e4 : F_X10_qIsOn_a0_4 (((x :: P) ++ B).length : Int) w = if x = 4 then 1 else 0 := g_on h 4 (by decide)
    have ed : F_X10_qDrops c (((x :: P) ++ B).length : Int) cd w = ((c + 1), ((P ++ B).length : Int), lf_up cd c (w (P ++ B).length)) := q_drop
    obtain ⟨c2, cd2, i1, i2⟩ := ih k (c + 1) (lf_up cd c (w (P ++ B).length)) h.2 (by have : P.length + 1 < k + 1 := hf; omega)
    have fin : 3 ≤ x ∧ x ≤ 4 → ∃ c2 cd2, F_X10_qGoesOn_162 xb xp w k v l (c + 1) ((P ++ B).length : Int) o (lf_up cd c (w (P ++ B).length)) = ((1 : Int), v, xb, xp, c2, ((opD 3 (x :: P) ++ B).length : Int) + 1, o, lf_up w ((opD 3 (x :: P) ++ B).length : Int) l, cd2) ∧ c2 + ((opD 3 (x :: P)).length : Int) = c + ((P.length + 1 : Nat) : Int) := by
      intro q
      rw [show opD 3 (x :: P) = opD 3 P from if_pos q]
      exact ⟨c2, cd2, i1, by omega⟩
    show ∃ c2 cd2, F_X10_qGoesOn_162b xb xp w (F_X10_qGoesOn_162 xb xp w k) v l c (((x :: P) ++ B).length : Int) o cd = _ ∧ _
    unfold F_X10_qGoesOn_162b
    rw [lf_b_e, e3]
    by_cases c3 : x = 3
    · rw [if_pos c3, if_neg (show ¬ (1 : Int) = 0 from by decide), ed, lf_p_e, lf_p_e]
      exact fin (by omega)
    · rw [if_neg c3, if_pos rfl, lf_b_e, e4]
      by_cases c4 : x = 4
      · rw [if_pos c4, if_neg (show ¬ (1 : Int) = 0 from by decide), ed, lf_p_e, lf_p_e]
        exact fin (by omega)
      · rw [if_neg c4, if_pos rfl, show opD 3 (x :: P) = x :: P from if_neg (by omega)]
        exact ⟨c, cd, rfl, rfl⟩
theorem F_X10_asksSign_a0_40_1 {g : Nat → Int} {n p : Nat} {xa xe : Int} (hn : n ≤ 1600) (h : mp g n p xa xe) : F_X10_asksSign_a0_40 xa (n : Int) (0 : Int) (-1 : Int) g = if tx_k g n p = 3 ∧ g (tx_a g n p) = 40 then ((tx_a g n p : Int) + 1, (0 : Int), (-1 : Int)) else ((tx_a g n p : Int), (1 : Int), (tx_a g n p : Int)) := by
  unfold F_X10_asksSign_a0_40
  rw [if_pos rfl, F_X10_takesSign_a0_40_1 hn h]
  by_cases q : tx_k g n p = 3 ∧ g (tx_a g n p) = 40
  · rw [if_pos q, if_pos q, lf_p_e, if_neg (show ¬ (1 : Int) = 0 from by decide)]
  · rw [if_neg q, if_neg q, lf_p_e, if_pos rfl]
theorem F_X10_asksSign_a0_44_1 {g : Nat → Int} {n p : Nat} {xa xe : Int} (hn : n ≤ 1600) (h : mp g n p xa xe) : F_X10_asksSign_a0_44 xa (n : Int) (0 : Int) (-1 : Int) g = if tx_k g n p = 3 ∧ g (tx_a g n p) = 44 then ((tx_a g n p : Int) + 1, (0 : Int), (-1 : Int)) else ((tx_a g n p : Int), (1 : Int), (tx_a g n p : Int)) := by
  unfold F_X10_asksSign_a0_44
  rw [if_pos rfl, F_X10_takesSign_a0_44_1 hn h]
  by_cases q : tx_k g n p = 3 ∧ g (tx_a g n p) = 44
  · rw [if_pos q, if_pos q, lf_p_e, if_neg (show ¬ (1 : Int) = 0 from by decide)]
  · rw [if_neg q, if_neg q, lf_p_e, if_pos rfl]
/-- what the model holds amid a sum: the place, and what waits -/
def qS (g : Nat → Int) (n : Nat) (B : List Int) (o0 : Int) (d : Nat) (P : List Int) (o : Int) (p : Nat) (xa xe xb xp c m oo : Int) (w : Nat → Int) : Prop := okP P ∧ o = o0 + ((stT P).length : Int) ∧ 0 ≤ o0 ∧ o ≤ 6 ∧ c + (d : Int) + ((P ++ B).length : Int) ≤ (p : Int) ∧ 0 ≤ c ∧ mp g n p xa xe ∧ xb = 0 ∧ xp = -1 ∧ m = ((P ++ B).length : Int) ∧ oo = o ∧ pwl w (P ++ B)
def qG (g : Nat → Int) (n : Nat) (al : Int) (B : List Int) (o0 : Int) (d : Nat) (xe : Int) (S : ST) (p : Nat) (R : Int × Int × Int × Int × Int × Int × Int × (Nat → Int) × (Nat → Int)) : Prop := (R.1 = 1 ∧ ∃ P2 o2 p2, S = RR g n al true (stT P2) o2 p2 ∧ p < p2 ∧ qS g n B o0 d P2 o2 p2 R.2.1 xe R.2.2.1 R.2.2.2.1 R.2.2.2.2.1 R.2.2.2.2.2.1 R.2.2.2.2.2.2.1 R.2.2.2.2.2.2.2.1) ∨ (R.1 = 0 ∧ ∃ q : Int × Int, S = .inl q ∧ ¬ q.1 = 0 ∧ R.2.2.1 = q.1 ∧ R.2.2.2.1 = q.2) ∨ (R.1 = 0 ∧ ∃ P2 o2 p2, S = .inr p2 ∧ p ≤ p2 ∧ stT P2 = [] ∧ qS g n B o0 d P2 o2 p2 R.2.1 xe R.2.2.1 R.2.2.2.1 R.2.2.2.2.1 R.2.2.2.2.2.1 R.2.2.2.2.2.2.1 R.2.2.2.2.2.2.2.1)
section QG
variable {g : Nat → Int} {n : Nat} {al : Int} {B : List Int} {o0 : Int} {d : Nat} {P : List Int} {o : Int} {p : Nat} {xa xe c : Int} {w : Nat → Int}
theorem q_len {xb xp m oo : Int} (hn : n ≤ 1600) (h : qS g n B o0 d P o p xa xe xb xp c m oo w) : P.length ≤ 1600 ∧ P.length + B.length ≤ 1600 := by
  obtain ⟨h1, h2, h3, h4, h5, h6', h7, h8⟩ := h
  have hl : (P ++ B).length = P.length + B.length := List.length_append
  have := h7.1
  omega
theorem q_opr (hn : n ≤ 1600) (hB : ¬ (1 ≤ B.headD 0 ∧ B.headD 0 ≤ 4)) (h : qS g n B o0 d P o p xa xe (0 : Int) (-1 : Int) c ((P ++ B).length : Int) o w) (h6P : h6 P) (hop : opS g n p) {lo l : Int} (hlo : 1 ≤ lo) (hl : 1 ≤ l ∧ l ≤ 4) {R : Int × Int × Int × Int × Int × Int × Int × (Nat → Int) × (Nat → Int)} (hR : ∃ c2 cd2, R = ((1 : Int), (tx_a g n p : Int) + 1, (0 : Int), (-1 : Int), c2, ((opD lo P ++ B).length : Int) + 1, o, lf_up w ((opD lo P ++ B).length : Int) l, cd2) ∧ c2 + ((opD lo P).length : Int) = c + (P.length : Int)) : qG g n al B o0 d xe (RR g n al false (stT P) o p) p R := by
  obtain ⟨c2, cd2, e, e2⟩ := hR
  obtain ⟨h1, h2, h3, h4, h5, h6', h7, h8, h9, h10, h11, h12⟩ := h
  have hlt : p < tx_e g n p := tx_e_gt' (by have := hop.1; omega)
  obtain ⟨a1, a2, a3, a4⟩ := opD_ok hlo h1 h6P
  have hl1 : (P ++ B).length = P.length + B.length := List.length_append
  have hl2 : (opD lo P ++ B).length = (opD lo P).length + B.length := List.length_append
  have hs : stT (l :: opD lo P) = stT P := (stT_o (isOp_i.mpr hl)).trans a3
  refine Or.inl ?_
  rw [e]
  refine ⟨rfl, l :: opD lo P, o, tx_e g n p, ?_, hlt, ⟨a1, Or.inl ⟨isOp_i.mpr hl, a2⟩⟩, ?_, h3, h4, ?_, ?_, mp_sgn h7 hop.1, rfl, rfl, rfl, rfl, pwl_push (opD_p P h12) l⟩
  · rw [hs]
    exact RR_op h7.1 hop
  · rw [hs]
    exact h2
  · show c2 + (d : Int) + (((opD lo P ++ B).length + 1 : Nat) : Int) ≤ _
    omega
  · show 0 ≤ c2
    omega
theorem q_cm (hn : n ≤ 1600) (h : qS g n B o0 d P o p xa xe (0 : Int) (-1 : Int) c ((P ++ B).length : Int) o w) (h6P : h6 P) (hop : ¬ opS g n p) (hb2 : brT P = 21 ∨ brT P = 22) {cd : Nat → Int} : qG g n al B o0 d xe (RR g n al false (stT P) o p) p (lf_p (F_X10_asksSign_a0_44 (tx_a g n p : Int) (n : Int) (0 : Int) (-1 : Int) g) (fun v326 t_v327 => (lf_p t_v327 (fun v327 v328 => (if v327 = (0 : Int) then (lf_p (F_X10_qDropsToBracket c ((P ++ B).length : Int) (B.length : Int) cd w) (fun v343 t_v344 => (lf_p t_v344 (fun v344 f345 => ((1 : Int), v326, v327, v328, v343, v344, o, (lf_up w (v344 - (1 : Int)) ((w (Int.toNat (v344 - (1 : Int)))) + (2 : Int))), f345))))) else ((0 : Int), v326, v327, v328, c, ((P ++ B).length : Int), o, w, cd)))))) := by
  have hlen := q_len hn h
  obtain ⟨h1, h2, h3, h4, h5, h6', h7, h8, h9, h10, h11, h12⟩ := h
  have hl1 : (P ++ B).length = P.length + B.length := List.length_append
  rw [RR_cm h7.1 hop (by rw [stT_br]; exact hb2)]
  rw [F_X10_asksSign_a0_44_1 hn (mp_a h7)]
  by_cases q : tx_k g n p = 3 ∧ g (tx_a g n p) = 44
  · have hlt : p < tx_e g n p := tx_e_gt' (by have := q.1; omega)
    obtain ⟨c2, cd2, e1, e2⟩ := q_drops (c := c) (cd := cd) h12 (by omega)
    rcases ok_dr h1 h6P with r | ⟨x, Q, a1, a2, a3, a4, a5, a6⟩
    · omega
    rw [if_pos q, if_pos q, lf_p_e, lf_p_e, if_pos rfl, e1, lf_p_e, lf_p_e, a1]
    rw [a1] at e2
    have e2' : c2 + ((Q.length + 1 : Nat) : Int) = c + (P.length : Int) := e2
    have hx : x = 21 ∨ x = 22 := by omega
    have hp2 : pwl w (x :: (Q ++ B)) := by
      have := drT_p P h12
      rw [a1] at this
      exact this
    have hm : ((((x :: Q) ++ B).length : Nat) : Int) - 1 = ((Q ++ B).length : Int) := by
      show (((Q ++ B).length + 1 : Nat) : Int) - 1 = _
      omega
    have hl2 : (Q ++ B).length = Q.length + B.length := List.length_append
    rw [hm, Int.toNat_natCast, hp2.1]
    have hbr : isBr (x + 2) = true := isBr_i.mpr (by omega)
    have hs : stT ((x + 2) :: Q) = (x + 2) :: stT Q := stT_n (br_op hbr)
    have hc : cmT (stT P) = (x + 2) :: stT Q := by
      unfold cmT
      rw [a4, show drT (x :: stT Q) = x :: stT Q from if_pos a2]
    refine Or.inl ⟨rfl, (x + 2) :: Q, o, tx_e g n p, ?_, hlt, ⟨a5, Or.inr (Or.inl hbr)⟩, ?_, h3, h4, ?_, ?_, mp_sgn h7 q.1, rfl, rfl, rfl, rfl, pwl_push hp2.2 (x + 2)⟩
    · rw [hs, hc]
    · rw [hs, h2, a4]
      rfl
    · show c2 + (d : Int) + (((Q ++ B).length + 1 : Nat) : Int) ≤ _
      omega
    · show 0 ≤ c2
      omega
  · rw [if_neg q, if_neg q, lf_p_e, lf_p_e, if_neg (show ¬ (1 : Int) = 0 from by decide)]
    exact Or.inr (Or.inl ⟨rfl, (1, (tx_a g n p : Int)), rfl, (show ¬ (1 : Int) = 0 from by decide), rfl, rfl⟩)
theorem q_go (hn : n ≤ 1600) (hB : ¬ (1 ≤ B.headD 0 ∧ B.headD 0 ≤ 4)) (h : qS g n B o0 d P o p xa xe (0 : Int) (-1 : Int) c ((P ++ B).length : Int) o w) (h6P : h6 P) (hc : ¬ ((tx_k g n p = 3 ∧ g (tx_a g n p) = 41) ∧ (brT P = 20 ∨ brT P = 23 ∨ brT P = 24))) {cd : Nat → Int} : qG g n al B o0 d xe (RR g n al false (stT P) o p) p (gGo (n : Int) (0 : Int) (-1 : Int) (B.length : Int) g w c ((P ++ B).length : Int) o cd (tx_a g n p : Int)) := by
  have hlen := q_len hn h
  have h0 := h
  obtain ⟨h1, h2, h3, h4, h5, h6', h7, h8, h9, h10, h11, h12⟩ := h
  have ht : ((tx_a g n p : Int) + 1 - 1).toNat = tx_a g n p := by omega
  have ida : tx_a g n (tx_a g n p) = tx_a g n p := tx_a_idem g n p
  have sw : ∀ v : Int, F_X10_qBracket ((P ++ B).length : Int) (B.length : Int) w = brT P := fun _ => q_bracket h12 (by omega)
  unfold gGo
  rw [F_X10_takesSign_a0_42_1 hn (mp_a h7)]
  by_cases c1 : tx_k g n p = 3 ∧ g (tx_a g n p) = 42
  · rw [if_pos c1, lf_p_e, if_neg (show ¬ (1 : Int) = 0 from by decide), ht, if_pos c1.2]
    exact q_opr hn hB h0 h6P ⟨c1.1, Or.inl c1.2⟩ (lo := 3) (l := 3) (by decide) (by decide) (q_162 hB P 1623 c cd h12 (by omega))
  · rw [if_neg c1, lf_p_e, if_pos rfl, F_X10_takesSign_a0_47_1 hn (mp_a h7)]
    by_cases c2 : tx_k g n p = 3 ∧ g (tx_a g n p) = 47
    · rw [if_pos c2, lf_p_e, if_neg (show ¬ (1 : Int) = 0 from by decide), ht, if_neg (show ¬ g (tx_a g n p) = 42 from by have := c2.2; omega)]
      exact q_opr hn hB h0 h6P ⟨c2.1, Or.inr (Or.inl c2.2)⟩ (lo := 3) (l := 4) (by decide) (by decide) (q_162 hB P 1623 c cd h12 (by omega))
    · rw [if_neg c2, lf_p_e, if_pos rfl, F_X10_takesSign_a0_43_1 hn (mp_a h7)]
      by_cases c3 : tx_k g n p = 3 ∧ g (tx_a g n p) = 43
      · rw [if_pos c3, lf_p_e, if_neg (show ¬ (1 : Int) = 0 from by decide), ht, if_pos c3.2]
        exact q_opr hn hB h0 h6P ⟨c3.1, Or.inr (Or.inr (Or.inl c3.2))⟩ (lo := 1) (l := 1) (by decide) (by decide) (q_247 hB P 1623 c cd h12 (by omega))
      · rw [if_neg c3, lf_p_e, if_pos rfl, F_X10_takesSign_a0_45_1 hn (mp_a h7)]
        by_cases c4 : tx_k g n p = 3 ∧ g (tx_a g n p) = 45
        · rw [if_pos c4, lf_p_e, if_neg (show ¬ (1 : Int) = 0 from by decide), ht, if_neg (show ¬ g (tx_a g n p) = 43 from by have := c4.2; omega)]
          exact q_opr hn hB h0 h6P ⟨c4.1, Or.inr (Or.inr (Or.inr c4.2))⟩ (lo := 1) (l := 2) (by decide) (by decide) (q_247 hB P 1623 c cd h12 (by omega))
        · have hop : ¬ opS g n p := fun r => by
            rcases r.2 with s | s | s | s
            · exact c1 ⟨r.1, s⟩
            · exact c2 ⟨r.1, s⟩
            · exact c3 ⟨r.1, s⟩
            · exact c4 ⟨r.1, s⟩
          rw [if_neg c4, lf_p_e, if_pos rfl, lf_b_e, sw 0]
          by_cases b1 : brT P = 21
          · rw [if_pos b1]
            exact q_cm hn h0 h6P hop (Or.inl b1)
          · rw [if_neg b1, lf_b_e]
            by_cases b2 : brT P = 22
            · rw [if_pos b2]
              exact q_cm hn h0 h6P hop (Or.inr b2)
            · rw [if_neg b2, lf_b_e]
              rcases ok_dr h1 h6P with r | ⟨x, Q, a1, a2, a3, a4, a5, a6⟩
              · rw [if_pos r.1, RR_nd hop (by rw [stT_br]; exact r.1)]
                exact Or.inr (Or.inr ⟨rfl, P, o, p, rfl, Nat.le_refl _, r.2, h1, h2, h3, h4, h5, h6', mp_a h7, rfl, rfl, rfl, rfl, h12⟩)
              · have hx := isBr_i.mp a2
                have hcl : ¬ (tx_k g n p = 3 ∧ g (tx_a g n p) = 41) := fun s => hc ⟨s, by omega⟩
                rw [if_neg (by omega), RR_bd hcl hop (by rw [stT_br]; omega) (by rw [stT_br]; omega)]
                exact Or.inr (Or.inl ⟨rfl, (1, (tx_a g n p : Int)), rfl, (show ¬ (1 : Int) = 0 from by decide), rfl, rfl⟩)
end QG
end
section
/-! 4c -/
theorem eoD_le : ∀ (T : List Int) (o : Int), (eoD T o).2 ≤ o
  | [], _ => Int.le_refl _
  | x :: T, o => by
    show (if x < 60 then (x :: T, o) else eoD T (o - 1)).2 ≤ o
    by_cases q : x < 60
    · rw [if_pos q]
      exact Int.le_refl _
    · rw [if_neg q]
      have := eoD_le T (o - 1)
      omega
section QC
variable {g : Nat → Int} {n : Nat} {al : Int} {B : List Int} {o0 : Int} {d : Nat}
theorem qG_m {xe : Int} {S : ST} {p p1 : Nat} {R : Int × Int × Int × Int × Int × Int × Int × (Nat → Int) × (Nat → Int)} (h : p ≤ p1) (hq : qG g n al B o0 d xe S p1 R) : qG g n al B o0 d xe S p R := by
  rcases hq with ⟨a, P2, o2, p2, b, c, d⟩ | r | ⟨a, P2, o2, p2, b, c, d⟩
  · exact Or.inl ⟨a, P2, o2, p2, b, by omega, d⟩
  · exact Or.inr (Or.inl r)
  · exact Or.inr (Or.inr ⟨a, P2, o2, p2, b, by omega, d⟩)
theorem q_goes (hn : n ≤ 1600) (hB : ¬ (1 ≤ B.headD 0 ∧ B.headD 0 ≤ 4)) {w : Nat → Int} {xe : Int} : ∀ (f : Nat) (P : List Int) (o : Int) (p : Nat) (xa c : Int) (cd : Nat → Int), qS g n B o0 d P o p xa xe (0 : Int) (-1 : Int) c ((P ++ B).length : Int) o w → h6 P → n - p < f → qG g n al B o0 d xe (RR g n al false (stT P) o p) p (F_X10_qGoesOn_0 (n : Int) (0 : Int) (-1 : Int) (B.length : Int) g w f xa c ((P ++ B).length : Int) o cd) := by
  intro f
  induction f with
  | zero => intro P o p xa c cd h hP hf; omega
  | succ f ih =>
    intro P o p xa c cd h hP hf
    have hlen := q_len hn h
    have h0 := h
    obtain ⟨h1, h2, h3, h4, h5, h6', h7, h8, h9, h10, h11, h12⟩ := h
    have hl1 : (P ++ B).length = P.length + B.length := List.length_append
    have sw : F_X10_qBracket ((P ++ B).length : Int) (B.length : Int) w = brT P := q_bracket h12 (by omega)
    show qG g n al B o0 d xe (RR g n al false (stT P) o p) p (F_X10_qGoesOn_0b (n : Int) (0 : Int) (-1 : Int) (B.length : Int) g w (F_X10_qGoesOn_0 (n : Int) (0 : Int) (-1 : Int) (B.length : Int) g w f) xa c ((P ++ B).length : Int) o cd)
    rw [gGo_b, ml_look hn h7, lf_p_e]
    by_cases q : lk g n p = 41
    · have q' : tx_k g n p = 3 ∧ g (tx_a g n p) = 41 := (lk_sgn (by omega)).mp q
      have hlt : p < tx_e g n p := tx_e_gt' (by have := q'.1; omega)
      have hle := tx_e_le (f := g) h7.1
      rw [if_pos q, lf_b_e, sw]
      have main : (brT P = 20 ∨ brT P = 23 ∨ brT P = 24) → ∃ (x : Int) (Q : List Int) (c2 : Int) (cd2 : Nat → Int), F_X10_qDropsToBracket c ((P ++ B).length : Int) (B.length : Int) cd w = (c2, (((x :: Q) ++ B).length : Int), cd2) ∧ 0 ≤ c2 ∧ c2 + (Q.length : Int) + 1 = c + (P.length : Int) ∧ (((x :: Q) ++ B).length : Int) - 1 = ((Q ++ B).length : Int) ∧ ∀ (c' : Int) (cd' : Nat → Int), 0 ≤ c' → c' + (Q.length : Int) ≤ c + (P.length : Int) → qG g n al B o0 d xe (RR g n al false (stT P) o p) p (lf_p (F_X10_qEndsPart (0 : Int) c' ((Q ++ B).length : Int) (o - 1) (B.length : Int) cd' w) (fun v527 t_v528 => (lf_p t_v528 (fun v528 t_v529 => (lf_p t_v529 (fun v529 f530 => (F_X10_qGoesOn_0 (n : Int) (0 : Int) (-1 : Int) (B.length : Int) g w f ((tx_a g n p : Int) + (1 : Int)) v527 v528 v529 f530))))))) := by
        intro hb3
        obtain ⟨c2, cd2, e1, e2⟩ := q_drops (c := c) (cd := cd) h12 (by omega)
        rcases ok_dr h1 hP with r | ⟨x, Q, a1, a2, a3, a4, a5, a6⟩
        · omega
        rw [a1] at e1 e2
        have e2' : c2 + ((Q.length + 1 : Nat) : Int) = c + (P.length : Int) := e2
        have hl2 : (Q ++ B).length = Q.length + B.length := List.length_append
        have hpQ : pwl w (Q ++ B) := by
          have := drT_p P h12
          rw [a1] at this
          exact this.2
        refine ⟨x, Q, c2, cd2, e1, by omega, by omega, ?_, ?_⟩
        · show (((Q ++ B).length + 1 : Nat) : Int) - 1 = _
          omega
        · intro c' cd' hc0 hc1
          have hlq : o = o0 + (((stT Q).length + 1 : Nat) : Int) := by
            rw [h2, a4]
            rfl
          obtain ⟨c3, cd3, e3, e4⟩ := q_ends (c := c') (cd := cd') (o := o - 1) (T := Q) hpQ (by omega) (by omega) (by omega)
          obtain ⟨u1, u2, u3, u4, u5, u6⟩ := ok_eo (o - 1) a5
          have u7 := eoD_le Q (o - 1)
          have hl3 : ((eoD Q (o - 1)).1 ++ B).length = (eoD Q (o - 1)).1.length + B.length := List.length_append
          have eS : RR g n al false (stT P) o p = RR g n al false (stT (eoD Q (o - 1)).1) (eoD Q (o - 1)).2 (tx_e g n p) := by
            rw [RR_cl h7.1 q' (by rw [stT_br]; exact hb3), a4, show drT (x :: stT Q) = x :: stT Q from if_pos a2, show (x :: stT Q).tail = stT Q from rfl, u1, u2]
          rw [e3, lf_p_e, lf_p_e, lf_p_e, eS]
          refine qG_m (Nat.le_of_lt hlt) (ih (eoD Q (o - 1)).1 (eoD Q (o - 1)).2 (tx_e g n p) _ c3 cd3 ⟨u3, by omega, h3, by omega, by omega, by omega, mp_sgn h7 q'.1, rfl, rfl, rfl, rfl, eoD_p Q (o - 1) hpQ⟩ u4 (by omega))
      by_cases b1 : brT P = 20
      · obtain ⟨x, Q, c2, cd2, e1, e2, e3, e4, e5⟩ := main (Or.inl b1)
        rw [if_pos b1, e1, lf_p_e, lf_p_e, e4, lo_sub (by omega) (by omega) (by omega) (by omega) (by omega) (by omega)]
        exact e5 c2 cd2 e2 (by omega)
      · rw [if_neg b1, lf_b_e]
        by_cases b2 : brT P = 23
        · obtain ⟨x, Q, c2, cd2, e1, e2, e3, e4, e5⟩ := main (Or.inr (Or.inl b2))
          rw [if_pos b2, e1, lf_p_e, lf_p_e, e4, lo_sub (by omega) (by omega) (by omega) (by omega) (by omega) (by omega)]
          unfold F_X10_qCode
          rw [lf_p_e]
          exact e5 (c2 + 1) _ (by omega) (by omega)
        · rw [if_neg b2, lf_b_e]
          by_cases b3 : brT P = 24
          · obtain ⟨x, Q, c2, cd2, e1, e2, e3, e4, e5⟩ := main (Or.inr (Or.inr b3))
            rw [if_pos b3, e1, lf_p_e, lf_p_e, e4, lo_sub (by omega) (by omega) (by omega) (by omega) (by omega) (by omega)]
            unfold F_X10_qCode
            rw [lf_p_e]
            exact e5 (c2 + 1) _ (by omega) (by omega)
          · rw [if_neg b3]
            exact q_go hn hB h0 hP (fun r => by have := r.2; omega)
    · rw [if_neg q]
      exact q_go hn hB h0 hP (fun r => q ((lk_sgn (by omega)).mpr r.1))
end QC
/-! words of a sum -/
theorem wf_get {g : Nat → Int} {a e : Nat} : ∀ (ws : List (List Int)) (i j : Nat), wfind g a e ws i = (j : Int) → ∃ k, j = i + k ∧ k < ws.length ∧ wq g e (ws.getD k []) a = true
  | [], i, j, h => by
    have h' : (-1 : Int) = (j : Int) := h
    omega
  | w :: ws, i, j, h => by
    have h' : (if wq g e w a = true then (i : Int) else wfind g a e ws (i + 1)) = (j : Int) := h
    by_cases q : wq g e w a = true
    · rw [if_pos q] at h'
      exact ⟨0, by omega, Nat.zero_lt_succ _, q⟩
    · rw [if_neg q] at h'
      obtain ⟨k, k1, k2, k3⟩ := wf_get ws (i + 1) j h'
      exact ⟨k + 1, by omega, Nat.succ_lt_succ k2, k3⟩
theorem wl_get {g : Nat → Int} {n p : Nat} {ws : List (List Int)} {j : Nat} (h : wl g n ws p = (j : Int)) : wh g n (ws.getD j []) p = true := by
  unfold wl at h
  by_cases q : tx_k g n p = 1
  · rw [if_pos q] at h
    obtain ⟨k, k1, k2, k3⟩ := wf_get ws 0 j h
    have e : j = k := by omega
    subst e
    unfold wh
    rw [decide_eq_true q, k3]
    rfl
  · rw [if_neg q] at h
    omega
theorem wq_u {g : Nat → Int} {e : Nat} : ∀ (v w : List Int) (nx : Nat), wq g e v nx = true → wq g e w nx = true → v = w
  | [], [], _, _, _ => rfl
  | [], y :: w, nx, h1, h2 => by
    have l1 := wq_len [] nx h1
    have l2 := wq_len (y :: w) nx h2
    have l3 : (y :: w).length = w.length + 1 := rfl
    have l4 : ([] : List Int).length = 0 := rfl
    omega
  | x :: v, [], nx, h1, h2 => by
    have l1 := wq_len (x :: v) nx h1
    have l2 := wq_len [] nx h2
    have l3 : (x :: v).length = v.length + 1 := rfl
    have l4 : ([] : List Int).length = 0 := rfl
    omega
  | x :: v, y :: w, nx, h1, h2 => by
    unfold wq at h1 h2
    rw [Bool.and_eq_true] at h1 h2
    have a1 := h1.1
    have a2 := h2.1
    rw [Bool.and_eq_true] at a1 a2
    have b1 : g nx = x := of_decide_eq_true a1.2
    have b2 : g nx = y := of_decide_eq_true a2.2
    rw [← b1, ← b2, wq_u v w (nx + 1) h1.2 h2.2]
theorem wl_1 {g : Nat → Int} {n p : Nat} (W : List Int) : wl g n [W] p = if wh g n W p = true then 0 else -1 := by
  unfold wl wh wfind wfind
  by_cases q : tx_k g n p = 1
  · rw [if_pos q, decide_eq_true q, Bool.true_and]
    rfl
  · rw [if_neg q, decide_eq_false q]
    rfl
theorem wl_19 {g : Nat → Int} {n p : Nat} (h : ¬ wl g n ws_19 p = -1) : wl g n ws_20 p = -1 := by
  by_cases q : wl g n ws_20 p = -1
  · exact q
  · exfalso
    have h1 : wh g n W_kind p = true := by
      cases c : wh g n W_kind p with
      | true => rfl
      | false =>
        exact absurd ((wl_1 W_kind).trans (if_neg (fun r => Bool.noConfusion (c.symm.trans r)))) h
    have hb := wl_20 q
    obtain ⟨j, hj⟩ : ∃ j : Nat, wl g n ws_20 p = (j : Int) := ⟨(wl g n ws_20 p).toNat, by omega⟩
    have h2 := wl_get hj
    unfold wh at h1 h2
    rw [Bool.and_eq_true] at h1 h2
    have e := wq_u _ _ _ h1.2 h2.2
    have hlt : j < 12 := by omega
    have hd : (List.range 12).all (fun j => decide (¬ W_kind = ws_20.getD j [])) = true := by decide +kernel
    exact of_decide_eq_true (List.all_eq_true.mp hd j (List.mem_range.mpr hlt)) e
theorem q_aw {g : Nat → Int} {n p : Nat} {xa xe : Int} {v1 v2 v3 v4 v5 v6 v7 v8 v9 v10 v11 v12 v13 : Nat → Int} {r : Int} (hn : n ≤ 1600) (hq : qw v1 v2 v3 v4 v5 v6 v7 v8 v9 v10 v11 v12 v13) (h : mp g n p xa xe) (hr : wl g n ws_q p = r) (h0 : ¬ r = -1) : rm4 g n (.inr (tx_e g n p)) (F_X10_qAsksWord xa (n : Int) xe (0 : Int) (-1 : Int) g v1 v2 v3 v4 v5 v6 v7 v8 v9 v10 v11 v12 v13 r) := by
  have hb : 0 ≤ r ∧ r < 13 := by
    have hk := wl_k (fun e => h0 (hr.symm.trans e))
    unfold wl at hr
    rw [if_pos hk] at hr
    rcases wfind_le (g := g) (a := tx_a g n p) (e := tx_e g n p) ws_q 0 with r' | r'
    · omega
    · have : ((ws_q.length : Nat) : Int) = 13 := rfl
      exact ⟨by omega, by omega⟩
  obtain ⟨j, hj⟩ : ∃ j : Nat, r = (j : Int) := ⟨r.toNat, by omega⟩
  have hw : wh g n (ws_q.getD j []) p = true := wl_get (hr.trans hj)
  unfold F_X10_qAsksWord
  by_cases c0 : r = 0
  · have e : j = 0 := by omega
    subst e
    rw [if_pos c0]
    have e2 : sb (.inr p : ST) (sp_w g n [W_second]) = .inr (tx_e g n p) := (sp_w1 W_second).trans (if_pos hw)
    have := F_X10_asks_r6_s (W := W_second) (s := .inr p) (xb := 0) (xp := -1) hn rfl hq.1 h.1 ⟨rfl, rfl, h⟩
    rw [e2] at this
    exact this
  · rw [if_neg c0]
    by_cases c1 : r = 1
    · have e : j = 1 := by omega
      subst e
      rw [if_pos c1]
      have e2 : sb (.inr p : ST) (sp_w g n [W_day]) = .inr (tx_e g n p) := (sp_w1 W_day).trans (if_pos hw)
      have := F_X10_asks_s (W := W_day) (s := .inr p) (xb := 0) (xp := -1) hn rfl hq.2.1 h.1 ⟨rfl, rfl, h⟩
      rw [e2] at this
      exact this
    · rw [if_neg c1]
      by_cases c2 : r = 2
      · have e : j = 2 := by omega
        subst e
        rw [if_pos c2]
        have e2 : sb (.inr p : ST) (sp_w g n [W_phase]) = .inr (tx_e g n p) := (sp_w1 W_phase).trans (if_pos hw)
        have := F_X10_asks_r5_s (W := W_phase) (s := .inr p) (xb := 0) (xp := -1) hn rfl hq.2.2.1 h.1 ⟨rfl, rfl, h⟩
        rw [e2] at this
        exact this
      · rw [if_neg c2]
        by_cases c3 : r = 3
        · have e : j = 3 := by omega
          subst e
          rw [if_pos c3]
          have e2 : sb (.inr p : ST) (sp_w g n [W_waited]) = .inr (tx_e g n p) := (sp_w1 W_waited).trans (if_pos hw)
          have := F_X10_asks_r6_s (W := W_waited) (s := .inr p) (xb := 0) (xp := -1) hn rfl hq.2.2.2.1 h.1 ⟨rfl, rfl, h⟩
          rw [e2] at this
          exact this
        · rw [if_neg c3]
          by_cases c4 : r = 4
          · have e : j = 4 := by omega
            subst e
            rw [if_pos c4]
            have e2 : sb (.inr p : ST) (sp_w g n [W_calm]) = .inr (tx_e g n p) := (sp_w1 W_calm).trans (if_pos hw)
            have := F_X10_asks_r4_s (W := W_calm) (s := .inr p) (xb := 0) (xp := -1) hn rfl hq.2.2.2.2.1 h.1 ⟨rfl, rfl, h⟩
            rw [e2] at this
            exact this
          · rw [if_neg c4]
            by_cases c5 : r = 5
            · have e : j = 5 := by omega
              subst e
              rw [if_pos c5]
              have e2 : sb (.inr p : ST) (sp_w g n [W_pace]) = .inr (tx_e g n p) := (sp_w1 W_pace).trans (if_pos hw)
              have := F_X10_asks_r4_s (W := W_pace) (s := .inr p) (xb := 0) (xp := -1) hn rfl hq.2.2.2.2.2.1 h.1 ⟨rfl, rfl, h⟩
              rw [e2] at this
              exact this
            · rw [if_neg c5]
              by_cases c6 : r = 6
              · have e : j = 6 := by omega
                subst e
                rw [if_pos c6]
                have e2 : sb (.inr p : ST) (sp_w g n [W_trusts]) = .inr (tx_e g n p) := (sp_w1 W_trusts).trans (if_pos hw)
                have := F_X10_asks_r6_s (W := W_trusts) (s := .inr p) (xb := 0) (xp := -1) hn rfl hq.2.2.2.2.2.2.1 h.1 ⟨rfl, rfl, h⟩
                rw [e2] at this
                exact this
              · rw [if_neg c6]
                by_cases c7 : r = 7
                · have e : j = 7 := by omega
                  subst e
                  rw [if_pos c7]
                  have e2 : sb (.inr p : ST) (sp_w g n [W_gap]) = .inr (tx_e g n p) := (sp_w1 W_gap).trans (if_pos hw)
                  have := F_X10_asks_s (W := W_gap) (s := .inr p) (xb := 0) (xp := -1) hn rfl hq.2.2.2.2.2.2.2.1 h.1 ⟨rfl, rfl, h⟩
                  rw [e2] at this
                  exact this
                · rw [if_neg c7]
                  by_cases c8 : r = 8
                  · have e : j = 8 := by omega
                    subst e
                    rw [if_pos c8]
                    have e2 : sb (.inr p : ST) (sp_w g n [W_reds]) = .inr (tx_e g n p) := (sp_w1 W_reds).trans (if_pos hw)
                    have := F_X10_asks_r4_s (W := W_reds) (s := .inr p) (xb := 0) (xp := -1) hn rfl hq.2.2.2.2.2.2.2.2.1 h.1 ⟨rfl, rfl, h⟩
                    rw [e2] at this
                    exact this
                  · rw [if_neg c8]
                    by_cases c9 : r = 9
                    · have e : j = 9 := by omega
                      subst e
                      rw [if_pos c9]
                      have e2 : sb (.inr p : ST) (sp_w g n [W_number]) = .inr (tx_e g n p) := (sp_w1 W_number).trans (if_pos hw)
                      have := F_X10_asks_r6_s (W := W_number) (s := .inr p) (xb := 0) (xp := -1) hn rfl hq.2.2.2.2.2.2.2.2.2.1 h.1 ⟨rfl, rfl, h⟩
                      rw [e2] at this
                      exact this
                    · rw [if_neg c9]
                      by_cases c10 : r = 10
                      · have e : j = 10 := by omega
                        subst e
                        rw [if_pos c10]
                        have e2 : sb (.inr p : ST) (sp_w g n [W_went]) = .inr (tx_e g n p) := (sp_w1 W_went).trans (if_pos hw)
                        have := F_X10_asks_r4_s (W := W_went) (s := .inr p) (xb := 0) (xp := -1) hn rfl hq.2.2.2.2.2.2.2.2.2.2.1 h.1 ⟨rfl, rfl, h⟩
                        rw [e2] at this
                        exact this
                      · rw [if_neg c10]
                        by_cases c11 : r = 11
                        · have e : j = 11 := by omega
                          subst e
                          rw [if_pos c11]
                          have e2 : sb (.inr p : ST) (sp_w g n [W_harm]) = .inr (tx_e g n p) := (sp_w1 W_harm).trans (if_pos hw)
                          have := F_X10_asks_r4_s (W := W_harm) (s := .inr p) (xb := 0) (xp := -1) hn rfl hq.2.2.2.2.2.2.2.2.2.2.2.1 h.1 ⟨rfl, rfl, h⟩
                          rw [e2] at this
                          exact this
                        · rw [if_neg c11]
                          have e : j = 12 := by omega
                          subst e
                          have e2 : sb (.inr p : ST) (sp_w g n [W_kind]) = .inr (tx_e g n p) := (sp_w1 W_kind).trans (if_pos hw)
                          have := F_X10_asks_r4_s (W := W_kind) (s := .inr p) (xb := 0) (xp := -1) hn rfl hq.2.2.2.2.2.2.2.2.2.2.2.2 h.1 ⟨rfl, rfl, h⟩
                          rw [e2] at this
                          exact this
theorem q_aw0 {g : Nat → Int} {xa n xe xb xp : Int} {v1 v2 v3 v4 v5 v6 v7 v8 v9 v10 v11 v12 v13 : Nat → Int} (h : ¬ xb = 0) : F_X10_qAsksWord xa n xe xb xp g v1 v2 v3 v4 v5 v6 v7 v8 v9 v10 v11 v12 v13 (12 : Int) = (xa, xe, xb, xp) := by
  unfold F_X10_qAsksWord
  rw [if_neg (show ¬ (12 : Int) = 0 from by decide), if_neg (show ¬ (12 : Int) = 1 from by decide), if_neg (show ¬ (12 : Int) = 2 from by decide), if_neg (show ¬ (12 : Int) = 3 from by decide), if_neg (show ¬ (12 : Int) = 4 from by decide), if_neg (show ¬ (12 : Int) = 5 from by decide), if_neg (show ¬ (12 : Int) = 6 from by decide), if_neg (show ¬ (12 : Int) = 7 from by decide), if_neg (show ¬ (12 : Int) = 8 from by decide), if_neg (show ¬ (12 : Int) = 9 from by decide), if_neg (show ¬ (12 : Int) = 10 from by decide), if_neg (show ¬ (12 : Int) = 11 from by decide)]
  unfold F_X10_asks_r4
  rw [if_neg h, lf_p_e, lf_p_e, lf_p_e]
theorem F_X10_asks_t {g w : Nat → Int} {W : List Int} {n p : Nat} {xa xe : Int} (hn : n ≤ 1600) (hW : W.length = 3) (hw : wa w W) (h : mp g n p xa xe) (c : wh g n W p = true) : F_X10_asks xa (n : Int) xe (0 : Int) (-1 : Int) g w = ((tx_e g n p : Int), (tx_e g n p : Int), (0 : Int), (-1 : Int)) := by
  unfold F_X10_asks
  rw [if_pos rfl, F_X10_takes_1 hn hW hw h, if_pos c, lf_p_e, lf_p_e, if_neg (show ¬ (1 : Int) = 0 from by decide)]
end
section
/-! 4d -/
/-- what qPartTold leaves -/
def qT (g : Nat → Int) (n : Nat) (al : Int) (B : List Int) (o0 : Int) (d : Nat) (S : ST) (p : Nat) (R : Int × Int × Int × Int × Int × Int × Int × (Nat → Int) × (Nat → Int)) : Prop := (∃ q : Int × Int, S = .inl q ∧ ¬ q.1 = 0 ∧ R.2.2.1 = q.1 ∧ R.2.2.2.1 = q.2) ∨ (∃ P2 o2 p2, S = RR g n al false (stT P2) o2 p2 ∧ p < p2 ∧ h6 P2 ∧ qS g n B o0 d P2 o2 p2 R.1 R.2.1 R.2.2.1 R.2.2.2.1 R.2.2.2.2.1 R.2.2.2.2.2.1 R.2.2.2.2.2.2.1 R.2.2.2.2.2.2.2.1)
theorem qT_m {g : Nat → Int} {n : Nat} {al : Int} {B : List Int} {o0 : Int} {d : Nat} {S : ST} {p p1 : Nat} {R : Int × Int × Int × Int × Int × Int × Int × (Nat → Int) × (Nat → Int)} (h : p ≤ p1) (hq : qT g n al B o0 d S p1 R) : qT g n al B o0 d S p R := by
  rcases hq with r | ⟨P2, o2, p2, b, c, d⟩
  · exact Or.inl r
  · exact Or.inr ⟨P2, o2, p2, b, by omega, d⟩
theorem q_pt0 {n tk c b xa xe xb xp m o l : Int} {g vmin vmax v1 v2 v3 v4 v5 v6 v7 v8 v9 v10 v11 v12 v13 cd w : Nat → Int} (hb : ¬ xb = 0) (k : Nat) : F_X10_qPartTold_2 n tk c b g vmin vmax v1 v2 v3 v4 v5 v6 v7 v8 v9 v10 v11 v12 v13 cd (k + 1) xa xe xb xp m o w l = (xa, xe, xb, xp, c, m, o, w, cd) := by
  show F_X10_qPartTold_2b n tk c b g vmin vmax v1 v2 v3 v4 v5 v6 v7 v8 v9 v10 v11 v12 v13 cd _ xa xe xb xp m o w l = _
  unfold F_X10_qPartTold_2b
  by_cases q : l = 0
  · rw [if_pos q, if_neg hb]
  · rw [if_neg q, if_neg hb]
section QP
variable {g : Nat → Int} {n : Nat} {al tk : Int} {B : List Int} {o0 : Int} {d : Nat} {vmin vmax v1 v2 v3 v4 v5 v6 v7 v8 v9 v10 v11 v12 v13 : Nat → Int}
/-- a part is read: what waits for it falls -/
theorem q_ep {P : List Int} {o : Int} {p : Nat} {xa xe c : Int} {w : Nat → Int} (hn : n ≤ 1600) (h : qS g n B o0 d P o p xa xe (0 : Int) (-1 : Int) c ((P ++ B).length : Int) o w) {s : ST} (hs : sv n s) (hs2 : ∀ q, s = .inr q → p < q) {ya ye yb yp : Int} (hr : rm g n s ya ye yb yp) {cd : Nat → Int} : qT g n al B o0 d (sb s (fun p2 => RR g n al false (eoD (stT P) o).1 (eoD (stT P) o).2 p2)) p (lf_p (F_X10_qEndsPart yb (c + 1) ((P ++ B).length : Int) o (B.length : Int) cd w) (fun v52 t_v53 => (lf_p t_v53 (fun v53 t_v54 => (lf_p t_v54 (fun v54 f55 => (ya, ye, yb, yp, v52, v53, v54, w, f55))))))) := by
  have hlen := q_len hn h
  obtain ⟨h1, h2, h3, h4, h5, h6', h7, h8, h9, h10, h11, h12⟩ := h
  have hl1 : (P ++ B).length = P.length + B.length := List.length_append
  cases s with
  | inl q =>
    obtain ⟨r1, r2⟩ := hr
    rw [q_ends0 (show ¬ yb = 0 from fun e => hs (r1.symm.trans e)), lf_p_e, lf_p_e, lf_p_e]
    exact Or.inl ⟨q, rfl, hs, r1, r2⟩
  | inr p2 =>
    obtain ⟨r1, r2, r3⟩ := hr
    subst r1
    subst r2
    have hlt := hs2 p2 rfl
    obtain ⟨c3, cd3, e3, e4⟩ := q_ends (c := c + 1) (cd := cd) (o := o) (T := P) h12 (by omega) (by omega) (by omega)
    obtain ⟨u1, u2, u3, u4, u5, u6⟩ := ok_eo o h1
    have u7 := eoD_le P o
    have hl3 : ((eoD P o).1 ++ B).length = (eoD P o).1.length + B.length := List.length_append
    rw [e3, lf_p_e, lf_p_e, lf_p_e]
    refine Or.inr ⟨(eoD P o).1, (eoD P o).2, p2, ?_, hlt, u4, u3, by omega, h3, by omega, ?_, ?_, r3, rfl, rfl, rfl, rfl, eoD_p P o h12⟩
    · show RR g n al false (eoD (stT P) o).1 (eoD (stT P) o).2 p2 = _
      rw [u1, u2]
    · show c3 + (d : Int) + _ ≤ _
      omega
    · show 0 ≤ c3
      omega
theorem q_at {P : List Int} {o : Int} {p : Nat} {xa xe c : Int} {w : Nat → Int} (hn : n ≤ 1600) (hq : qw v1 v2 v3 v4 v5 v6 v7 v8 v9 v10 v11 v12 v13) (ht : tkA tk al) (h : qS g n B o0 d P o p xa xe (0 : Int) (-1 : Int) c ((P ++ B).length : Int) o w) {cd : Nat → Int} (f : Nat) : qT g n al B o0 d (sb (atS g n al p) (fun p2 => RR g n al false (eoD (stT P) o).1 (eoD (stT P) o).2 p2)) p (F_X10_qPartTold_2 (n : Int) tk c (B.length : Int) g vmin vmax v1 v2 v3 v4 v5 v6 v7 v8 v9 v10 v11 v12 v13 cd (f + 1) xa xe (0 : Int) (-1 : Int) ((P ++ B).length : Int) o w (0 : Int)) := by
  have h7 := h.2.2.2.2.2.2.1
  show qT g n al B o0 d _ p (F_X10_qPartTold_2b (n : Int) tk c (B.length : Int) g vmin vmax v1 v2 v3 v4 v5 v6 v7 v8 v9 v10 v11 v12 v13 cd (F_X10_qPartTold_2 (n : Int) tk c (B.length : Int) g vmin vmax v1 v2 v3 v4 v5 v6 v7 v8 v9 v10 v11 v12 v13 cd f) xa xe (0 : Int) (-1 : Int) ((P ++ B).length : Int) o w (0 : Int))
  unfold F_X10_qPartTold_2b
  rw [if_pos rfl, if_pos rfl, q_wo1 hn hq ht h7, lf_p_e]
  have hv := atS_v (g := g) (al := al) h7.1
  by_cases q : wl g n ws_20 p = -1 ∨ alB al (wl g n ws_20 p) = false
  · have er : (if wl g n ws_20 p = -1 then (-1 : Int) else if alB al (wl g n ws_20 p) = true then wl g n ws_20 p else -1) = -1 := by
      by_cases q1 : wl g n ws_20 p = -1
      · rw [if_pos q1]
      · rcases q with q | q
        · exact absurd q q1
        · rw [if_neg q1, q, if_neg (fun r => Bool.noConfusion r)]
    rw [er, if_pos rfl, F_X10_number_a0_0_a1_9999_g]
    have e1 : atS g n al p = (sp_num g n 0 9999 p).2 := by
      unfold atS
      by_cases k : tx_k g n p = 2
      · rw [if_pos k]
      · rw [if_neg k]
        have e2 : (sp_num g n 0 9999 p).2 = .inl (1, (tx_a g n p : Int)) := by
          unfold sp_num
          rw [if_neg k]
        rw [e2]
        unfold sp_pw
        rw [if_pos]
        rcases q with q | q
        · exact Or.inl q
        · refine Or.inr ?_
          unfold alB at q
          have := of_decide_eq_false q
          exact Decidable.not_not.mp this
    have hm := gM_1 hn (mp_a h7) 0 9999
    have hg : ∀ q, atS g n al p = .inr q → p < q := fun q e => atS_gt h7.1 e
    rw [e1] at hv hg ⊢
    generalize gM (tx_a g n p : Int) (n : Int) xe (0 : Int) (-1 : Int) g (0 : Int) (9999 : Int) = R at hm ⊢
    obtain ⟨r1, r2, r3, r4, r5⟩ := R
    rw [lf_p_e, lf_p_e, lf_p_e, lf_p_e]
    unfold F_X10_qCode
    rw [lf_p_e]
    exact q_ep hn h hv hg hm.1
  · have q1 : ¬ wl g n ws_20 p = -1 := fun r => q (Or.inl r)
    have q2 : alB al (wl g n ws_20 p) = true := by
      cases c : alB al (wl g n ws_20 p) with
      | true => rfl
      | false => exact absurd (Or.inr c) q
    have hb := wl_20 q1
    have e1 : atS g n al p = .inr (tx_e g n p) := by
      unfold atS
      rw [if_neg (by have := wl_k q1; omega)]
      unfold sp_pw
      rw [if_neg]
      intro r
      rcases r with r | r
      · exact q1 r
      · unfold alB at q2
        exact of_decide_eq_true q2 r
    have hm := q_aw hn hq (mp_a h7) (r := wl g n ws_20 p) (by rw [wl_q, if_neg q1]) q1
    have hg : ∀ q, atS g n al p = .inr q → p < q := fun q e => atS_gt h7.1 e
    rw [e1] at hv hg ⊢
    rw [if_neg q1, if_pos q2, if_neg (show ¬ wl g n ws_20 p = -1 from q1)]
    generalize F_X10_qAsksWord (tx_a g n p : Int) (n : Int) xe (0 : Int) (-1 : Int) g v1 v2 v3 v4 v5 v6 v7 v8 v9 v10 v11 v12 v13 (wl g n ws_20 p) = R at hm ⊢
    obtain ⟨r1, r2, r3, r4⟩ := R
    rw [lf_p_e, lf_p_e, lf_p_e]
    unfold F_X10_qCode
    rw [lf_p_e]
    exact q_ep hn h hv hg hm
/-- behind min or max -/
theorem q_mm {P : List Int} {o : Int} {p : Nat} {xa xe c : Int} {w : Nat → Int} (x : Int) (hx : x = 21 ∨ x = 22) (hn : n ≤ 1600) (h : qS g n B o0 d P o p xa xe (0 : Int) (-1 : Int) c ((P ++ B).length : Int) o w) {cd : Nat → Int} (f : Nat) (ih : ∀ (P : List Int) (o : Int) (p : Nat) (xa xe : Int) (w : Nat → Int), qS g n B o0 d P o p xa xe (0 : Int) (-1 : Int) c ((P ++ B).length : Int) o w → n - p + 1 < f + 1 → qT g n al B o0 d (RR g n al true (stT P) o p) p (F_X10_qPartTold_2 (n : Int) tk c (B.length : Int) g vmin vmax v1 v2 v3 v4 v5 v6 v7 v8 v9 v10 v11 v12 v13 cd (f + 1) xa xe (0 : Int) (-1 : Int) ((P ++ B).length : Int) o w (1 : Int))) (hf : n - p < f + 1) : qT g n al B o0 d (mmB g n al x (stT P) o p) p (lf_p (F_X10_look xa (n : Int) g) (fun r418 v420 => (if r418 = (40 : Int) then (lf_p (F_X10_qOpens (0 : Int) (-1 : Int) ((P ++ B).length : Int) o w x v420) (fun v467 t_v468 => (lf_p t_v468 (fun v468 t_v469 => (lf_p t_v469 (fun v469 t_v470 => (lf_p t_v470 (fun v470 f471 => (lf_p (F_X10_asksSign_a0_40 v420 (n : Int) v467 v468 g) (fun v481 t_v482 => (lf_p t_v482 (fun v482 v483 => (F_X10_qPartTold_2 (n : Int) tk c (B.length : Int) g vmin vmax v1 v2 v3 v4 v5 v6 v7 v8 v9 v10 v11 v12 v13 cd (f + 1) v481 xe v482 v483 v469 v470 f471 (1 : Int)))))))))))))) else (lf_p (F_X10_asksSign_a0_40 v420 (n : Int) (0 : Int) (-1 : Int) g) (fun v438 t_v439 => (lf_p t_v439 (fun v439 v440 => (F_X10_qPartTold_2 (n : Int) tk c (B.length : Int) g vmin vmax v1 v2 v3 v4 v5 v6 v7 v8 v9 v10 v11 v12 v13 cd (f + 1) v438 xe v439 v440 ((P ++ B).length : Int) o w (1 : Int))))))))) := by
  have hlen := q_len hn h
  obtain ⟨h1, h2, h3, h4, h5, h6', h7, h8, h9, h10, h11, h12⟩ := h
  have hle := tx_e_le (f := g) h7.1
  rw [ml_look hn h7, lf_p_e]
  unfold mmB
  by_cases q : lk g n p = 40
  · have q' : tx_k g n p = 3 ∧ g (tx_a g n p) = 40 := (lk_sgn (by omega)).mp q
    have hlt : p < tx_e g n p := tx_e_gt' (by have := q'.1; omega)
    unfold F_X10_qOpens
    rw [if_pos q, if_pos q', if_pos rfl]
    by_cases h6o : o = 6
    · rw [if_pos h6o, if_pos h6o, lf_p_e, lf_p_e, lf_p_e, lf_p_e]
      unfold F_X10_asksSign_a0_40
      rw [if_neg (show ¬ (4 : Int) = 0 from by decide), lf_p_e, lf_p_e, q_pt0 (show ¬ (4 : Int) = 0 from by decide)]
      exact Or.inl ⟨(4, (tx_a g n p : Int)), rfl, (show ¬ (4 : Int) = 0 from by decide), rfl, rfl⟩
    · rw [if_neg h6o, if_neg h6o, lf_p_e, lf_p_e, lf_p_e, lf_p_e, F_X10_asksSign_a0_40_1 hn (mp_a h7), if_pos q', lf_p_e, lf_p_e, lo_add (by omega) (by omega) (by omega) (by omega) (by omega) (by omega)]
      have hbr : isBr x = true := isBr_i.mpr (by omega)
      have hs : stT (x :: P) = x :: stT P := stT_n (br_op hbr)
      rw [← hs]
      refine qT_m (Nat.le_of_lt hlt) (ih (x :: P) (o + 1) (tx_e g n p) _ xe _ ⟨⟨h1, Or.inr (Or.inl hbr)⟩, ?_, h3, by omega, ?_, h6', mp_sgn h7 q'.1, rfl, rfl, rfl, rfl, pwl_push h12 x⟩ (by omega))
      · rw [hs, h2]
        show _ = o0 + (((stT P).length + 1 : Nat) : Int)
        omega
      · show c + (d : Int) + (((P ++ B).length + 1 : Nat) : Int) ≤ _
        omega
  · have q' : ¬ (tx_k g n p = 3 ∧ g (tx_a g n p) = 40) := fun r => q ((lk_sgn (by omega)).mpr r)
    rw [if_neg q, if_neg q', F_X10_asksSign_a0_40_1 hn (mp_a h7), if_neg q', lf_p_e, lf_p_e, q_pt0 (show ¬ (1 : Int) = 0 from by decide)]
    exact Or.inl ⟨(1, (tx_a g n p : Int)), rfl, (show ¬ (1 : Int) = 0 from by decide), rfl, rfl⟩
theorem q_pt (hn : n ≤ 1600) (hq : qw v1 v2 v3 v4 v5 v6 v7 v8 v9 v10 v11 v12 v13) (hmin : wa vmin W_min) (hmax : wa vmax W_max) (ht : tkA tk al) {c : Int} {cd : Nat → Int} : ∀ (f : Nat) (P : List Int) (o : Int) (p : Nat) (xa xe : Int) (w : Nat → Int), qS g n B o0 d P o p xa xe (0 : Int) (-1 : Int) c ((P ++ B).length : Int) o w → n - p + 1 < f → qT g n al B o0 d (RR g n al true (stT P) o p) p (F_X10_qPartTold_2 (n : Int) tk c (B.length : Int) g vmin vmax v1 v2 v3 v4 v5 v6 v7 v8 v9 v10 v11 v12 v13 cd f xa xe (0 : Int) (-1 : Int) ((P ++ B).length : Int) o w (1 : Int)) := by
  intro f
  induction f with
  | zero => intro P o p xa xe w h hf; omega
  | succ f ih =>
    intro P o p xa xe w h hf
    obtain ⟨f, rfl⟩ : ∃ k, f = k + 1 := ⟨f - 1, by omega⟩
    have h0 := h
    have hlen := q_len hn h
    obtain ⟨h1, h2, h3, h4, h5, h6', h7, h8, h9, h10, h11, h12⟩ := h
    have hle := tx_e_le (f := g) h7.1
    have hat : qS g n B o0 d P o p (tx_a g n p : Int) xe (0 : Int) (-1 : Int) c ((P ++ B).length : Int) o w := ⟨h1, h2, h3, h4, h5, h6', mp_a h7, h8, h9, h10, h11, h12⟩
    show qT g n al B o0 d _ p (F_X10_qPartTold_2b (n : Int) tk c (B.length : Int) g vmin vmax v1 v2 v3 v4 v5 v6 v7 v8 v9 v10 v11 v12 v13 cd (F_X10_qPartTold_2 (n : Int) tk c (B.length : Int) g vmin vmax v1 v2 v3 v4 v5 v6 v7 v8 v9 v10 v11 v12 v13 cd (f + 1)) xa xe (0 : Int) (-1 : Int) ((P ++ B).length : Int) o w (1 : Int))
    unfold F_X10_qPartTold_2b
    rw [if_neg (show ¬ (1 : Int) = 0 from by decide), if_pos rfl, ml_look hn h7, lf_p_e, q_wo2 hn hq ht (mp_a h7), lf_p_e]
    by_cases c1 : lk g n p = 40
    · have q' : tx_k g n p = 3 ∧ g (tx_a g n p) = 40 := (lk_sgn (by omega)).mp c1
      have hlt : p < tx_e g n p := tx_e_gt' (by have := q'.1; omega)
      unfold F_X10_qOpens_a0_20
      rw [if_pos c1, if_pos rfl]
      by_cases h6o : o = 6
      · rw [if_pos h6o, lf_p_e, lf_p_e, lf_p_e, lf_p_e, q_pt0 (show ¬ (4 : Int) = 0 from by decide), h6o, RR_o6 q']
        exact Or.inl ⟨(4, (tx_a g n p : Int)), rfl, (show ¬ (4 : Int) = 0 from by decide), rfl, rfl⟩
      · rw [if_neg h6o, lf_p_e, lf_p_e, lf_p_e, lf_p_e, lo_add (by omega) (by omega) (by omega) (by omega) (by omega) (by omega), RR_o1 h7.1 q' h6o]
        have hs : stT (20 :: P) = 20 :: stT P := rfl
        rw [← hs]
        refine qT_m (Nat.le_of_lt hlt) (ih (20 :: P) (o + 1) (tx_e g n p) _ xe _ ⟨⟨h1, Or.inr (Or.inl rfl)⟩, ?_, h3, by omega, ?_, h6', mp_sgn h7 q'.1, rfl, rfl, rfl, rfl, pwl_push h12 20⟩ (by omega))
        · rw [hs, h2]
          show _ = o0 + (((stT P).length + 1 : Nat) : Int)
          omega
        · show c + (d : Int) + (((P ++ B).length + 1 : Nat) : Int) ≤ _
          omega
    · have q' : ¬ (tx_k g n p = 3 ∧ g (tx_a g n p) = 40) := fun r => c1 ((lk_sgn (by omega)).mpr r)
      rw [if_neg c1, F_X10_isHere_1 hn (W := W_min) rfl hmin (mp_a h7), lf_p_e]
      cases cm : wh g n W_min p with
      | true =>
        have k17 : ¬ wl g n ws_17 p = -1 := by
          rw [show wl g n ws_17 p = 0 from (wl_1 W_min).trans (if_pos cm)]
          decide
        have hk := (wh_k cm).1
        have hlt : p < tx_e g n p := tx_e_gt' (by omega)
        rw [if_neg (show ¬ b2 true = 0 from by decide), F_X10_takes_1 hn (W := W_min) rfl hmin (mp_a h7), if_pos cm, lf_p_e, lf_p_e, if_neg (show ¬ (1 : Int) = 0 from by decide), RR_mm h7.1 k17]
        exact qT_m (Nat.le_of_lt hlt) (q_mm 21 (Or.inl rfl) hn ⟨h1, h2, h3, h4, by omega, h6', mp_tok h7.1 hk (Or.inl rfl), rfl, rfl, rfl, rfl, h12⟩ f ih (by omega))
      | false =>
        have k17 : wl g n ws_17 p = -1 := (wl_1 W_min).trans (if_neg (fun r => Bool.noConfusion (cm.symm.trans r)))
        rw [if_pos (show b2 false = 0 from rfl), F_X10_isHere_1 hn (W := W_max) rfl hmax (mp_a h7), lf_p_e]
        cases cx : wh g n W_max p with
        | true =>
          have k18 : ¬ wl g n ws_18 p = -1 := by
            rw [show wl g n ws_18 p = 0 from (wl_1 W_max).trans (if_pos cx)]
            decide
          have hk := (wh_k cx).1
          have hlt : p < tx_e g n p := tx_e_gt' (by omega)
          rw [if_neg (show ¬ b2 true = 0 from by decide), F_X10_takes_1 hn (W := W_min) rfl hmin (mp_a h7), if_neg (show ¬ wh g n W_min p = true from fun r => Bool.noConfusion (cm.symm.trans r)), lf_p_e, lf_p_e, if_pos rfl, F_X10_asks_t hn (W := W_max) rfl hmax (mp_a h7) cx, lf_p_e, lf_p_e, lf_p_e, RR_mx h7.1 k17 k18]
          exact qT_m (Nat.le_of_lt hlt) (q_mm 22 (Or.inr rfl) hn ⟨h1, h2, h3, h4, by omega, h6', mp_tok h7.1 hk (Or.inl rfl), rfl, rfl, rfl, rfl, h12⟩ f ih (by omega))
        | false =>
          have k18 : wl g n ws_18 p = -1 := (wl_1 W_max).trans (if_neg (fun r => Bool.noConfusion (cx.symm.trans r)))
          rw [if_pos (show b2 false = 0 from rfl)]
          by_cases hk : al = 3707 ∧ ¬ wl g n ws_19 p = -1
          · have k20 := wl_19 hk.2
            have hk1 := wl_k hk.2
            have hlt : p < tx_e g n p := tx_e_gt' (by omega)
            rw [if_pos (show wl g n ws_20 p = -1 ∧ ¬ wl g n ws_19 p = -1 ∧ al = 3707 from ⟨k20, hk.2, hk.1⟩), if_neg (show ¬ (12 : Int) = -1 from by decide), show (60 : Int) + 12 - 12 = 60 from rfl]
            unfold F_X10_qOpens
            rw [if_pos rfl]
            by_cases h6o : o = 6
            · rw [if_pos h6o, lf_p_e, lf_p_e, lf_p_e, lf_p_e, q_aw0 (show ¬ (4 : Int) = 0 from by decide), lf_p_e, lf_p_e, lf_p_e, q_pt0 (show ¬ (4 : Int) = 0 from by decide), h6o, RR_k6 k17 k18 hk]
              exact Or.inl ⟨(4, (tx_a g n p : Int)), rfl, (show ¬ (4 : Int) = 0 from by decide), rfl, rfl⟩
            · have hm := q_aw hn hq (mp_a h7) (r := 12) (by rw [wl_q, if_pos k20, if_neg hk.2]) (by decide)
              rw [if_neg h6o, lf_p_e, lf_p_e, lf_p_e, lf_p_e, lo_add (by omega) (by omega) (by omega) (by omega) (by omega) (by omega), RR_k1 h7.1 k17 k18 hk h6o]
              generalize F_X10_qAsksWord (tx_a g n p : Int) (n : Int) xe (0 : Int) (-1 : Int) g v1 v2 v3 v4 v5 v6 v7 v8 v9 v10 v11 v12 v13 (12 : Int) = R at hm ⊢
              obtain ⟨r1, r2, r3, r4⟩ := R
              obtain ⟨m1, m2, m3⟩ := hm
              have m1' : r3 = 0 := m1
              have m2' : r4 = -1 := m2
              subst m1'
              subst m2'
              rw [lf_p_e, lf_p_e, lf_p_e]
              have hs : stT (60 :: P) = 60 :: stT P := rfl
              rw [← hs]
              refine qT_m (Nat.le_of_lt hlt) (ih (60 :: P) (o + 1) (tx_e g n p) _ _ _ ⟨⟨h1, Or.inr (Or.inr rfl)⟩, ?_, h3, by omega, ?_, h6', m3, rfl, rfl, rfl, rfl, pwl_push h12 60⟩ (by omega))
              · rw [hs, h2]
                show _ = o0 + (((stT P).length + 1 : Nat) : Int)
                omega
              · show c + (d : Int) + (((P ++ B).length + 1 : Nat) : Int) ≤ _
                omega
          · rw [if_neg (show ¬ (wl g n ws_20 p = -1 ∧ ¬ wl g n ws_19 p = -1 ∧ al = 3707) from fun r => hk ⟨r.2.2, r.2.1⟩), if_pos rfl, RR_at h7.1 q' k17 k18 hk]
            exact q_at hn hq ht hat f
end QP
end
section
/-! 4e -/
/-- what qSums leaves -/
def qU (g : Nat → Int) (n : Nat) (B : List Int) (o0 : Int) (d : Nat) (S : ST) (p : Nat) (R : Int × Int × Int × Int × Int × Int × Int × (Nat → Int) × (Nat → Int)) : Prop := (∃ q : Int × Int, S = .inl q ∧ ¬ q.1 = 0 ∧ R.2.2.1 = q.1 ∧ R.2.2.2.1 = q.2) ∨ (∃ p2, S = .inr p2 ∧ p < p2 ∧ qS g n B o0 d [] o0 p2 R.1 R.2.1 R.2.2.1 R.2.2.2.1 R.2.2.2.2.1 R.2.2.2.2.2.1 R.2.2.2.2.2.2.1 R.2.2.2.2.2.2.2.1)
theorem q_53 {w : Nat → Int} {B : List Int} {l xa xe xp o : Int} : ∀ (P : List Int) (f : Nat) (c : Int) (cd : Nat → Int), P.length < f → ∃ cd2, F_X10_qSums_53 (B.length : Int) f l xa xe (0 : Int) xp c ((P ++ B).length : Int) o w cd = (xa, xe, (0 : Int), xp, c + (P.length : Int), (B.length : Int), o, w, cd2) := by
  intro P
  induction P with
  | nil =>
    intro f c cd hf
    obtain ⟨k, rfl⟩ : ∃ k, f = k + 1 := ⟨f - 1, by have : 0 < f := hf; omega⟩
    refine ⟨cd, ?_⟩
    show F_X10_qSums_53b (B.length : Int) _ l xa xe (0 : Int) xp c (B.length : Int) o w cd = _
    unfold F_X10_qSums_53b
    rw [if_pos rfl, if_pos (Int.le_refl _), show c + (([] : List Int).length : Int) = c from by show c + ((0 : Nat) : Int) = c; omega]
  | cons x P ih =>
    intro f c cd hf
    obtain ⟨k, rfl⟩ : ∃ k, f = k + 1 := ⟨f - 1, by have : 0 < f := Nat.lt_of_le_of_lt (Nat.zero_le _) hf; omega⟩
    obtain ⟨cd2, e⟩ := ih k (c + 1) (lf_up cd c (w (P ++ B).length)) (by have : P.length + 1 < k + 1 := hf; omega)
    have hl : (P ++ B).length = P.length + B.length := List.length_append
    have e1 : (((x :: P) ++ B).length : Int) = ((P ++ B).length : Int) + 1 := rfl
    have e2 : ((x :: P).length : Int) = (P.length : Int) + 1 := rfl
    refine ⟨cd2, ?_⟩
    show F_X10_qSums_53b (B.length : Int) (F_X10_qSums_53 (B.length : Int) k) l xa xe (0 : Int) xp c (((x :: P) ++ B).length : Int) o w cd = _
    unfold F_X10_qSums_53b
    rw [if_pos rfl, if_neg (by omega), show F_X10_qDrops c (((x :: P) ++ B).length : Int) cd w = ((c + 1), ((P ++ B).length : Int), lf_up cd c (w (P ++ B).length)) from q_drop, lf_p_e, lf_p_e, e, e2, show c + 1 + (P.length : Int) = c + ((P.length : Int) + 1) from by omega]
section QU
variable {g : Nat → Int} {n : Nat} {al tk : Int} {B : List Int} {o0 : Int} {d : Nat} {vmin vmax v1 v2 v3 v4 v5 v6 v7 v8 v9 v10 v11 v12 v13 : Nat → Int}
theorem q_s0 {xw l xa xe xb xp c m o : Int} {w cd : Nat → Int} (hb : ¬ xb = 0) (k : Nat) : F_X10_qSums_15 (n : Int) tk xw g vmin vmax v1 v2 v3 v4 v5 v6 v7 v8 v9 v10 v11 v12 v13 (k + 1) l xa xe xb xp c m o w cd = (xa, xe, xb, xp, c, m, o, w, cd) := by
  have e : F_X10_qSums_53 xw 1625 l xa xe xb xp c m o w cd = (xa, xe, xb, xp, c, m, o, w, cd) := by
    show F_X10_qSums_53b xw _ l xa xe xb xp c m o w cd = _
    unfold F_X10_qSums_53b
    rw [if_neg hb]
  show F_X10_qSums_15b (n : Int) tk xw g vmin vmax v1 v2 v3 v4 v5 v6 v7 v8 v9 v10 v11 v12 v13 _ l xa xe xb xp c m o w cd = _
  unfold F_X10_qSums_15b
  rw [if_neg hb, e]
  by_cases q : l = 0
  · rw [if_pos q]
  · rw [if_neg q]
theorem q_sum (hn : n ≤ 1600) (hB : ¬ (1 ≤ B.headD 0 ∧ B.headD 0 ≤ 4)) (hq : qw v1 v2 v3 v4 v5 v6 v7 v8 v9 v10 v11 v12 v13) (hmin : wa vmin W_min) (hmax : wa vmax W_max) (ht : tkA tk al) : ∀ (f : Nat) (P : List Int) (o : Int) (p : Nat) (xa xe c : Int) (w cd : Nat → Int), qS g n B o0 d P o p xa xe (0 : Int) (-1 : Int) c ((P ++ B).length : Int) o w → n - p + 1 < f → qU g n B o0 d (RR g n al true (stT P) o p) p (F_X10_qSums_15 (n : Int) tk (B.length : Int) g vmin vmax v1 v2 v3 v4 v5 v6 v7 v8 v9 v10 v11 v12 v13 f (1 : Int) xa xe (0 : Int) (-1 : Int) c ((P ++ B).length : Int) o w cd) := by
  intro f
  induction f with
  | zero => intro P o p xa xe c w cd h hf; omega
  | succ f ih =>
    intro P o p xa xe c w cd h hf
    obtain ⟨f, rfl⟩ : ∃ k, f = k + 1 := ⟨f - 1, by omega⟩
    show qU g n B o0 d (RR g n al true (stT P) o p) p (F_X10_qSums_15b (n : Int) tk (B.length : Int) g vmin vmax v1 v2 v3 v4 v5 v6 v7 v8 v9 v10 v11 v12 v13 (F_X10_qSums_15 (n : Int) tk (B.length : Int) g vmin vmax v1 v2 v3 v4 v5 v6 v7 v8 v9 v10 v11 v12 v13 (f + 1)) (1 : Int) xa xe (0 : Int) (-1 : Int) c ((P ++ B).length : Int) o w cd)
    unfold F_X10_qSums_15b
    rw [if_neg (show ¬ (1 : Int) = 0 from by decide), if_pos rfl]
    have hpn := h.2.2.2.2.2.2.1.1
    have hpt : qT g n al B o0 d (RR g n al true (stT P) o p) p (F_X10_qPartTold xa (n : Int) xe (0 : Int) (-1 : Int) tk c ((P ++ B).length : Int) o (B.length : Int) g vmin vmax v1 v2 v3 v4 v5 v6 v7 v8 v9 v10 v11 v12 v13 cd w) := q_pt hn hq hmin hmax ht (cd := cd) 3203 P o p xa xe w h (by omega)
    generalize F_X10_qPartTold xa (n : Int) xe (0 : Int) (-1 : Int) tk c ((P ++ B).length : Int) o (B.length : Int) g vmin vmax v1 v2 v3 v4 v5 v6 v7 v8 v9 v10 v11 v12 v13 cd w = R at hpt ⊢
    obtain ⟨y1, y2, y3, y4, y5, y6, y7, y8, y9⟩ := R
    rw [lf_p_e, lf_p_e, lf_p_e, lf_p_e, lf_p_e, lf_p_e, lf_p_e, lf_p_e]
    rcases hpt with ⟨q, e, q1, q2, q3⟩ | ⟨P2, o2, p2, e, hlt, h62, hs⟩
    · have q2' : y3 = q.1 := q2
      rw [if_neg (show ¬ y3 = 0 from fun r => q1 (q2'.symm.trans r)), q_s0 (show ¬ y3 = 0 from fun r => q1 (q2'.symm.trans r))]
      exact Or.inl ⟨q, e, q1, q2, q3⟩
    · have hs' : qS g n B o0 d P2 o2 p2 y1 y2 y3 y4 y5 y6 y7 y8 := hs
      obtain ⟨s1, s2, s3, s4, s5, s6, s7, s8, s9, s10, s11, s12⟩ := hs'
      subst s8
      subst s9
      subst s10
      subst s11
      have hp2 := s7.1
      rw [if_pos rfl, e]
      have hgo : qG g n al B o0 d y2 (RR g n al false (stT P2) y7 p2) p2 (F_X10_qGoesOn y1 (n : Int) (0 : Int) (-1 : Int) y5 ((P2 ++ B).length : Int) y7 (B.length : Int) g y9 y8) := q_goes hn hB 1602 P2 y7 p2 y1 y5 y9 ⟨s1, s2, s3, s4, s5, s6, s7, rfl, rfl, rfl, rfl, s12⟩ h62 (by omega)
      generalize F_X10_qGoesOn y1 (n : Int) (0 : Int) (-1 : Int) y5 ((P2 ++ B).length : Int) y7 (B.length : Int) g y9 y8 = R at hgo ⊢
      obtain ⟨z1, z2, z3, z4, z5, z6, z7, z8, z9⟩ := R
      rw [lf_p_e, lf_p_e, lf_p_e, lf_p_e, lf_p_e, lf_p_e, lf_p_e, lf_p_e]
      rcases hgo with ⟨r1, P3, o3, p3, e3, hlt3, hs3⟩ | ⟨r1, q, e3, q1, q2, q3⟩ | ⟨r1, P3, o3, p3, e3, hle3, hnil, hs3⟩
      · have r1' : z1 = 1 := r1
        have hs' : qS g n B o0 d P3 o3 p3 z2 y2 z3 z4 z5 z6 z7 z8 := hs3
        obtain ⟨t1, t2, t3, t4, t5, t6, t7, t8, t9, t10, t11, t12⟩ := hs'
        subst t8
        subst t9
        subst t10
        subst t11
        rw [if_neg (show ¬ z1 = 0 from by omega), e3]
        rcases ih P3 z7 p3 z2 y2 z5 z8 z9 ⟨t1, t2, t3, t4, t5, t6, t7, rfl, rfl, rfl, rfl, t12⟩ (by omega) with r | ⟨p4, a1, a2, a3⟩
        · exact Or.inl r
        · exact Or.inr ⟨p4, a1, by omega, a3⟩
      · have r1' : z1 = 0 := r1
        have q2' : z3 = q.1 := q2
        rw [if_pos r1', q_s0 (show ¬ z3 = 0 from fun r => q1 (q2'.symm.trans r))]
        exact Or.inl ⟨q, e3, q1, q2, q3⟩
      · have r1' : z1 = 0 := r1
        have hs' : qS g n B o0 d P3 o3 p3 z2 y2 z3 z4 z5 z6 z7 z8 := hs3
        have hlen := q_len hn hs'
        obtain ⟨t1, t2, t3, t4, t5, t6, t7, t8, t9, t10, t11, t12⟩ := hs'
        subst t8
        subst t9
        subst t10
        subst t11
        have hl1 : (P3 ++ B).length = P3.length + B.length := List.length_append
        have ho : z7 = o0 := by
          rw [t2, hnil]
          show o0 + ((0 : Nat) : Int) = o0
          omega
        obtain ⟨cd2, e5⟩ := q_53 (B := B) (w := z8) (l := (0 : Int)) (xa := z2) (xe := y2) (xp := (-1 : Int)) (o := z7) P3 1625 z5 z9 (by omega)
        rw [if_pos r1']
        show qU g n B o0 d _ p (F_X10_qSums_15b (n : Int) tk (B.length : Int) g vmin vmax v1 v2 v3 v4 v5 v6 v7 v8 v9 v10 v11 v12 v13 (F_X10_qSums_15 (n : Int) tk (B.length : Int) g vmin vmax v1 v2 v3 v4 v5 v6 v7 v8 v9 v10 v11 v12 v13 f) (0 : Int) z2 y2 (0 : Int) (-1 : Int) z5 ((P3 ++ B).length : Int) z7 z8 z9)
        unfold F_X10_qSums_15b
        rw [if_pos rfl, e5, e3]
        refine Or.inr ⟨p3, rfl, by omega, True.intro, ?_, t3, ?_, ?_, ?_, t7, rfl, rfl, rfl, ho, pwl_tl t12⟩
        · show o0 = o0 + ((0 : Nat) : Int)
          omega
        · omega
        · show z5 + (P3.length : Int) + (d : Int) + (B.length : Int) ≤ (p3 : Int)
          omega
        · show 0 ≤ z5 + (P3.length : Int)
          omega
/-- qSums reads as the machine does -/
theorem q_sums (hn : n ≤ 1600) (hB : ¬ (1 ≤ B.headD 0 ∧ B.headD 0 ≤ 4)) (hq : qw v1 v2 v3 v4 v5 v6 v7 v8 v9 v10 v11 v12 v13) (hmin : wa vmin W_min) (hmax : wa vmax W_max) (ht : tkA tk al) {p : Nat} {xa xe c : Int} {w cd : Nat → Int} (h : qS g n B o0 d [] o0 p xa xe (0 : Int) (-1 : Int) c (B.length : Int) o0 w) : qU g n B o0 d (RR g n al true [] o0 p) p (F_X10_qSums xa (n : Int) xe (0 : Int) (-1 : Int) tk c (B.length : Int) o0 g vmin vmax v1 v2 v3 v4 v5 v6 v7 v8 v9 v10 v11 v12 v13 cd w) := by
  have hpn := h.2.2.2.2.2.2.1.1
  exact q_sum hn hB hq hmin hmax ht 3203 [] o0 p xa xe c w cd h (by omega)
theorem q_sums0 {xw xa xe xb xp c o : Int} {w cd : Nat → Int} (hb : ¬ xb = 0) : F_X10_qSums xa (n : Int) xe xb xp tk c xw o g vmin vmax v1 v2 v3 v4 v5 v6 v7 v8 v9 v10 v11 v12 v13 cd w = (xa, xe, xb, xp, c, xw, o, w, cd) := q_s0 hb 3202
end QU
end
section
/-! 4f -/
section QF
variable {g : Nat → Int} {n : Nat} {al tk : Int} {B : List Int} {o0 : Int} {d : Nat} {vall vmin vmax v1 v2 v3 v4 v5 v6 v7 v8 v9 v10 v11 v12 v13 : Nat → Int}
/-- a fact without square or not -/
theorem q_fact (hn : n ≤ 1600) (hB : ¬ (1 ≤ B.headD 0 ∧ B.headD 0 ≤ 4)) (hq : qw v1 v2 v3 v4 v5 v6 v7 v8 v9 v10 v11 v12 v13) (hall : wa vall W_all) (hmin : wa vmin W_min) (hmax : wa vmax W_max) (ht : tkA tk al) {p : Nat} {xa xe c : Int} {w cd : Nat → Int} (h : qS g n B o0 d [] o0 p xa xe (0 : Int) (-1 : Int) c (B.length : Int) o0 w) : qU g n B o0 d (fcS g n al o0 p) p (F_X10_qFact xa (n : Int) xe (0 : Int) (-1 : Int) tk c (B.length : Int) o0 g vall vmin vmax v1 v2 v3 v4 v5 v6 v7 v8 v9 v10 v11 v12 v13 cd w) := by
  obtain ⟨h1, h2, h3, h4, h5, h6', h7, h8, h9, h10, h11, h12⟩ := h
  have h5' : c + (d : Int) + (B.length : Int) ≤ (p : Int) := h5
  unfold F_X10_qFact fcS
  rw [F_X10_takes_1 hn (W := W_all) rfl hall h7]
  cases ca : wh g n W_all p with
  | true =>
    have k16 : ¬ wl g n ws_16 p = -1 := by
      rw [show wl g n ws_16 p = 0 from (wl_1 W_all).trans (if_pos ca)]
      decide
    have hk := (wh_k ca).1
    have hlt : p < tx_e g n p := tx_e_gt' (by omega)
    rw [if_pos rfl, lf_p_e, lf_p_e, if_neg (show ¬ (1 : Int) = 0 from by decide), if_pos k16]
    unfold F_X10_qCode
    rw [lf_p_e]
    refine Or.inr ⟨tx_e g n p, rfl, hlt, h1, h2, h3, h4, ?_, ?_, mp_tok h7.1 hk (Or.inl rfl), rfl, rfl, rfl, rfl, h12⟩
    · show c + 1 + (d : Int) + (B.length : Int) ≤ _
      omega
    · show 0 ≤ c + 1
      omega
  | false =>
    have k16 : wl g n ws_16 p = -1 := (wl_1 W_all).trans (if_neg (fun r => Bool.noConfusion (ca.symm.trans r)))
    rw [if_neg (show ¬ false = true from fun r => Bool.noConfusion r), lf_p_e, lf_p_e, if_pos rfl, if_neg (show ¬ ¬ wl g n ws_16 p = -1 from fun r => r k16)]
    have hs1 := q_sums hn hB hq hmin hmax ht (cd := cd) (show qS g n B o0 d [] o0 p (tx_a g n p : Int) xe (0 : Int) (-1 : Int) c (B.length : Int) o0 w from ⟨h1, h2, h3, h4, h5, h6', mp_a h7, rfl, rfl, rfl, rfl, h12⟩)
    generalize F_X10_qSums (tx_a g n p : Int) (n : Int) xe (0 : Int) (-1 : Int) tk c (B.length : Int) o0 g vmin vmax v1 v2 v3 v4 v5 v6 v7 v8 v9 v10 v11 v12 v13 cd w = R at hs1 ⊢
    obtain ⟨y1, y2, y3, y4, y5, y6, y7, y8, y9⟩ := R
    rw [lf_p_e, lf_p_e, lf_p_e, lf_p_e, lf_p_e, lf_p_e, lf_p_e, lf_p_e]
    rcases hs1 with ⟨q, e, q1, q2, q3⟩ | ⟨p1, e, hlt, hs⟩
    · have q2' : y3 = q.1 := q2
      rw [if_neg (show ¬ y3 = 0 from fun r => q1 (q2'.symm.trans r)), e]
      exact Or.inl ⟨q, rfl, q1, q2, q3⟩
    · have hs' : qS g n B o0 d [] o0 p1 y1 y2 y3 y4 y5 y6 y7 y8 := hs
      obtain ⟨s1, s2, s3, s4, s5, s6, s7, s8, s9, s10, s11, s12⟩ := hs'
      subst s8
      subst s9
      subst s10
      subst s11
      have s5' : y5 + (d : Int) + (B.length : Int) ≤ (p1 : Int) := s5
      rw [if_pos rfl, ml_look hn s7, lf_p_e, e]
      have two : ∀ k : Int, tx_k g n p1 = 3 → qU g n B y7 d (RR g n al true [] y7 (tx_e g n p1)) p (lf_p (F_X10_qSums ((tx_a g n p1 : Int) + (1 : Int)) (n : Int) y2 (0 : Int) (-1 : Int) tk y5 (B.length : Int) y7 g vmin vmax v1 v2 v3 v4 v5 v6 v7 v8 v9 v10 v11 v12 v13 y9 y8) (fun v83 t_v84 => (lf_p t_v84 (fun v84 t_v85 => (lf_p t_v85 (fun v85 t_v86 => (lf_p t_v86 (fun v86 t_v87 => (lf_p t_v87 (fun v87 t_v88 => (lf_p t_v88 (fun v88 t_v89 => (lf_p t_v89 (fun v89 t_f90 => (lf_p t_f90 (fun f90 f91 => (lf_p (F_X10_qCode v87 f91 k) (fun v113 f114 => (v83, v84, v85, v86, v113, v88, v89, f90, f114))))))))))))))))))) := by
        intro k hk
        have hlt2 : p1 < tx_e g n p1 := tx_e_gt' (by omega)
        have hs2 := q_sums (d := d + 1) hn hB hq hmin hmax ht (cd := y9) (show qS g n B y7 (d + 1) [] y7 (tx_e g n p1) ((tx_a g n p1 : Int) + 1) y2 (0 : Int) (-1 : Int) y5 (B.length : Int) y7 y8 from ⟨h1, s2, s3, s4, (by show y5 + ((d + 1 : Nat) : Int) + (B.length : Int) ≤ _; omega), s6, mp_sgn s7 hk, rfl, rfl, rfl, rfl, s12⟩)
        generalize F_X10_qSums ((tx_a g n p1 : Int) + (1 : Int)) (n : Int) y2 (0 : Int) (-1 : Int) tk y5 (B.length : Int) y7 g vmin vmax v1 v2 v3 v4 v5 v6 v7 v8 v9 v10 v11 v12 v13 y9 y8 = R at hs2 ⊢
        obtain ⟨z1, z2, z3, z4, z5, z6, z7, z8, z9⟩ := R
        rw [lf_p_e, lf_p_e, lf_p_e, lf_p_e, lf_p_e, lf_p_e, lf_p_e, lf_p_e]
        unfold F_X10_qCode
        rw [lf_p_e]
        rcases hs2 with r | ⟨p2, e2, hlt3, hs3⟩
        · exact Or.inl r
        · have hs' : qS g n B y7 (d + 1) [] y7 p2 z1 z2 z3 z4 z5 z6 z7 z8 := hs3
          obtain ⟨t1, t2, t3, t4, t5, t6, t7, t8, t9, t10, t11, t12⟩ := hs'
          have t5' : z5 + ((d + 1 : Nat) : Int) + (B.length : Int) ≤ (p2 : Int) := t5
          refine Or.inr ⟨p2, e2, by omega, t1, t2, t3, t4, ?_, ?_, t7, t8, t9, t10, t11, t12⟩
          · show z5 + 1 + (d : Int) + (B.length : Int) ≤ _
            omega
          · show 0 ≤ z5 + 1
            omega
      by_cases c1 : lk g n p1 = 60
      · have c1' := (lk_sgn (by omega)).mp c1
        rw [if_pos c1, show sb (.inr p1 : ST) (fun p1 => sb (sp_sg g n p1).2 (fun p2 => RR g n al true [] y7 p2)) = RR g n al true [] y7 (tx_e g n p1) from by
          show sb (sp_sg g n p1).2 _ = _
          rw [show (sp_sg g n p1) = (-26, .inr (tx_e g n p1)) from if_pos c1']
          rfl]
        exact two 7 c1'.1
      · have c1' : ¬ (tx_k g n p1 = 3 ∧ g (tx_a g n p1) = 60) := fun r => c1 ((lk_sgn (by omega)).mpr r)
        rw [if_neg c1]
        by_cases c2 : lk g n p1 = 62
        · have c2' := (lk_sgn (by omega)).mp c2
          rw [if_pos c2, show sb (.inr p1 : ST) (fun p1 => sb (sp_sg g n p1).2 (fun p2 => RR g n al true [] y7 p2)) = RR g n al true [] y7 (tx_e g n p1) from by
            show sb (sp_sg g n p1).2 _ = _
            rw [show (sp_sg g n p1) = (-27, .inr (tx_e g n p1)) from (if_neg c1').trans (if_pos c2')]
            rfl]
          exact two 8 c2'.1
        · have c2' : ¬ (tx_k g n p1 = 3 ∧ g (tx_a g n p1) = 62) := fun r => c2 ((lk_sgn (by omega)).mpr r)
          rw [if_neg c2]
          by_cases c3 : lk g n p1 = 61
          · have c3' := (lk_sgn (by omega)).mp c3
            rw [if_pos c3, show sb (.inr p1 : ST) (fun p1 => sb (sp_sg g n p1).2 (fun p2 => RR g n al true [] y7 p2)) = RR g n al true [] y7 (tx_e g n p1) from by
              show sb (sp_sg g n p1).2 _ = _
              rw [show (sp_sg g n p1) = (-28, .inr (tx_e g n p1)) from (if_neg c1').trans ((if_neg c2').trans (if_pos c3'))]
              rfl]
            exact two 9 c3'.1
          · have c3' : ¬ (tx_k g n p1 = 3 ∧ g (tx_a g n p1) = 61) := fun r => c3 ((lk_sgn (by omega)).mpr r)
            rw [if_neg c3, show sb (.inr p1 : ST) (fun p1 => sb (sp_sg g n p1).2 (fun p2 => RR g n al true [] y7 p2)) = .inl (1, (tx_a g n p1 : Int)) from by
              show sb (sp_sg g n p1).2 _ = _
              rw [show (sp_sg g n p1) = (-28, .inl (1, (tx_a g n p1 : Int))) from (if_neg c1').trans ((if_neg c2').trans (if_neg c3'))]
              rfl]
            exact Or.inl ⟨(1, (tx_a g n p1 : Int)), rfl, (show ¬ (1 : Int) = 0 from by decide), rfl, rfl⟩
end QF
/-! what waits amid a test -/
def isO (x : Int) : Bool := decide (10 ≤ x) && decide (x ≤ 11)
theorem isO_i {x : Int} : isO x = true ↔ (10 ≤ x ∧ x ≤ 11) := by
  unfold isO
  rw [Bool.and_eq_true, decide_eq_true_iff, decide_eq_true_iff]
def stQ : List Int → List Int
  | [] => []
  | x :: P => if isO x = true then stQ P else x :: stQ P
theorem stQ_o {x : Int} {P : List Int} (h : isO x = true) : stQ (x :: P) = stQ P := if_pos h
theorem stQ_n {x : Int} {P : List Int} (h : ¬ isO x = true) : stQ (x :: P) = x :: stQ P := if_neg h
def n2 : List Int → Prop
  | [] => True
  | x :: _ => ¬ x = 12
def okQ : List Int → Prop
  | [] => True
  | x :: P => okQ P ∧ ((isO x = true ∧ n2 P) ∨ x = 25 ∨ x = 12)
theorem okQ_h {P : List Int} (h : okQ P) : ¬ (1 ≤ P.headD 0 ∧ P.headD 0 ≤ 4) := by
  cases P with
  | nil => show ¬ (1 ≤ (0 : Int) ∧ (0 : Int) ≤ 4); decide
  | cons x P =>
    show ¬ (1 ≤ x ∧ x ≤ 4)
    rcases h.2 with r | r | r
    · have := isO_i.mp r.1
      omega
    · omega
    · omega
def hs : List Int → Prop
  | [] => True
  | x :: _ => x = 25
theorem hs_nt {T : List Int} (h : hs T) (k : Int) : ntD T k = (T, k) := by
  cases T with
  | nil => rfl
  | cons x T =>
    have h1 : x = 25 := h
    exact if_neg (by omega)
theorem okQ_hs : ∀ {P : List Int}, okQ P → n2 P → hs (stQ P)
  | [], _, _ => True.intro
  | x :: P, h, h2 => by
    have h2' : ¬ x = 12 := h2
    rcases h.2 with r | r | r
    · rw [stQ_o r.1]
      exact okQ_hs h.1 r.2
    · rw [stQ_n (fun s => by have := isO_i.mp s; omega)]
      exact r
    · exact absurd r h2'
theorem ok_nt : ∀ {P : List Int} (o : Int), okQ P → stQ (ntD P o).1 = (ntD (stQ P) o).1 ∧ (ntD P o).2 = (ntD (stQ P) o).2 ∧ okQ (ntD P o).1 ∧ n2 (ntD P o).1 ∧ (ntD P o).2 + ((stQ P).length : Int) = o + ((stQ (ntD P o).1).length : Int) ∧ (ntD P o).2 ≤ o
  | [], _, _ => ⟨rfl, rfl, True.intro, True.intro, rfl, Int.le_refl _⟩
  | x :: P, o, h => by
    by_cases q : x = 12
    · have e : ntD (x :: P) o = ntD P (o - 1) := if_pos q
      have e1 : stQ (x :: P) = x :: stQ P := stQ_n (fun r => by have := isO_i.mp r; omega)
      have e2 : ntD (x :: stQ P) o = ntD (stQ P) (o - 1) := if_pos q
      rw [e, e1, e2]
      obtain ⟨a1, a2, a3, a4, a5, a6⟩ := ok_nt (o - 1) h.1
      refine ⟨a1, a2, a3, a4, ?_, by omega⟩
      show _ + (((stQ P).length + 1 : Nat) : Int) = _
      omega
    · have e : ntD (x :: P) o = (x :: P, o) := if_neg q
      have e2 : ntD (stQ (x :: P)) o = (stQ (x :: P), o) := hs_nt (okQ_hs h q) o
      rw [e, e2]
      exact ⟨rfl, rfl, h, q, rfl, Int.le_refl _⟩
theorem tMem_c {x : Int} {T : List Int} : tMem (x :: T) = (decide (x = 25) || tMem T) := rfl
theorem ok_sq : ∀ {P : List Int}, okQ P → n2 P → (tMem P = false ∧ stQ P = []) ∨ (tMem P = true ∧ stQ P = 25 :: stQ (tPop P) ∧ okQ (tPop P))
  | [], _, _ => Or.inl ⟨rfl, rfl⟩
  | x :: P, h, h2 => by
    have h2' : ¬ x = 12 := h2
    have ep : tPop (x :: P) = if x = 25 then P else tPop P := rfl
    rcases h.2 with r | r | r
    · have hx := isO_i.mp r.1
      rw [tMem_c, ep, if_neg (by omega), decide_eq_false (by omega), Bool.false_or, stQ_o r.1]
      exact ok_sq h.1 r.2
    · rw [tMem_c, ep, if_pos r, decide_eq_true r, Bool.true_or, stQ_n (fun s => by have := isO_i.mp s; omega), r]
      exact Or.inr ⟨rfl, rfl, h.1⟩
    · exact absurd r h2'
def opQ (hi : Int) : List Int → List Int
  | [] => []
  | x :: P => if 10 ≤ x ∧ x ≤ hi then opQ hi P else x :: P
theorem opQ_ok {hi : Int} (hlo : hi ≤ 11) : ∀ {P : List Int}, okQ P → n2 P → okQ (opQ hi P) ∧ n2 (opQ hi P) ∧ stQ (opQ hi P) = stQ P
  | [], _, _ => ⟨True.intro, True.intro, rfl⟩
  | x :: P, h, h2 => by
    by_cases q : 10 ≤ x ∧ x ≤ hi
    · have e : opQ hi (x :: P) = opQ hi P := if_pos q
      have q2 : isO x = true := isO_i.mpr ⟨q.1, by omega⟩
      rcases h.2 with r | r | r
      · rw [e, stQ_o r.1]
        exact opQ_ok hlo h.1 r.2
      · omega
      · omega
    · have e : opQ hi (x :: P) = x :: P := if_neg q
      rw [e]
      exact ⟨h, h2, rfl⟩
theorem opQ_p {hi : Int} {w : Nat → Int} : ∀ (P : List Int), pwl w P → pwl w (opQ hi P)
  | [], h => h
  | x :: P, h => by
    show pwl w (if 10 ≤ x ∧ x ≤ hi then opQ hi P else x :: P)
    by_cases q : 10 ≤ x ∧ x ≤ hi
    · rw [if_pos q]; exact opQ_p P h.2
    · rw [if_neg q]; exact h
theorem ntD_p {w : Nat → Int} : ∀ (P : List Int) (o : Int), pwl w P → pwl w (ntD P o).1
  | [], _, h => h
  | x :: P, o, h => by
    show pwl w (if x = 12 then ntD P (o - 1) else (x :: P, o)).1
    by_cases q : x = 12
    · rw [if_pos q]; exact ntD_p P (o - 1) h.2
    · rw [if_neg q]; exact h
theorem tPop_p {w : Nat → Int} : ∀ (P : List Int), pwl w P → pwl w (tPop P)
  | [], h => h
  | x :: P, h => by
    show pwl w (if x = 25 then P else tPop P)
    by_cases q : x = 25
    · rw [if_pos q]; exact h.2
    · rw [if_neg q]; exact tPop_p P h.2
theorem q_nt {w : Nat → Int} : ∀ (P : List Int) (f : Nat) (c o : Int) (cd : Nat → Int), pwl w P → P.length < f → -2000 ≤ o - (P.length : Int) → o ≤ 2000 → ∃ c2 cd2, F_X10_qDropsNots_0 (0 : Int) w f c (P.length : Int) o cd = (c2, ((ntD P o).1.length : Int), (ntD P o).2, cd2) ∧ c2 + ((ntD P o).1.length : Int) = c + (P.length : Int) := by
  intro P
  induction P with
  | nil =>
    intro f c o cd h hf h1 h2
    obtain ⟨k, rfl⟩ : ∃ k, f = k + 1 := ⟨f - 1, by have : 0 < f := hf; omega⟩
    refine ⟨c, cd, ?_, rfl⟩
    have e : F_X10_qIsOn_a0_12 (([] : List Int).length : Int) w = if ([] : List Int).headD 0 = 12 then 1 else 0 := g_on h 12 (by decide)
    rw [if_neg (show ¬ (([] : List Int).headD 0 : Int) = 12 from by decide)] at e
    show F_X10_qDropsNots_0b (0 : Int) w _ c (([] : List Int).length : Int) o cd = _
    unfold F_X10_qDropsNots_0b
    rw [if_pos rfl, lf_b_e, e, if_pos rfl]
    rfl
  | cons x P ih =>
    intro f c o cd h hf h1 h2
    obtain ⟨k, rfl⟩ : ∃ k, f = k + 1 := ⟨f - 1, by have : 0 < f := Nat.lt_of_le_of_lt (Nat.zero_le _) hf; omega⟩
    have h1' : -2000 ≤ o - ((P.length + 1 : Nat) : Int) := h1
    have e : F_X10_qIsOn_a0_12 ((x :: P).length : Int) w = if x = 12 then 1 else 0 := g_on h 12 (by decide)
    obtain ⟨c2, cd2, e3, e4⟩ := ih k (c + 1) (o - 1) (lf_up cd c (w P.length)) h.2 (by have : P.length + 1 < k + 1 := hf; omega) (by omega) (by omega)
    show ∃ c2 cd2, F_X10_qDropsNots_0b (0 : Int) w (F_X10_qDropsNots_0 (0 : Int) w k) c ((x :: P).length : Int) o cd = (c2, ((if x = 12 then ntD P (o - 1) else (x :: P, o)).1.length : Int), (if x = 12 then ntD P (o - 1) else (x :: P, o)).2, cd2) ∧ c2 + ((if x = 12 then ntD P (o - 1) else (x :: P, o)).1.length : Int) = c + ((P.length + 1 : Nat) : Int)
    unfold F_X10_qDropsNots_0b
    rw [if_pos rfl, lf_b_e, e]
    by_cases q : x = 12
    · rw [if_pos q, if_pos q, if_neg (show ¬ (1 : Int) = 0 from by decide), show F_X10_qDrops c ((x :: P).length : Int) cd w = ((c + 1), (P.length : Int), lf_up cd c (w P.length)) from q_drop, lf_p_e, lf_p_e, lo_sub (by omega) (by omega) (by omega) (by omega) (by omega) (by omega)]
      exact ⟨c2, cd2, e3, by omega⟩
    · rw [if_neg q, if_neg q, if_pos rfl]
      exact ⟨c, cd, rfl, rfl⟩
theorem q_nots {w cd : Nat → Int} {P : List Int} {c o : Int} (h : pwl w P) (hl : P.length ≤ 1700) (h1 : 0 ≤ o) (h2 : o ≤ 6) : ∃ c2 cd2, F_X10_qDropsNots (0 : Int) c (P.length : Int) o cd w = (c2, ((ntD P o).1.length : Int), (ntD P o).2, cd2) ∧ c2 + ((ntD P o).1.length : Int) = c + (P.length : Int) := q_nt P 1702 c o cd h (by omega) (by omega) (by omega)
theorem q_nots0 {w cd : Nat → Int} {xb c m o : Int} (h : ¬ xb = 0) : F_X10_qDropsNots xb c m o cd w = (c, m, o, cd) := by
  show F_X10_qDropsNots_0b xb w _ c m o cd = _
  unfold F_X10_qDropsNots_0b
  rw [if_neg h]
/-- is a square open? -/
theorem q_hs {w : Nat → Int} : ∀ (R C : List Int) (f : Nat), pwl w (R.reverse ++ C) → R.length < f → F_X10_qHasSquare_2 ((R.reverse ++ C).length : Int) w f (C.length : Int) = b2 (tMem R.reverse) := by
  intro R
  induction R with
  | nil =>
    intro C f h hf
    obtain ⟨k, rfl⟩ : ∃ k, f = k + 1 := ⟨f - 1, by have : 0 < f := hf; omega⟩
    show F_X10_qHasSquare_2b (C.length : Int) w _ (C.length : Int) = 0
    unfold F_X10_qHasSquare_2b
    rw [if_pos (Int.le_refl _)]
  | cons x R ih =>
    intro C f h hf
    obtain ⟨k, rfl⟩ : ∃ k, f = k + 1 := ⟨f - 1, by have : 0 < f := Nat.lt_of_le_of_lt (Nat.zero_le _) hf; omega⟩
    have er : (x :: R).reverse ++ C = R.reverse ++ (x :: C) := by
      rw [List.reverse_cons, List.append_assoc]
      rfl
    have em : tMem (x :: R).reverse = (tMem R.reverse || decide (x = 25)) := by
      unfold tMem
      rw [List.reverse_cons, List.any_append]
      show (_ || (decide (x = 25) || false)) = _
      rw [Bool.or_false]
    rw [er] at h ⊢
    rw [em]
    have hx : w C.length = x := (pwl_tl (T := R.reverse) h).1
    have hl : (R.reverse ++ (x :: C)).length = R.length + (C.length + 1) := by
      rw [List.length_append, List.length_reverse]
      rfl
    show F_X10_qHasSquare_2b ((R.reverse ++ (x :: C)).length : Int) w (F_X10_qHasSquare_2 ((R.reverse ++ (x :: C)).length : Int) w k) (C.length : Int) = _
    unfold F_X10_qHasSquare_2b
    rw [if_neg (by omega), Int.toNat_natCast, hx]
    by_cases q : x = 25
    · rw [if_pos q, decide_eq_true q, Bool.or_true]
      rfl
    · rw [if_neg q, decide_eq_false q, Bool.or_false]
      exact ih (x :: C) k h (by have : R.length + 1 < k + 1 := hf; omega)
theorem q_has {w : Nat → Int} {P : List Int} (h : pwl w P) (hl : P.length ≤ 1700) : F_X10_qHasSquare (P.length : Int) w = b2 (tMem P) := by
  have := q_hs (w := w) P.reverse [] 1702 (by rw [List.reverse_reverse, List.append_nil]; exact h) (by rw [List.length_reverse]; omega)
  rw [List.reverse_reverse, List.append_nil] at this
  exact this
end
section
/-! 4g -/
def gGt (x_end : Int) (x_ended : Int) (x_bad : Int) (x_badPlace : Int) (g_tape : Nat → Int) (g_andAsked : Nat → Int) (g_orAsked : Nat → Int) (g_qWait : Nat → Int) (J0_c0_111 : Int) (J0_c0_113 : Int) (J0_c0_114 : Int) (J0_a5 : Nat → Int) (v173 : Int) : Int × Int × Int × Int × Int × Int × Int × Int × (Nat → Int) × (Nat → Int) := (lf_p (F_X10_takes v173 x_end x_ended x_bad g_tape g_andAsked) (fun r185 t_v187 => (lf_p t_v187 (fun v187 v188 => (if r185 = (0 : Int) then (lf_p (F_X10_takes_r2 v187 x_end v188 x_bad g_tape g_orAsked) (fun r202 t_v204 => (lf_p t_v204 (fun v204 v205 => (if r202 = (0 : Int) then (lf_b (F_X10_qHasSquare J0_c0_113 g_qWait) (fun r222 => (if r222 = (0 : Int) then ((0 : Int), v204, v205, x_bad, x_badPlace, J0_c0_111, J0_c0_113, J0_c0_114, g_qWait, J0_a5) else ((0 : Int), v204, v205, (1 : Int), v204, J0_c0_111, J0_c0_113, J0_c0_114, g_qWait, J0_a5)))) else (F_X10_qGoesOnTest_137 x_bad x_badPlace g_qWait 1623 v204 v205 J0_c0_111 J0_c0_113 J0_c0_114 J0_a5)))))) else (F_X10_qGoesOnTest_87 x_bad x_badPlace g_qWait 1623 v187 v188 J0_c0_111 J0_c0_113 J0_c0_114 J0_a5))))))
theorem gGt_b (x_end : Int) (x_ended : Int) (x_bad : Int) (x_badPlace : Int) (g_tape : Nat → Int) (g_andAsked : Nat → Int) (g_orAsked : Nat → Int) (g_qWait : Nat → Int) (K0 : (Int) → (Int) → (Int) → (Int) → (Nat → Int) → (Int × Int × Int × Int × Int × Int × Int × Int × (Nat → Int) × (Nat → Int))) (J0_c0_2 : Int) (J0_c0_111 : Int) (J0_c0_113 : Int) (J0_c0_114 : Int) (J0_a5 : Nat → Int) : F_X10_qGoesOnTest_0b x_end x_ended x_bad x_badPlace g_tape g_andAsked g_orAsked g_qWait K0 J0_c0_2 J0_c0_111 J0_c0_113 J0_c0_114 J0_a5 = (lf_p (F_X10_look J0_c0_2 x_end g_tape) (fun r171 v173 => (if r171 = (93 : Int) then (lf_b (F_X10_qHasSquare J0_c0_113 g_qWait) (fun r258 => (if r258 = (0 : Int) then (gGt x_end x_ended x_bad x_badPlace g_tape g_andAsked g_orAsked g_qWait J0_c0_111 J0_c0_113 J0_c0_114 J0_a5 v173) else (F_X10_qGoesOnTest_33 x_bad g_qWait J0_c0_114 K0 1623 (v173 + (1 : Int)) J0_c0_111 J0_c0_113 J0_a5)))) else (gGt x_end x_ended x_bad x_badPlace g_tape g_andAsked g_orAsked g_qWait J0_c0_111 J0_c0_113 J0_c0_114 J0_a5 v173)))) := rfl
theorem q_87 {w : Nat → Int} {xb xp v e o : Int} : ∀ (P : List Int) (f : Nat) (c : Int) (cd : Nat → Int), pwl w P → P.length < f → ∃ c2 cd2, F_X10_qGoesOnTest_87 xb xp w f v e c (P.length : Int) o cd = ((1 : Int), v, e, xb, xp, c2, ((opQ 10 P).length : Int) + 1, o, lf_up w ((opQ 10 P).length : Int) (10 : Int), cd2) ∧ c2 + ((opQ 10 P).length : Int) = c + (P.length : Int) := by
  intro P
  induction P with
  | nil =>
    intro f c cd h hf
    obtain ⟨k, rfl⟩ : ∃ k, f = k + 1 := ⟨f - 1, by have : 0 < f := hf; omega⟩
    have e1 : F_X10_qIsOn_a0_10 (([] : List Int).length : Int) w = if ([] : List Int).headD 0 = 10 then 1 else 0 := g_on h 10 (by decide)
    rw [if_neg (show ¬ (([] : List Int).headD 0 : Int) = 10 from by decide)] at e1
    refine ⟨c, cd, ?_, rfl⟩
    show F_X10_qGoesOnTest_87b xb xp w _ v e c (([] : List Int).length : Int) o cd = _
    unfold F_X10_qGoesOnTest_87b
    rw [lf_b_e, e1, if_pos rfl]
    rfl
  | cons x P ih =>
    intro f c cd h hf
    obtain ⟨k, rfl⟩ : ∃ k, f = k + 1 := ⟨f - 1, by have : 0 < f := Nat.lt_of_le_of_lt (Nat.zero_le _) hf; omega⟩
    have e1 : F_X10_qIsOn_a0_10 ((x :: P).length : Int) w = if x = 10 then 1 else 0 := g_on h 10 (by decide)
    have ed : F_X10_qDrops c ((x :: P).length : Int) cd w = ((c + 1), (P.length : Int), lf_up cd c (w P.length)) := q_drop
    obtain ⟨c2, cd2, i1, i2⟩ := ih k (c + 1) (lf_up cd c (w P.length)) h.2 (by have : P.length + 1 < k + 1 := hf; omega)
    show ∃ c2 cd2, F_X10_qGoesOnTest_87b xb xp w (F_X10_qGoesOnTest_87 xb xp w k) v e c ((x :: P).length : Int) o cd = _ ∧ c2 + _ = c + ((P.length + 1 : Nat) : Int)
    unfold F_X10_qGoesOnTest_87b
    rw [lf_b_e, e1]
    by_cases c3 : x = 10
    · rw [if_pos c3, if_neg (show ¬ (1 : Int) = 0 from by decide), ed, lf_p_e, lf_p_e, show opQ 10 (x :: P) = opQ 10 P from if_pos (by omega)]
      exact ⟨c2, cd2, i1, by omega⟩
    · rw [if_neg c3, if_pos rfl, show opQ 10 (x :: P) = x :: P from if_neg (by omega)]
      exact ⟨c, cd, rfl, rfl⟩
theorem q_137 {w : Nat → Int} {xb xp v e o : Int} : ∀ (P : List Int) (f : Nat) (c : Int) (cd : Nat → Int), pwl w P → P.length < f → ∃ c2 cd2, F_X10_qGoesOnTest_137 xb xp w f v e c (P.length : Int) o cd = ((1 : Int), v, e, xb, xp, c2, ((opQ 11 P).length : Int) + 1, o, lf_up w ((opQ 11 P).length : Int) (11 : Int), cd2) ∧ c2 + ((opQ 11 P).length : Int) = c + (P.length : Int) := by
  intro P
  induction P with
  | nil =>
    intro f c cd h hf
    obtain ⟨k, rfl⟩ : ∃ k, f = k + 1 := ⟨f - 1, by have : 0 < f := hf; omega⟩
    have e1 : F_X10_qIsOn_a0_10 (([] : List Int).length : Int) w = if ([] : List Int).headD 0 = 10 then 1 else 0 := g_on h 10 (by decide)
    rw [if_neg (show ¬ (([] : List Int).headD 0 : Int) = 10 from by decide)] at e1
    have e2 : F_X10_qIsOn_a0_11 (([] : List Int).length : Int) w = if ([] : List Int).headD 0 = 11 then 1 else 0 := g_on h 11 (by decide)
    rw [if_neg (show ¬ (([] : List Int).headD 0 : Int) = 11 from by decide)] at e2
    refine ⟨c, cd, ?_, rfl⟩
    show F_X10_qGoesOnTest_137b xb xp w _ v e c (([] : List Int).length : Int) o cd = _
    unfold F_X10_qGoesOnTest_137b
    rw [lf_b_e, e1, if_pos rfl, lf_b_e, e2, if_pos rfl]
    rfl
  | cons x P ih =>
    intro f c cd h hf
    obtain ⟨k, rfl⟩ : ∃ k, f = k + 1 := ⟨f - 1, by have : 0 < f := Nat.lt_of_le_of_lt (Nat.zero_le _) hf; omega⟩
    have e1 : F_X10_qIsOn_a0_10 ((x :: P).length : Int) w = if x = 10 then 1 else 0 := g_on h 10 (by decide)
    have e2 : F_X10_qIsOn_a0_11 ((x :: P).length : Int) w = if x = 11 then 1 else 0 := g_on h 11 (by decide)
    have ed : F_X10_qDrops c ((x :: P).length : Int) cd w = ((c + 1), (P.length : Int), lf_up cd c (w P.length)) := q_drop
    obtain ⟨c2, cd2, i1, i2⟩ := ih k (c + 1) (lf_up cd c (w P.length)) h.2 (by have : P.length + 1 < k + 1 := hf; omega)
    show ∃ c2 cd2, F_X10_qGoesOnTest_137b xb xp w (F_X10_qGoesOnTest_137 xb xp w k) v e c ((x :: P).length : Int) o cd = _ ∧ c2 + _ = c + ((P.length + 1 : Nat) : Int)
    unfold F_X10_qGoesOnTest_137b
    rw [lf_b_e, e1]
    by_cases c3 : x = 10
    · rw [if_pos c3, if_neg (show ¬ (1 : Int) = 0 from by decide), ed, lf_p_e, lf_p_e, show opQ 11 (x :: P) = opQ 11 P from if_pos (by omega)]
      exact ⟨c2, cd2, i1, by omega⟩
    · rw [if_neg c3, if_pos rfl, lf_b_e, e2]
      by_cases c4 : x = 11
      · rw [if_pos c4, if_neg (show ¬ (1 : Int) = 0 from by decide), ed, lf_p_e, lf_p_e, show opQ 11 (x :: P) = opQ 11 P from if_pos (by omega)]
        exact ⟨c2, cd2, i1, by omega⟩
      · rw [if_neg c4, if_pos rfl, show opQ 11 (x :: P) = x :: P from if_neg (by omega)]
        exact ⟨c, cd, rfl, rfl⟩
theorem q_33 {w : Nat → Int} {v o : Int} {K0 : Int → Int → Int → Int → (Nat → Int) → Int × Int × Int × Int × Int × Int × Int × Int × (Nat → Int) × (Nat → Int)} : ∀ (P : List Int) (f : Nat) (c : Int) (cd : Nat → Int), pwl w P → tMem P = true → P.length < f → ∃ c2 cd2, F_X10_qGoesOnTest_33 (0 : Int) w o K0 f v c (P.length : Int) cd = (lf_p (F_X10_qDropsNots (0 : Int) c2 ((tPop P).length : Int) (lf_o lf_isub o (1 : Int)) cd2 w) (fun v131 t_v132 => (lf_p t_v132 (fun v132 t_v133 => (lf_p t_v133 (fun v133 f134 => (K0 v v131 v132 v133 f134))))))) ∧ c2 + ((tPop P).length : Int) + 1 = c + (P.length : Int) ∧ c ≤ c2 := by
  intro P
  induction P with
  | nil => intro f c cd h ht; exact absurd ht (fun r => Bool.noConfusion r)
  | cons x P ih =>
    intro f c cd h ht hf
    obtain ⟨k, rfl⟩ : ∃ k, f = k + 1 := ⟨f - 1, by have : 0 < f := Nat.lt_of_le_of_lt (Nat.zero_le _) hf; omega⟩
    have e1 : F_X10_qIsOn_a0_25 ((x :: P).length : Int) w = if x = 25 then 1 else 0 := g_on h 25 (by decide)
    have ed : F_X10_qDrops c ((x :: P).length : Int) cd w = ((c + 1), (P.length : Int), lf_up cd c (w P.length)) := q_drop
    have em : (((x :: P).length : Nat) : Int) - 1 = (P.length : Int) := by
      show ((P.length + 1 : Nat) : Int) - 1 = _
      omega
    have ep : tPop (x :: P) = if x = 25 then P else tPop P := rfl
    show ∃ c2 cd2, F_X10_qGoesOnTest_33b (0 : Int) w o K0 (F_X10_qGoesOnTest_33 (0 : Int) w o K0 k) v c ((x :: P).length : Int) cd = _ ∧ c2 + _ + 1 = c + ((P.length + 1 : Nat) : Int) ∧ c ≤ c2
    unfold F_X10_qGoesOnTest_33b
    rw [lf_b_e, e1, ep]
    by_cases q : x = 25
    · rw [if_pos q, if_pos q, if_neg (show ¬ (1 : Int) = 0 from by decide), em]
      exact ⟨c, cd, rfl, by omega, Int.le_refl _⟩
    · have ht' : tMem P = true := by
        rw [tMem_c, decide_eq_false q, Bool.false_or] at ht
        exact ht
      obtain ⟨c2, cd2, i1, i2, i3⟩ := ih k (c + 1) (lf_up cd c (w P.length)) h.2 ht' (by have : P.length + 1 < k + 1 := hf; omega)
      rw [if_neg q, if_neg q, if_pos rfl, ed, lf_p_e, lf_p_e]
      exact ⟨c2, cd2, i1, by omega, by omega⟩
/-- what the model holds amid a test -/
def qV (g : Nat → Int) (n : Nat) (d : Nat) (P : List Int) (o : Int) (p : Nat) (xa xe xb xp c m oo : Int) (w : Nat → Int) : Prop := okQ P ∧ o = ((stQ P).length : Int) ∧ o ≤ 6 ∧ c + (d : Int) + (P.length : Int) ≤ (p : Int) ∧ 0 ≤ c ∧ mp g n p xa xe ∧ xb = 0 ∧ xp = -1 ∧ m = (P.length : Int) ∧ oo = o ∧ pwl w P
def qH (g : Nat → Int) (n : Nat) (al : Int) (d : Nat) (S : ST) (p : Nat) (R : Int × Int × Int × Int × Int × Int × Int × Int × (Nat → Int) × (Nat → Int)) : Prop := (R.1 = 1 ∧ ∃ P2 o2 p2, S = TT g n al true (stQ P2) o2 p2 ∧ p < p2 ∧ qV g n d P2 o2 p2 R.2.1 R.2.2.1 R.2.2.2.1 R.2.2.2.2.1 R.2.2.2.2.2.1 R.2.2.2.2.2.2.1 R.2.2.2.2.2.2.2.1 R.2.2.2.2.2.2.2.2.1) ∨ (R.1 = 0 ∧ ∃ q : Int × Int, S = .inl q ∧ ¬ q.1 = 0 ∧ R.2.2.2.1 = q.1 ∧ R.2.2.2.2.1 = q.2) ∨ (R.1 = 0 ∧ ∃ P2 o2 p2, S = .inr p2 ∧ p ≤ p2 ∧ stQ P2 = [] ∧ qV g n d P2 o2 p2 R.2.1 R.2.2.1 R.2.2.2.1 R.2.2.2.2.1 R.2.2.2.2.2.1 R.2.2.2.2.2.2.1 R.2.2.2.2.2.2.2.1 R.2.2.2.2.2.2.2.2.1)
theorem qH_m {g : Nat → Int} {n : Nat} {al : Int} {d : Nat} {S : ST} {p p1 : Nat} {R : Int × Int × Int × Int × Int × Int × Int × Int × (Nat → Int) × (Nat → Int)} (h : p ≤ p1) (hq : qH g n al d S p1 R) : qH g n al d S p R := by
  rcases hq with ⟨a, P2, o2, p2, b, c, z⟩ | r | ⟨a, P2, o2, p2, b, c, z⟩
  · exact Or.inl ⟨a, P2, o2, p2, b, by omega, z⟩
  · exact Or.inr (Or.inl r)
  · exact Or.inr (Or.inr ⟨a, P2, o2, p2, b, by omega, z⟩)
section QH
variable {g : Nat → Int} {n : Nat} {al : Int} {d : Nat} {P : List Int} {o : Int} {p : Nat} {xa xe c : Int} {w : Nat → Int} {vand vor : Nat → Int}
theorem q_jn {hi l : Int} (hlo : hi ≤ 11) (hl : l = 10 ∨ l = 11) (h : qV g n d P o p xa xe (0 : Int) (-1 : Int) c (P.length : Int) o w) (h2P : n2 P) (hj : jnW g n p) {R : Int × Int × Int × Int × Int × Int × Int × Int × (Nat → Int) × (Nat → Int)} (hR : ∃ c2 cd2, R = ((1 : Int), (tx_e g n p : Int), (tx_e g n p : Int), (0 : Int), (-1 : Int), c2, ((opQ hi P).length : Int) + 1, o, lf_up w ((opQ hi P).length : Int) l, cd2) ∧ c2 + ((opQ hi P).length : Int) = c + (P.length : Int)) (hle : (opQ hi P).length ≤ P.length) : qH g n al d (TT g n al false (stQ P) o p) p R := by
  obtain ⟨c2, cd2, e, e2⟩ := hR
  obtain ⟨h1, h2, h4, h5, h6', h7, h8, h9, h10, h11, h12⟩ := h
  have hk := jn_k hj
  have hlt : p < tx_e g n p := tx_e_gt' (by omega)
  obtain ⟨a1, a2, a3⟩ := opQ_ok hlo h1 h2P
  have hlO : isO l = true := isO_i.mpr (by omega)
  have hs : stQ (l :: opQ hi P) = stQ P := (stQ_o hlO).trans a3
  refine Or.inl ?_
  rw [e]
  refine ⟨rfl, l :: opQ hi P, o, tx_e g n p, ?_, hlt, ⟨a1, Or.inl ⟨hlO, a2⟩⟩, ?_, h4, ?_, ?_, mp_tok h7.1 hk (Or.inl rfl), rfl, rfl, rfl, rfl, pwl_push (opQ_p P h12) l⟩
  · rw [hs]
    exact TT_jn h7.1 hj
  · rw [hs]
    exact h2
  · show c2 + (d : Int) + (((opQ hi P).length + 1 : Nat) : Int) ≤ _
    omega
  · show 0 ≤ c2
    omega
theorem opQ_len {hi : Int} : ∀ (P : List Int), (opQ hi P).length ≤ P.length
  | [] => Nat.le_refl _
  | x :: P => by
    show (if 10 ≤ x ∧ x ≤ hi then opQ hi P else x :: P).length ≤ P.length + 1
    by_cases q : 10 ≤ x ∧ x ≤ hi
    · rw [if_pos q]
      have := opQ_len (hi := hi) P
      omega
    · rw [if_neg q]
      exact Nat.le_refl _
theorem q_gt (hn : n ≤ 1600) (hand : wa vand W_and) (hor : wa vor W_or) (h : qV g n d P o p xa xe (0 : Int) (-1 : Int) c (P.length : Int) o w) (h2P : n2 P) (hc : ¬ ((tx_k g n p = 3 ∧ g (tx_a g n p) = 93) ∧ tMem P = true)) {cd : Nat → Int} : qH g n al d (TT g n al false (stQ P) o p) p (gGt (n : Int) xe (0 : Int) (-1 : Int) g vand vor w c (P.length : Int) o cd (tx_a g n p : Int)) := by
  have h0 := h
  obtain ⟨h1, h2, h4, h5, h6', h7, h8, h9, h10, h11, h12⟩ := h
  have hpn := h7.1
  have hlen : P.length ≤ 1600 := by omega
  have hhs : F_X10_qHasSquare (P.length : Int) w = b2 (tMem P) := q_has h12 (by omega)
  unfold gGt
  rw [F_X10_takes_1 hn (W := W_and) rfl hand (mp_a h7)]
  cases ca : wh g n W_and p with
  | true =>
    have k14 : ¬ wl g n ws_14 p = -1 := by
      rw [show wl g n ws_14 p = 0 from (wl_1 W_and).trans (if_pos ca)]
      decide
    rw [if_pos rfl, lf_p_e, lf_p_e, if_neg (show ¬ (1 : Int) = 0 from by decide)]
    exact q_jn (hi := 10) (l := 10) (by decide) (Or.inl rfl) h0 h2P (Or.inl k14) (q_87 P 1623 c cd h12 (by omega)) (opQ_len P)
  | false =>
    have k14 : wl g n ws_14 p = -1 := (wl_1 W_and).trans (if_neg (fun r => Bool.noConfusion (ca.symm.trans r)))
    rw [if_neg (show ¬ false = true from fun r => Bool.noConfusion r), lf_p_e, lf_p_e, if_pos rfl, F_X10_takes_r2_1 hn (W := W_or) rfl hor (mp_a h7)]
    cases co : wh g n W_or p with
    | true =>
      have k13 : ¬ wl g n ws_13 p = -1 := by
        rw [show wl g n ws_13 p = 0 from (wl_1 W_or).trans (if_pos co)]
        decide
      rw [if_pos rfl, lf_p_e, lf_p_e, if_neg (show ¬ (1 : Int) = 0 from by decide)]
      exact q_jn (hi := 11) (l := 11) (by decide) (Or.inr rfl) h0 h2P (Or.inr k13) (q_137 P 1623 c cd h12 (by omega)) (opQ_len P)
    | false =>
      have k13 : wl g n ws_13 p = -1 := (wl_1 W_or).trans (if_neg (fun r => Bool.noConfusion (co.symm.trans r)))
      have hj : ¬ jnW g n p := fun r => r.elim (fun r => r k14) (fun r => r k13)
      rw [if_neg (show ¬ false = true from fun r => Bool.noConfusion r), lf_p_e, lf_p_e, if_pos rfl, lf_b_e, hhs]
      rcases ok_sq h1 h2P with r | ⟨r1, r2, r3⟩
      · rw [r.1, if_pos (show b2 false = 0 from rfl), r.2, TT_nd hj]
        exact Or.inr (Or.inr ⟨rfl, P, o, p, rfl, Nat.le_refl _, r.2, h1, h2, h4, h5, h6', mp_a h7, rfl, rfl, rfl, rfl, h12⟩)
      · have hcl : ¬ (tx_k g n p = 3 ∧ g (tx_a g n p) = 93) := fun s => hc ⟨s, r1⟩
        rw [r1, if_neg (show ¬ b2 true = 0 from by decide), r2, TT_bd hcl hj]
        exact Or.inr (Or.inl ⟨rfl, (1, (tx_a g n p : Int)), rfl, (show ¬ (1 : Int) = 0 from by decide), rfl, rfl⟩)
end QH
theorem ntD_len : ∀ (P : List Int) (o : Int), (ntD P o).1.length ≤ P.length
  | [], _ => Nat.le_refl _
  | x :: P, o => by
    show (if x = 12 then ntD P (o - 1) else (x :: P, o)).1.length ≤ P.length + 1
    by_cases q : x = 12
    · rw [if_pos q]
      have := ntD_len P (o - 1)
      omega
    · rw [if_neg q]
      exact Nat.le_refl _
theorem tPop_len : ∀ (P : List Int), (tPop P).length ≤ P.length
  | [] => Nat.le_refl _
  | x :: P => by
    show (if x = 25 then P else tPop P).length ≤ P.length + 1
    by_cases q : x = 25
    · rw [if_pos q]
      omega
    · rw [if_neg q]
      have := tPop_len P
      omega
theorem q_goest {g : Nat → Int} {n : Nat} {al : Int} {d : Nat} {xe : Int} {w vand vor : Nat → Int} (hn : n ≤ 1600) (hand : wa vand W_and) (hor : wa vor W_or) : ∀ (f : Nat) (P : List Int) (o : Int) (p : Nat) (xa c : Int) (cd : Nat → Int), qV g n d P o p xa xe (0 : Int) (-1 : Int) c (P.length : Int) o w → n2 P → n - p < f → qH g n al d (TT g n al false (stQ P) o p) p (F_X10_qGoesOnTest_0 (n : Int) xe (0 : Int) (-1 : Int) g vand vor w f xa c (P.length : Int) o cd) := by
  intro f
  induction f with
  | zero => intro P o p xa c cd h h2P hf; omega
  | succ f ih =>
    intro P o p xa c cd h h2P hf
    have h0 := h
    obtain ⟨h1, h2, h4, h5, h6', h7, h8, h9, h10, h11, h12⟩ := h
    have hpn := h7.1
    have hlen : P.length ≤ 1600 := by omega
    have hle := tx_e_le (f := g) h7.1
    have hhs : F_X10_qHasSquare (P.length : Int) w = b2 (tMem P) := q_has h12 (by omega)
    show qH g n al d (TT g n al false (stQ P) o p) p (F_X10_qGoesOnTest_0b (n : Int) xe (0 : Int) (-1 : Int) g vand vor w (F_X10_qGoesOnTest_0 (n : Int) xe (0 : Int) (-1 : Int) g vand vor w f) xa c (P.length : Int) o cd)
    rw [gGt_b, ml_look hn h7, lf_p_e]
    by_cases q : lk g n p = 93
    · have q' : tx_k g n p = 3 ∧ g (tx_a g n p) = 93 := (lk_sgn (by omega)).mp q
      have hlt : p < tx_e g n p := tx_e_gt' (by have := q'.1; omega)
      rw [if_pos q, lf_b_e, hhs]
      rcases ok_sq h1 h2P with r | ⟨r1, r2, r3⟩
      · rw [r.1, if_pos (show b2 false = 0 from rfl)]
        exact q_gt hn hand hor h0 h2P (fun s => Bool.noConfusion (r.1.symm.trans s.2))
      · have hls : o = (((stQ (tPop P)).length + 1 : Nat) : Int) := by
          rw [h2, r2]
          rfl
        have hpl := tPop_len P
        obtain ⟨c2, cd2, e1, e2, e3⟩ := q_33 (v := (tx_a g n p : Int) + 1) (o := o) (K0 := F_X10_qGoesOnTest_0 (n : Int) xe (0 : Int) (-1 : Int) g vand vor w f) P 1623 c cd h12 r1 (by omega)
        obtain ⟨c3, cd3, e4, e5⟩ := q_nots (c := c2) (cd := cd2) (o := o - 1) (tPop_p P h12) (by omega) (by omega) (by omega)
        obtain ⟨u1, u2, u3, u4, u5, u6⟩ := ok_nt (o - 1) r3
        rw [r1, if_neg (show ¬ b2 true = 0 from by decide), e1, lo_sub (by omega) (by omega) (by omega) (by omega) (by omega) (by omega), e4, lf_p_e, lf_p_e, lf_p_e]
        have eS : TT g n al false (stQ P) o p = TT g n al false (stQ (ntD (tPop P) (o - 1)).1) (ntD (tPop P) (o - 1)).2 (tx_e g n p) := by
          rw [r2, show TT g n al false (25 :: stQ (tPop P)) o p = TT g n al false (25 :: stQ (tPop P)) (o - 1 + 1) p from by rw [show o - 1 + 1 = o from by omega], TT_cl h7.1 q', u1, u2]
        have hln := (show (ntD (tPop P) (o - 1)).1.length ≤ (tPop P).length from ntD_len (tPop P) (o - 1))
        rw [eS]
        exact qH_m (Nat.le_of_lt hlt) (ih (ntD (tPop P) (o - 1)).1 (ntD (tPop P) (o - 1)).2 (tx_e g n p) _ c3 cd3 ⟨u3, by omega, by omega, by omega, by omega, mp_sgn h7 q'.1, rfl, rfl, rfl, rfl, ntD_p (tPop P) (o - 1) (tPop_p P h12)⟩ u4 (by omega))
    · rw [if_neg q]
      exact q_gt hn hand hor h0 h2P (fun r => q ((lk_sgn (by omega)).mpr r.1))
end
