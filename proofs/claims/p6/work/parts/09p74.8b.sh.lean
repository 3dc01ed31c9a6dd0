/-! the light: one description, second by second -/
def pr (nW : Nat) (cA tw : Nat → Int) (ab : Nat → Bool) (s bf : Int) : Bool := (List.range nW).any (fun w => decide (cA w = s) && !ab w && decide (0 < tw w) && decide (bf = 0))
abbrev lzT : Type := Bool × Bool × Int × Int
def lOp (nW : Nat) (cA tw : Nat → Int) (ab : Nat → Bool) (s : Nat) (z : lzT) : Bool := z.1 || pr nW cA tw ab (s : Int) z.2.2.2
def lL (ls : Int) (s : Nat) (z : lzT) (op : Bool) : Bool := decide (z.2.2.2 ≤ 1) && op && decide (ls ≤ (s : Int) - z.2.2.1 - 1)
def lLf (gr : Int) (z : lzT) (l : Bool) : Int := if l = true then gr else max (z.2.2.2 - 1) 0
def lC (cy gr : Int) (s : Nat) (l : Bool) : Int := if l = true then max (gr - (s : Int) % cy) 0 else 0
def lst (nW : Nat) (cA tw : Nat → Int) (ab : Nat → Bool) (cy ls ru gr : Int) (s : Nat) (z : lzT) : lzT := if ru = 1 then (lOp nW cA tw ab s z && !lL ls s z (lOp nW cA tw ab s z), z.2.1, (if 0 < lLf gr z (lL ls s z (lOp nW cA tw ab s z)) then (s : Int) else z.2.2.1), lLf gr z (lL ls s z (lOp nW cA tw ab s z))) else if (s : Int) % cy = 0 then (false, decide (ru = 0) || lOp nW cA tw ab s z, z.2.2.1, lC cy gr s (decide (ru = 0) || lOp nW cA tw ab s z)) else (lOp nW cA tw ab s z, z.2.1, z.2.2.1, lC cy gr s z.2.1)
def lzS (nW : Nat) (cA tw : Nat → Int) (ab : Nat → Bool) (cy ls ru gr : Int) : Nat → lzT
  | 0 => (false, false, -1, 0)
  | s + 1 => lst nW cA tw ab cy ls ru gr s (lzS nW cA tw ab cy ls ru gr s)
/-- how many seconds the green lasts -/
def lef (nW : Nat) (cA tw : Nat → Int) (ab : Nat → Bool) (cy ls ru gr : Int) (s : Nat) : Int := (lzS nW cA tw ab cy ls ru gr (s + 1)).2.2.2
section SH
variable {nW : Nat} {cA tw : Nat → Int} {ab : Nat → Bool} {cy ls ru gr : Int}
theorem lef_b (h0 : 0 ≤ gr) (h1 : gr ≤ 60) (hc : 1 ≤ cy) : ∀ s, 0 ≤ (lzS nW cA tw ab cy ls ru gr s).2.2.2 ∧ (lzS nW cA tw ab cy ls ru gr s).2.2.2 ≤ 60
  | 0 => ⟨Int.le_refl _, by show (0 : Int) ≤ 60; decide⟩
  | s + 1 => by
    have ih := lef_b h0 h1 hc s
    show 0 ≤ (lst nW cA tw ab cy ls ru gr s (lzS nW cA tw ab cy ls ru gr s)).2.2.2 ∧ (lst nW cA tw ab cy ls ru gr s (lzS nW cA tw ab cy ls ru gr s)).2.2.2 ≤ 60
    have hl : ∀ l, 0 ≤ lLf gr (lzS nW cA tw ab cy ls ru gr s) l ∧ lLf gr (lzS nW cA tw ab cy ls ru gr s) l ≤ 60 := by
      intro l
      unfold lLf
      cases l
      · rw [if_neg (fun r => Bool.noConfusion r)]
        omega
      · rw [if_pos rfl]
        omega
    have hm : 0 ≤ (s : Int) % cy := Int.emod_nonneg _ (by omega)
    have hk : ∀ l, 0 ≤ lC cy gr s l ∧ lC cy gr s l ≤ 60 := by
      intro l
      unfold lC
      cases l
      · rw [if_neg (fun r => Bool.noConfusion r)]
        omega
      · rw [if_pos rfl]
        omega
    unfold lst
    by_cases c1 : ru = 1
    · rw [if_pos c1]
      exact hl _
    · rw [if_neg c1]
      by_cases c2 : (s : Int) % cy = 0
      · rw [if_pos c2]
        exact hk _
      · rw [if_neg c2]
        exact hk _
theorem b2_or (a b : Bool) : b2 (a || b) = 0 ↔ (a = false ∧ b = false) := by
  cases a <;> cases b <;> decide
theorem b2_0 {b : Bool} : b2 b = 0 ↔ b = false := by
  cases b <;> decide
/-- the class: a second -/
theorem sh_step {comers a5 : Nat → Int} {K20 : Int → Int → Int → Int → Int → Int → (Nat → Int) → Int × (Nat → Int)} {l1 l3 c13 P : Int} {s : Nat} {z : lzT} (hs : s < 300) (hcy : 1 ≤ cy) (hcy2 : cy ≤ 120) (hg0 : 0 ≤ gr) (hg1 : gr ≤ 60) (hz0 : 0 ≤ z.2.2.2) (hz1 : z.2.2.2 ≤ 60) (hb : z.2.2.2 = if s = 0 then 0 else a5 (s - 1)) (hl3 : ¬ ru = 1 → l3 = b2 z.2.1) (hP : P = if z.2.2.2 = 0 then lf_o lf_iand (F_X4_comersIn comers (s : Int)) l1 else 0) (hP0 : P = 0 ↔ pr nW cA tw ab (s : Int) z.2.2.2 = false) : ∃ l3', F_X7_shine_20b cy ls comers ru gr K20 l1 (b2 z.1) l3 z.2.2.1 (s : Int) c13 a5 = K20 l1 (b2 (lst nW cA tw ab cy ls ru gr s z).1) l3' (lst nW cA tw ab cy ls ru gr s z).2.2.1 ((s : Int) + (1 : Int)) (lf_o lf_ior c13 P) (lf_up a5 (s : Int) (lst nW cA tw ab cy ls ru gr s z).2.2.2) ∧ (¬ ru = 1 → l3' = b2 (lst nW cA tw ab cy ls ru gr s z).2.1) := by
  have e46 : F_X7_shine_20b cy ls comers ru gr K20 l1 (b2 z.1) l3 z.2.2.1 (s : Int) c13 a5 = F_X7_shine_46 cy ls comers ru gr l1 (b2 z.1) l3 z.2.2.1 (s : Int) c13 a5 K20 z.2.2.2 := by
    unfold F_X7_shine_20b
    rw [if_neg (by omega)]
    by_cases q : s = 0
    · rw [if_pos (by omega), hb, if_pos q]
    · rw [if_neg (by omega), hb, if_neg q, show Int.toNat ((s : Int) - (1 : Int)) = s - 1 from by omega]
  have e68 : F_X7_shine_46 cy ls comers ru gr l1 (b2 z.1) l3 z.2.2.1 (s : Int) c13 a5 K20 z.2.2.2 = F_X7_shine_68 cy ls ru gr l1 (b2 z.1) l3 z.2.2.1 (s : Int) c13 a5 K20 z.2.2.2 P := by
    unfold F_X7_shine_46
    by_cases q : z.2.2.2 = 0
    · rw [if_pos q, lf_b_e, hP, if_pos q]
    · rw [if_neg q, hP, if_neg q]
  have e95 : F_X7_shine_68 cy ls ru gr l1 (b2 z.1) l3 z.2.2.1 (s : Int) c13 a5 K20 z.2.2.2 P = F_X7_shine_95 cy ls ru gr l1 l3 z.2.2.1 (s : Int) a5 K20 z.2.2.2 P (lf_o lf_ior c13 P) (b2 (lOp nW cA tw ab s z)) := by
    unfold F_X7_shine_68 F_X7_shine_90 lOp
    cases h1 : z.1 with
    | true => rw [if_neg (show ¬ b2 true = 0 from by decide), Bool.true_or]; rfl
    | false =>
      rw [if_pos (show b2 false = 0 from rfl), Bool.false_or]
      by_cases q : P = 0
      · rw [if_pos q, hP0.mp q]
        rfl
      · rw [if_neg q]
        cases h2 : pr nW cA tw ab (s : Int) z.2.2.2 with
        | true => rfl
        | false => exact absurd (hP0.mpr h2) q
  have hir : lf_o lf_irem (s : Int) cy = (s : Int) % cy := lo_rem (by omega) (by omega) hcy (by omega)
  have hm0 : 0 ≤ (s : Int) % cy := Int.emod_nonneg _ (by omega)
  have hm1 : (s : Int) % cy < cy := Int.emod_lt_of_pos _ (by omega)
  rw [e46, e68, e95]
  generalize lf_o lf_ior c13 P = c
  unfold F_X7_shine_95 lst
  by_cases c1 : ru = 1
  · rw [if_pos c1, if_pos c1]
    have hup : ∀ v : Int, lf_up a5 (s : Int) v (Int.toNat (s : Int)) = v := by
      intro v
      unfold lf_up
      rw [if_pos rfl]
    have e2 : lf_o lf_isub z.2.2.2 (1 : Int) = z.2.2.2 - 1 := lo_sub (by omega) (by omega) (by omega) (by omega) (by omega) (by omega)
    have e188 : ∀ (op l v : Int), F_X7_shine_188 l1 z.2.2.1 (s : Int) a5 K20 op l z.2.2.2 P (lf_o lf_irem (s : Int) cy) v c = K20 l1 op l (if 0 < v then (s : Int) else z.2.2.1) ((s : Int) + (1 : Int)) c (lf_up a5 (s : Int) v) := by
      intro op l v
      unfold F_X7_shine_188 F_X7_shine_206 F_X7_shine_261
      rw [hup]
      by_cases q : 0 < v
      · rw [if_neg (by omega), if_pos q]
      · rw [if_pos (by omega), if_neg q]
    have e148 : ∀ op l : Bool, F_X7_shine_148 gr l1 z.2.2.1 (s : Int) a5 K20 (b2 op) z.2.2.2 P (lf_o lf_irem (s : Int) cy) c (b2 l) = K20 l1 (b2 (op && !l)) (b2 l) (if 0 < lLf gr z l then (s : Int) else z.2.2.1) ((s : Int) + (1 : Int)) c (lf_up a5 (s : Int) (lLf gr z l)) := by
      intro op l
      unfold F_X7_shine_148 F_X7_shine_161 F_X7_shine_162
      have w0 : lLf gr z false = max (z.2.2.2 - 1) 0 := if_neg (fun r => Bool.noConfusion r)
      have w1 : lLf gr z true = gr := if_pos rfl
      cases op <;> cases l
      · rw [if_pos (show b2 false = 0 from rfl), if_pos (show b2 false = 0 from rfl), e188, e2, w0]
        rfl
      · rw [if_pos (show b2 false = 0 from rfl), if_neg (show ¬ b2 true = 0 from by decide), e188, w1]
        rfl
      · rw [if_neg (show ¬ b2 true = 0 from by decide), if_pos (show b2 false = 0 from rfl), if_pos (show b2 false = 0 from rfl), e188, e2, w0]
        rfl
      · rw [if_neg (show ¬ b2 true = 0 from by decide), if_neg (show ¬ b2 true = 0 from by decide), if_neg (show ¬ b2 true = 0 from by decide), e188, w1]
        rfl
    generalize lOp nW cA tw ab s z = op
    refine ⟨b2 (lL ls s z op), ?_, fun r => absurd c1 r⟩
    show _ = K20 l1 (b2 (op && !lL ls s z op)) (b2 (lL ls s z op)) (if 0 < lLf gr z (lL ls s z op) then (s : Int) else z.2.2.1) ((s : Int) + (1 : Int)) c (lf_up a5 (s : Int) (lLf gr z (lL ls s z op)))
    rw [← e148]
    unfold F_X7_shine_147
    by_cases c2 : 1 < z.2.2.2
    · have hL : lL ls s z op = false := by
        unfold lL
        rw [decide_eq_false (by omega), Bool.false_and, Bool.false_and]
      rw [if_pos c2, hL]
      rfl
    · rw [if_neg c2]
      cases op with
      | false =>
        have hL : lL ls s z false = false := by
          unfold lL
          rw [Bool.and_false, Bool.false_and]
        rw [if_pos (show b2 false = 0 from rfl), hL]
        rfl
      | true =>
        rw [if_neg (show ¬ b2 true = 0 from by decide)]
        by_cases c3 : (s : Int) - z.2.2.1 - 1 < ls
        · have hL : lL ls s z true = false := by
            unfold lL
            rw [decide_eq_false (show ¬ ls ≤ (s : Int) - z.2.2.1 - 1 from by omega), Bool.and_false]
          rw [if_pos c3, hL]
          rfl
        · have hL : lL ls s z true = true := by
            unfold lL
            rw [decide_eq_true (show z.2.2.2 ≤ 1 from by omega), decide_eq_true (show ls ≤ (s : Int) - z.2.2.1 - 1 from by omega)]
            rfl
          rw [if_neg c3, hL]
          rfl
  · have hl3' := hl3 c1
    subst hl3'
    rw [if_neg c1, if_neg c1, hir]
    have hsub : lf_o lf_isub gr ((s : Int) % cy) = gr - (s : Int) % cy := lo_sub (by omega) (by omega) (by omega) (by omega) (by omega) (by omega)
    unfold F_X7_shine_227 F_X7_shine_232 F_X7_shine_235 F_X7_shine_260 F_X7_shine_261
    rw [hsub]
    by_cases c2 : (s : Int) % cy = 0
    · rw [if_pos c2, if_pos c2]
      by_cases c3 : ru = 0
      · rw [if_pos c3, if_neg (show ¬ (1 : Int) = 0 from by decide), decide_eq_true c3, Bool.true_or]
        exact ⟨1, rfl, fun _ => rfl⟩
      · rw [if_neg c3, decide_eq_false c3, Bool.false_or]
        cases h1 : lOp nW cA tw ab s z with
        | true =>
          rw [if_neg (show ¬ b2 true = 0 from by decide), if_neg (show ¬ (1 : Int) = 0 from by decide)]
          exact ⟨1, rfl, fun _ => rfl⟩
        | false =>
          rw [if_pos (show b2 false = 0 from rfl), if_pos rfl]
          exact ⟨0, rfl, fun _ => rfl⟩
    · rw [if_neg c2, if_neg c2]
      cases h1 : z.2.1 with
      | true =>
        rw [if_neg (show ¬ b2 true = 0 from by decide)]
        exact ⟨1, rfl, fun _ => rfl⟩
      | false =>
        rw [if_pos (show b2 false = 0 from rfl)]
        exact ⟨0, rfl, fun _ => rfl⟩
end SH
