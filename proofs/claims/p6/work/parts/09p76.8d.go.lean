/-! what codes come to, as a number of its own -/
noncomputable def vlu (t : Bool) (al : Int) (L : List Int) (ρ : Int → Int) (κ : Int) : Int := Classical.epsilon (fun v => (in6 v ∧ bo t v) ∧ rnR ρ κ al L [] [v])
noncomputable def vlO (t : Bool) (al : Int) (o : Option (List Int)) (ρ : Int → Int) (κ : Int) : Int := match o with
  | none => 0
  | some L => vlu t al L ρ κ
def cdX (code spans : Nat → Int) (k : Nat) (o : Option (List Int)) : Prop := match o with
  | none => spans (k + 1) ≤ spans k
  | some L => ∃ i : Nat, spans k = (i : Int) ∧ spans (k + 1) = (i : Int) + (L.length : Int) ∧ i + L.length ≤ 1600 ∧ ∀ j, j < L.length → code (i + j) = toC (L.getD j 0)
def cdM (cf ce codes : Nat → Int) (k : Nat) (o : Option (List Int)) : Prop := match o with
  | none => cf k = -1
  | some L => ∃ i : Nat, cf k = (i : Int) ∧ ce k = (i : Int) + (L.length : Int) ∧ L.length ≤ 1600 ∧ ∀ j, j < L.length → codes (1600 + (i + j)) = L.getD j 0
def cdG (t : Bool) (al : Int) (o : Option (List Int)) : Prop := match o with
  | none => True
  | some L => ∃ m, m ≤ 64 ∧ gdR al m t L
def okE (al : Int) (ρ : Int → Int) : Prop := ∀ j : Int, 0 ≤ j → j < 12 → alB al j = true → in6 (ρ j)
theorem vlu_s {t : Bool} {al κ : Int} {L : List Int} {ρ : Int → Int} (h : ∃ m, m ≤ 64 ∧ gdR al m t L) (hρ : okE al ρ) : (in6 (vlu t al L ρ κ) ∧ bo t (vlu t al L ρ κ)) ∧ rnR ρ κ al L [] [vlu t al L ρ κ] := by
  obtain ⟨m, hm, hg⟩ := h
  obtain ⟨v, h1, h2, h3⟩ := gd_val hg hm ρ κ hρ
  exact Classical.epsilon_spec (p := fun v => (in6 v ∧ bo t v) ∧ rnR ρ κ al L [] [v]) ⟨v, ⟨h1, h2⟩, h3⟩
theorem vlO_b {t : Bool} {al κ : Int} {o : Option (List Int)} {ρ : Int → Int} (h : cdG t al o) (hρ : okE al ρ) : in6 (vlO t al o ρ κ) ∧ bo t (vlO t al o ρ κ) := by
  cases o with
  | none => exact ⟨by show in6 0; unfold in6; omega, fun _ => Or.inl rfl⟩
  | some L => exact (vlu_s h hρ).1
theorem vX {facts stack code spans : Nat → Int} {k : Nat} {t : Bool} {al κ : Int} {o : Option (List Int)} {ρ : Int → Int} (h : cdX code spans k o) (hg : cdG t al o) (hρ : okE al ρ) (hf : ∀ j : Int, 0 ≤ j → j < 12 → alB al j = true → facts j.toNat = ρ j) (hk : al = 3707 → facts 12 = κ) : (F_X3_value facts stack code (spans k) (spans (k + 1))).1 = vlO t al o ρ κ := by
  cases o with
  | none => exact vx_none h
  | some L =>
    obtain ⟨i, h1, h2, h3, h4⟩ := h
    have := vlu_s (κ := κ) hg hρ
    rw [h1]
    exact vx_val hf hk h4 h2.symm h3 this.2
/-- without the word reds it is all the same how many have gone -/
def no48 (o : Option (List Int)) : Prop := match o with
  | none => True
  | some L => ∀ c, c ∈ L → ¬ c = 48
theorem rnR_48 {ρ ρ2 : Int → Int} {κ al : Int} (h : ∀ j : Int, ¬ j = 8 → ρ j = ρ2 j) : ∀ (L : List Int), (∀ c, c ∈ L → ¬ c = 48) → ∀ S S2, rnR ρ κ al L S S2 → rnR ρ2 κ al L S S2
  | [], _, _, _, r => r
  | c :: L, hn, S, S2, ⟨S1, r1, r2⟩ => by
    refine ⟨S1, ?_, rnR_48 h L (fun x hx => hn x (List.mem_cons_of_mem c hx)) S1 S2 r2⟩
    rcases r1 with r | r | ⟨h1, h2, h3, h4, h5⟩ | r
    · exact Or.inl r
    · exact Or.inr (Or.inl r)
    · have hc := hn c List.mem_cons_self
      exact Or.inr (Or.inr (Or.inl ⟨h1, h2, h3, h4, by rw [← h (c - 40) (by omega)]; exact h5⟩))
    · exact Or.inr (Or.inr (Or.inr r))
theorem vlO_48 {t : Bool} {al κ : Int} {o : Option (List Int)} {ρ ρ2 : Int → Int} (h : ∀ j : Int, ¬ j = 8 → ρ j = ρ2 j) (hn : no48 o) : vlO t al o ρ κ = vlO t al o ρ2 κ := by
  cases o with
  | none => rfl
  | some L =>
    have e : (fun v => (in6 v ∧ bo t v) ∧ rnR ρ κ al L [] [v]) = (fun v => (in6 v ∧ bo t v) ∧ rnR ρ2 κ al L [] [v]) := by
      funext v
      exact propext ⟨fun r => ⟨r.1, rnR_48 h L hn [] [v] r.2⟩, fun r => ⟨r.1, rnR_48 (fun j hj => (h j hj).symm) L hn [] [v] r.2⟩⟩
    show Classical.epsilon _ = Classical.epsilon _
    rw [e]
/-! the TEST of red -/
def rhoR (d : Int) (cA clm pcw tw gp : Nat → Int) (w s : Nat) (r : Int) : Int → Int := fun j => if j = 0 then (s : Int) else if j = 1 then d else if j = 3 then (s : Int) - cA w else if j = 4 then clm w else if j = 5 then pcw w else if j = 6 then tw w else if j = 7 then gp s else if j = 8 then r else 0
noncomputable def gvS (o : Option (List Int)) (d : Int) (cA clm pcw tw gp : Nat → Int) (w s : Nat) (r : Int) : Bool := decide (vlO true 507 o (rhoR d cA clm pcw tw gp w s r) 0 = 1)
def kOK (nW : Nat) (G : Nat → Nat → Int → Bool) (kn : Nat → Int) : Prop := ∀ w s, w < nW → s < 300 → 0 ≤ kn (300 * w + s) ∧ kn (300 * w + s) < 16777216 ∧ ∀ r : Nat, r ≤ 11 → (bt (kn (300 * w + s)) (2 * r) = true → bt (kn (300 * w + s)) (2 * r + 1) = G w s (r : Int)) ∧ (bt (kn (300 * w + s)) (2 * r) = false → bt (kn (300 * w + s)) (2 * r + 1) = false)
theorem kOK_0 {nW : Nat} {G : Nat → Nat → Int → Bool} {kn : Nat → Int} (h : ∀ j, j < 3600 → kn j = 0) (hn : nW ≤ 12) : kOK nW G kn := by
  intro w s hw hs
  rw [h (300 * w + s) (by omega)]
  exact ⟨Int.le_refl _, by decide, fun r _ => ⟨fun q => Bool.noConfusion ((bt_0 _).symm.trans q), fun _ => bt_0 _⟩⟩
/-- (1 or 3) moved up -/
def m3B : Bool := (List.range 12).all (fun r => decide (lf_o lf_ishl 1 (2 * (r : Int)) = ((2 ^ (2 * r) : Nat) : Int)) && decide (lf_o lf_ishl 3 (2 * (r : Int)) = ((2 ^ (2 * r) * 3 : Nat) : Int)) && decide (lf_o lf_imul 2 (r : Int) = 2 * (r : Int)))
theorem m3_r {r : Nat} (h : r ≤ 11) : lf_o lf_ishl 1 (2 * (r : Int)) = ((2 ^ (2 * r) : Nat) : Int) ∧ lf_o lf_ishl 3 (2 * (r : Int)) = ((2 ^ (2 * r) * 3 : Nat) : Int) ∧ lf_o lf_imul 2 (r : Int) = 2 * (r : Int) := by
  have := List.all_eq_true.mp (show m3B = true from by decide +kernel) r (List.mem_range.mpr (by omega))
  rw [Bool.and_eq_true, Bool.and_eq_true] at this
  exact ⟨of_decide_eq_true this.1.1, of_decide_eq_true this.1.2, of_decide_eq_true this.2⟩
theorem p24 {r : Nat} (h : r ≤ 11) : 2 ^ (2 * r) * 3 < 2 ^ 24 := by
  have h1 : 2 ^ (2 * r) ≤ 2 ^ 22 := Nat.pow_le_pow_right (by decide) (by omega)
  have h2 : (2 : Nat) ^ 22 = 4194304 := by decide
  have h3 : (2 : Nat) ^ 24 = 16777216 := by decide
  omega
theorem t3 (j : Nat) : (3 : Nat).testBit j = decide (j < 2) := by
  rw [show (3 : Nat) = 2 ^ 2 - 1 from rfl, Nat.testBit_two_pow_sub_one]
theorem kn_up {X v : Int} {r : Nat} {g : Bool} (hX : 0 ≤ X) (hX2 : X < 16777216) (hr : r ≤ 11) (hv : v = b2 g) (h0 : bt X (2 * r) = false) (h1 : bt X (2 * r + 1) = false) : 0 ≤ lf_o lf_ior X (lf_o lf_ishl (lf_o lf_ior 1 (lf_o lf_ishl v 1)) (2 * (r : Int))) ∧ lf_o lf_ior X (lf_o lf_ishl (lf_o lf_ior 1 (lf_o lf_ishl v 1)) (2 * (r : Int))) < 16777216 ∧ bt (lf_o lf_ior X (lf_o lf_ishl (lf_o lf_ior 1 (lf_o lf_ishl v 1)) (2 * (r : Int)))) (2 * r) = true ∧ bt (lf_o lf_ior X (lf_o lf_ishl (lf_o lf_ior 1 (lf_o lf_ishl v 1)) (2 * (r : Int)))) (2 * r + 1) = g ∧ ∀ k : Nat, ¬ k = 2 * r → ¬ k = 2 * r + 1 → bt (lf_o lf_ior X (lf_o lf_ishl (lf_o lf_ior 1 (lf_o lf_ishl v 1)) (2 * (r : Int)))) k = bt X k := by
  have e24 : (2 : Nat) ^ 24 = 16777216 := by decide
  obtain ⟨a, rfl⟩ := Int.eq_ofNat_of_zero_le hX
  have hp := p24 hr
  have hp0 : 0 < 2 ^ (2 * r) := Nat.two_pow_pos _
  subst hv
  have fin : ∀ (e : Nat), e < 2 ^ 24 → 0 ≤ lf_o lf_ior (a : Int) (e : Int) ∧ lf_o lf_ior (a : Int) (e : Int) < 16777216 ∧ ∀ k, bt (lf_o lf_ior (a : Int) (e : Int)) k = (a.testBit k || e.testBit k) := by
    intro e he
    rw [lo_or (by omega) (by omega)]
    have : a ||| e < 2 ^ 24 := Nat.or_lt_two_pow (by omega) he
    exact ⟨by omega, by omega, fun k => Nat.testBit_or a e k⟩
  have h0' : a.testBit (2 * r) = false := h0
  have h1' : a.testBit (2 * r + 1) = false := h1
  cases g with
  | false =>
    rw [show lf_o lf_ior 1 (lf_o lf_ishl (b2 false) 1) = 1 from by decide, (m3_r hr).1]
    obtain ⟨f1, f2, f3⟩ := fin (2 ^ (2 * r)) (by omega)
    refine ⟨f1, f2, ?_, ?_, fun k k1 k2 => ?_⟩
    · rw [f3, Nat.testBit_two_pow, decide_eq_true rfl, Bool.or_true]
    · rw [f3, Nat.testBit_two_pow, decide_eq_false (by omega), Bool.or_false]
      exact h1'
    · rw [f3, Nat.testBit_two_pow, decide_eq_false (by omega), Bool.or_false]
      rfl
  | true =>
    rw [show lf_o lf_ior 1 (lf_o lf_ishl (b2 true) 1) = 3 from by decide, (m3_r hr).2.1]
    obtain ⟨f1, f2, f3⟩ := fin (2 ^ (2 * r) * 3) hp
    refine ⟨f1, f2, ?_, ?_, fun k k1 k2 => ?_⟩
    · rw [f3, Nat.testBit_two_pow_mul, t3, decide_eq_true (by omega), decide_eq_true (by omega), Bool.and_true, Bool.or_true]
    · rw [f3, Nat.testBit_two_pow_mul, t3, decide_eq_true (by omega), decide_eq_true (by omega), Bool.and_true, Bool.or_true]
    · rw [f3, Nat.testBit_two_pow_mul, t3]
      by_cases q : 2 * r ≤ k
      · rw [decide_eq_false (show ¬ k - 2 * r < 2 from by omega), Bool.and_false, Bool.or_false]
        rfl
      · rw [decide_eq_false (show ¬ k ≥ 2 * r from by omega), Bool.false_and, Bool.or_false]
        rfl
theorem rho_8 {d : Int} {cA clm pcw tw gp : Nat → Int} {w s : Nat} {r r2 : Int} (j : Int) (h : ¬ j = 8) : rhoR d cA clm pcw tw gp w s r j = rhoR d cA clm pcw tw gp w s r2 j := by
  unfold rhoR
  rw [if_neg h, if_neg h]
/-- bounds of what is told of walkers -/
def wkB (nW : Nat) (cA clm pcw tw : Nat → Int) : Prop := ∀ w, w < nW → (0 ≤ cA w ∧ cA w < 200) ∧ (0 ≤ clm w ∧ clm w ≤ 99) ∧ (1 ≤ pcw w ∧ pcw w ≤ 20) ∧ (0 ≤ tw w ∧ tw w ≤ 9)
theorem rho_b {al d : Int} {nW : Nat} {cA clm pcw tw gp : Nat → Int} {w s : Nat} {r : Int} (h : wkB nW cA clm pcw tw) (hw : w < nW) (hs : s < 400) (hd : 0 ≤ d ∧ d ≤ 999) (hg : 0 ≤ gp s ∧ gp s ≤ 20) (hr : 0 ≤ r ∧ r ≤ 1000) : okE al (rhoR d cA clm pcw tw gp w s r) := by
  intro j h0 h1 _
  obtain ⟨a1, a2, a3, a4⟩ := h w hw
  unfold rhoR in6
  by_cases c0 : j = 0
  · rw [if_pos c0]
    omega
  rw [if_neg c0]
  by_cases c1 : j = 1
  · rw [if_pos c1]
    omega
  rw [if_neg c1]
  by_cases c3 : j = 3
  · rw [if_pos c3]
    omega
  rw [if_neg c3]
  by_cases c4 : j = 4
  · rw [if_pos c4]
    omega
  rw [if_neg c4]
  by_cases c5 : j = 5
  · rw [if_pos c5]
    omega
  rw [if_neg c5]
  by_cases c6 : j = 6
  · rw [if_pos c6]
    omega
  rw [if_neg c6]
  by_cases c7 : j = 7
  · rw [if_pos c7]
    omega
  rw [if_neg c7]
  by_cases c8 : j = 8
  · rw [if_pos c8]
    omega
  rw [if_neg c8]
  omega
theorem al507 {j : Int} (h0 : 0 ≤ j) (h1 : j < 12) (h : alB 507 j = true) : j = 0 ∨ j = 1 ∨ j = 3 ∨ j = 4 ∨ j = 5 ∨ j = 6 ∨ j = 7 ∨ j = 8 := by
  have a2 : ¬ alB 507 2 = true := by decide +kernel
  have a9 : ¬ alB 507 9 = true := by decide +kernel
  have a10 : ¬ alB 507 10 = true := by decide +kernel
  have a11 : ¬ alB 507 11 = true := by decide +kernel
  have n2 : ¬ j = 2 := fun r => a2 (by rw [← r]; exact h)
  have n9 : ¬ j = 9 := fun r => a9 (by rw [← r]; exact h)
  have n10 : ¬ j = 10 := fun r => a10 (by rw [← r]; exact h)
  have n11 : ¬ j = 11 := fun r => a11 (by rw [← r]; exact h)
  omega
section GO
variable {nW : Nat} {o : Option (List Int)} {d : Int} {cA clm pcw tw gp : Nat → Int}
theorem go_x {facts stack clmK pcK kO code spans tr gaps kn : Nat → Int} {ar : Int} {w s r : Nat} (hB : wkB nW cA clm pcw tw) (hn : nW ≤ 12) (hw : w < nW) (hs : s < 300) (hr : r ≤ 11) (hd : 0 ≤ d ∧ d ≤ 999) (hgp : 0 ≤ gp s ∧ gp s ≤ 20) (hgs : gaps s = gp s) (hc : clmK (kO w).toNat = clm w) (hp : pcK (kO w).toNat = pcw w) (ht : tr (kO w).toNat = tw w) (hX : cdX code spans 2 o) (hG : cdG true 507 o) (har : ar = 0 → no48 o) (hk : kOK nW (gvS o d cA clm pcw tw gp) kn) : ∃ kn2 f2 s2, F_X7_goes facts stack clmK pcK kO cA code spans d tr ar gaps kn (w : Int) (s : Int) (r : Int) = (b2 (gvS o d cA clm pcw tw gp w s (r : Int)), kn2, f2, s2) ∧ kOK nW (gvS o d cA clm pcw tw gp) kn2 := by
  have main : ∀ q : Nat, q ≤ 11 → gvS o d cA clm pcw tw gp w s (q : Int) = gvS o d cA clm pcw tw gp w s (r : Int) → ∃ kn2 f2 s2, F_X7_goes_23 facts stack clmK pcK kO cA code spans d tr gaps kn (w : Int) (s : Int) (r : Int) (((w : Int) * (300 : Int)) + (s : Int)) (2 * (q : Int)) = (b2 (gvS o d cA clm pcw tw gp w s (r : Int)), kn2, f2, s2) ∧ kOK nW (gvS o d cA clm pcw tw gp) kn2 := by
    intro q hq hqr
    obtain ⟨k1, k2, k3⟩ := hk w s hw hs
    obtain ⟨k4, k5⟩ := k3 q hq
    have hat : Int.toNat (((w : Int) * (300 : Int)) + (s : Int)) = 300 * w + s := by omega
    have e2q : (2 * (q : Int)) = ((2 * q : Nat) : Int) := by omega
    have b1 := bt_bit (X := kn (300 * w + s)) (w := 2 * q) k1 (by omega) (by omega)
    unfold F_X7_goes_23
    rw [hat, e2q, b1]
    cases hb : bt (kn (300 * w + s)) (2 * q) with
    | true =>
      rw [if_neg (show ¬ b2 true = 0 from by decide)]
      unfold F_X7_goes_150
      rw [hat, bt_bit2 k1 (by omega) (by omega), k4 hb, hqr]
      cases hg : gvS o d cA clm pcw tw gp w s (r : Int) with
      | true =>
        rw [if_pos rfl, if_neg (show ¬ (2 : Int) = 0 from by decide)]
        exact ⟨kn, facts, stack, rfl, hk⟩
      | false =>
        rw [if_neg (fun z => Bool.noConfusion z), if_pos rfl]
        exact ⟨kn, facts, stack, rfl, hk⟩
    | false =>
      rw [if_pos (show b2 false = 0 from rfl), lf_b_e]
      unfold F_X7_describe
      rw [Int.toNat_natCast, Int.toNat_natCast, hgs, hc, hp, ht]
      generalize hf : (lf_up (lf_up (lf_up (lf_up (lf_up (lf_up (lf_up (lf_up facts (7 : Int) (gp s)) (8 : Int) (r : Int)) (0 : Int) (s : Int)) (1 : Int) d) (3 : Int) ((s : Int) - cA w)) (4 : Int) (clm w)) (5 : Int) (pcw w)) (6 : Int) (tw w)) = F
      have hv : (F_X3_value F stack code (spans 2) (spans 3)).1 = vlO true 507 o (rhoR d cA clm pcw tw gp w s (r : Int)) 0 := vX hX hG (rho_b hB hw (by omega) hd hgp (by omega)) (fun j h0 h1 ha => by
        rw [← hf]
        rcases al507 h0 h1 ha with x | x | x | x | x | x | x | x <;> subst x <;> rfl) (fun x => absurd x (by decide))
      have hbo := (vlO_b (κ := 0) hG (rho_b (al := 507) (r := (r : Int)) hB hw (by omega) hd hgp (by omega))).2 rfl
      have hvg : vlO true 507 o (rhoR d cA clm pcw tw gp w s (r : Int)) 0 = b2 (gvS o d cA clm pcw tw gp w s (r : Int)) := by
        unfold gvS
        rcases hbo with z | z
        · rw [z]
          rfl
        · rw [z]
          rfl
      show ∃ kn2 f2 s2, lf_p (F_X3_value F stack code (spans 2) (spans 3)) _ = _ ∧ _
      generalize F_X3_value F stack code (spans 2) (spans 3) = R at hv ⊢
      obtain ⟨v, st⟩ := R
      have hv' : v = b2 (gvS o d cA clm pcw tw gp w s (r : Int)) := hv.trans hvg
      rw [lf_p_e]
      obtain ⟨u1, u2, u3, u4, u5⟩ := kn_up (v := v) (r := q) k1 k2 hq hv' hb (k5 hb)
      rw [e2q] at u1 u2 u3 u4 u5
      generalize lf_o lf_ior (kn (300 * w + s)) (lf_o lf_ishl (lf_o lf_ior 1 (lf_o lf_ishl v 1)) ((2 * q : Nat) : Int)) = Y at u1 u2 u3 u4 u5 ⊢
      unfold F_X7_goes_150
      rw [hat, lf_up_y (by omega), bt_bit2 u1 (by omega) (by omega), u4]
      have hK : kOK nW (gvS o d cA clm pcw tw gp) (lf_up kn (((w : Int) * (300 : Int)) + (s : Int)) Y) := by
        intro w2 s2 hw2 hs2
        by_cases x : w2 = w ∧ s2 = s
        · rw [lf_up_y (by omega)]
          obtain ⟨x1, x2⟩ := x
          subst x1
          subst x2
          refine ⟨u1, u2, fun r2 hr2 => ?_⟩
          by_cases x3 : r2 = q
          · subst x3
            exact ⟨fun _ => u4.trans hqr.symm, fun z => Bool.noConfusion (u3.symm.trans z)⟩
          · rw [u5 (2 * r2) (by omega) (by omega), u5 (2 * r2 + 1) (by omega) (by omega)]
            exact k3 r2 hr2
        · rw [lf_up_o (by omega)]
          exact hk w2 s2 hw2 hs2
      cases hg : gvS o d cA clm pcw tw gp w s (r : Int) with
      | true =>
        rw [if_pos rfl, if_neg (show ¬ (2 : Int) = 0 from by decide)]
        exact ⟨_, _, _, rfl, hK⟩
      | false =>
        rw [if_neg (fun z => Bool.noConfusion z), if_pos rfl]
        exact ⟨_, _, _, rfl, hK⟩
  unfold F_X7_goes
  by_cases q : ar = 0
  · rw [if_pos q]
    have e : gvS o d cA clm pcw tw gp w s ((0 : Nat) : Int) = gvS o d cA clm pcw tw gp w s (r : Int) := by
      unfold gvS
      rw [vlO_48 (fun j hj => rho_8 (r2 := (r : Int)) j hj) (har q)]
    exact main 0 (Nat.zero_le _) e
  · rw [if_neg q, (m3_r hr).2.2]
    exact main r hr rfl
end GO
