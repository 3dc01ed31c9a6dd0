/-! cars, gaps, what is kept of a DAY -/
def rhoC (d cy : Int) (s : Nat) : Int → Int := fun j => if j = 0 then (s : Int) else if j = 1 then d else if j = 2 then (s : Int) % cy else 0
noncomputable def carV (o : Option (List Int)) (d cy : Int) (s : Nat) : Int := vlO true 7 o (rhoC d cy s) 0
def cgap (car : Nat → Bool) : Nat → Nat → Int
  | 0, _ => 0
  | k + 1, s => if car s = true then 0 else cgap car k (s + 1) + 1
noncomputable def gpS (o : Option (List Int)) (d cy : Int) (s : Nat) : Int := cgap (fun s => decide (carV o d cy s = 1)) 20 s
theorem cgap_b (car : Nat → Bool) : ∀ k s, 0 ≤ cgap car k s ∧ cgap car k s ≤ (k : Int)
  | 0, s => ⟨Int.le_refl _, Int.le_refl _⟩
  | k + 1, s => by
    have ih := cgap_b car k (s + 1)
    unfold cgap
    by_cases q : car s = true
    · rw [if_pos q]
      omega
    · rw [if_neg q]
      omega
theorem cgap_m (car : Nat → Bool) : ∀ k s, cgap car k s = min (cgap car (k + 1) s) (k : Int)
  | 0, s => by
    have := cgap_b car 1 s
    show (0 : Int) = min (cgap car 1 s) ((0 : Nat) : Int)
    omega
  | k + 1, s => by
    have ih := cgap_m car k (s + 1)
    have e1 : cgap car (k + 1) s = if car s = true then 0 else cgap car k (s + 1) + 1 := rfl
    have e2 : cgap car (k + 1 + 1) s = if car s = true then 0 else cgap car (k + 1) (s + 1) + 1 := rfl
    rw [e1, e2]
    by_cases q : car s = true
    · rw [if_pos q, if_pos q]
      omega
    · rw [if_neg q, if_neg q]
      omega
theorem cgap_s (car : Nat → Bool) {s : Nat} (hs : s ≤ 319) : (if car s = true then (0 : Int) else min (cgap car (min 20 (319 - s)) (s + 1) + 1) 20) = cgap car (min 20 (320 - s)) s := by
  have hk : ∃ k, min 20 (320 - s) = k + 1 := ⟨min 20 (320 - s) - 1, by omega⟩
  obtain ⟨k, hk⟩ := hk
  rw [hk]
  have e1 : cgap car (k + 1) s = if car s = true then 0 else cgap car k (s + 1) + 1 := rfl
  rw [e1]
  by_cases q : car s = true
  · rw [if_pos q, if_pos q]
  · rw [if_neg q, if_neg q]
    by_cases x : 320 - s ≤ 20
    · have : min 20 (319 - s) = k := by omega
      rw [this]
      have := cgap_b car k (s + 1)
      omega
    · have e2 : min 20 (319 - s) = k + 1 := by omega
      rw [e2]
      have := cgap_m car k (s + 1)
      have : k = 19 := by omega
      omega
theorem rhoC_b {al d cy : Int} {s : Nat} (hd : 0 ≤ d ∧ d ≤ 999) (hs : s < 400) (hcy : 1 ≤ cy) (hcy2 : cy ≤ 120) : okE al (rhoC d cy s) := by
  intro j h0 h1 _
  have m0 : 0 ≤ (s : Int) % cy := Int.emod_nonneg _ (by omega)
  have m1 : (s : Int) % cy < cy := Int.emod_lt_of_pos _ (by omega)
  unfold rhoC in6
  by_cases c0 : j = 0
  · rw [if_pos c0]
    omega
  rw [if_neg c0]
  by_cases c1 : j = 1
  · rw [if_pos c1]
    omega
  rw [if_neg c1]
  by_cases c2 : j = 2
  · rw [if_pos c2]
    omega
  rw [if_neg c2]
  omega
theorem al7 {j : Int} (h0 : 0 ≤ j) (h1 : j < 12) (h : alB 7 j = true) : j = 0 ∨ j = 1 ∨ j = 2 := by
  have hn : ∀ k : Int, (¬ alB 7 k = true) → ¬ j = k := fun k hk r => hk (by rw [← r]; exact h)
  have a3 := hn 3 (by decide +kernel)
  have a4 := hn 4 (by decide +kernel)
  have a5 := hn 5 (by decide +kernel)
  have a6 := hn 6 (by decide +kernel)
  have a7 := hn 7 (by decide +kernel)
  have a8 := hn 8 (by decide +kernel)
  have a9 := hn 9 (by decide +kernel)
  have a10 := hn 10 (by decide +kernel)
  have a11 := hn 11 (by decide +kernel)
  omega
/-- cars and gaps of a DAY, in the class -/
def SFd (o : Option (List Int)) (d cy : Int) (cars gaps : Nat → Int) : Prop := (∀ s, s < 320 → cars s = carV o d cy s) ∧ ∀ s, s < 300 → gaps s = gpS o d cy s
section DR
variable {oC : Option (List Int)} {d cy : Int} {code spans : Nat → Int}
theorem dr_run (hd : 0 ≤ d ∧ d ≤ 999) (hcy : 1 ≤ cy) (hcy2 : cy ≤ 120) (hX : cdX code spans 0 oC) (hG : cdG true 7 oC) : ∀ (f n : Nat) (a2 a6 a7 a8 : Nat → Int), n ≤ 320 → n < f → a2 1 = d → (∀ s, n ≤ s → s < 320 → a7 s = carV oC d cy s ∧ a8 s = cgap (fun s => decide (carV oC d cy s = 1)) (min 20 (320 - s)) s) → ∃ f2 s2 c2 g2, F_X7_drive_21 cy code spans f a2 (cgap (fun s => decide (carV oC d cy s = 1)) (min 20 (320 - n)) n) ((n : Int) - 1) a6 a7 a8 = (f2, s2, c2, g2) ∧ ∀ s, s < 320 → c2 s = carV oC d cy s ∧ g2 s = cgap (fun s => decide (carV oC d cy s = 1)) (min 20 (320 - s)) s := by
  intro f
  induction f with
  | zero => intro n a2 a6 a7 a8 h1 h2; omega
  | succ f ih =>
    intro n a2 a6 a7 a8 h1 h2 h3 h4
    show ∃ f2 s2 c2 g2, F_X7_drive_21b cy code spans (F_X7_drive_21 cy code spans f) a2 (cgap (fun s => decide (carV oC d cy s = 1)) (min 20 (320 - n)) n) ((n : Int) - 1) a6 a7 a8 = (f2, s2, c2, g2) ∧ _
    unfold F_X7_drive_21b
    cases n with
    | zero =>
      rw [if_pos (by omega)]
      exact ⟨a2, a6, a7, a8, rfl, fun s hs => h4 s (Nat.zero_le s) hs⟩
    | succ n =>
      have en : ((n + 1 : Nat) : Int) - 1 = (n : Int) := by omega
      rw [en, if_neg (by omega), lo_rem (by omega) (by omega) hcy (by omega)]
      have hv : (F_X3_value (lf_up (lf_up a2 (0 : Int) (n : Int)) (2 : Int) ((n : Int) % cy)) a6 code (spans 0) (spans 1)).1 = carV oC d cy n := vX hX hG (rhoC_b hd (by omega) hcy hcy2) (fun j h0 h1 ha => by
        rcases al7 h0 h1 ha with x | x | x
        · subst x
          rfl
        · subst x
          exact h3
        · subst x
          rfl) (fun x => absurd x (by decide))
      have hbo := (vlO_b (κ := 0) hG (rhoC_b (al := 7) hd (by omega : n < 400) hcy hcy2)).2 rfl
      show ∃ f2 s2 c2 g2, lf_p (F_X3_value (lf_up (lf_up a2 (0 : Int) (n : Int)) (2 : Int) ((n : Int) % cy)) a6 code (spans 0) (spans 1)) _ = _ ∧ _
      generalize F_X3_value (lf_up (lf_up a2 (0 : Int) (n : Int)) (2 : Int) ((n : Int) % cy)) a6 code (spans 0) (spans 1) = R at hv ⊢
      obtain ⟨v, st⟩ := R
      have hv' : v = carV oC d cy n := hv
      rw [lf_p_e, lf_up_y (by omega)]
      have hgap : (if v = (1 : Int) then (0 : Int) else min (cgap (fun s => decide (carV oC d cy s = 1)) (min 20 (320 - (n + 1))) (n + 1) + (1 : Int)) (20 : Int)) = cgap (fun s => decide (carV oC d cy s = 1)) (min 20 (320 - n)) n := by
        rw [← cgap_s (fun s => decide (carV oC d cy s = 1)) (s := n) (by omega), show 320 - (n + 1) = 319 - n from by omega, hv']
        by_cases x : carV oC d cy n = 1
        · rw [if_pos x, if_pos (decide_eq_true x)]
        · rw [if_neg x, if_neg (fun r => x (of_decide_eq_true r))]
      have hgo : ∃ f2 s2 c2 g2, F_X7_drive_101 (n : Int) a8 (F_X7_drive_21 cy code spans f) (cgap (fun s => decide (carV oC d cy s = 1)) (min 20 (320 - n)) n) (lf_up (lf_up a2 (0 : Int) (n : Int)) (2 : Int) ((n : Int) % cy)) st (lf_up a7 (n : Int) v) = (f2, s2, c2, g2) ∧ ∀ s, s < 320 → c2 s = carV oC d cy s ∧ g2 s = cgap (fun s => decide (carV oC d cy s = 1)) (min 20 (320 - s)) s := by
        unfold F_X7_drive_101
        rw [show (n : Int) + (-1 : Int) = (n : Int) - 1 from by omega]
        refine ih n _ _ _ _ (by omega) (by omega) h3 (fun s h5 h6 => ?_)
        by_cases x : s = n
        · rw [lf_up_y (by omega), lf_up_y (by omega), x]
          exact ⟨hv', rfl⟩
        · rw [lf_up_o (by omega), lf_up_o (by omega)]
          exact h4 s (by omega) h6
      by_cases x : v = 1
      · rw [if_pos x] at hgap
        rw [← hgap] at hgo
        rw [if_pos x]
        exact hgo
      · rw [if_neg x] at hgap
        rw [if_neg x, hgap]
        exact hgo
theorem dr_x {facts stack cars gaps : Nat → Int} (hd : 0 ≤ d ∧ d ≤ 999) (hcy : 1 ≤ cy) (hcy2 : cy ≤ 120) (hX : cdX code spans 0 oC) (hG : cdG true 7 oC) : ∃ f2 s2 c2 g2, F_X7_drive facts stack cy code spans d cars gaps = (f2, s2, c2, g2) ∧ SFd oC d cy c2 g2 := by
  obtain ⟨f2, s2, c2, g2, e, h⟩ := dr_run hd hcy hcy2 hX hG 322 320 (lf_up facts (1 : Int) d) stack cars gaps (Nat.le_refl _) (by decide) rfl (fun s h1 h2 => by omega)
  refine ⟨f2, s2, c2, g2, e, fun s hs => (h s hs).1, fun s hs => ?_⟩
  rw [(h s (by omega)).2, show min 20 (320 - s) = 20 from by omega]
  rfl
end DR
/-! prepare -/
theorem pp_run {facts stack cars gaps known tr0 code spans : Nat → Int} {cy d0 sd d1 : Int} {rule : Int} {nK : Nat} : ∀ (f k : Nat) (l3 : Int) (a10 : Nat → Int), k ≤ nK → nK - k < f → (l3 = 0 ∨ l3 = 1) → ∃ (l3' : Int) (a : Nat → Int), F_X7_prepare_22 facts stack cy (nK : Int) code spans d1 rule cars gaps known d0 tr0 f sd l3 (k : Int) a10 = (if sd = (0 : Int) then (lf_p (F_X7_drive facts stack cy code spans d0 cars gaps) (fun f21 t_f22 => (lf_p t_f22 (fun f22 t_f23 => (lf_p t_f23 (fun f23 f24 => (F_X7_prepare_97 rule known sd l3' d0 f21 f22 f23 f24 (nK : Int) a))))))) else (F_X7_prepare_97 rule known sd l3' d1 facts stack cars gaps (nK : Int) a)) ∧ (∀ j, a j = if k ≤ j ∧ j < nK then tr0 j else a10 j) ∧ (l3' = 0 ∨ (l3' = 1 ∧ l3 = 1 ∧ ∀ j, k ≤ j → j < nK → a10 j = tr0 j)) := by
  intro f
  induction f with
  | zero => intro k l3 a10 h1 h2; omega
  | succ f ih =>
    intro k l3 a10 h1 h2 h3
    show ∃ (l3' : Int) (a : Nat → Int), F_X7_prepare_22b facts stack cy (nK : Int) code spans d1 rule cars gaps known d0 tr0 (F_X7_prepare_22 facts stack cy (nK : Int) code spans d1 rule cars gaps known d0 tr0 f) sd l3 (k : Int) a10 = _ ∧ _
    unfold F_X7_prepare_22b
    by_cases q : k = nK
    · rw [if_pos (by omega), q]
      refine ⟨l3, a10, rfl, fun j => ?_, ?_⟩
      · rw [if_neg (by omega)]
      · rcases h3 with r | r
        · exact Or.inl r
        · exact Or.inr ⟨r, r, fun j h4 h5 => by omega⟩
    · rw [if_neg (by omega), Int.toNat_natCast]
      have go : ∀ x : Int, (x = 0 ∨ x = 1) → (x = 1 → l3 = 1 ∧ a10 k = tr0 k) → ∃ (l3' : Int) (a : Nat → Int), F_X7_prepare_60 tr0 sd (k : Int) a10 (F_X7_prepare_22 facts stack cy (nK : Int) code spans d1 rule cars gaps known d0 tr0 f) x = (if sd = (0 : Int) then (lf_p (F_X7_drive facts stack cy code spans d0 cars gaps) (fun f21 t_f22 => (lf_p t_f22 (fun f22 t_f23 => (lf_p t_f23 (fun f23 f24 => (F_X7_prepare_97 rule known sd l3' d0 f21 f22 f23 f24 (nK : Int) a))))))) else (F_X7_prepare_97 rule known sd l3' d1 facts stack cars gaps (nK : Int) a)) ∧ (∀ j, a j = if k ≤ j ∧ j < nK then tr0 j else a10 j) ∧ (l3' = 0 ∨ (l3' = 1 ∧ l3 = 1 ∧ ∀ j, k ≤ j → j < nK → a10 j = tr0 j)) := by
        intro x hx hx1
        unfold F_X7_prepare_60
        rw [Int.toNat_natCast]
        obtain ⟨l3', a, e, e1, e2⟩ := ih (k + 1) x (lf_up a10 (k : Int) (tr0 k)) (by omega) (by omega) hx
        refine ⟨l3', a, e, fun j => ?_, ?_⟩
        · rw [e1 j]
          by_cases y : k + 1 ≤ j ∧ j < nK
          · rw [if_pos y, if_pos ⟨by omega, y.2⟩]
          · rw [if_neg y]
            by_cases y2 : j = k
            · rw [lf_up_y (by omega), if_pos ⟨by omega, by omega⟩, y2]
            · rw [lf_up_o (by omega), if_neg (by omega)]
        · rcases e2 with r | ⟨r1, r2, r3⟩
          · exact Or.inl r
          · refine Or.inr ⟨r1, (hx1 r2).1, fun j h4 h5 => ?_⟩
            by_cases y : j = k
            · rw [y]
              exact (hx1 r2).2
            · have := r3 j (by omega) h5
              rw [lf_up_o (by omega)] at this
              exact this
      unfold F_X7_prepare_59
      by_cases c1 : l3 = 0
      · rw [if_pos c1]
        exact go 0 (Or.inl rfl) (fun r => by omega)
      · rw [if_neg c1]
        by_cases c2 : a10 k = tr0 k
        · rw [if_pos c2]
          exact go 1 (Or.inr rfl) (fun _ => ⟨by omega, c2⟩)
        · rw [if_neg c2]
          exact go 0 (Or.inl rfl) (fun r => by omega)
