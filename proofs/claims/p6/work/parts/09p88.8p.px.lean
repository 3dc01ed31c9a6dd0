/-! what a crossing's text plans, as a record; the class holds it -/
abbrev PR : Type := List (Int × Int × Int) × List (Int × Int) × Option (List Int) × Option (List Int) × Option (List Int) × Int
def codM (g : Nat → Int) (n : Nat) (i al : Int) (p : Nat) : SL := if i = 4 then mSum g n al 6 p else mTest g n al 6 p
def lstM (y : SL) : List Int := match y with
  | .inl _ => []
  | .inr z => z.2
def sp_px (g : Nat → Int) (n p : Nat) (st : PL) (pr : PR) : PR := if wl g n ws_0 p = 0 then (pr.1 ++ [((sp_k1 g n st.1 st.2.1 p).1, (sp_k2 g n st.1 st.2.1 p).1, (sp_k3 g n st.1 st.2.1 p).1)], pr.2) else if wl g n ws_0 p = 1 then (pr.1, pr.2.1 ++ [((sp_c2 g n st.1 st.2.1 p).1, (sp_c3 g n st.1 st.2.1 p).1)], pr.2.2) else if wl g n ws_0 p = 2 then (pr.1, pr.2.1, some (lstM (codM g n 0 7 (tx_e g n p))), pr.2.2.2) else if wl g n ws_0 p = 3 then (pr.1, pr.2.1, pr.2.2.1, some (lstM (codM g n 2 507 (tx_e g n p))), pr.2.2.2.2) else if wl g n ws_0 p = 4 then (pr.1, pr.2.1, pr.2.2.1, pr.2.2.2.1, some (lstM (codM g n 4 123 (tx_e g n p))), pr.2.2.2.2.2) else if wl g n ws_0 p = 5 then (pr.1, pr.2.1, pr.2.2.1, pr.2.2.2.1, pr.2.2.2.2.1, (sp_nb g n ws_1 0 100 p).1) else pr
def rcP (g : Nat → Int) (n : Nat) : Nat → Nat → Nat → PL → PR → PR
  | 0, _, _, _, pr => pr
  | f + 1, k, p, st, pr => if tx_k g n p = 0 then pr else if 80 ≤ k then pr else match sb (sp_st g n p st).1 (sp_need g n 59) with
    | .inl _ => pr
    | .inr p2 => rcP g n f (k + 1) p2 (sp_st g n p st).2 (sp_px g n p st pr)
theorem gd_ap {α : Type} {x d : α} : ∀ (l : List α) (j : Nat), (l ++ [x]).getD j d = if j < l.length then l.getD j d else if j = l.length then x else d
  | [], 0 => rfl
  | [], j + 1 => rfl
  | a :: l, 0 => rfl
  | a :: l, j + 1 => by
    have ih := gd_ap (x := x) (d := d) l j
    show (l ++ [x]).getD j d = if j + 1 < l.length + 1 then l.getD j d else if j + 1 = l.length + 1 then x else d
    rw [ih]
    by_cases q : j < l.length
    · rw [if_pos q, if_pos (show j + 1 < l.length + 1 from by omega)]
    · by_cases q2 : j = l.length
      · rw [if_neg q, if_pos q2, if_neg (show ¬ j + 1 < l.length + 1 from by omega), if_pos (show j + 1 = l.length + 1 from by omega)]
      · rw [if_neg q, if_neg q2, if_neg (show ¬ j + 1 < l.length + 1 from by omega), if_neg (show ¬ j + 1 = l.length + 1 from by omega)]
theorem gd_mp : ∀ (l : List Int) (j : Nat), j < l.length → (l.map toC).getD j 0 = toC (l.getD j 0)
  | [], j, h => absurd h (Nat.not_lt_zero j)
  | a :: l, 0, _ => rfl
  | a :: l, j + 1, h => gd_mp l j (Nat.lt_of_succ_lt_succ h)
theorem em_s {c : CD} {a : Int} (h : c.1 < 1600) : em c a = (c.1 + 1, lf_up c.2 c.1 a) := by
  unfold em F_X5_emit
  rw [if_neg (by omega)]
theorem em_t {c : CD} {a : Int} (h : 1600 ≤ c.1) : em c a = c := by
  unfold em F_X5_emit
  rw [if_pos h]
theorem ems_n : ∀ (L : List Int) (c : CD), c.1 ≤ 1600 → (ems c L).1 = min (c.1 + (L.length : Int)) 1600
  | [], c, h => by
    show c.1 = min (c.1 + ((0 : Nat) : Int)) 1600
    omega
  | a :: L, c, h => by
    show (ems (em c a) L).1 = min (c.1 + ((L.length + 1 : Nat) : Int)) 1600
    by_cases q : c.1 < 1600
    · have ih := ems_n L (em c a) (by rw [em_s q]; show c.1 + 1 ≤ 1600; omega)
      rw [ih, em_s q]
      show min (c.1 + 1 + (L.length : Int)) 1600 = _
      omega
    · rw [em_t (by omega), ems_n L c h]
      omega
theorem ems_at : ∀ (L : List Int) (c : CD), 0 ≤ c.1 → c.1 + (L.length : Int) ≤ 1600 → (∀ j, j < L.length → (ems c L).2 (c.1.toNat + j) = L.getD j 0) ∧ ∀ i, i < c.1.toNat → (ems c L).2 i = c.2 i
  | [], c, _, _ => ⟨fun j hj => absurd hj (Nat.not_lt_zero j), fun _ _ => rfl⟩
  | a :: L, c, h0, h => by
    have hl : ((a :: L).length : Int) = (L.length : Int) + 1 := by
      show ((L.length + 1 : Nat) : Int) = _
      omega
    have q : c.1 < 1600 := by omega
    have ih := ems_at L (em c a) (by rw [em_s q]; show 0 ≤ c.1 + 1; omega) (by rw [em_s q]; show c.1 + 1 + (L.length : Int) ≤ 1600; omega)
    have e1 : (em c a).1.toNat = c.1.toNat + 1 := by
      rw [em_s q]
      show (c.1 + 1).toNat = c.1.toNat + 1
      omega
    rw [e1] at ih
    refine ⟨fun j hj => ?_, fun i hi => ?_⟩
    · cases j with
      | zero =>
        show (ems (em c a) L).2 c.1.toNat = a
        rw [ih.2 c.1.toNat (Nat.lt_succ_self _), em_s q]
        exact lf_up_y rfl
      | succ j =>
        have hj2 : j < L.length := Nat.lt_of_succ_lt_succ hj
        show (ems (em c a) L).2 (c.1.toNat + (j + 1)) = L.getD j 0
        rw [← ih.1 j hj2, show c.1.toNat + (j + 1) = c.1.toNat + 1 + j from by omega]
    · show (ems (em c a) L).2 i = c.2 i
      rw [ih.2 i (by omega), em_s q]
      exact lf_up_o (by omega)
theorem sp_nb_b {g : Nat → Int} {n p q : Nat} {ws : List (List Int)} {lo hi : Int} (h : (sp_nb g n ws lo hi p).2 = .inr q) : lo ≤ (sp_nb g n ws lo hi p).1 ∧ (sp_nb g n ws lo hi p).1 ≤ hi := by
  unfold sp_nb at h ⊢
  cases e : sp_w g n ws p with
  | inl r =>
    rw [e] at h
    cases h
  | inr p2 =>
    rw [e] at h
    exact ⟨sp_num_lo, sp_num_hi h⟩
theorem sbv_e {s : ST} {f : Nat → Int × ST} {d : Int} {q : Nat} (h : (sbv s f d).2 = .inr q) : ∃ p, s = .inr p ∧ (f p).2 = .inr q ∧ (sbv s f d).1 = (f p).1 := by
  cases s with
  | inl r => cases h
  | inr p => exact ⟨p, rfl, h, rfl⟩
theorem fi_lt (w : List Int) : ∀ (L : List (List Int)) (i : Nat), fi w L i < (i : Int) + (L.length : Int) + 1 ∧ (fi w L i = -1 ∨ fi w L i < (i : Int) + (L.length : Int))
  | [], i => ⟨by show (-1 : Int) < (i : Int) + ((0 : Nat) : Int) + 1; omega, Or.inl rfl⟩
  | x :: L, i => by
    have ih := fi_lt w L (i + 1)
    show (if x = w then (i : Int) else fi w L (i + 1)) < (i : Int) + ((L.length + 1 : Nat) : Int) + 1 ∧ ((if x = w then (i : Int) else fi w L (i + 1)) = -1 ∨ (if x = w then (i : Int) else fi w L (i + 1)) < (i : Int) + ((L.length + 1 : Nat) : Int))
    by_cases q : x = w
    · rw [if_pos q]
      exact ⟨by omega, Or.inr (by omega)⟩
    · rw [if_neg q]
      refine ⟨by omega, ?_⟩
      rcases ih.2 with r | r
      · exact Or.inl r
      · exact Or.inr (by omega)
theorem sp_kn_b {g : Nat → Int} {n p q : Nat} {Ks : List (List Int)} (h : (sp_kn g n Ks p).2 = .inr q) : 0 ≤ (sp_kn g n Ks p).1 ∧ (sp_kn g n Ks p).1 < (Ks.length : Int) := by
  unfold sp_kn at h ⊢
  by_cases k : isNm g n p = true
  · rw [if_pos k] at h ⊢
    by_cases k2 : fi (wd g n p) Ks 0 = -1
    · rw [if_pos k2] at h
      cases h
    · rw [if_neg k2]
      show 0 ≤ fi (wd g n p) Ks 0 ∧ fi (wd g n p) Ks 0 < (Ks.length : Int)
      have h1 := fi_ge (wd g n p) Ks 0
      have h2 := (fi_lt (wd g n p) Ks 0).2
      omega
  · rw [if_neg k] at h
    cases h
theorem k3_b {g : Nat → Int} {n p q : Nat} {Ks Ws : List (List Int)} (h : (sp_k3 g n Ks Ws p).2 = .inr q) : (0 ≤ (sp_k1 g n Ks Ws p).1 ∧ (sp_k1 g n Ks Ws p).1 ≤ 99) ∧ (1 ≤ (sp_k2 g n Ks Ws p).1 ∧ (sp_k2 g n Ks Ws p).1 ≤ 20) ∧ (0 ≤ (sp_k3 g n Ks Ws p).1 ∧ (sp_k3 g n Ks Ws p).1 ≤ 9) := by
  obtain ⟨p2, e2, f2, v3⟩ := sbv_e h
  obtain ⟨p1, e1, f1, v2⟩ := sbv_e e2
  obtain ⟨p0, e0, f0, v1⟩ := sbv_e e1
  have a1 : (sp_k1 g n Ks Ws p).1 = (sp_nb g n ws_7 0 99 p0).1 := v1
  have a2 : (sp_k2 g n Ks Ws p).1 = (sp_nb g n ws_8 1 20 p1).1 := v2
  have a3 : (sp_k3 g n Ks Ws p).1 = (sp_nb g n ws_9 0 9 p2).1 := v3
  rw [a1, a2, a3]
  exact ⟨sp_nb_b f0, sp_nb_b f1, sp_nb_b f2⟩
theorem c3_b {g : Nat → Int} {n p q : Nat} {Ks Ws : List (List Int)} (h : (sp_c3 g n Ks Ws p).2 = .inr q) : (0 ≤ (sp_c2 g n Ks Ws p).1 ∧ (sp_c2 g n Ks Ws p).1 < (Ks.length : Int)) ∧ (0 ≤ (sp_c3 g n Ks Ws p).1 ∧ (sp_c3 g n Ks Ws p).1 < 200) := by
  obtain ⟨p2, e2, f2, v3⟩ := sbv_e h
  obtain ⟨p1, e1, f1, v2⟩ := sbv_e e2
  have a2 : (sp_c2 g n Ks Ws p).1 = (sp_kn g n Ks p1).1 := v2
  have a3 : (sp_c3 g n Ks Ws p).1 = (sp_nb g n ws_11 0 199 p2).1 := v3
  have b3 := sp_nb_b f2
  rw [a2, a3]
  exact ⟨sp_kn_b f1, by omega⟩
/-- codes that were written -/
theorem cod_M {g : Nat → Int} {n p q : Nat} {i al : Int} {c : CD} (hn : n ≤ 1600) (hp : 1 ≤ p) (hp2 : p ≤ n) (hc : 0 ≤ c.1) (hc2 : c.1 ≤ (p : Int)) (e : (cod g n i al p c).1 = .inr q) : ∃ L, codM g n i al p = .inr (q, L) ∧ q ≤ n ∧ 0 < L.length ∧ c.1 + (L.length : Int) ≤ (q : Int) ∧ (cod g n i al p c).2.1 = c.1 + (L.length : Int) ∧ (∀ j, j < L.length → (cod g n i al p c).2.2 (c.1.toNat + j) = toC (L.getD j 0)) ∧ ∀ j, j < c.1.toNat → (cod g n i al p c).2.2 j = c.2 j := by
  have hr : ∀ c : CD, rlC (cod g n i al p c) (codM g n i al p) c := by
    intro c
    unfold cod codM
    by_cases x : i = 4
    · rw [if_pos x, if_pos x]
      exact sum_r 6 p c hp2
    · rw [if_neg x, if_neg x]
      exact test_r 6 p c hp2
  have hqn : q ≤ n := sv_le (cod_ok (i := i) (al := al) p c hp2).1 e
  have h0 := hr (0, c.2)
  have h1 := hr c
  cases em9 : codM g n i al p with
  | inl r =>
    rw [em9] at h1
    have h1' : (cod g n i al p c).1 = .inl r := h1
    rw [h1'] at e
    cases e
  | inr z =>
    rw [em9] at h0 h1
    obtain ⟨q2, L⟩ := z
    have h1' : cod g n i al p c = (.inr q2, ems c (L.map toC)) := h1
    have h0' : cod g n i al p (0, c.2) = (.inr q2, ems (0, c.2) (L.map toC)) := h0
    have eq2 : q2 = q := by
      rw [h1'] at e
      cases e
      rfl
    subst eq2
    have hG0 := cod_G (i := i) (al := al) hn p (0, c.2) hp2 (Int.le_refl 0) (by show (0 : Int) ≤ (p : Int); omega) q2 (by rw [h0'])
    rw [h0'] at hG0
    have hl0 := ems_n (L.map toC) (0, c.2) (by show (0 : Int) ≤ 1600; decide)
    rw [List.length_map] at hl0
    have hG0' : (0 : Int) < (ems (0, c.2) (L.map toC)).1 ∧ (ems (0, c.2) (L.map toC)).1 ≤ 0 + ((q2 : Int) - (p : Int)) := hG0
    have hl0' : (ems (0, c.2) (L.map toC)).1 = min ((0 : Int) + (L.length : Int)) 1600 := hl0
    have hlen : (L.length : Int) ≤ (q2 : Int) - (p : Int) := by omega
    have hlen0 : 0 < L.length := by omega
    have hat := ems_at (L.map toC) c hc (by rw [List.length_map]; omega)
    rw [List.length_map] at hat
    have hn2 := ems_n (L.map toC) c (by omega)
    rw [List.length_map] at hn2
    refine ⟨L, rfl, hqn, hlen0, by omega, ?_, fun j hj => ?_, fun j hj => ?_⟩
    · rw [h1', hn2]
      omega
    · rw [h1']
      show (ems c (L.map toC)).2 (c.1.toNat + j) = _
      rw [hat.1 j hj, gd_mp L j hj]
    · rw [h1']
      exact hat.2 j hj
theorem codM_gT {g : Nat → Int} {n p : Nat} {i al : Int} {z : Nat × List Int} (x : ¬ i = 4) (h : codM g n i al p = .inr z) : cdG true al (some z.2) := by
  unfold codM at h
  rw [if_neg x] at h
  exact ⟨3 * 6 + 6, by decide, gd_mTest 6 p z.1 z.2 h⟩
theorem codM_gS {g : Nat → Int} {n p : Nat} {i al : Int} {z : Nat × List Int} (x : i = 4) (h : codM g n i al p = .inr z) : cdG false al (some z.2) := by
  unfold codM at h
  rw [if_pos x] at h
  exact ⟨3 * 6 + 3, by decide, gd_mSum 6 p z.1 z.2 h⟩
/-- a record within its bounds -/
def prI (pr : PR) (nk nw : Nat) : Prop := (pr.1.length = nk ∧ pr.2.1.length = nw ∧ nk ≤ 6 ∧ nw ≤ 12) ∧ (∀ j, j < nk → (0 ≤ (pr.1.getD j (0, 0, 0)).1 ∧ (pr.1.getD j (0, 0, 0)).1 ≤ 99) ∧ (1 ≤ (pr.1.getD j (0, 0, 0)).2.1 ∧ (pr.1.getD j (0, 0, 0)).2.1 ≤ 20) ∧ (0 ≤ (pr.1.getD j (0, 0, 0)).2.2 ∧ (pr.1.getD j (0, 0, 0)).2.2 ≤ 9)) ∧ (∀ w, w < nw → (0 ≤ (pr.2.1.getD w (0, 0)).1 ∧ (pr.2.1.getD w (0, 0)).1 < (nk : Int)) ∧ (0 ≤ (pr.2.1.getD w (0, 0)).2 ∧ (pr.2.1.getD w (0, 0)).2 < 200)) ∧ (cdG true 7 pr.2.2.1 ∧ cdG true 507 pr.2.2.2.1 ∧ cdG false 123 pr.2.2.2.2.1) ∧ (0 ≤ pr.2.2.2.2.2 ∧ pr.2.2.2.2.2 ≤ 100)
def cdS (code spans : Nat → Int) (size : Int) (k : Nat) (o : Option (List Int)) : Prop := match o with
  | none => spans (k + 1) ≤ spans k
  | some L => ∃ i : Nat, spans k = (i : Int) ∧ spans (k + 1) = (i : Int) + (L.length : Int) ∧ (i : Int) + (L.length : Int) ≤ size ∧ ∀ j, j < L.length → code (i + j) = toC (L.getD j 0)
theorem cdS_X {code spans : Nat → Int} {size : Int} {k : Nat} {o : Option (List Int)} (h : cdS code spans size k o) (hs : size ≤ 1600) : cdX code spans k o := by
  cases o with
  | none => exact h
  | some L =>
    obtain ⟨i, h1, h2, h3, h4⟩ := h
    exact ⟨i, h1, h2, by omega, h4⟩
theorem cdS_w {code code2 spans spans2 : Nat → Int} {size size2 : Int} {k : Nat} {o : Option (List Int)} (h : cdS code spans size k o) (hs : size ≤ size2) (h0 : 0 ≤ size) (h1 : spans2 k = spans k) (h2 : spans2 (k + 1) = spans (k + 1)) (hc : ∀ j, j < size.toNat → code2 j = code j) : cdS code2 spans2 size2 k o := by
  cases o with
  | none =>
    show spans2 (k + 1) ≤ spans2 k
    rw [h1, h2]
    exact h
  | some L =>
    obtain ⟨i, a1, a2, a3, a4⟩ := h
    refine ⟨i, by rw [h1, a1], by rw [h2, a2], by omega, fun j hj => ?_⟩
    rw [hc (i + j) (by omega)]
    exact a4 j hj
/-- the class's rows hold it -/
def prX (pr : PR) (comers spans calm pace trusts kindOf comesAt code : Nat → Int) (size away : Int) : Prop := (∀ j, j < pr.1.length → calm j = (pr.1.getD j (0, 0, 0)).1 ∧ pace j = (pr.1.getD j (0, 0, 0)).2.1 ∧ trusts j = (pr.1.getD j (0, 0, 0)).2.2) ∧ (∀ w, w < pr.2.1.length → kindOf w = (pr.2.1.getD w (0, 0)).1 ∧ comesAt w = (pr.2.1.getD w (0, 0)).2) ∧ cmB pr.2.1.length (fun w => (pr.2.1.getD w (0, 0)).2) comers ∧ (cdS code spans size 0 pr.2.2.1 ∧ cdS code spans size 2 pr.2.2.2.1 ∧ cdS code spans size 4 pr.2.2.2.2.1) ∧ away = pr.2.2.2.2.2 ∧ 0 ≤ size
section PX
variable {pr : PR} {nk nw : Nat} {A2 A3 A6 A7 A8 A9 A10 cd : Nat → Int} {sz aw : Int}
theorem px_k {a b c : Int} (hI : prI pr nk nw) (hX : prX pr A2 A3 A6 A7 A8 A9 A10 cd sz aw) (hl : nk < 6) (hb : (0 ≤ a ∧ a ≤ 99) ∧ (1 ≤ b ∧ b ≤ 20) ∧ (0 ≤ c ∧ c ≤ 9)) : prI (pr.1 ++ [(a, b, c)], pr.2) (nk + 1) nw ∧ prX (pr.1 ++ [(a, b, c)], pr.2) A2 A3 (lf_up A6 (nk : Int) a) (lf_up A7 (nk : Int) b) (lf_up A8 (nk : Int) c) A9 A10 cd sz aw := by
  obtain ⟨⟨i1, i2, i3, i4⟩, i5, i6, i7⟩ := hI
  obtain ⟨x1, x2⟩ := hX
  have el : (pr.1 ++ [(a, b, c)]).length = nk + 1 := by
    rw [List.length_append, i1]
    rfl
  refine ⟨⟨⟨el, i2, by omega, i4⟩, fun j hj => ?_, fun w hw => ?_, i7⟩, fun j hj => ?_, x2⟩
  · show (0 ≤ ((pr.1 ++ [(a, b, c)]).getD j (0, 0, 0)).1 ∧ _) ∧ _
    rw [gd_ap, i1]
    by_cases q : j < nk
    · rw [if_pos q]
      exact i5 j q
    · rw [if_neg q, if_pos (show j = nk from by omega)]
      exact hb
  · have := i6 w hw
    exact ⟨⟨this.1.1, Int.lt_of_lt_of_le this.1.2 (show (nk : Int) ≤ ((nk + 1 : Nat) : Int) from by omega)⟩, this.2⟩
  · have hj' : j < nk + 1 := by
      rw [← el]
      exact hj
    show _ = ((pr.1 ++ [(a, b, c)]).getD j (0, 0, 0)).1 ∧ _ = ((pr.1 ++ [(a, b, c)]).getD j (0, 0, 0)).2.1 ∧ _ = ((pr.1 ++ [(a, b, c)]).getD j (0, 0, 0)).2.2
    rw [gd_ap, i1]
    by_cases q : j < nk
    · rw [if_pos q, lf_up_o (by omega), lf_up_o (by omega), lf_up_o (by omega)]
      exact x1 j (by omega)
    · rw [if_neg q, if_pos (show j = nk from by omega), lf_up_y (by omega), lf_up_y (by omega), lf_up_y (by omega)]
      exact ⟨rfl, rfl, rfl⟩
theorem px_c {a b : Int} (hI : prI pr nk nw) (hX : prX pr A2 A3 A6 A7 A8 A9 A10 cd sz aw) (hl : nw < 12) (hb : (0 ≤ a ∧ a < (nk : Int)) ∧ (0 ≤ b ∧ b < 200)) : prI (pr.1, pr.2.1 ++ [(a, b)], pr.2.2) nk (nw + 1) ∧ prX (pr.1, pr.2.1 ++ [(a, b)], pr.2.2) (lf_up A2 b (lf_o lf_ior (A2 (Int.toNat b)) (lf_o lf_ishl (1 : Int) (nw : Int)))) A3 A6 A7 A8 (lf_up A9 (nw : Int) a) (lf_up A10 (nw : Int) b) cd sz aw := by
  obtain ⟨⟨i1, i2, i3, i4⟩, i5, i6, i7⟩ := hI
  obtain ⟨x1, x2, x3, x4⟩ := hX
  have el : (pr.2.1 ++ [(a, b)]).length = nw + 1 := by
    rw [List.length_append, i2]
    rfl
  have hbt : ∀ w, (pr.2.1 ++ [(a, b)]).getD w (0, 0) = if w < nw then pr.2.1.getD w (0, 0) else if w = nw then (a, b) else (0, 0) := by
    intro w
    rw [gd_ap, i2]
  refine ⟨⟨⟨i1, el, i3, by omega⟩, i5, fun w hw => ?_, i7⟩, x1, fun w hw => ?_, fun s => ?_, x4⟩
  · show (0 ≤ ((pr.2.1 ++ [(a, b)]).getD w (0, 0)).1 ∧ _) ∧ _
    rw [hbt]
    by_cases q : w < nw
    · rw [if_pos q]
      exact i6 w q
    · rw [if_neg q, if_pos (show w = nw from by omega)]
      exact hb
  · have hw' : w < nw + 1 := by
      rw [← el]
      exact hw
    show _ = ((pr.2.1 ++ [(a, b)]).getD w (0, 0)).1 ∧ _ = ((pr.2.1 ++ [(a, b)]).getD w (0, 0)).2
    rw [hbt]
    by_cases q : w < nw
    · rw [if_pos q, lf_up_o (by omega), lf_up_o (by omega)]
      exact x2 w (by omega)
    · rw [if_neg q, if_pos (show w = nw from by omega), lf_up_y (by omega), lf_up_y (by omega)]
      exact ⟨rfl, rfl⟩
  · have hx := x3 s
    rw [i2] at hx
    show rg _ ∧ ∀ w, w < 12 → bt _ w = (decide (w < (pr.2.1 ++ [(a, b)]).length) && decide (((pr.2.1 ++ [(a, b)]).getD w (0, 0)).2 = (s : Int)))
    rw [el]
    unfold F_X4_comersIn F_X4_comersIn_20 at hx ⊢
    rw [if_neg (show ¬ (s : Int) < 0 from by omega)] at hx ⊢
    by_cases q : (200 : Int) ≤ (s : Int)
    · rw [if_pos q] at hx ⊢
      refine ⟨rg_0, fun w hw => ?_⟩
      rw [bt_0, hbt]
      by_cases q2 : w < nw
      · have := (i6 w q2).2
        rw [if_pos q2, decide_eq_false (show ¬ (pr.2.1.getD w (0, 0)).2 = (s : Int) from by omega), Bool.and_false]
      · rw [if_neg q2]
        by_cases q3 : w = nw
        · rw [if_pos q3, decide_eq_false (show ¬ b = (s : Int) from by omega), Bool.and_false]
        · rw [decide_eq_false (show ¬ w < nw + 1 from by omega), Bool.false_and]
    · rw [if_neg q] at hx ⊢
      rw [Int.toNat_natCast] at hx ⊢
      have hsh := rg_sh (w := nw) (by omega)
      by_cases q4 : b = (s : Int)
      · rw [lf_up_y (show s = b.toNat from by omega), show b.toNat = s from by omega]
        have hor := rg_or hx.1 hsh.1
        refine ⟨hor.1, fun w hw => ?_⟩
        rw [hor.2, hx.2 w hw, hsh.2, hbt]
        by_cases q2 : w < nw
        · rw [if_pos q2, decide_eq_true q2, decide_eq_true (show w < nw + 1 from by omega), decide_eq_false (show ¬ nw = w from by omega), Bool.or_false]
        · rw [if_neg q2, decide_eq_false q2, Bool.false_and, Bool.false_or]
          by_cases q3 : w = nw
          · rw [if_pos q3, decide_eq_true q3.symm, decide_eq_true (show w < nw + 1 from by omega), decide_eq_true q4]
            rfl
          · rw [decide_eq_false (show ¬ nw = w from fun r => q3 r.symm), decide_eq_false (show ¬ w < nw + 1 from by omega), Bool.false_and]
      · rw [lf_up_o (show ¬ s = b.toNat from by omega)]
        refine ⟨hx.1, fun w hw => ?_⟩
        rw [hx.2 w hw, hbt]
        by_cases q2 : w < nw
        · rw [if_pos q2, decide_eq_true q2, decide_eq_true (show w < nw + 1 from by omega)]
        · rw [if_neg q2, decide_eq_false q2, Bool.false_and]
          by_cases q3 : w = nw
          · rw [if_pos q3, decide_eq_false q4, Bool.and_false]
          · rw [decide_eq_false (show ¬ w < nw + 1 from by omega), Bool.false_and]
theorem px_5 {v : Int} (hI : prI pr nk nw) (hX : prX pr A2 A3 A6 A7 A8 A9 A10 cd sz aw) (hb : 0 ≤ v ∧ v ≤ 100) : prI (pr.1, pr.2.1, pr.2.2.1, pr.2.2.2.1, pr.2.2.2.2.1, v) nk nw ∧ prX (pr.1, pr.2.1, pr.2.2.1, pr.2.2.2.1, pr.2.2.2.2.1, v) A2 A3 A6 A7 A8 A9 A10 cd sz v := by
  obtain ⟨i1, i2, i3, i4, i5⟩ := hI
  obtain ⟨x1, x2, x3, x4, x5, x6⟩ := hX
  exact ⟨⟨i1, i2, i3, i4, hb⟩, x1, x2, x3, x4, rfl, x6⟩
theorem cdS_n {cd2 : Nat → Int} {L : List Int} {k : Nat} (hs : 0 ≤ sz) (hc : ∀ j, j < L.length → cd2 (sz.toNat + j) = toC (L.getD j 0)) : cdS cd2 (lf_up (lf_up A3 (k : Int) sz) ((k : Int) + 1) (sz + (L.length : Int))) (sz + (L.length : Int)) k (some L) := by
  refine ⟨sz.toNat, ?_, ?_, by omega, hc⟩
  · rw [lf_up_o (by omega), lf_up_y (by omega)]
    omega
  · rw [lf_up_y (by omega)]
    omega
theorem px_0 {cd2 : Nat → Int} {L : List Int} (hI : prI pr nk nw) (hX : prX pr A2 A3 A6 A7 A8 A9 A10 cd sz aw) (hg : cdG true 7 (some L)) (hc : ∀ j, j < L.length → cd2 (sz.toNat + j) = toC (L.getD j 0)) (hc2 : ∀ j, j < sz.toNat → cd2 j = cd j) : prI (pr.1, pr.2.1, some L, pr.2.2.2) nk nw ∧ prX (pr.1, pr.2.1, some L, pr.2.2.2) A2 (lf_up (lf_up A3 0 sz) (0 + 1) (sz + (L.length : Int))) A6 A7 A8 A9 A10 cd2 (sz + (L.length : Int)) aw := by
  obtain ⟨i1, i2, i3, i4, i5⟩ := hI
  obtain ⟨x1, x2, x3, x4, x5, x6⟩ := hX
  exact ⟨⟨i1, i2, i3, ⟨hg, i4.2⟩, i5⟩, x1, x2, x3, ⟨cdS_n (k := 0) x6 hc, cdS_w x4.2.1 (by omega) x6 rfl rfl hc2, cdS_w x4.2.2 (by omega) x6 rfl rfl hc2⟩, x5, by show 0 ≤ sz + (L.length : Int); omega⟩
theorem px_2 {cd2 : Nat → Int} {L : List Int} (hI : prI pr nk nw) (hX : prX pr A2 A3 A6 A7 A8 A9 A10 cd sz aw) (hg : cdG true 507 (some L)) (hc : ∀ j, j < L.length → cd2 (sz.toNat + j) = toC (L.getD j 0)) (hc2 : ∀ j, j < sz.toNat → cd2 j = cd j) : prI (pr.1, pr.2.1, pr.2.2.1, some L, pr.2.2.2.2) nk nw ∧ prX (pr.1, pr.2.1, pr.2.2.1, some L, pr.2.2.2.2) A2 (lf_up (lf_up A3 2 sz) (2 + 1) (sz + (L.length : Int))) A6 A7 A8 A9 A10 cd2 (sz + (L.length : Int)) aw := by
  obtain ⟨i1, i2, i3, i4, i5⟩ := hI
  obtain ⟨x1, x2, x3, x4, x5, x6⟩ := hX
  exact ⟨⟨i1, i2, i3, ⟨i4.1, hg, i4.2.2⟩, i5⟩, x1, x2, x3, ⟨cdS_w x4.1 (by omega) x6 rfl rfl hc2, cdS_n (k := 2) x6 hc, cdS_w x4.2.2 (by omega) x6 rfl rfl hc2⟩, x5, by show 0 ≤ sz + (L.length : Int); omega⟩
theorem px_4 {cd2 : Nat → Int} {L : List Int} (hI : prI pr nk nw) (hX : prX pr A2 A3 A6 A7 A8 A9 A10 cd sz aw) (hg : cdG false 123 (some L)) (hc : ∀ j, j < L.length → cd2 (sz.toNat + j) = toC (L.getD j 0)) (hc2 : ∀ j, j < sz.toNat → cd2 j = cd j) : prI (pr.1, pr.2.1, pr.2.2.1, pr.2.2.2.1, some L, pr.2.2.2.2.2) nk nw ∧ prX (pr.1, pr.2.1, pr.2.2.1, pr.2.2.2.1, some L, pr.2.2.2.2.2) A2 (lf_up (lf_up A3 4 sz) (4 + 1) (sz + (L.length : Int))) A6 A7 A8 A9 A10 cd2 (sz + (L.length : Int)) aw := by
  obtain ⟨i1, i2, i3, i4, i5⟩ := hI
  obtain ⟨x1, x2, x3, x4, x5, x6⟩ := hX
  exact ⟨⟨i1, i2, i3, ⟨i4.1, i4.2.1, hg⟩, i5⟩, x1, x2, x3, ⟨cdS_w x4.1 (by omega) x6 rfl rfl hc2, cdS_w x4.2.1 (by omega) x6 rfl rfl hc2, cdS_n (k := 4) x6 hc⟩, x5, by show 0 ≤ sz + (L.length : Int); omega⟩
end PX
/-- what the output holds -/
def tellP (o : RO) (r : Sum (Int × Int) (Nat × PL)) (pr : PR) : Prop := match r with
  | .inl _ => True
  | .inr x => prI pr x.2.1.length x.2.2.1.length ∧ prX pr o.2.2.2.2.2.2.2.2.2.2.2.2.2.2.2.2.1 o.2.2.2.2.2.2.2.2.2.2.2.2.2.2.2.2.2.1 o.2.2.2.2.2.2.2.2.2.2.2.2.2.2.2.2.2.2.2.1 o.2.2.2.2.2.2.2.2.2.2.2.2.2.2.2.2.2.2.2.2.1 o.2.2.2.2.2.2.2.2.2.2.2.2.2.2.2.2.2.2.2.2.2.1 o.2.2.2.2.2.2.2.2.2.2.2.2.2.2.2.2.2.2.2.2.2.2.1 o.2.2.2.2.2.2.2.2.2.2.2.2.2.2.2.2.2.2.2.2.2.2.2.1 o.2.2.2.2.2.2.2.2.2.2.2.2.2.2.2.2.2.2.2.2.2.2.2.2 o.2.2.2.2.2.2.2.2.2.2.2.2.2.2.2.1 o.2.2.2.2.2.2.2.2.2.2.2.1 ∧ o.2.2.2.2.2.2.2.2.2.2.2.2.2.2.2.1 ≤ 1600
theorem rp_loop {g : Nat → Int} {n : Nat} {cy gr ru le : Int} (hn : n ≤ 1600) : ∀ (f k p : Nat) (st : PL) (pr : PR) (al aw : Int) (A2 A3 A5 A6 A7 A8 A9 A10 : Nat → Int), p ≤ n → k ≤ 80 → 81 ≤ k + f → nms A5 st.1 st.2.1 → tf A3 st.2.2.1 st.2.2.2.1 st.2.2.2.2.1 → 0 ≤ st.2.2.2.2.2.1 → st.2.2.2.2.2.1 ≤ (p : Int) → prI pr st.1.length st.2.1.length → prX pr A2 A3 A6 A7 A8 A9 A10 st.2.2.2.2.2.2 st.2.2.2.2.2.1 aw → tellP (F_X5_readCrossing_18 g f (n : Int) (tx_a g n p : Int) (tx_e g n p : Int) (tx_k g n p : Int) (0 : Int) (-1 : Int) cy gr ru le A2 A3 (k : Int) al aw (st.1.length : Int) (st.2.1.length : Int) st.2.2.2.2.2.1 A5 A6 A7 A8 A9 A10 st.2.2.2.2.2.2) (rcL g n f k p st) (rcP g n f k p st pr) := by
  intro f
  induction f with
  | zero => intro k p st pr al aw A2 A3 A5 A6 A7 A8 A9 A10 h1 h2 h3; omega
  | succ f ih =>
    intro k p st pr al aw A2 A3 A5 A6 A7 A8 A9 A10 h1 h2 h3 h4 h5 h6 h7 hI hX
    show tellP (F_X5_readCrossing_18b g (F_X5_readCrossing_18 g f) (n : Int) (tx_a g n p : Int) (tx_e g n p : Int) (tx_k g n p : Int) (0 : Int) (-1 : Int) cy gr ru le A2 A3 (k : Int) al aw (st.1.length : Int) (st.2.1.length : Int) st.2.2.2.2.2.1 A5 A6 A7 A8 A9 A10 st.2.2.2.2.2.2) _ _
    unfold F_X5_readCrossing_18b rcL rcP
    by_cases k0 : tx_k g n p = 0
    · rw [if_pos (by omega), if_pos k0, if_pos k0]
      unfold F_X5_readCrossing_158 F_X5_readCrossing_174
      rw [if_pos (by omega)]
      exact ⟨hI, hX, by show st.2.2.2.2.2.1 ≤ 1600; omega⟩
    · rw [if_neg (by omega), if_neg k0, if_neg k0]
      by_cases k1 : 80 ≤ k
      · rw [if_pos (by omega), if_pos k1, if_pos k1]
        unfold F_X5_readCrossing_158 F_X5_readCrossing_174
        rw [if_neg (by omega), cl_fail0, lf_p_e]
        exact True.intro
      · rw [if_neg (by omega), if_neg k1, if_neg k1, lf_b_e, cl_w_0, wl_c]
        have hlt : p < tx_e g n p := tx_e_gt' k0
        have hle := tx_e_le (f := g) h1
        have key : ∀ (s : ST) (st2 : PL) (pr2 : PR) (ki wa : Int) (d : CD) (al2 aw2 : Int) (B2 B3 B5 B6 B7 B8 B9 B10 : Nat → Int), sv n s → (∀ q, s = .inr q → p ≤ q ∧ ki = (st2.1.length : Int) ∧ wa = (st2.2.1.length : Int) ∧ d = st2.2.2.2.2.2 ∧ nms B5 st2.1 st2.2.1 ∧ tf B3 st2.2.2.1 st2.2.2.2.1 st2.2.2.2.2.1 ∧ 0 ≤ d.1 ∧ d.1 ≤ (q : Int) ∧ prI pr2 st2.1.length st2.2.1.length ∧ prX pr2 B2 B3 B6 B7 B8 B9 B10 d.2 d.1 aw2) → tellP (F_X5_readCrossing_146 g (n : Int) cy gr ru le (k : Int) (F_X5_readCrossing_18 g f) (cst g n s).1 (cst g n s).2.1 (cst g n s).2.2.1 (cst g n s).2.2.2.1 (cst g n s).2.2.2.2 ki B5 B6 B7 B8 wa B2 B9 B10 al2 d.1 B3 d.2 aw2) (match sb s (sp_need g n 59) with
            | .inl q => .inl q
            | .inr p2 => rcL g n f (k + 1) p2 st2) (match sb s (sp_need g n 59) with
            | .inl _ => pr
            | .inr p2 => rcP g n f (k + 1) p2 st2 pr2) := by
          intro s st2 pr2 ki wa d al2 aw2 B2 B3 B5 B6 B7 B8 B9 B10 hv hx
          rw [rc_146 hn hv]
          have hv2 : sv n (sb s (sp_need g n 59)) := sp_need_sv hv
          cases e : sb s (sp_need g n 59) with
          | inl q => exact True.intro
          | inr p2 =>
            rw [e] at hv2
            obtain ⟨p1, es, e2⟩ := sb_in e
            obtain ⟨x1, x2, x3, x4, x5, x6, x7, x8, y9, y10⟩ := hx p1 es
            have x9 := sp_need_gt e2
            subst x2
            subst x3
            subst x4
            have := ih (k + 1) p2 st2 pr2 al2 aw2 B2 B3 B5 B6 B7 B8 B9 B10 hv2 (by omega) (by omega) x5 x6 x7 (by omega) y9 y10
            rw [show ((k + 1 : Nat) : Int) = (k : Int) + 1 from by omega] at this
            exact this
        obtain ⟨Ks, Ws, t0, t1, t2, c⟩ := st
        have h4 : nms A5 Ks Ws := h4
        have h5 : tf A3 t0 t1 t2 := h5
        have h6 : 0 ≤ c.1 := h6
        have h7 : c.1 ≤ (p : Int) := h7
        have hI : prI pr Ks.length Ws.length := hI
        have hX : prX pr A2 A3 A6 A7 A8 A9 A10 c.2 c.1 aw := hX
        show tellP _ (match sb (sp_st g n p (Ks, Ws, t0, t1, t2, c)).1 (sp_need g n 59) with
            | .inl q => .inl q
            | .inr p2 => rcL g n f (k + 1) p2 (sp_st g n p (Ks, Ws, t0, t1, t2, c)).2) (match sb (sp_st g n p (Ks, Ws, t0, t1, t2, c)).1 (sp_need g n 59) with
            | .inl _ => pr
            | .inr p2 => rcP g n f (k + 1) p2 (sp_st g n p (Ks, Ws, t0, t1, t2, c)).2 (sp_px g n p (Ks, Ws, t0, t1, t2, c) pr))
        by_cases w0 : wl g n ws_0 p = 0
        · rw [if_pos w0]
          by_cases l0 : Ks.length < 6
          · have e9 : sp_st g n p (Ks, Ws, t0, t1, t2, c) = ((sp_k3 g n Ks Ws p).2, (Ks ++ [wd g n (tx_e g n p)], Ws, t0, t1, t2, c)) := by
              unfold sp_st
              rw [if_pos w0]
              exact if_pos l0
            rw [e9]
            show tellP (lf_p (F_X5_kindStatement g (n : Int) (tx_a g n p : Int) (tx_e g n p : Int) (Ks.length : Int) A6 A7 A8 (Ws.length : Int) A5 (0 : Int) (-1 : Int)) _) _ _
            rw [cl_kind hn h1 h4 l0, lf_pa, lf_p_e, lf_p_e, lf_p_e, lf_p_e, lf_p_e, lf_p_e, lf_p_e, lf_p_e]
            refine key (sp_k3 g n Ks Ws p).2 (Ks ++ [wd g n (tx_e g n p)], Ws, t0, t1, t2, c) _ _ _ c _ _ _ _ _ _ _ _ _ _ (sp_k3_v Ks Ws h1) (fun q e => ?_)
            obtain ⟨y1, y2, p1, y3⟩ := sp_k3_gt e
            have ex : sp_px g n p (Ks, Ws, t0, t1, t2, c) pr = (pr.1 ++ [((sp_k1 g n Ks Ws p).1, (sp_k2 g n Ks Ws p).1, (sp_k3 g n Ks Ws p).1)], pr.2) := by
              unfold sp_px
              exact if_pos w0
            have hpx := px_k hI hX l0 (k3_b e)
            refine ⟨by omega, ?_, rfl, rfl, ?_, h5, h6, by omega, by rw [ex]; show prI _ (Ks ++ [_]).length _ ∧ _; rw [List.length_append]; exact hpx⟩
            · show (Ks.length : Int) + 1 = ((Ks ++ [wd g n (tx_e g n p)]).length : Int)
              rw [List.length_append]
              show (Ks.length : Int) + 1 = ((Ks.length + 1 : Nat) : Int)
              omega
            · show nms (nN A5 Ks.length (wd g n (tx_e g n p)) (sp_k0 g n Ks Ws p)) (Ks ++ [wd g n (tx_e g n p)]) Ws
              rw [y3]
              exact nms_k1 (isNm_W y2).2 h4 l0
          · have e9 : sp_st g n p (Ks, Ws, t0, t1, t2, c) = (.inl (5, (tx_a g n p : Int)), (Ks, Ws, t0, t1, t2, c)) := by
              unfold sp_st
              rw [if_pos w0]
              exact if_neg l0
            have e8 : (Ks.length : Int) = 6 := by have := h4.2.2.2.2.1; omega
            rw [e9]
            show tellP (lf_p (F_X5_kindStatement g (n : Int) (tx_a g n p : Int) (tx_e g n p : Int) (Ks.length : Int) A6 A7 A8 (Ws.length : Int) A5 (0 : Int) (-1 : Int)) _) _ _
            rw [e8, cl_kind5, lf_pa, lf_p_e, lf_p_e, lf_p_e, lf_p_e, lf_p_e, lf_p_e, lf_p_e, lf_p_e]
            exact key (.inl (5, (tx_a g n p : Int))) (Ks, Ws, t0, t1, t2, c) pr _ _ c _ _ _ _ _ _ _ _ _ _ (sv_l (by decide)) (fun q e => by cases e)
        · rw [if_neg w0]
          by_cases w1 : wl g n ws_0 p = 1
          · rw [if_pos w1]
            by_cases l0 : Ws.length < 12
            · have e9 : sp_st g n p (Ks, Ws, t0, t1, t2, c) = ((sp_c3 g n Ks Ws p).2, (Ks, Ws ++ [wd g n (tx_e g n p)], t0, t1, t2, c)) := by
                unfold sp_st
                rw [if_neg w0, if_pos w1]
                exact if_pos l0
              rw [e9]
              show tellP (lf_p (F_X5_comesStatement g (n : Int) (tx_a g n p : Int) (tx_e g n p : Int) (Ks.length : Int) (Ws.length : Int) A9 A10 A2 A5 (0 : Int) (-1 : Int)) _) _ _
              rw [cl_comes hn h1 h4 l0, lf_pa, lf_p_e, lf_p_e, lf_p_e, lf_p_e, lf_p_e, lf_p_e, lf_p_e, lf_p_e]
              refine key (sp_c3 g n Ks Ws p).2 (Ks, Ws ++ [wd g n (tx_e g n p)], t0, t1, t2, c) _ _ _ c _ _ _ _ _ _ _ _ _ _ (sp_c3_v Ks Ws h1) (fun q e => ?_)
              obtain ⟨y1, y2, p1, y3⟩ := sp_c3_gt e
              have ex : sp_px g n p (Ks, Ws, t0, t1, t2, c) pr = (pr.1, pr.2.1 ++ [((sp_c2 g n Ks Ws p).1, (sp_c3 g n Ks Ws p).1)], pr.2.2) := by
                unfold sp_px
                rw [if_neg w0]
                exact if_pos w1
              have hpx := px_c hI hX l0 (c3_b e)
              refine ⟨by omega, rfl, ?_, rfl, ?_, h5, h6, by omega, by rw [ex]; show prI _ _ (Ws ++ [_]).length ∧ _; rw [List.length_append]; exact hpx⟩
              · show (Ws.length : Int) + 1 = ((Ws ++ [wd g n (tx_e g n p)]).length : Int)
                rw [List.length_append]
                show (Ws.length : Int) + 1 = ((Ws.length + 1 : Nat) : Int)
                omega
              · show nms (nN A5 (6 + Ws.length) (wd g n (tx_e g n p)) (sp_k0 g n Ks Ws p)) Ks (Ws ++ [wd g n (tx_e g n p)])
                rw [y3]
                exact nms_w1 (isNm_W y2).2 h4 l0
            · have e9 : sp_st g n p (Ks, Ws, t0, t1, t2, c) = (.inl (5, (tx_a g n p : Int)), (Ks, Ws, t0, t1, t2, c)) := by
                unfold sp_st
                rw [if_neg w0, if_pos w1]
                exact if_neg l0
              have e8 : (Ws.length : Int) = 12 := by have := h4.2.2.2.2.2; omega
              rw [e9]
              show tellP (lf_p (F_X5_comesStatement g (n : Int) (tx_a g n p : Int) (tx_e g n p : Int) (Ks.length : Int) (Ws.length : Int) A9 A10 A2 A5 (0 : Int) (-1 : Int)) _) _ _
              rw [e8, cl_comes5, lf_pa, lf_p_e, lf_p_e, lf_p_e, lf_p_e, lf_p_e, lf_p_e, lf_p_e, lf_p_e]
              exact key (.inl (5, (tx_a g n p : Int))) (Ks, Ws, t0, t1, t2, c) pr _ _ c _ _ _ _ _ _ _ _ _ _ (sv_l (by decide)) (fun q e => by cases e)
          · rw [if_neg w1]
            by_cases w2 : wl g n ws_0 p = 2
            · rw [if_pos w2]
              cases hb : t0 with
              | true =>
                rw [hb] at h5
                have e9 : sp_st g n p (Ks, Ws, true, t1, t2, c) = (.inl (5, (tx_a g n p : Int)), (Ks, Ws, true, t1, t2, c)) := by
                  unfold sp_st
                  rw [if_neg w0, if_neg w1, if_pos w2]
                  exact if_pos rfl
                rw [e9]
                show tellP (lf_p (F_X5_codeStatement g (n : Int) (tx_a g n p : Int) (tx_e g n p : Int) al c.2 c.1 A3 (0 : Int) (-1 : Int) (0 : Int) (7 : Int)) _) _ _
                rw [cl_code5 (h5.1.mp rfl), lf_p9, lf_p_e, lf_p_e, lf_p_e, lf_p_e, lf_p_e, lf_p_e, lf_p_e]
                exact key (.inl (5, (tx_a g n p : Int))) (Ks, Ws, true, t1, t2, c) pr _ _ c _ _ _ _ _ _ _ _ _ _ (sv_l (by decide)) (fun q e => by cases e)
              | false =>
                rw [hb] at h5
                have e9 : sp_st g n p (Ks, Ws, false, t1, t2, c) = ((cod g n 0 7 (tx_e g n p) c).1, (Ks, Ws, true, t1, t2, (cod g n 0 7 (tx_e g n p) c).2)) := by
                  unfold sp_st
                  rw [if_neg w0, if_neg w1, if_pos w2]
                  exact if_neg (fun r => Bool.noConfusion r)
                rw [e9]
                have hs : A3 (Int.toNat ((0 : Int) + 1)) ≤ A3 (Int.toNat (0 : Int)) := Classical.byContradiction (fun r => Bool.noConfusion (h5.1.mpr r))
                obtain ⟨d, e1, e2⟩ := cl_code1 (g := g) (c := c) (al0 := al) (al := 7) (i := 0) hn h1 hs
                show tellP (lf_p (F_X5_codeStatement g (n : Int) (tx_a g n p : Int) (tx_e g n p : Int) al c.2 c.1 A3 (0 : Int) (-1 : Int) (0 : Int) (7 : Int)) _) _ _
                rw [e1, lf_p9, lf_p_e, lf_p_e, lf_p_e, lf_p_e, lf_p_e, lf_p_e, lf_p_e]
                refine key (cod g n 0 7 (tx_e g n p) c).1 (Ks, Ws, true, t1, t2, (cod g n 0 7 (tx_e g n p) c).2) _ _ _ d _ _ _ _ _ _ _ _ _ _ (cod_ok _ c hle).1 (fun q e => ?_)
                have y1 := (cod_ok _ c hle).2 q e
                have y2 := cod_G hn _ c hle h6 (by omega) q e
                have y3 := e2 q e
                obtain ⟨L, m1, m2, m3, m4, m5, m6, m7⟩ := cod_M (i := 0) (al := 7) hn (by omega) hle h6 (by omega) e
                have ex : sp_px g n p (Ks, Ws, false, t1, t2, c) pr = (pr.1, pr.2.1, some L, pr.2.2.2) := by
                  have e7 : lstM (codM g n 0 7 (tx_e g n p)) = L := by
                    rw [m1]
                    rfl
                  unfold sp_px
                  rw [if_neg w0, if_neg w1, if_pos w2, e7]
                have hpx := px_0 hI hX (codM_gT (by decide) m1) m6 m7
                refine ⟨by omega, rfl, rfl, y3, h4, tf_0 h5 ?_, ?_, ?_, ?_⟩
                · rw [y3]; exact y2.1
                · rw [y3]; omega
                · rw [y3]; omega
                · rw [ex, y3, m5]; exact hpx
            · rw [if_neg w2]
              by_cases w3 : wl g n ws_0 p = 3
              · rw [if_pos w3]
                cases hb : t1 with
                | true =>
                  rw [hb] at h5
                  have e9 : sp_st g n p (Ks, Ws, t0, true, t2, c) = (.inl (5, (tx_a g n p : Int)), (Ks, Ws, t0, true, t2, c)) := by
                    unfold sp_st
                    rw [if_neg w0, if_neg w1, if_neg w2, if_pos w3]
                    exact if_pos rfl
                  rw [e9]
                  show tellP (lf_p (F_X5_codeStatement g (n : Int) (tx_a g n p : Int) (tx_e g n p : Int) al c.2 c.1 A3 (0 : Int) (-1 : Int) (2 : Int) (507 : Int)) _) _ _
                  rw [cl_code5 (h5.2.1.mp rfl), lf_p9, lf_p_e, lf_p_e, lf_p_e, lf_p_e, lf_p_e, lf_p_e, lf_p_e]
                  exact key (.inl (5, (tx_a g n p : Int))) (Ks, Ws, t0, true, t2, c) pr _ _ c _ _ _ _ _ _ _ _ _ _ (sv_l (by decide)) (fun q e => by cases e)
                | false =>
                  rw [hb] at h5
                  have e9 : sp_st g n p (Ks, Ws, t0, false, t2, c) = ((cod g n 2 507 (tx_e g n p) c).1, (Ks, Ws, t0, true, t2, (cod g n 2 507 (tx_e g n p) c).2)) := by
                    unfold sp_st
                    rw [if_neg w0, if_neg w1, if_neg w2, if_pos w3]
                    exact if_neg (fun r => Bool.noConfusion r)
                  rw [e9]
                  have hs : A3 (Int.toNat ((2 : Int) + 1)) ≤ A3 (Int.toNat (2 : Int)) := Classical.byContradiction (fun r => Bool.noConfusion (h5.2.1.mpr r))
                  obtain ⟨d, e1, e2⟩ := cl_code1 (g := g) (c := c) (al0 := al) (al := 507) (i := 2) hn h1 hs
                  show tellP (lf_p (F_X5_codeStatement g (n : Int) (tx_a g n p : Int) (tx_e g n p : Int) al c.2 c.1 A3 (0 : Int) (-1 : Int) (2 : Int) (507 : Int)) _) _ _
                  rw [e1, lf_p9, lf_p_e, lf_p_e, lf_p_e, lf_p_e, lf_p_e, lf_p_e, lf_p_e]
                  refine key (cod g n 2 507 (tx_e g n p) c).1 (Ks, Ws, t0, true, t2, (cod g n 2 507 (tx_e g n p) c).2) _ _ _ d _ _ _ _ _ _ _ _ _ _ (cod_ok _ c hle).1 (fun q e => ?_)
                  have y1 := (cod_ok _ c hle).2 q e
                  have y2 := cod_G hn _ c hle h6 (by omega) q e
                  have y3 := e2 q e
                  obtain ⟨L, m1, m2, m3, m4, m5, m6, m7⟩ := cod_M (i := 2) (al := 507) hn (by omega) hle h6 (by omega) e
                  have ex : sp_px g n p (Ks, Ws, t0, false, t2, c) pr = (pr.1, pr.2.1, pr.2.2.1, some L, pr.2.2.2.2) := by
                    have e7 : lstM (codM g n 2 507 (tx_e g n p)) = L := by
                      rw [m1]
                      rfl
                    unfold sp_px
                    rw [if_neg w0, if_neg w1, if_neg w2, if_pos w3, e7]
                  have hpx := px_2 hI hX (codM_gT (by decide) m1) m6 m7
                  refine ⟨by omega, rfl, rfl, y3, h4, tf_1 h5 ?_, ?_, ?_, ?_⟩
                  · rw [y3]; exact y2.1
                  · rw [y3]; omega
                  · rw [y3]; omega
                  · rw [ex, y3, m5]; exact hpx
              · rw [if_neg w3]
                by_cases w4 : wl g n ws_0 p = 4
                · rw [if_pos w4]
                  cases hb : t2 with
                  | true =>
                    rw [hb] at h5
                    have e9 : sp_st g n p (Ks, Ws, t0, t1, true, c) = (.inl (5, (tx_a g n p : Int)), (Ks, Ws, t0, t1, true, c)) := by
                      unfold sp_st
                      rw [if_neg w0, if_neg w1, if_neg w2, if_neg w3, if_pos w4]
                      exact if_pos rfl
                    rw [e9]
                    show tellP (lf_p (F_X5_codeStatement g (n : Int) (tx_a g n p : Int) (tx_e g n p : Int) al c.2 c.1 A3 (0 : Int) (-1 : Int) (4 : Int) (123 : Int)) _) _ _
                    rw [cl_code5 (h5.2.2.mp rfl), lf_p9, lf_p_e, lf_p_e, lf_p_e, lf_p_e, lf_p_e, lf_p_e, lf_p_e]
                    exact key (.inl (5, (tx_a g n p : Int))) (Ks, Ws, t0, t1, true, c) pr _ _ c _ _ _ _ _ _ _ _ _ _ (sv_l (by decide)) (fun q e => by cases e)
                  | false =>
                    rw [hb] at h5
                    have e9 : sp_st g n p (Ks, Ws, t0, t1, false, c) = ((cod g n 4 123 (tx_e g n p) c).1, (Ks, Ws, t0, t1, true, (cod g n 4 123 (tx_e g n p) c).2)) := by
                      unfold sp_st
                      rw [if_neg w0, if_neg w1, if_neg w2, if_neg w3, if_pos w4]
                      exact if_neg (fun r => Bool.noConfusion r)
                    rw [e9]
                    have hs : A3 (Int.toNat ((4 : Int) + 1)) ≤ A3 (Int.toNat (4 : Int)) := Classical.byContradiction (fun r => Bool.noConfusion (h5.2.2.mpr r))
                    obtain ⟨d, e1, e2⟩ := cl_code1 (g := g) (c := c) (al0 := al) (al := 123) (i := 4) hn h1 hs
                    show tellP (lf_p (F_X5_codeStatement g (n : Int) (tx_a g n p : Int) (tx_e g n p : Int) al c.2 c.1 A3 (0 : Int) (-1 : Int) (4 : Int) (123 : Int)) _) _ _
                    rw [e1, lf_p9, lf_p_e, lf_p_e, lf_p_e, lf_p_e, lf_p_e, lf_p_e, lf_p_e]
                    refine key (cod g n 4 123 (tx_e g n p) c).1 (Ks, Ws, t0, t1, true, (cod g n 4 123 (tx_e g n p) c).2) _ _ _ d _ _ _ _ _ _ _ _ _ _ (cod_ok _ c hle).1 (fun q e => ?_)
                    have y1 := (cod_ok _ c hle).2 q e
                    have y2 := cod_G hn _ c hle h6 (by omega) q e
                    have y3 := e2 q e
                    obtain ⟨L, m1, m2, m3, m4, m5, m6, m7⟩ := cod_M (i := 4) (al := 123) hn (by omega) hle h6 (by omega) e
                    have ex : sp_px g n p (Ks, Ws, t0, t1, false, c) pr = (pr.1, pr.2.1, pr.2.2.1, pr.2.2.2.1, some L, pr.2.2.2.2.2) := by
                      have e7 : lstM (codM g n 4 123 (tx_e g n p)) = L := by
                        rw [m1]
                        rfl
                      unfold sp_px
                      rw [if_neg w0, if_neg w1, if_neg w2, if_neg w3, if_pos w4, e7]
                    have hpx := px_4 hI hX (codM_gS rfl m1) m6 m7
                    refine ⟨by omega, rfl, rfl, y3, h4, tf_2 h5 ?_, ?_, ?_, ?_⟩
                    · rw [y3]; exact y2.1
                    · rw [y3]; omega
                    · rw [y3]; omega
                    · rw [ex, y3, m5]; exact hpx
                · rw [if_neg w4]
                  by_cases w5 : wl g n ws_0 p = 5
                  · rw [if_pos w5]
                    have e9 : sp_st g n p (Ks, Ws, t0, t1, t2, c) = ((sp_nb g n ws_1 0 100 p).2, (Ks, Ws, t0, t1, t2, c)) := by
                      unfold sp_st
                      rw [if_neg w0, if_neg w1, if_neg w2, if_neg w3, if_neg w4]
                      exact if_pos w5
                    rw [e9, F_X5_numberBehind_a1_0_a2_100_s1_1 hn h1, lf_p_e, lf_pc]
                    repeat rw [lf_p2]
                    refine key (sp_nb g n ws_1 0 100 p).2 (Ks, Ws, t0, t1, t2, c) _ _ _ c _ _ _ _ _ _ _ _ _ _ (sp_nb_v ws_1 0 100 h1) (fun q e => ?_)
                    have y1 := sp_nb_gt e
                    have ex : sp_px g n p (Ks, Ws, t0, t1, t2, c) pr = (pr.1, pr.2.1, pr.2.2.1, pr.2.2.2.1, pr.2.2.2.2.1, (sp_nb g n ws_1 0 100 p).1) := by
                      unfold sp_px
                      rw [if_neg w0, if_neg w1, if_neg w2, if_neg w3, if_neg w4]
                      exact if_pos w5
                    exact ⟨by omega, rfl, rfl, rfl, h4, h5, h6, by omega, by rw [ex]; exact px_5 hI hX (sp_nb_b e)⟩
                  · rw [if_neg w5]
                    have e9 : sp_st g n p (Ks, Ws, t0, t1, t2, c) = (.inl (1, (tx_a g n p : Int)), (Ks, Ws, t0, t1, t2, c)) := by
                      unfold sp_st
                      rw [if_neg w0, if_neg w1, if_neg w2, if_neg w3, if_neg w4]
                      exact if_neg w5
                    rw [e9, cl_fail0, lf_p_e]
                    exact key (.inl (1, (tx_a g n p : Int))) (Ks, Ws, t0, t1, t2, c) pr _ _ c _ _ _ _ _ _ _ _ _ _ (sv_l (by decide)) (fun q e => by cases e)
def pr0 : PR := ([], [], none, none, none, 0)
def rpT (g : Nat → Int) (n : Nat) (cd : Nat → Int) : PR := match sb (sp_1d g n (.inr 0)).2 (sp_need g n 59) with
  | .inl _ => pr0
  | .inr p => rcP g n 81 1 p ([], [], false, false, false, (0, cd)) pr0
theorem prI_0 : prI pr0 0 0 := ⟨⟨rfl, rfl, by decide, by decide⟩, fun j hj => absurd hj (Nat.not_lt_zero j), fun j hj => absurd hj (Nat.not_lt_zero j), ⟨True.intro, True.intro, True.intro⟩, ⟨by decide, by decide⟩⟩
theorem prX_0 {comers spans A6 A7 A8 A9 A10 cd : Nat → Int} : prX pr0 (lf_fl comers 200 0) (lf_fl spans 6 0) A6 A7 A8 A9 A10 cd 0 0 := by
  refine ⟨fun j hj => absurd hj (Nat.not_lt_zero j), fun j hj => absurd hj (Nat.not_lt_zero j), fun s => ?_, ⟨Int.le_refl 0, Int.le_refl 0, Int.le_refl 0⟩, rfl, Int.le_refl 0⟩
  have e : F_X4_comersIn (lf_fl comers 200 0) (s : Int) = 0 := by
    unfold F_X4_comersIn F_X4_comersIn_20
    rw [if_neg (show ¬ (s : Int) < 0 from by omega)]
    by_cases q : (200 : Int) ≤ (s : Int)
    · rw [if_pos q]
    · rw [if_neg q, Int.toNat_natCast]
      exact if_pos (show s < 200 from by omega)
  rw [e]
  refine ⟨rg_0, fun w hw => ?_⟩
  rw [bt_0]
  show false = (decide (w < 0) && _)
  rw [decide_eq_false (Nat.not_lt_zero w), Bool.false_and]
theorem rp_start {g code : Nat → Int} {n p : Nat} {cy gr ru le : Int} (hn : n ≤ 1600) (hp : p ≤ n) (al : Int) (A2 A3 A5 A6 A7 A8 A9 A10 : Nat → Int) : tellP (F_X5_readCrossing_18 g 81 (n : Int) (tx_a g n p : Int) (tx_e g n p : Int) (tx_k g n p : Int) (0 : Int) (-1 : Int) cy gr ru le (lf_fl A2 200 0) (lf_fl A3 6 0) (1 : Int) al (0 : Int) (0 : Int) (0 : Int) (0 : Int) A5 A6 A7 A8 A9 A10 code) (rcL g n 81 1 p ([], [], false, false, false, (0, code))) (rcP g n 81 1 p ([], [], false, false, false, (0, code)) pr0) := by
  have h := rp_loop (g := g) (cy := cy) (gr := gr) (ru := ru) (le := le) hn 81 1 p ([], [], false, false, false, (0, code)) pr0 al 0 (lf_fl A2 200 0) (lf_fl A3 6 0) A5 A6 A7 A8 A9 A10 hp (by omega) (by omega) (nms_0 _) (tf_fl _) (Int.le_refl 0) (by show (0 : Int) ≤ _; omega) prI_0 prX_0
  have e1 : ((1 : Nat) : Int) = (1 : Int) := rfl
  have e2 : (((([], [], false, false, false, (0, code)) : PL).1.length : Nat) : Int) = (0 : Int) := rfl
  have e4 : (([], [], false, false, false, (0, code)) : PL).2.2.2.2.2.1 = (0 : Int) := rfl
  have e5 : (([], [], false, false, false, (0, code)) : PL).2.2.2.2.2.2 = code := rfl
  rw [e1, e2, e4, e5] at h
  exact h
theorem cl_rp {g calm pace trusts kindOf comesAt comers names code spans : Nat → Int} {n : Nat} {al : Int} (hn : n ≤ 1600) : tellP (F_X5_readCrossing g al calm pace trusts kindOf comesAt comers names code spans (n : Int)) (rcT g n code) (rpT g n code) := by
  have hv : sv n (.inr 0) := Nat.zero_le n
  have hv1 : sv n (sp_1d g n (.inr 0)).2 := sp_1d_v hv
  rw [cl_rc1 hn (cl_first (s := .inr 0) hn hv) hv1]
  unfold rcT rpT
  have hv2 : sv n (sb (sp_1d g n (.inr 0)).2 (sp_need g n 59)) := sp_need_sv hv1
  generalize (sp_1a g n (.inr 0)).1 = cy
  generalize (sp_1b g n (.inr 0)).1 = gr
  generalize (sp_1c g n (.inr 0)).1 = ru
  generalize (sp_1d g n (.inr 0)).1 = le
  generalize sb (sp_1d g n (.inr 0)).2 (sp_need g n 59) = s2 at hv2
  cases s2 with
  | inl q => exact True.intro
  | inr p => exact rp_start hn hv2 _ _ _ _ _ _ _ _ _
