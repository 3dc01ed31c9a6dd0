section EQ6
variable {g : Nat → Int} {n : Nat} {al : Int}
theorem TT_tu {T : List Int} {o : Int} {p : Nat} : TT g n al true T o p = (if tx_k g n p = 3 ∧ g (tx_a g n p) = 91 then (if o = 6 then .inl (4, (tx_a g n p : Int)) else mT g n al (n - p) true (25 :: T) (o + 1) (tx_e g n p)) else if ¬ wl g n ws_15 p = -1 then (if o = 6 then .inl (4, (tx_a g n p : Int)) else mT g n al (n - p) true (12 :: T) (o + 1) (tx_e g n p)) else sb (fcS g n al o p) (fun p2 => mT g n al (n - p) false (ntD T o).1 (ntD T o).2 p2)) := rfl
theorem TT_fu {T : List Int} {o : Int} {p : Nat} : TT g n al false T o p = (if (tx_k g n p = 3 ∧ g (tx_a g n p) = 93) ∧ tMem T = true then mT g n al (n - p) false (ntD (tPop T) (o - 1)).1 (ntD (tPop T) (o - 1)).2 (tx_e g n p) else if ¬ wl g n ws_14 p = -1 ∨ ¬ wl g n ws_13 p = -1 then mT g n al (n - p) true T o (tx_e g n p) else if tMem T = true then .inl (1, (tx_a g n p : Int)) else .inr p) := rfl
theorem TT_f {m : Bool} {T : List Int} {o : Int} {p q : Nat} (hq : q ≤ n) (hp : p < q) : mT g n al (n - p) m T o q = TT g n al m T o q := mT_f _ _ _ _ _ _ hq (by omega) (by omega)
theorem TT_s1 {T : List Int} {o : Int} {p : Nat} (hp : p ≤ n) (c : tx_k g n p = 3 ∧ g (tx_a g n p) = 91) (ho : ¬ o = 6) : TT g n al true T o p = TT g n al true (25 :: T) (o + 1) (tx_e g n p) := by
  have hlt : p < tx_e g n p := tx_e_gt' (by omega)
  rw [← TT_f (p := p) (tx_e_le hp) hlt]
  rw [TT_tu, if_pos c, if_neg ho]
theorem TT_s6 {T : List Int} {p : Nat} (c : tx_k g n p = 3 ∧ g (tx_a g n p) = 91) : TT g n al true T 6 p = .inl (4, (tx_a g n p : Int)) := by
  rw [TT_tu, if_pos c, if_pos rfl]
theorem TT_n1 {T : List Int} {o : Int} {p : Nat} (hp : p ≤ n) (c : ¬ wl g n ws_15 p = -1) (ho : ¬ o = 6) : TT g n al true T o p = TT g n al true (12 :: T) (o + 1) (tx_e g n p) := by
  have hk := wl_k c
  have hlt : p < tx_e g n p := tx_e_gt' (by omega)
  rw [← TT_f (p := p) (tx_e_le hp) hlt]
  rw [TT_tu, if_neg (k1_no hk), if_pos c, if_neg ho]
theorem TT_n6 {T : List Int} {p : Nat} (c : ¬ wl g n ws_15 p = -1) : TT g n al true T 6 p = .inl (4, (tx_a g n p : Int)) := by
  have hk := wl_k c
  rw [TT_tu, if_neg (k1_no hk), if_pos c, if_pos rfl]
theorem TT_at {T : List Int} {o : Int} {p : Nat} (hp : p ≤ n) (c : ¬ (tx_k g n p = 3 ∧ g (tx_a g n p) = 91)) (c0 : wl g n ws_15 p = -1) : TT g n al true T o p = sb (fcS g n al o p) (fun p2 => TT g n al false (ntD T o).1 (ntD T o).2 p2) := by
  have e : sb (fcS g n al o p) (fun p2 => TT g n al false (ntD T o).1 (ntD T o).2 p2) = sb (fcS g n al o p) (fun p2 => mT g n al (n - p) false (ntD T o).1 (ntD T o).2 p2) := sb_cg (fun q e => (TT_f (p := p) (fcS_p hp e).1 (fcS_p hp e).2).symm)
  rw [e]
  rw [TT_tu, if_neg c, if_neg (show ¬ ¬ wl g n ws_15 p = -1 from fun r => r c0)]
theorem TT_cl {T : List Int} {o : Int} {p : Nat} (hp : p ≤ n) (c : tx_k g n p = 3 ∧ g (tx_a g n p) = 93) : TT g n al false (25 :: T) (o + 1) p = TT g n al false (ntD T o).1 (ntD T o).2 (tx_e g n p) := by
  have hlt : p < tx_e g n p := tx_e_gt' (by omega)
  have e1 : tPop (25 :: T) = T := rfl
  have e2 : tMem (25 :: T) = true := rfl
  rw [← TT_f (p := p) (tx_e_le hp) hlt]
  rw [TT_fu, if_pos ⟨c, e2⟩, e1, show o + 1 - 1 = o from by omega]
def jnW (g : Nat → Int) (n p : Nat) : Prop := ¬ wl g n ws_14 p = -1 ∨ ¬ wl g n ws_13 p = -1
theorem jn_k {p : Nat} (h : jnW g n p) : tx_k g n p = 1 := h.elim wl_k wl_k
theorem TT_jn {T : List Int} {o : Int} {p : Nat} (hp : p ≤ n) (c : jnW g n p) : TT g n al false T o p = TT g n al true T o (tx_e g n p) := by
  have hk := jn_k c
  have hlt : p < tx_e g n p := tx_e_gt' (by omega)
  rw [← TT_f (p := p) (tx_e_le hp) hlt]
  rw [TT_fu, if_neg (fun r => k1_no hk r.1), if_pos (show ¬ wl g n ws_14 p = -1 ∨ ¬ wl g n ws_13 p = -1 from c)]
theorem TT_bd {T : List Int} {o : Int} {p : Nat} (c0 : ¬ (tx_k g n p = 3 ∧ g (tx_a g n p) = 93)) (c : ¬ jnW g n p) : TT g n al false (25 :: T) o p = .inl (1, (tx_a g n p : Int)) := by
  rw [TT_fu, if_neg (fun r => c0 r.1), if_neg (show ¬ (¬ wl g n ws_14 p = -1 ∨ ¬ wl g n ws_13 p = -1) from c), if_pos (show tMem (25 :: T) = true from rfl)]
theorem TT_nd {o : Int} {p : Nat} (c : ¬ jnW g n p) : TT g n al false [] o p = .inr p := by
  rw [TT_fu, if_neg (fun r => Bool.noConfusion r.2), if_neg (show ¬ (¬ wl g n ws_14 p = -1 ∨ ¬ wl g n ws_13 p = -1) from c), if_neg (fun r => Bool.noConfusion r)]
theorem TT_sq {T : List Int} {o : Int} {p : Nat} (hp : p ≤ n) (c : ¬ jnW g n p) : TT g n al false (25 :: T) (o + 1) p = sb (sp_need g n 93 p) (fun p2 => TT g n al false (ntD T o).1 (ntD T o).2 p2) := by
  by_cases q : tx_k g n p = 3 ∧ g (tx_a g n p) = 93
  · rw [TT_cl hp q, show sp_need g n 93 p = .inr (tx_e g n p) from if_pos q]
    rfl
  · rw [TT_bd q c, show sp_need g n 93 p = .inl (1, (tx_a g n p : Int)) from if_neg q]
    rfl
def clF (g : Nat → Int) (n : Nat) (al : Int) (o : Int) (sp : Nat → CD → ST × CD) : Prop := ∀ (T : List Int) (p : Nat) (c : CD), p ≤ n → TT g n al true T o p = sb (sp p c).1 (fun p2 => TT g n al false (ntD T o).1 (ntD T o).2 p2)
def clM (g : Nat → Int) (n : Nat) (al : Int) (o : Int) (sp : Nat → CD → ST × CD) : Prop := ∀ (T : List Int) (p : Nat) (c : CD), p ≤ n → (∀ k, ntD T k = (T, k)) → TT g n al true T o p = sb (sp p c).1 (fun p2 => TT g n al false T o p2)
def clE (g : Nat → Int) (n : Nat) (sp : Nat → CD → ST × CD) : Prop := ∀ (p : Nat) (c : CD) (q : Nat), p ≤ n → (sp p c).1 = .inr q → q ≤ n ∧ ¬ jnW g n q
theorem clF_M {o : Int} {sp : Nat → CD → ST × CD} (h : clF g n al o sp) : clM g n al o sp := by
  intro T p c hp hT
  rw [h T p c hp, hT o]
theorem lv_eq {o : Int} {sp : Nat → CD → ST × CD} {ws : List (List Int)} {op : Int} (h : clM g n al o sp) (hok : okR n sp) (hc : ∀ p, ¬ wl g n ws p = -1 → jnW g n p) : ∀ (m : Nat) (T : List Int) (p : Nat) (c : CD), p ≤ n → (∀ k, ntD T k = (T, k)) → TT g n al false T o p = sb (lpV g n sp ws op m p c).1 (fun p2 => TT g n al false T o p2) := by
  intro m
  induction m with
  | zero => intro T p c hp hT; rfl
  | succ m ih =>
    intro T p c hp hT
    have hle := tx_e_le (f := g) hp
    unfold lpV
    by_cases q1 : wl g n ws p = -1
    · rw [if_pos q1]
      rfl
    · rw [if_neg q1, TT_jn hp (hc p q1), h T (tx_e g n p) c hle hT, sbC_1]
      refine sb_cg (fun q e => ?_)
      exact ih T q _ (sv_le (hok (tx_e g n p) c hle).1 e) hT
theorem spV_eq {o : Int} {sp : Nat → CD → ST × CD} {ws : List (List Int)} {op : Int} (h : clM g n al o sp) (hok : okR n sp) (hc : ∀ p, ¬ wl g n ws p = -1 → jnW g n p) : clM g n al o (spV g n sp ws op) := by
  intro T p c hp hT
  unfold spV
  rw [h T p c hp hT, sbC_1]
  refine sb_cg (fun q e => ?_)
  exact lv_eq h hok hc 1602 T q _ (sv_le (hok p c hp).1 e) hT
theorem lv_end {sp : Nat → CD → ST × CD} {ws : List (List Int)} {op : Int} {Q : Nat → Prop} (hok : okR n sp) (hQ : ∀ p c q, p ≤ n → (sp p c).1 = .inr q → Q q) : ∀ (m p : Nat) (c : CD) (q : Nat), p ≤ n → n - p < m → Q p → (lpV g n sp ws op m p c).1 = .inr q → q ≤ n ∧ Q q ∧ wl g n ws q = -1 := by
  intro m
  induction m with
  | zero => intro p c q hp h1; omega
  | succ m ih =>
    intro p c q hp h1 hq
    have hle := tx_e_le (f := g) hp
    unfold lpV
    by_cases q1 : wl g n ws p = -1
    · rw [if_pos q1]
      intro r
      cases r
      exact ⟨hp, hq, q1⟩
    · rw [if_neg q1]
      intro r
      have hlt : p < tx_e g n p := tx_e_gt' (by have := wl_k q1; omega)
      have h5 := hok (tx_e g n p) c hle
      cases e : (sp (tx_e g n p) c).1 with
      | inl x => rw [e] at r; cases r
      | inr p2 =>
        rw [e] at r h5
        have l := h5.2 p2 rfl
        exact ih p2 (em (sp (tx_e g n p) c).2 op) q h5.1 (by omega) (hQ (tx_e g n p) c p2 hle e) r
theorem spV_end {sp : Nat → CD → ST × CD} {ws : List (List Int)} {op : Int} {Q : Nat → Prop} (hn : n ≤ 1600) (hok : okR n sp) (hQ : ∀ p c q, p ≤ n → (sp p c).1 = .inr q → Q q) (p : Nat) (c : CD) (q : Nat) (hp : p ≤ n) (h : (spV g n sp ws op p c).1 = .inr q) : q ≤ n ∧ Q q ∧ wl g n ws q = -1 := by
  unfold spV at h
  have h5 := hok p c hp
  cases e : (sp p c).1 with
  | inl x => rw [e] at h; cases h
  | inr p2 =>
    rw [e] at h h5
    exact lv_end hok hQ 1602 p2 (sp p c).2 q h5.1 (by have := h5.1; omega) (hQ p c p2 hp e) h
theorem test_cl {o : Int} {sp : Nat → CD → ST × CD} (hn : n ≤ 1600) (h : clF g n al o sp) (hok : okR n sp) : clM g n al o (sTeO g n sp) ∧ clE g n (sTeO g n sp) := by
  have hb : clM g n al o (sBoO g n sp) := spV_eq (clF_M h) hok (fun p r => Or.inl r)
  refine ⟨spV_eq hb (spV_ok hok) (fun p r => Or.inr r), fun p c q hp e => ?_⟩
  have h9 := spV_end (Q := fun q => wl g n ws_14 q = -1) hn (spV_ok hok) (fun p c q hp e => by
    have := spV_end (Q := fun _ => True) hn hok (fun _ _ _ _ _ => True.intro) p c q hp e
    exact this.2.2) p c q hp e
  exact ⟨h9.1, fun r => r.elim (fun r => r h9.2.1) (fun r => r h9.2.2)⟩
theorem fact_eq (hn : n ≤ 1600) {b : Bool} {T1 F1 : Nat → CD → ST × CD} {d : Nat} (hd : d ≤ 6) (h6 : b = false → 6 - (d : Int) = 6) (h7 : b = true → ¬ 6 - (d : Int) = 6 ∧ clM g n al (6 - (d : Int) + 1) T1 ∧ clE g n T1) (h8 : b = true → clF g n al (6 - (d : Int) + 1) F1) : clF g n al (6 - (d : Int)) (sp_factD g n b (sSum g n al d) T1 F1) := by
  intro T p c hp
  have hle := tx_e_le (f := g) hp
  unfold sp_factD
  by_cases q0 : wl g n ws_15 p = -1
  · rw [if_neg (show ¬ ¬ wl g n ws_15 p = -1 from fun r => r q0)]
    by_cases q1 : tx_k g n p = 3 ∧ g (tx_a g n p) = 91
    · rw [if_pos q1]
      cases b with
      | false =>
        rw [h6 rfl, TT_s6 q1, opn_f]
        rfl
      | true =>
        obtain ⟨ho, hM, hE⟩ := h7 rfl
        rw [TT_s1 hp q1 ho, opn_t, hM (25 :: T) (tx_e g n p) c hle (fun k => if_neg (by decide))]
        cases e1 : (T1 (tx_e g n p) c).1 with
        | inl y => rfl
        | inr p1 =>
          obtain ⟨l1, o1⟩ := hE (tx_e g n p) c p1 hle e1
          exact TT_sq l1 o1
    · rw [if_neg q1, TT_at hp q1 q0]
      exact fc_eq hn d hd c hp _
  · rw [if_pos q0]
    cases b with
    | false =>
      rw [h6 rfl, TT_n6 q0, opn_f]
      rfl
    | true =>
      rw [TT_n1 hp q0 (h7 rfl).1, opn_t, h8 rfl (12 :: T) (tx_e g n p) c hle]
      have e9 : ntD (12 :: T) (6 - (d : Int) + 1) = ntD T (6 - (d : Int)) := by
        show (if (12 : Int) = 12 then ntD T (6 - (d : Int) + 1 - 1) else _) = _
        rw [if_pos rfl, show 6 - (d : Int) + 1 - 1 = 6 - (d : Int) from by omega]
      rw [e9]
theorem F_all (hn : n ≤ 1600) : ∀ d : Nat, d ≤ 6 → clF g n al (6 - (d : Int)) (sFact g n al d)
  | 0, _ => fact_eq hn (d := 0) (by omega) (fun _ => rfl) (fun r => Bool.noConfusion r) (fun r => Bool.noConfusion r)
  | d + 1, hd => by
    have h1 := F_all hn d (by omega)
    have e : (6 - ((d + 1 : Nat) : Int)) + 1 = 6 - (d : Int) := by omega
    refine fact_eq hn hd (fun r => Bool.noConfusion r) (fun _ => ⟨by omega, ?_⟩) (fun _ => ?_)
    · rw [e]
      exact test_cl hn h1 (sFact_ok d)
    · rw [e]
      exact h1
/-- a test read by the machine is a test read level by level -/
theorem test_eq (hn : n ≤ 1600) (d : Nat) (hd : d ≤ 6) (p : Nat) (c : CD) (hp : p ≤ n) : TT g n al true [] (6 - (d : Int)) p = (sTest g n al d p c).1 := by
  have h := test_cl (g := g) (al := al) hn (F_all hn d hd) (sFact_ok d)
  rw [h.1 [] p c hp (fun k => rfl)]
  show sb (sTest g n al d p c).1 _ = _
  cases e : (sTest g n al d p c).1 with
  | inl x => rfl
  | inr q =>
    have h2 := h.2 p c q hp e
    exact TT_nd h2.2
end EQ6
