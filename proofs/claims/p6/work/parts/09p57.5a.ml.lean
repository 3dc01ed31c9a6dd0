/-! codes as lists (the model's numbers), read by levels -/
abbrev SL : Type := Sum (Int × Int) (Nat × List Int)
def bL (s : SL) (k : Nat → List Int → SL) : SL := match s with
  | .inl q => .inl q
  | .inr x => k x.1 x.2
def ndL (s : ST) (k : Nat → SL) : SL := match s with
  | .inl q => .inl q
  | .inr p => k p
def toC (m : Int) : Int := if 1000 ≤ m then m - 1000 else if m = 60 then -32 else if 40 ≤ m then -1 - (m - 40) else if m = 13 then 1 else -19 - m
def ems (c : CD) : List Int → CD
  | [] => c
  | a :: L => ems (em c a) L
theorem ems_app : ∀ (L K : List Int) (c : CD), ems c (L ++ K) = ems (ems c L) K
  | [], _, _ => rfl
  | a :: L, K, c => ems_app L K (em c a)
section ML
variable (g : Nat → Int) (n : Nat) (al : Int)
def numM (p : Nat) : SL := ndL (sp_num g n 0 9999 p).2 (fun q => .inr (q, [1000 + (sp_num g n 0 9999 p).1]))
def pwM (p : Nat) : SL := if wl g n ws_20 p = -1 ∨ lf_o lf_iand (lf_o lf_ishr al (wl g n ws_20 p)) 1 = 0 then .inl (1, (tx_a g n p : Int)) else .inr (tx_e g n p, [40 + wl g n ws_20 p])
def needM (c : Int) (p : Nat) (L : List Int) : SL := ndL (sp_need g n c p) (fun q => .inr (q, L))
def opnM (b : Bool) (p : Nat) (k : Nat → SL) : SL := if b = true then k (tx_e g n p) else .inl (4, (tx_a g n p : Int))
def pairM (b : Bool) (S : Nat → SL) (op : Int) (p : Nat) : SL := if tx_k g n p = 3 ∧ g (tx_a g n p) = 40 then opnM g n b p (fun p1 => bL (S p1) (fun q1 L1 => ndL (sp_need g n 44 q1) (fun q2 => bL (S q2) (fun q3 L2 => needM g n 41 q3 (L1 ++ L2 ++ [op]))))) else .inl (1, (tx_a g n p : Int))
def partM (b : Bool) (S P : Nat → SL) (p : Nat) : SL := if tx_k g n p = 2 then numM g n p else if tx_k g n p = 3 ∧ g (tx_a g n p) = 40 then opnM g n b p (fun p1 => bL (S p1) (fun q L => needM g n 41 q L)) else if ¬ wl g n ws_17 p = -1 then pairM g n b S 5 (tx_e g n p) else if ¬ wl g n ws_18 p = -1 then pairM g n b S 6 (tx_e g n p) else if al = 3707 ∧ ¬ wl g n ws_19 p = -1 then opnM g n b p (fun p1 => bL (P p1) (fun q L => .inr (q, L ++ [60]))) else pwM g n al p
def lpM (S : Nat → SL) (c1 c2 o1 o2 : Int) : Nat → Nat → List Int → SL
  | 0, p, L => .inr (p, L)
  | m + 1, p, L => if tx_k g n p = 3 ∧ g (tx_a g n p) = c1 then bL (S (tx_e g n p)) (fun q K => lpM S c1 c2 o1 o2 m q (L ++ K ++ [o1])) else if tx_k g n p = 3 ∧ g (tx_a g n p) = c2 then bL (S (tx_e g n p)) (fun q K => lpM S c1 c2 o1 o2 m q (L ++ K ++ [o2])) else .inr (p, L)
def sL (S : Nat → SL) (c1 c2 o1 o2 : Int) (p : Nat) : SL := bL (S p) (lpM g n S c1 c2 o1 o2 1602)
def lvM (S : Nat → SL) (ws : List (List Int)) (op : Int) : Nat → Nat → List Int → SL
  | 0, p, L => .inr (p, L)
  | m + 1, p, L => if wl g n ws p = -1 then .inr (p, L) else bL (S (tx_e g n p)) (fun q K => lvM S ws op m q (L ++ K ++ [op]))
def vL (S : Nat → SL) (ws : List (List Int)) (op : Int) (p : Nat) : SL := bL (S p) (lvM g n S ws op 1602)
def cmpM (S : Nat → SL) (p : Nat) : SL := bL (S p) (fun q L => ndL (sp_sg g n q).2 (fun q2 => bL (S q2) (fun q3 K => .inr (q3, L ++ K ++ [-19 - (sp_sg g n q).1]))))
def factM (b : Bool) (S T Fq : Nat → SL) (p : Nat) : SL := if ¬ wl g n ws_15 p = -1 then opnM g n b p (fun p1 => bL (Fq p1) (fun q L => .inr (q, L ++ [12]))) else if tx_k g n p = 3 ∧ g (tx_a g n p) = 91 then opnM g n b p (fun p1 => bL (T p1) (fun q L => needM g n 93 q L)) else if ¬ wl g n ws_16 p = -1 then .inr (tx_e g n p, [13]) else cmpM g n S p
def dmM : Nat → SL := fun _ => .inl (4, 0)
def mPart : Nat → Nat → SL
  | 0 => partM g n al false dmM dmM
  | d + 1 => partM g n al true (sL g n (sL g n (mPart d) 42 47 3 4) 43 45 1 2) (mPart d)
def mSum (d : Nat) : Nat → SL := sL g n (sL g n (mPart g n al d) 42 47 3 4) 43 45 1 2
def mFact : Nat → Nat → SL
  | 0 => factM g n false (mSum g n al 0) dmM dmM
  | d + 1 => factM g n true (mSum g n al (d + 1)) (vL g n (vL g n (mFact d) ws_14 10) ws_13 11) (mFact d)
def mTest (d : Nat) : Nat → SL := vL g n (vL g n (mFact g n al d) ws_14 10) ws_13 11
end ML
/-- the class's reading writes the same codes in its own numbers -/
def rlC (x : ST × CD) (y : SL) (c : CD) : Prop := match y with
  | .inl q => x.1 = .inl q
  | .inr z => x = (.inr z.1, ems c (z.2.map toC))
def rlA (n : Nat) (sp : Nat → CD → ST × CD) (S : Nat → SL) : Prop := ∀ p c, p ≤ n → rlC (sp p c) (S p) c
section MR
variable {g : Nat → Int} {n : Nat} {al : Int}
theorem rl_b {x : ST × CD} {y : SL} {c : CD} {k : Nat → CD → ST × CD} {k2 : Nat → List Int → SL} (h : rlC x y c) (hk : ∀ q L, x.1 = .inr q → y = .inr (q, L) → rlC (k q (ems c (L.map toC))) (k2 q L) c) : rlC (sbC x.1 x.2 k) (bL y k2) c := by
  cases y with
  | inl q =>
    have h' : x.1 = .inl q := h
    rw [h']
    rfl
  | inr z =>
    obtain ⟨q, L⟩ := z
    have h' : x = (.inr q, ems c (L.map toC)) := h
    rw [h']
    exact hk q L (by rw [h']) rfl
theorem rl_ndl {s : ST} {c d : CD} {k : Nat → CD → ST × CD} {k2 : Nat → SL} (h : ∀ q, s = .inr q → rlC (k q d) (k2 q) c) : rlC (sbC s d k) (ndL s k2) c := by
  cases s with
  | inl q => rfl
  | inr q => exact h q rfl
theorem rl_need {s : ST} {L : List Int} {c : CD} {ch : Int} {x : ST × CD} (h : x = (s, ems c (L.map toC))) : rlC (sb x.1 (sp_need g n ch), x.2) (bL (match (generalizing := false) s with | .inl q => .inl q | .inr p => .inr (p, L)) (fun q L => needM g n ch q L)) c := by
  rw [h]
  cases s with
  | inl q => rfl
  | inr p =>
    show rlC (sp_need g n ch p, ems c (L.map toC)) (needM g n ch p L) c
    unfold needM
    cases sp_need g n ch p with
    | inl q => rfl
    | inr q => rfl
theorem toC_n {v : Int} (h : 0 ≤ v) : toC (1000 + v) = v := by
  unfold toC
  rw [if_pos (by omega)]
  omega
theorem toC_w {w : Int} (h0 : 0 ≤ w) (h1 : w < 12) : toC (40 + w) = -1 - w := by
  unfold toC
  rw [if_neg (by omega), if_neg (by omega), if_pos (by omega)]
  omega
theorem toC_o {m : Int} (h0 : 1 ≤ m) (h1 : m ≤ 12) : toC m = -19 - m := by
  unfold toC
  rw [if_neg (by omega), if_neg (by omega), if_neg (by omega), if_neg (by omega)]
theorem ems_1 {c : CD} {L : List Int} {m a : Int} (h : toC m = a) : ems c ((L ++ [m]).map toC) = em (ems c (L.map toC)) a := by
  rw [List.map_append, ems_app]
  show em (ems c (L.map toC)) (toC m) = _
  rw [h]
theorem ems_2 {c : CD} {L K : List Int} {m a : Int} (h : toC m = a) : ems c ((L ++ K ++ [m]).map toC) = em (ems (ems c (L.map toC)) (K.map toC)) a := by
  rw [ems_1 h, List.map_append, ems_app]
theorem lp_rl {sp : Nat → CD → ST × CD} {S : Nat → SL} {c1 c2 o1 o2 a1 a2 : Int} (h : rlA n sp S) (hok : okR n sp) (h1 : toC o1 = a1) (h2 : toC o2 = a2) : ∀ (m p : Nat) (L : List Int) (c : CD), p ≤ n → rlC (lpS g n sp c1 c2 a1 a2 m p (ems c (L.map toC))) (lpM g n S c1 c2 o1 o2 m p L) c := by
  intro m
  induction m with
  | zero => intro p L c hp; rfl
  | succ m ih =>
    intro p L c hp
    have hle := tx_e_le (f := g) hp
    have step : ∀ o a, toC o = a → rlC (sbC (sp (tx_e g n p) (ems c (L.map toC))).1 (sp (tx_e g n p) (ems c (L.map toC))).2 (fun p2 d => lpS g n sp c1 c2 a1 a2 m p2 (em d a))) (bL (S (tx_e g n p)) (fun q K => lpM g n S c1 c2 o1 o2 m q (L ++ K ++ [o]))) c := by
      intro o a ho
      have hs := h (tx_e g n p) (ems c (L.map toC)) hle
      have hv := (hok (tx_e g n p) (ems c (L.map toC)) hle).1
      cases e : S (tx_e g n p) with
      | inl q =>
        rw [e] at hs
        have hs' : (sp (tx_e g n p) (ems c (L.map toC))).1 = .inl q := hs
        rw [hs']
        rfl
      | inr z =>
        obtain ⟨q, K⟩ := z
        rw [e] at hs
        have hs' : sp (tx_e g n p) (ems c (L.map toC)) = (.inr q, ems (ems c (L.map toC)) (K.map toC)) := hs
        rw [hs'] at hv ⊢
        show rlC (lpS g n sp c1 c2 a1 a2 m q (em (ems (ems c (L.map toC)) (K.map toC)) a)) (lpM g n S c1 c2 o1 o2 m q (L ++ K ++ [o])) c
        rw [← ems_2 ho]
        exact ih q (L ++ K ++ [o]) c hv
    unfold lpS lpM
    by_cases q1 : tx_k g n p = 3 ∧ g (tx_a g n p) = c1
    · rw [if_pos q1, if_pos q1]
      exact step o1 a1 h1
    · rw [if_neg q1, if_neg q1]
      by_cases q2 : tx_k g n p = 3 ∧ g (tx_a g n p) = c2
      · rw [if_pos q2, if_pos q2]
        exact step o2 a2 h2
      · rw [if_neg q2, if_neg q2]
        rfl
theorem spL_rl {sp : Nat → CD → ST × CD} {S : Nat → SL} {c1 c2 o1 o2 a1 a2 : Int} (h : rlA n sp S) (hok : okR n sp) (h1 : toC o1 = a1) (h2 : toC o2 = a2) : rlA n (spL g n sp c1 c2 a1 a2) (sL g n S c1 c2 o1 o2) := by
  intro p c hp
  unfold spL sL
  refine rl_b (h p c hp) (fun q L e1 e2 => ?_)
  exact lp_rl h hok h1 h2 1602 q L c (sv_le (hok p c hp).1 e1)
theorem lv_rl {sp : Nat → CD → ST × CD} {S : Nat → SL} {ws : List (List Int)} {o a : Int} (h : rlA n sp S) (hok : okR n sp) (ho : toC o = a) : ∀ (m p : Nat) (L : List Int) (c : CD), p ≤ n → rlC (lpV g n sp ws a m p (ems c (L.map toC))) (lvM g n S ws o m p L) c := by
  intro m
  induction m with
  | zero => intro p L c hp; rfl
  | succ m ih =>
    intro p L c hp
    have hle := tx_e_le (f := g) hp
    unfold lpV lvM
    by_cases q1 : wl g n ws p = -1
    · rw [if_pos q1, if_pos q1]
      rfl
    · rw [if_neg q1, if_neg q1]
      have hs := h (tx_e g n p) (ems c (L.map toC)) hle
      have hv := (hok (tx_e g n p) (ems c (L.map toC)) hle).1
      cases e : S (tx_e g n p) with
      | inl q =>
        rw [e] at hs
        have hs' : (sp (tx_e g n p) (ems c (L.map toC))).1 = .inl q := hs
        rw [hs']
        rfl
      | inr z =>
        obtain ⟨q, K⟩ := z
        rw [e] at hs
        have hs' : sp (tx_e g n p) (ems c (L.map toC)) = (.inr q, ems (ems c (L.map toC)) (K.map toC)) := hs
        rw [hs'] at hv ⊢
        show rlC (lpV g n sp ws a m q (em (ems (ems c (L.map toC)) (K.map toC)) a)) (lvM g n S ws o m q (L ++ K ++ [o])) c
        rw [← ems_2 ho]
        exact ih q (L ++ K ++ [o]) c hv
theorem spV_rl {sp : Nat → CD → ST × CD} {S : Nat → SL} {ws : List (List Int)} {o a : Int} (h : rlA n sp S) (hok : okR n sp) (ho : toC o = a) : rlA n (spV g n sp ws a) (vL g n S ws o) := by
  intro p c hp
  unfold spV vL
  refine rl_b (h p c hp) (fun q L e1 e2 => ?_)
  exact lv_rl h hok ho 1602 q L c (sv_le (hok p c hp).1 e1)
theorem opn_rl {b : Bool} {p : Nat} {c : CD} {k : Nat → CD → ST × CD} {k2 : Nat → SL} (h : b = true → rlC (k (tx_e g n p) c) (k2 (tx_e g n p)) c) : rlC (opn g n b p c k) (opnM g n b p k2) c := by
  unfold opn opnM
  cases b with
  | true =>
    rw [if_pos rfl, if_pos rfl]
    exact h rfl
  | false =>
    rw [if_neg (fun r => Bool.noConfusion r), if_neg (fun r => Bool.noConfusion r)]
    rfl
theorem pair_rl {b : Bool} {sp : Nat → CD → ST × CD} {S : Nat → SL} {o a : Int} (h : b = true → rlA n sp S ∧ okR n sp) (ho : toC o = a) : rlA n (sp_pair g n b sp a) (pairM g n b S o) := by
  intro p c hp
  have hle := tx_e_le (f := g) hp
  unfold sp_pair pairM
  by_cases q : tx_k g n p = 3 ∧ g (tx_a g n p) = 40
  · rw [if_pos q, if_pos q]
    refine opn_rl (fun hb => ?_)
    obtain ⟨hr, hok⟩ := h hb
    have h1 := hr (tx_e g n p) c hle
    have v1 := (hok (tx_e g n p) c hle).1
    cases e1 : S (tx_e g n p) with
    | inl z =>
      rw [e1] at h1
      have h1' : (sp (tx_e g n p) c).1 = .inl z := h1
      show sb (sbC (sb (sp (tx_e g n p) c).1 (sp_need g n 44)) (sp (tx_e g n p) c).2 sp).1 (sp_need g n 41) = .inl z
      rw [h1']
      rfl
    | inr z =>
      obtain ⟨q1, L1⟩ := z
      rw [e1] at h1
      have h1' : sp (tx_e g n p) c = (.inr q1, ems c (L1.map toC)) := h1
      rw [h1'] at v1
      show rlC (sb (sbC (sb (sp (tx_e g n p) c).1 (sp_need g n 44)) (sp (tx_e g n p) c).2 sp).1 (sp_need g n 41), em (sbC (sb (sp (tx_e g n p) c).1 (sp_need g n 44)) (sp (tx_e g n p) c).2 sp).2 a) (ndL (sp_need g n 44 q1) (fun q2 => bL (S q2) (fun q3 L2 => needM g n 41 q3 (L1 ++ L2 ++ [o])))) c
      rw [h1']
      show rlC (sb (sbC (sp_need g n 44 q1) (ems c (L1.map toC)) sp).1 (sp_need g n 41), em (sbC (sp_need g n 44 q1) (ems c (L1.map toC)) sp).2 a) _ c
      cases e2 : sp_need g n 44 q1 with
      | inl z => rfl
      | inr q2 =>
        have hq2 : q2 ≤ n := sv_le (sp_need_v 44 v1) e2
        have h2 := hr q2 (ems c (L1.map toC)) hq2
        show rlC (sb (sp q2 (ems c (L1.map toC))).1 (sp_need g n 41), em (sp q2 (ems c (L1.map toC))).2 a) (bL (S q2) (fun q3 L2 => needM g n 41 q3 (L1 ++ L2 ++ [o]))) c
        cases e3 : S q2 with
        | inl z =>
          rw [e3] at h2
          have h2' : (sp q2 (ems c (L1.map toC))).1 = .inl z := h2
          show sb (sp q2 (ems c (L1.map toC))).1 (sp_need g n 41) = .inl z
          rw [h2']
          rfl
        | inr z =>
          obtain ⟨q3, L2⟩ := z
          rw [e3] at h2
          have h2' : sp q2 (ems c (L1.map toC)) = (.inr q3, ems (ems c (L1.map toC)) (L2.map toC)) := h2
          rw [h2']
          show rlC (sp_need g n 41 q3, em (ems (ems c (L1.map toC)) (L2.map toC)) a) (needM g n 41 q3 (L1 ++ L2 ++ [o])) c
          unfold needM
          rw [← ems_2 ho]
          cases sp_need g n 41 q3 with
          | inl z => rfl
          | inr q4 => rfl
  · rw [if_neg q, if_neg q]
    rfl
theorem sp_num_nn {p : Nat} {q : Nat} (h : (sp_num g n 0 9999 p).2 = .inr q) : 0 ≤ (sp_num g n 0 9999 p).1 := sp_num_lo
theorem part_rl {b : Bool} {sp pp : Nat → CD → ST × CD} {S P : Nat → SL} (h : b = true → rlA n sp S ∧ okR n sp) (h2 : b = true → rlA n pp P) : rlA n (sp_partD g n al b sp pp) (partM g n al b S P) := by
  intro p c hp
  have hle := tx_e_le (f := g) hp
  unfold sp_partD partM
  by_cases q0 : tx_k g n p = 2
  · rw [if_pos q0, if_pos q0]
    unfold numM
    have hn0 : 0 ≤ (sp_num g n 0 9999 p).1 := sp_num_lo
    cases (sp_num g n 0 9999 p).2 with
    | inl z => rfl
    | inr q =>
      show (Sum.inr q, em c (sp_num g n 0 9999 p).1) = (Sum.inr q, em c (toC (1000 + (sp_num g n 0 9999 p).1)))
      rw [toC_n hn0]
  · rw [if_neg q0, if_neg q0]
    by_cases q1 : tx_k g n p = 3 ∧ g (tx_a g n p) = 40
    · rw [if_pos q1, if_pos q1]
      refine opn_rl (fun hb => ?_)
      have h1 := (h hb).1 (tx_e g n p) c hle
      cases e1 : S (tx_e g n p) with
      | inl z =>
        rw [e1] at h1
        have h1' : (sp (tx_e g n p) c).1 = .inl z := h1
        show sb (sp (tx_e g n p) c).1 (sp_need g n 41) = .inl z
        rw [h1']
        rfl
      | inr z =>
        obtain ⟨q, L⟩ := z
        rw [e1] at h1
        have h1' : sp (tx_e g n p) c = (.inr q, ems c (L.map toC)) := h1
        rw [h1']
        show rlC (sp_need g n 41 q, ems c (L.map toC)) (needM g n 41 q L) c
        unfold needM
        cases sp_need g n 41 q with
        | inl z => rfl
        | inr z => rfl
    · rw [if_neg q1, if_neg q1]
      by_cases q2 : wl g n ws_17 p = -1
      · rw [if_neg (show ¬ ¬ wl g n ws_17 p = -1 from fun r => r q2), if_neg (show ¬ ¬ wl g n ws_17 p = -1 from fun r => r q2)]
        by_cases q3 : wl g n ws_18 p = -1
        · rw [if_neg (show ¬ ¬ wl g n ws_18 p = -1 from fun r => r q3), if_neg (show ¬ ¬ wl g n ws_18 p = -1 from fun r => r q3)]
          by_cases q4 : al = 3707 ∧ ¬ wl g n ws_19 p = -1
          · rw [if_pos q4, if_pos q4]
            refine opn_rl (fun hb => ?_)
            have h1 := h2 hb (tx_e g n p) c hle
            cases e1 : P (tx_e g n p) with
            | inl z =>
              rw [e1] at h1
              exact h1
            | inr z =>
              obtain ⟨q, L⟩ := z
              rw [e1] at h1
              have h1' : pp (tx_e g n p) c = (.inr q, ems c (L.map toC)) := h1
              rw [h1']
              show (Sum.inr q, em (ems c (L.map toC)) (-32)) = (Sum.inr q, ems c ((L ++ [60]).map toC))
              rw [ems_1 (show toC 60 = -32 from by decide)]
          · rw [if_neg q4, if_neg q4]
            unfold sp_pw pwM
            by_cases q5 : wl g n ws_20 p = -1 ∨ lf_o lf_iand (lf_o lf_ishr al (wl g n ws_20 p)) 1 = 0
            · rw [if_pos q5, if_pos q5]
              rfl
            · rw [if_neg q5, if_neg q5]
              have hb := wl_20 (fun r => q5 (Or.inl r))
              show (Sum.inr (tx_e g n p), em c (-1 - wl g n ws_20 p)) = (Sum.inr (tx_e g n p), em c (toC (40 + wl g n ws_20 p)))
              rw [toC_w hb.1 hb.2]
        · rw [if_pos q3, if_pos q3]
          exact pair_rl h (by decide) (tx_e g n p) c hle
      · rw [if_pos q2, if_pos q2]
        exact pair_rl h (by decide) (tx_e g n p) c hle
theorem part_r : ∀ d : Nat, rlA n (sPart g n al d) (mPart g n al d)
  | 0 => part_rl (fun r => Bool.noConfusion r) (fun r => Bool.noConfusion r)
  | d + 1 => part_rl (fun _ => ⟨spL_rl (spL_rl (part_r d) (sPart_ok d) (by decide) (by decide)) (sPrO_ok (sPart_ok d)) (by decide) (by decide), sSuO_ok (sPart_ok d)⟩) (fun _ => part_r d)
theorem sum_r (d : Nat) : rlA n (sSum g n al d) (mSum g n al d) := spL_rl (spL_rl (part_r d) (sPart_ok d) (by decide) (by decide)) (sPrO_ok (sPart_ok d)) (by decide) (by decide)
theorem sg_c {q : Nat} : toC (-19 - (sp_sg g n q).1) = (sp_sg g n q).1 := by
  unfold sp_sg
  by_cases c1 : tx_k g n q = 3 ∧ g (tx_a g n q) = 60
  · rw [if_pos c1]
    show toC (-19 - (-26)) = -26
    decide
  · rw [if_neg c1]
    by_cases c2 : tx_k g n q = 3 ∧ g (tx_a g n q) = 62
    · rw [if_pos c2]
      show toC (-19 - (-27)) = -27
      decide
    · rw [if_neg c2]
      by_cases c3 : tx_k g n q = 3 ∧ g (tx_a g n q) = 61
      · rw [if_pos c3]
        show toC (-19 - (-28)) = -28
        decide
      · rw [if_neg c3]
        show toC (-19 - (-28)) = -28
        decide
theorem cmp_rl {sp : Nat → CD → ST × CD} {S : Nat → SL} (h : rlA n sp S) (hok : okR n sp) : rlA n (spCmp g n sp) (cmpM g n S) := by
  intro p c hp
  unfold spCmp cmpM
  have h1 := h p c hp
  have v1 := (hok p c hp).1
  cases e1 : S p with
  | inl z =>
    rw [e1] at h1
    have h1' : (sp p c).1 = .inl z := h1
    show (sbC (sbv (sp p c).1 (sp_sg g n) (-28)).2 (sp p c).2 sp).1 = .inl z
    rw [h1']
    rfl
  | inr z =>
    obtain ⟨q, L⟩ := z
    rw [e1] at h1
    have h1' : sp p c = (.inr q, ems c (L.map toC)) := h1
    rw [h1'] at v1 ⊢
    show rlC ((sbC (sp_sg g n q).2 (ems c (L.map toC)) sp).1, em (sbC (sp_sg g n q).2 (ems c (L.map toC)) sp).2 (sp_sg g n q).1) (ndL (sp_sg g n q).2 (fun q2 => bL (S q2) (fun q3 K => .inr (q3, L ++ K ++ [-19 - (sp_sg g n q).1])))) c
    have hsg := sp_sg_v (g := g) (show q ≤ n from v1)
    have hc := sg_c (g := g) (n := n) (q := q)
    cases e2 : (sp_sg g n q).2 with
    | inl z => rfl
    | inr q2 =>
      rw [e2] at hsg
      have h2 := h q2 (ems c (L.map toC)) hsg
      show rlC ((sp q2 (ems c (L.map toC))).1, em (sp q2 (ems c (L.map toC))).2 (sp_sg g n q).1) (bL (S q2) (fun q3 K => .inr (q3, L ++ K ++ [-19 - (sp_sg g n q).1]))) c
      cases e3 : S q2 with
      | inl z =>
        rw [e3] at h2
        exact h2
      | inr z =>
        obtain ⟨q3, K⟩ := z
        rw [e3] at h2
        have h2' : sp q2 (ems c (L.map toC)) = (.inr q3, ems (ems c (L.map toC)) (K.map toC)) := h2
        rw [h2']
        show (Sum.inr q3, em (ems (ems c (L.map toC)) (K.map toC)) (sp_sg g n q).1) = (Sum.inr q3, ems c ((L ++ K ++ [-19 - (sp_sg g n q).1]).map toC))
        rw [ems_2 hc]
theorem fact_rl {b : Bool} {sp tt ff : Nat → CD → ST × CD} {S T Fq : Nat → SL} (h : rlA n sp S) (hok : okR n sp) (ht : b = true → rlA n tt T) (hf : b = true → rlA n ff Fq) : rlA n (sp_factD g n b sp tt ff) (factM g n b S T Fq) := by
  intro p c hp
  have hle := tx_e_le (f := g) hp
  unfold sp_factD factM
  by_cases q0 : wl g n ws_15 p = -1
  · rw [if_neg (show ¬ ¬ wl g n ws_15 p = -1 from fun r => r q0), if_neg (show ¬ ¬ wl g n ws_15 p = -1 from fun r => r q0)]
    by_cases q1 : tx_k g n p = 3 ∧ g (tx_a g n p) = 91
    · rw [if_pos q1, if_pos q1]
      refine opn_rl (fun hb => ?_)
      have h1 := ht hb (tx_e g n p) c hle
      cases e1 : T (tx_e g n p) with
      | inl z =>
        rw [e1] at h1
        have h1' : (tt (tx_e g n p) c).1 = .inl z := h1
        show sb (tt (tx_e g n p) c).1 (sp_need g n 93) = .inl z
        rw [h1']
        rfl
      | inr z =>
        obtain ⟨q, L⟩ := z
        rw [e1] at h1
        have h1' : tt (tx_e g n p) c = (.inr q, ems c (L.map toC)) := h1
        rw [h1']
        show rlC (sp_need g n 93 q, ems c (L.map toC)) (needM g n 93 q L) c
        unfold needM
        cases sp_need g n 93 q with
        | inl z => rfl
        | inr z => rfl
    · rw [if_neg q1, if_neg q1]
      by_cases q2 : wl g n ws_16 p = -1
      · rw [if_neg (show ¬ ¬ wl g n ws_16 p = -1 from fun r => r q2), if_neg (show ¬ ¬ wl g n ws_16 p = -1 from fun r => r q2)]
        exact cmp_rl h hok p c hp
      · rw [if_pos q2, if_pos q2]
        rfl
  · rw [if_pos q0, if_pos q0]
    refine opn_rl (fun hb => ?_)
    have h1 := hf hb (tx_e g n p) c hle
    cases e1 : Fq (tx_e g n p) with
    | inl z =>
      rw [e1] at h1
      exact h1
    | inr z =>
      obtain ⟨q, L⟩ := z
      rw [e1] at h1
      have h1' : ff (tx_e g n p) c = (.inr q, ems c (L.map toC)) := h1
      rw [h1']
      show (Sum.inr q, em (ems c (L.map toC)) (-31)) = (Sum.inr q, ems c ((L ++ [12]).map toC))
      rw [ems_1 (show toC 12 = -31 from by decide)]
theorem fact_r : ∀ d : Nat, rlA n (sFact g n al d) (mFact g n al d)
  | 0 => fact_rl (sum_r 0) (sSum_ok 0) (fun r => Bool.noConfusion r) (fun r => Bool.noConfusion r)
  | d + 1 => fact_rl (sum_r (d + 1)) (sSum_ok (d + 1)) (fun _ => spV_rl (spV_rl (fact_r d) (sFact_ok d) (by decide)) (spV_ok (sFact_ok d)) (by decide)) (fun _ => fact_r d)
theorem test_r (d : Nat) : rlA n (sTest g n al d) (mTest g n al d) := spV_rl (spV_rl (fact_r d) (sFact_ok d) (by decide)) (spV_ok (sFact_ok d)) (by decide)
end MR
