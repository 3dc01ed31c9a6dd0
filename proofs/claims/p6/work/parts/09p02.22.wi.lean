/-! whole numbers behind the machine's; which word of a list stands from a to e -/
theorem lo_add {X Y : Int} (h1 : -2147483648 ≤ X) (h2 : X ≤ 2147483647) (h3 : -2147483648 ≤ Y) (h4 : Y ≤ 2147483647) (h5 : -2147483648 ≤ X + Y) (h6 : X + Y ≤ 2147483647) : lf_o lf_iadd X Y = X + Y := by
  have e : (2 : Int) ^ 31 = 2147483648 := by decide
  show (Int32.ofInt X + Int32.ofInt Y).toInt = X + Y
  rw [Int32.toInt_add, Int32.toInt_ofInt_of_le (by omega) (by omega), Int32.toInt_ofInt_of_le (by omega) (by omega)]
  exact Int.bmod_eq_of_le (by omega) (by omega)
theorem lo_sub {X Y : Int} (h1 : -2147483648 ≤ X) (h2 : X ≤ 2147483647) (h3 : -2147483648 ≤ Y) (h4 : Y ≤ 2147483647) (h5 : -2147483648 ≤ X - Y) (h6 : X - Y ≤ 2147483647) : lf_o lf_isub X Y = X - Y := by
  have e : (2 : Int) ^ 31 = 2147483648 := by decide
  show (Int32.ofInt X - Int32.ofInt Y).toInt = X - Y
  rw [Int32.toInt_sub, Int32.toInt_ofInt_of_le (by omega) (by omega), Int32.toInt_ofInt_of_le (by omega) (by omega)]
  exact Int.bmod_eq_of_le (by omega) (by omega)
theorem lo_mul {X Y : Int} (h1 : -2147483648 ≤ X) (h2 : X ≤ 2147483647) (h3 : -2147483648 ≤ Y) (h4 : Y ≤ 2147483647) (h5 : -2147483648 ≤ X * Y) (h6 : X * Y ≤ 2147483647) : lf_o lf_imul X Y = X * Y := by
  have e : (2 : Int) ^ 31 = 2147483648 := by decide
  show (Int32.ofInt X * Int32.ofInt Y).toInt = X * Y
  rw [Int32.toInt_mul, Int32.toInt_ofInt_of_le (by omega) (by omega), Int32.toInt_ofInt_of_le (by omega) (by omega)]
  exact Int.bmod_eq_of_le (by omega) (by omega)
def b2 : Bool → Int
  | true => 1
  | false => 0
/-- the class's wordIn for any list -/
def gw_52 (xa xe : Int) (K : Int → Int → Int → Int → Int) (w nx al k : Int) : Int := if al = (0 : Int) then K (lf_o lf_iadd w (1 : Int)) xa (1 : Int) (k + (1 : Int)) else if nx = xe then w else K (lf_o lf_iadd w (1 : Int)) xa (1 : Int) (k + (1 : Int))
def gw_b (ch : Int → Int) (L : Int) (g : Nat → Int) (xa xe : Int) (K : Int → Int → Int → Int → Int) (w nx al k : Int) : Int := if L < k then (-1 : Int) else if k = L then gw_52 xa xe K w nx al k else if ch k = (32 : Int) then gw_52 xa xe K w nx al k else if al = (0 : Int) then K w (nx + (1 : Int)) (0 : Int) (k + (1 : Int)) else if xe ≤ nx then K w (nx + (1 : Int)) (0 : Int) (k + (1 : Int)) else if g (Int.toNat nx) = ch k then K w (nx + (1 : Int)) (1 : Int) (k + (1 : Int)) else K w (nx + (1 : Int)) (0 : Int) (k + (1 : Int))
def gw (ch : Int → Int) (L : Int) (g : Nat → Int) (xa xe : Int) : Nat → Int → Int → Int → Int → Int
  | 0 => fun _ _ _ _ => (0 : Int)
  | n + 1 => gw_b ch L g xa xe (gw ch L g xa xe n)
def ts_wi (g : Nat → Int) (a e : Nat) : List Int → Nat → Nat → Bool → Int
  | [], w, nx, al => if al = true ∧ nx = e then (w : Int) else -1
  | c :: L, w, nx, al => if c = 32 then (if al = true ∧ nx = e then (w : Int) else ts_wi g a e L (w + 1) a true) else ts_wi g a e L w (nx + 1) (al && decide (nx < e) && decide (g nx = c))
theorem wi_drop {B : List Int} {k : Nat} (h : k < B.length) : B.drop k = B.getD k 0 :: B.drop (k + 1) := by
  rw [List.drop_eq_getElem_cons h]
  congr 1
  rw [List.getD_eq_getElem?_getD, List.getElem?_eq_getElem h]
  rfl
theorem gw_52s {a e w nx : Nat} {al : Bool} {K : Int → Int → Int → Int → Int} {k : Int} {R : Int} (hw : w ≤ 1000) (hK : K ((w + 1 : Nat) : Int) (a : Int) (1 : Int) (k + (1 : Int)) = R) : gw_52 (a : Int) (e : Int) K (w : Int) (nx : Int) (b2 al) k = if al = true ∧ nx = e then (w : Int) else R := by
  unfold gw_52
  rw [lo_add (by omega) (by omega) (by omega) (by omega) (by omega) (by omega), show (w : Int) + (1 : Int) = ((w + 1 : Nat) : Int) from by omega, hK]
  cases al with
  | false => rw [if_pos (show b2 false = 0 from rfl), if_neg (fun q => Bool.noConfusion q.1)]
  | true =>
    rw [if_neg (show ¬ b2 true = 0 from by decide)]
    by_cases q : nx = e
    · rw [if_pos (by omega), if_pos ⟨rfl, q⟩]
    · rw [if_neg (by omega), if_neg (fun r => q r.2)]
theorem gw_loop {ch : Int → Int} {g : Nat → Int} {a e : Nat} {B : List Int} {L : Nat} (hL : B.length = L) (hch : ∀ k : Nat, k < L → ch (k : Int) = B.getD k 0) (hB : L ≤ 999) : ∀ (f k w nx : Nat) (al : Bool), k ≤ L → L + 1 - k < f → w ≤ k → gw ch (L : Int) g (a : Int) (e : Int) f (w : Int) (nx : Int) (b2 al) (k : Int) = ts_wi g a e (B.drop k) w nx al := by
  intro f
  induction f with
  | zero => intro k w nx al h1 h2; omega
  | succ f ih =>
    intro k w nx al h1 h2 h3
    show gw_b ch (L : Int) g (a : Int) (e : Int) (gw ch (L : Int) g (a : Int) (e : Int) f) (w : Int) (nx : Int) (b2 al) (k : Int) = _
    unfold gw_b
    rw [if_neg (by omega)]
    by_cases q1 : k = L
    · rw [if_pos (by omega), List.drop_eq_nil_of_le (by omega)]
      refine gw_52s (by omega) ?_
      obtain ⟨f', rfl⟩ : ∃ f', f = f' + 1 := ⟨f - 1, by omega⟩
      show gw_b ch (L : Int) g (a : Int) (e : Int) _ _ _ _ _ = -1
      unfold gw_b
      rw [if_pos (by omega)]
    · rw [if_neg (by omega), hch k (by omega), wi_drop (by omega : k < B.length)]
      show _ = if B.getD k 0 = 32 then (if al = true ∧ nx = e then (w : Int) else ts_wi g a e (B.drop (k + 1)) (w + 1) a true) else ts_wi g a e (B.drop (k + 1)) w (nx + 1) (al && decide (nx < e) && decide (g nx = B.getD k 0))
      by_cases q2 : B.getD k 0 = 32
      · rw [if_pos q2, if_pos q2]
        refine gw_52s (by omega) ?_
        rw [show (k : Int) + (1 : Int) = ((k + 1 : Nat) : Int) from by omega]
        exact ih (k + 1) (w + 1) a true (by omega) (by omega) (by omega)
      · rw [if_neg q2, if_neg q2, show (k : Int) + (1 : Int) = ((k + 1 : Nat) : Int) from by omega, show (nx : Int) + (1 : Int) = ((nx + 1 : Nat) : Int) from by omega, Int.toNat_natCast]
        have i0 := ih (k + 1) w (nx + 1) false (by omega) (by omega) (by omega)
        have i1 := ih (k + 1) w (nx + 1) true (by omega) (by omega) (by omega)
        cases al with
        | false =>
          rw [if_pos (show b2 false = 0 from rfl)]
          exact i0
        | true =>
          rw [if_neg (show ¬ b2 true = 0 from by decide)]
          by_cases q3 : nx < e
          · rw [if_neg (by omega)]
            by_cases q4 : g nx = B.getD k 0
            · rw [if_pos q4, decide_eq_true q3, decide_eq_true q4]
              exact i1
            · rw [if_neg q4, decide_eq_true q3, decide_eq_false q4]
              exact i0
          · rw [if_pos (by omega), decide_eq_false q3]
            exact i0
/-- a word stands from nx to e -/
def wq (g : Nat → Int) (e : Nat) : List Int → Nat → Bool
  | [], nx => decide (nx = e)
  | c :: w, nx => decide (nx < e) && decide (g nx = c) && wq g e w (nx + 1)
def wfind (g : Nat → Int) (a e : Nat) : List (List Int) → Nat → Int
  | [], _ => -1
  | w :: ws, i => if wq g e w a = true then (i : Int) else wfind g a e ws (i + 1)
def wj : List (List Int) → List Int
  | [] => []
  | w :: ws => match ws with
    | [] => w
    | _ :: _ => w ++ 32 :: wj ws
def w32 (w : List Int) : Bool := w.all (fun c => decide (¬ c = 32))
theorem wi_word {g : Nat → Int} {a e : Nat} (L : List Int) : ∀ (w : List Int) (i nx : Nat) (al : Bool), w32 w = true → ts_wi g a e (w ++ 32 :: L) i nx al = if al = true ∧ wq g e w nx = true then (i : Int) else ts_wi g a e L (i + 1) a true := by
  intro w
  induction w with
  | nil =>
    intro i nx al _
    show (if (32 : Int) = 32 then (if al = true ∧ nx = e then (i : Int) else ts_wi g a e L (i + 1) a true) else _) = if al = true ∧ decide (nx = e) = true then (i : Int) else ts_wi g a e L (i + 1) a true
    rw [if_pos rfl]
    by_cases q : nx = e
    · rw [decide_eq_true q]
      cases al with
      | false => rw [if_neg (fun r => Bool.noConfusion r.1), if_neg (fun r => Bool.noConfusion r.1)]
      | true => rw [if_pos ⟨rfl, q⟩, if_pos ⟨rfl, rfl⟩]
    · rw [decide_eq_false q, if_neg (fun r => q r.2), if_neg (fun r => Bool.noConfusion r.2)]
  | cons c w ih =>
    intro i nx al h
    have h1 : ¬ c = 32 := of_decide_eq_true (List.all_eq_true.mp h c (List.mem_cons_self ..))
    have h2 : w32 w = true := List.all_eq_true.mpr (fun x hx => List.all_eq_true.mp h x (List.mem_cons_of_mem _ hx))
    show (if c = 32 then _ else ts_wi g a e (w ++ 32 :: L) i (nx + 1) (al && decide (nx < e) && decide (g nx = c))) = if al = true ∧ (decide (nx < e) && decide (g nx = c) && wq g e w (nx + 1)) = true then (i : Int) else ts_wi g a e L (i + 1) a true
    rw [if_neg h1, ih i (nx + 1) _ h2]
    have e9 : ((al && decide (nx < e) && decide (g nx = c)) = true ∧ wq g e w (nx + 1) = true) = (al = true ∧ (decide (nx < e) && decide (g nx = c) && wq g e w (nx + 1)) = true) := by
      cases al <;> cases decide (nx < e) <;> cases decide (g nx = c) <;> cases wq g e w (nx + 1) <;> simp
    simp only [e9]
theorem wi_lone {g : Nat → Int} {a e : Nat} : ∀ (w : List Int) (i nx : Nat) (al : Bool), w32 w = true → ts_wi g a e w i nx al = if al = true ∧ wq g e w nx = true then (i : Int) else -1 := by
  intro w
  induction w with
  | nil =>
    intro i nx al _
    show (if al = true ∧ nx = e then (i : Int) else -1) = if al = true ∧ decide (nx = e) = true then (i : Int) else -1
    by_cases q : nx = e
    · rw [decide_eq_true q]
      cases al with
      | false => rw [if_neg (fun r => Bool.noConfusion r.1), if_neg (fun r => Bool.noConfusion r.1)]
      | true => rw [if_pos ⟨rfl, q⟩, if_pos ⟨rfl, rfl⟩]
    · rw [decide_eq_false q, if_neg (fun r => q r.2), if_neg (fun r => Bool.noConfusion r.2)]
  | cons c w ih =>
    intro i nx al h
    have h1 : ¬ c = 32 := of_decide_eq_true (List.all_eq_true.mp h c (List.mem_cons_self ..))
    have h2 : w32 w = true := List.all_eq_true.mpr (fun x hx => List.all_eq_true.mp h x (List.mem_cons_of_mem _ hx))
    show (if c = 32 then _ else ts_wi g a e w i (nx + 1) (al && decide (nx < e) && decide (g nx = c))) = if al = true ∧ (decide (nx < e) && decide (g nx = c) && wq g e w (nx + 1)) = true then (i : Int) else -1
    rw [if_neg h1, ih i (nx + 1) _ h2]
    have e9 : ((al && decide (nx < e) && decide (g nx = c)) = true ∧ wq g e w (nx + 1) = true) = (al = true ∧ (decide (nx < e) && decide (g nx = c) && wq g e w (nx + 1)) = true) := by
      cases al <;> cases decide (nx < e) <;> cases decide (g nx = c) <;> cases wq g e w (nx + 1) <;> simp
    simp only [e9]
theorem wi_join {g : Nat → Int} {a e : Nat} : ∀ (ws : List (List Int)) (i : Nat), ¬ ws = [] → ws.all w32 = true → ts_wi g a e (wj ws) i a true = wfind g a e ws i := by
  intro ws
  induction ws with
  | nil => intro i h; exact absurd rfl h
  | cons w ws ih =>
    intro i _ h
    have h1 : w32 w = true := List.all_eq_true.mp h w (List.mem_cons_self ..)
    have h2 : ws.all w32 = true := List.all_eq_true.mpr (fun x hx => List.all_eq_true.mp h x (List.mem_cons_of_mem _ hx))
    show _ = if wq g e w a = true then (i : Int) else wfind g a e ws (i + 1)
    cases ws with
    | nil =>
      show ts_wi g a e w i a true = _
      rw [wi_lone w i a true h1]
      by_cases q : wq g e w a = true
      · rw [if_pos ⟨rfl, q⟩, if_pos q]
      · rw [if_neg (fun r => q r.2), if_neg q]
        rfl
    | cons v vs =>
      show ts_wi g a e (w ++ 32 :: wj (v :: vs)) i a true = _
      rw [wi_word _ w i a true h1, ih (i + 1) (fun r => by cases r) h2]
      by_cases q : wq g e w a = true
      · rw [if_pos ⟨rfl, q⟩, if_pos q]
      · rw [if_neg (fun r => q r.2), if_neg q]
