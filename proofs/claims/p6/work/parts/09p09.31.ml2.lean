theorem F_X10_isHere_r2_76g (g w : Nat → Int) : ∀ k : Nat, F_X10_isHere_r2_76 g w k = gh_76 (2 : Int) g w k
  | 0 => rfl
  | k + 1 => by
    show F_X10_isHere_r2_76b g w (F_X10_isHere_r2_76 g w k) = gh_76b (2 : Int) g w (gh_76 (2 : Int) g w k)
    rw [F_X10_isHere_r2_76g g w k]
    rfl
theorem F_X10_isHere_r2_61g (g w : Nat → Int) (k a : Int) : F_X10_isHere_r2_61 g w k a = gh_61 (2 : Int) 4 g w k a := by
  unfold F_X10_isHere_r2_61
  rw [F_X10_isHere_r2_76g]
  rfl
theorem F_X10_isHere_r2_35g (n : Int) (g w : Nat → Int) : ∀ k : Nat, F_X10_isHere_r2_35 n g w k = gh_35 (2 : Int) 4 n g w k
  | 0 => rfl
  | k + 1 => by
    show F_X10_isHere_r2_35b n g w (F_X10_isHere_r2_35 n g w k) = gh_35b (2 : Int) 4 n g w (gh_35 (2 : Int) 4 n g w k)
    rw [F_X10_isHere_r2_35g n g w k]
    funext x y
    unfold F_X10_isHere_r2_35b gh_35b
    rw [F_X10_isHere_r2_61g]
theorem F_X10_isHere_r2_g (xa n xe xb : Int) (g w : Nat → Int) : F_X10_isHere_r2 xa n xe xb g w = gH (2 : Int) 4 xa n xe xb g w := by
  unfold F_X10_isHere_r2
  simp only [F_X10_isHere_r2_35g]
  rfl
theorem F_X10_isHere_r2_1 {g w : Nat → Int} {W : List Int} {n p : Nat} {xa xe : Int} (hn : n ≤ 1600) (hW : W.length = 2) (hw : wa w W) (h : mp g n p xa xe) : F_X10_isHere_r2 xa (n : Int) xe (0 : Int) g w = (b2 (wh g n W p), (tx_a g n p : Int)) := by
  rw [F_X10_isHere_r2_g, ← gH_1 (f := 4) hn (by omega) hw h, hW]
  rfl
theorem F_X10_isHere_r2_0 {g w : Nat → Int} {xa n xe xb : Int} (h : ¬ xb = 0) : F_X10_isHere_r2 xa n xe xb g w = ((0 : Int), xa) := by
  rw [F_X10_isHere_r2_g, gH_0 h]
theorem F_X10_isHere_76g (g w : Nat → Int) : ∀ k : Nat, F_X10_isHere_76 g w k = gh_76 (3 : Int) g w k
  | 0 => rfl
  | k + 1 => by
    show F_X10_isHere_76b g w (F_X10_isHere_76 g w k) = gh_76b (3 : Int) g w (gh_76 (3 : Int) g w k)
    rw [F_X10_isHere_76g g w k]
    rfl
theorem F_X10_isHere_61g (g w : Nat → Int) (k a : Int) : F_X10_isHere_61 g w k a = gh_61 (3 : Int) 5 g w k a := by
  unfold F_X10_isHere_61
  rw [F_X10_isHere_76g]
  rfl
theorem F_X10_isHere_35g (n : Int) (g w : Nat → Int) : ∀ k : Nat, F_X10_isHere_35 n g w k = gh_35 (3 : Int) 5 n g w k
  | 0 => rfl
  | k + 1 => by
    show F_X10_isHere_35b n g w (F_X10_isHere_35 n g w k) = gh_35b (3 : Int) 5 n g w (gh_35 (3 : Int) 5 n g w k)
    rw [F_X10_isHere_35g n g w k]
    funext x y
    unfold F_X10_isHere_35b gh_35b
    rw [F_X10_isHere_61g]
theorem F_X10_isHere_g (xa n xe xb : Int) (g w : Nat → Int) : F_X10_isHere xa n xe xb g w = gH (3 : Int) 5 xa n xe xb g w := by
  unfold F_X10_isHere
  simp only [F_X10_isHere_35g]
  rfl
theorem F_X10_isHere_1 {g w : Nat → Int} {W : List Int} {n p : Nat} {xa xe : Int} (hn : n ≤ 1600) (hW : W.length = 3) (hw : wa w W) (h : mp g n p xa xe) : F_X10_isHere xa (n : Int) xe (0 : Int) g w = (b2 (wh g n W p), (tx_a g n p : Int)) := by
  rw [F_X10_isHere_g, ← gH_1 (f := 5) hn (by omega) hw h, hW]
  rfl
theorem F_X10_isHere_0 {g w : Nat → Int} {xa n xe xb : Int} (h : ¬ xb = 0) : F_X10_isHere xa n xe xb g w = ((0 : Int), xa) := by
  rw [F_X10_isHere_g, gH_0 h]
theorem F_X10_isHere_r4_76g (g w : Nat → Int) : ∀ k : Nat, F_X10_isHere_r4_76 g w k = gh_76 (4 : Int) g w k
  | 0 => rfl
  | k + 1 => by
    show F_X10_isHere_r4_76b g w (F_X10_isHere_r4_76 g w k) = gh_76b (4 : Int) g w (gh_76 (4 : Int) g w k)
    rw [F_X10_isHere_r4_76g g w k]
    rfl
theorem F_X10_isHere_r4_61g (g w : Nat → Int) (k a : Int) : F_X10_isHere_r4_61 g w k a = gh_61 (4 : Int) 6 g w k a := by
  unfold F_X10_isHere_r4_61
  rw [F_X10_isHere_r4_76g]
  rfl
theorem F_X10_isHere_r4_35g (n : Int) (g w : Nat → Int) : ∀ k : Nat, F_X10_isHere_r4_35 n g w k = gh_35 (4 : Int) 6 n g w k
  | 0 => rfl
  | k + 1 => by
    show F_X10_isHere_r4_35b n g w (F_X10_isHere_r4_35 n g w k) = gh_35b (4 : Int) 6 n g w (gh_35 (4 : Int) 6 n g w k)
    rw [F_X10_isHere_r4_35g n g w k]
    funext x y
    unfold F_X10_isHere_r4_35b gh_35b
    rw [F_X10_isHere_r4_61g]
theorem F_X10_isHere_r4_g (xa n xe xb : Int) (g w : Nat → Int) : F_X10_isHere_r4 xa n xe xb g w = gH (4 : Int) 6 xa n xe xb g w := by
  unfold F_X10_isHere_r4
  simp only [F_X10_isHere_r4_35g]
  rfl
theorem F_X10_isHere_r4_1 {g w : Nat → Int} {W : List Int} {n p : Nat} {xa xe : Int} (hn : n ≤ 1600) (hW : W.length = 4) (hw : wa w W) (h : mp g n p xa xe) : F_X10_isHere_r4 xa (n : Int) xe (0 : Int) g w = (b2 (wh g n W p), (tx_a g n p : Int)) := by
  rw [F_X10_isHere_r4_g, ← gH_1 (f := 6) hn (by omega) hw h, hW]
  rfl
theorem F_X10_isHere_r4_0 {g w : Nat → Int} {xa n xe xb : Int} (h : ¬ xb = 0) : F_X10_isHere_r4 xa n xe xb g w = ((0 : Int), xa) := by
  rw [F_X10_isHere_r4_g, gH_0 h]
theorem F_X10_isHere_r5_76g (g w : Nat → Int) : ∀ k : Nat, F_X10_isHere_r5_76 g w k = gh_76 (5 : Int) g w k
  | 0 => rfl
  | k + 1 => by
    show F_X10_isHere_r5_76b g w (F_X10_isHere_r5_76 g w k) = gh_76b (5 : Int) g w (gh_76 (5 : Int) g w k)
    rw [F_X10_isHere_r5_76g g w k]
    rfl
theorem F_X10_isHere_r5_61g (g w : Nat → Int) (k a : Int) : F_X10_isHere_r5_61 g w k a = gh_61 (5 : Int) 7 g w k a := by
  unfold F_X10_isHere_r5_61
  rw [F_X10_isHere_r5_76g]
  rfl
theorem F_X10_isHere_r5_35g (n : Int) (g w : Nat → Int) : ∀ k : Nat, F_X10_isHere_r5_35 n g w k = gh_35 (5 : Int) 7 n g w k
  | 0 => rfl
  | k + 1 => by
    show F_X10_isHere_r5_35b n g w (F_X10_isHere_r5_35 n g w k) = gh_35b (5 : Int) 7 n g w (gh_35 (5 : Int) 7 n g w k)
    rw [F_X10_isHere_r5_35g n g w k]
    funext x y
    unfold F_X10_isHere_r5_35b gh_35b
    rw [F_X10_isHere_r5_61g]
theorem F_X10_isHere_r5_g (xa n xe xb : Int) (g w : Nat → Int) : F_X10_isHere_r5 xa n xe xb g w = gH (5 : Int) 7 xa n xe xb g w := by
  unfold F_X10_isHere_r5
  simp only [F_X10_isHere_r5_35g]
  rfl
theorem F_X10_isHere_r5_1 {g w : Nat → Int} {W : List Int} {n p : Nat} {xa xe : Int} (hn : n ≤ 1600) (hW : W.length = 5) (hw : wa w W) (h : mp g n p xa xe) : F_X10_isHere_r5 xa (n : Int) xe (0 : Int) g w = (b2 (wh g n W p), (tx_a g n p : Int)) := by
  rw [F_X10_isHere_r5_g, ← gH_1 (f := 7) hn (by omega) hw h, hW]
  rfl
theorem F_X10_isHere_r5_0 {g w : Nat → Int} {xa n xe xb : Int} (h : ¬ xb = 0) : F_X10_isHere_r5 xa n xe xb g w = ((0 : Int), xa) := by
  rw [F_X10_isHere_r5_g, gH_0 h]
theorem F_X10_isHere_r6_76g (g w : Nat → Int) : ∀ k : Nat, F_X10_isHere_r6_76 g w k = gh_76 (6 : Int) g w k
  | 0 => rfl
  | k + 1 => by
    show F_X10_isHere_r6_76b g w (F_X10_isHere_r6_76 g w k) = gh_76b (6 : Int) g w (gh_76 (6 : Int) g w k)
    rw [F_X10_isHere_r6_76g g w k]
    rfl
theorem F_X10_isHere_r6_61g (g w : Nat → Int) (k a : Int) : F_X10_isHere_r6_61 g w k a = gh_61 (6 : Int) 8 g w k a := by
  unfold F_X10_isHere_r6_61
  rw [F_X10_isHere_r6_76g]
  rfl
theorem F_X10_isHere_r6_35g (n : Int) (g w : Nat → Int) : ∀ k : Nat, F_X10_isHere_r6_35 n g w k = gh_35 (6 : Int) 8 n g w k
  | 0 => rfl
  | k + 1 => by
    show F_X10_isHere_r6_35b n g w (F_X10_isHere_r6_35 n g w k) = gh_35b (6 : Int) 8 n g w (gh_35 (6 : Int) 8 n g w k)
    rw [F_X10_isHere_r6_35g n g w k]
    funext x y
    unfold F_X10_isHere_r6_35b gh_35b
    rw [F_X10_isHere_r6_61g]
theorem F_X10_isHere_r6_g (xa n xe xb : Int) (g w : Nat → Int) : F_X10_isHere_r6 xa n xe xb g w = gH (6 : Int) 8 xa n xe xb g w := by
  unfold F_X10_isHere_r6
  simp only [F_X10_isHere_r6_35g]
  rfl
theorem F_X10_isHere_r6_1 {g w : Nat → Int} {W : List Int} {n p : Nat} {xa xe : Int} (hn : n ≤ 1600) (hW : W.length = 6) (hw : wa w W) (h : mp g n p xa xe) : F_X10_isHere_r6 xa (n : Int) xe (0 : Int) g w = (b2 (wh g n W p), (tx_a g n p : Int)) := by
  rw [F_X10_isHere_r6_g, ← gH_1 (f := 8) hn (by omega) hw h, hW]
  rfl
theorem F_X10_isHere_r6_0 {g w : Nat → Int} {xa n xe xb : Int} (h : ¬ xb = 0) : F_X10_isHere_r6 xa n xe xb g w = ((0 : Int), xa) := by
  rw [F_X10_isHere_r6_g, gH_0 h]
