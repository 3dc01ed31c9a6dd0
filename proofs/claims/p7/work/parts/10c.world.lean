/-! a call on a part of the world: its cells come back to their places; the rest of the world (T) stays out of sight -/
theorem jw_L {ws T : va_W} {i : Nat} {q : Nat × va_E} (h : ws[i]? = some q) : (ws ++ T)[i]? = some q := by
  rw [List.getElem?_append_left (List.getElem?_eq_some_iff.mp h).1]
  exact h
theorem jw_T {ws T : va_W} {i : Nat} {q : Nat × va_E} (h : T[i]? = some q) : (ws ++ T)[ws.length + i]? = some q := by
  rw [List.getElem?_append_right (Nat.le_add_right _ _), Nat.add_sub_cancel_left]
  exact h
theorem jw_P {D : va_G} {cl : List vw_C} {ws T : va_W} {H : Heap} (h : va_P D cl (ws ++ T) H) : va_P D cl ws H := fun k q hq => h k q (jw_L hq)
theorem jw_D {A : Nat → Prop} {ws T : va_W} (h : va_D A (ws ++ T)) : va_D A ws := ⟨fun i j x y hx hy e => h.1 i j x y (jw_L hx) (jw_L hy) e, fun k q hq => h.2 k q (jw_L hq)⟩
theorem jw_DT {A : Nat → Prop} {ws T : va_W} (h : va_D A (ws ++ T)) : va_D A T := ⟨fun i j x y hx hy e => Nat.add_left_cancel (h.1 _ _ x y (jw_T hx) (jw_T hy) e), fun k q hq => h.2 _ q (jw_T hq)⟩
theorem jw_swP {D : va_G} {cl : List vw_C} {a b : va_W} {H : Heap} (h : va_P D cl (a ++ b) H) : va_P D cl (b ++ a) H := va_P.swap (a := []) (b := a) (c := b) h
theorem jw_swD {A : Nat → Prop} {a b : va_W} (h : va_D A (a ++ b)) : va_D A (b ++ a) := va_D.swap (a := []) (b := a) (c := b) h
def jw_ck (n : Nat) (isC isR : List Nat) : Bool := isR.all (fun i => decide (i ∉ isC)) && (List.range n).all (fun i => decide (i ∈ isC ∨ i ∈ isR)) && va_nd isC
theorem jw_ck_spec {n : Nat} {isC isR : List Nat} (h : jw_ck n isC isR = true) : (∀ i ∈ isR, i ∉ isC) ∧ (∀ i, i < n → i ∈ isC ∨ i ∈ isR) ∧ va_nd isC = true := by
  unfold jw_ck at h
  rw [Bool.and_eq_true, Bool.and_eq_true] at h
  obtain ⟨⟨h1, h2⟩, h3⟩ := h
  exact ⟨fun i hi => of_decide_eq_true (List.all_eq_true.mp h1 i hi), fun i hi => of_decide_eq_true (List.all_eq_true.mp h2 i (List.mem_range.mpr hi)), h3⟩
theorem jw_nT {ws wc : va_W} {isC : List Nat} (hC : isC.map (fun i => ws[i]?) = wc.map some) (i : Nat) : ws.length + i ∉ isC := by
  intro h
  obtain ⟨k, h1⟩ := List.getElem?_of_mem h
  have h2 : (isC.map (fun i => ws[i]?))[k]? = (wc.map some)[k]? := by rw [hC]
  rw [List.getElem?_map, List.getElem?_map, h1] at h2
  cases hw : wc[k]? with
  | none => rw [hw] at h2; cases h2
  | some z =>
    rw [hw] at h2
    have h3 : ws[ws.length + i]? = some z := Option.some.inj h2
    have := (List.getElem?_eq_some_iff.mp h3).1
    omega
theorem jw_put {A0 : Nat → Prop} {D : va_G} {cl : List vw_C} {ws T wc w1 X : va_W} {H H1 : Heap} {n : Nat} (hP : va_P D cl (ws ++ T) H) (hD : va_D A0 (ws ++ T)) (isC isR : List Nat) (hC : isC.map (fun i => ws[i]?) = wc.map some) (hck : jw_ck n isC isR = true)
    (hk : ∀ q : Nat, q < H.size → ¬ va_A wc H.size q → H1[q]? = H[q]?) (hF : ∀ q, va_A wc H.size q → A0 q) (hP1 : va_P D cl w1 H1) (hD1 : va_D (va_A wc H.size) w1) (hX : X.length = n) (hXC : isC.map (fun i => X[i]?) = w1.map some) (hXR : isR.map (fun i => X[i]?) = isR.map (fun i => ws[i]?)) : va_P D cl (X ++ T) H1 ∧ va_D A0 (X ++ T) := by
  obtain ⟨k1, k2, k3⟩ := jw_ck_spec hck
  have hPw := jw_P hP
  have hDw := jw_D hD
  have apW : ∀ (i : Nat) (q : Nat × va_E), i ∉ isC → (ws ++ T)[i]? = some q → q.1 < H.size ∧ ¬ va_A wc H.size q.1 := by
    intro i q hi hq
    have hl := (hP i q hq).lt
    refine ⟨hl, fun h => ?_⟩
    rcases h with ⟨k, e, h⟩ | h
    · obtain ⟨j, h3, h4⟩ := va_in_of isC hC h
      have hij := hD.1 i j q (q.1, e) hq (jw_L h4) rfl
      rw [hij] at hi
      exact hi (List.mem_of_getElem? h3)
    · omega
  have atX : ∀ (i : Nat) (q : Nat × va_E), X[i]? = some q → (∃ k : Nat, isC[k]? = some i ∧ w1[k]? = some q) ∨ (i ∉ isC ∧ ws[i]? = some q) := by
    intro i q hq
    have hi : i < n := by rw [← hX]; exact (List.getElem?_eq_some_iff.mp hq).1
    by_cases hc : i ∈ isC
    · obtain ⟨k, hk1⟩ := List.getElem?_of_mem hc
      have h2 : (isC.map (fun i => X[i]?))[k]? = (w1.map some)[k]? := by rw [hXC]
      rw [List.getElem?_map, List.getElem?_map, hk1] at h2
      cases hw : w1[k]? with
      | none => rw [hw] at h2; cases h2
      | some z =>
        rw [hw] at h2
        have h3 : X[i]? = some z := Option.some.inj h2
        rw [hq] at h3
        exact Or.inl ⟨k, hk1, hw.trans h3.symm⟩
    · have hr := (k2 i hi).resolve_left hc
      have h2 : X[i]? = ws[i]? := List.map_inj_left.mp hXR i hr
      exact Or.inr ⟨hc, h2.symm.trans hq⟩
  have hPX : va_P D cl X H1 := by
    intro i q hq
    rcases atX i q hq with ⟨k, h1, h2⟩ | ⟨h1, h2⟩
    · exact hP1 k q h2
    · obtain ⟨g1, g2⟩ := apW i q h1 (jw_L h2)
      exact (hPw i q h2).kept (hk q.1 g1 g2)
  have hPT : va_P D cl T H1 := by
    intro i q hq
    obtain ⟨g1, g2⟩ := apW _ q (jw_nT hC i) (jw_T hq)
    exact (hP _ q (jw_T hq)).kept (hk q.1 g1 g2)
  have hDX : va_D A0 X := by
    refine ⟨fun i j x y hx hy e => ?_, fun i q hq => ?_⟩
    · rcases atX i x hx with ⟨a, h1, h2⟩ | ⟨h1, h2⟩
      · rcases atX j y hy with ⟨b, g1, g2⟩ | ⟨g1, g2⟩
        · have hab := hD1.1 a b x y h2 g2 e
          subst hab
          exact Option.some.inj (h1.symm.trans g1)
        · have h3 := hD1.2 a x h2
          rw [e] at h3
          exact absurd h3 (apW j y g1 (jw_L g2)).2
      · rcases atX j y hy with ⟨b, g1, g2⟩ | ⟨g1, g2⟩
        · have h3 := hD1.2 b y g2
          rw [← e] at h3
          exact absurd h3 (apW i x h1 (jw_L h2)).2
        · exact hDw.1 i j x y h2 g2 e
    · rcases atX i q hq with ⟨k, h1, h2⟩ | ⟨h1, h2⟩
      · exact hF q.1 (hD1.2 k q h2)
      · exact hDw.2 i q h2
  refine ⟨va_P.app hPX hPT, va_D.app hDX (jw_DT hD) (fun i j x y hx hy e => ?_)⟩
  have hT := apW _ y (jw_nT hC j) (jw_T hy)
  rcases atX i x hx with ⟨k, h1, h2⟩ | ⟨h1, h2⟩
  · have h3 := hD1.2 k x h2
    rw [e] at h3
    exact hT.2 h3
  · have h3 := hD.1 i (ws.length + j) x y (jw_L h2) (jw_T hy) e
    have h4 := (List.getElem?_eq_some_iff.mp h2).1
    omega
theorem jw_app {A0 : Nat → Prop} {D : va_G} {cl : List vw_C} {ws T w1 : va_W} {H H1 : Heap} (hP : va_P D cl (ws ++ T) H) (hD : va_D A0 (ws ++ T)) (hk : ∀ q : Nat, q < H.size → ¬ va_A ws H.size q → H1[q]? = H[q]?) (hF : ∀ q, va_A ws H.size q → A0 q) (hP1 : va_P D cl w1 H1) (hD1 : va_D (va_A ws H.size) w1) : va_P D cl (w1 ++ T) H1 ∧ va_D A0 (w1 ++ T) := by
  have apT : ∀ (i : Nat) (q : Nat × va_E), T[i]? = some q → q.1 < H.size ∧ ¬ va_A ws H.size q.1 := by
    intro i q hq
    have hl := (hP _ q (jw_T hq)).lt
    refine ⟨hl, fun h => ?_⟩
    rcases h with ⟨k, e, h⟩ | h
    · have h3 := hD.1 _ _ q (q.1, e) (jw_T hq) (jw_L h) rfl
      have h4 := (List.getElem?_eq_some_iff.mp h).1
      omega
    · omega
  refine ⟨va_P.app hP1 (fun i q hq => (hP _ q (jw_T hq)).kept (hk q.1 (apT i q hq).1 (apT i q hq).2)), va_D.app (hD1.weaken (fun k q _ h => hF q.1 h)) (jw_DT hD) (fun i j x y hx hy e => ?_)⟩
  have h3 := hD1.2 i x hx
  rw [e] at h3
  exact (apT j y hy).2 h3
section JW
variable {p : Program} {l : Launch} {e : Env} {R : Room} {s : State} {m : MethodId} {args : Array Value} {below : List Frame} {meth : Method} {c : Code} {H : Heap} {locs : List Loc} {cells slots : Nat} {Q : State → Prop}
variable {pc : Nat} {ls : Array Slot} {rest st0 : List Value} {A : Nat → Prop} {ws T : va_W} {H0 : Heap} {dC : Nat → ClassId} {dI : Nat → Nat → Nat} {mc ms : Nat} {wc : va_W} {S : Type}
theorem jw_i {post : Int32 → S → Prop} {B : S → va_W} {a : Array Value} (n : Nat) (isC isR : List Nat) (hP : va_P (dC, dI) vwCl (ws ++ T) H) (hD : va_D A (ws ++ T)) (hS : va_S A H0 H locs) (hA : ∀ q, H0.size ≤ q → A q)
    (hr : va_P (dC, dI) vwCl wc H → va_D A wc → va_Run p l e R s m args below meth c H locs cells slots 0 0 (F0 m pc ls st0) rest (k_Qi dC dI post B (va_A wc H.size) a) (va_A wc H.size))
    (hC : isC.map (fun i => ws[i]?) = wc.map some) (hck : jw_ck n isC isR = true)
    (kk : ∀ (r : Int32) (u : S) (H1 : Heap) (locs1 : List Loc), post r u → (∀ X : va_W, X.length = n → isC.map (fun i => X[i]?) = (B u).map some → isR.map (fun i => X[i]?) = isR.map (fun i => ws[i]?) → va_P (dC, dI) vwCl (X ++ T) H1 ∧ va_D A (X ++ T)) → va_S A H0 H1 locs1 → W p l e R s m args below meth c H1 locs1 cells slots Q (F0 m (pc + 3) ls (.int r :: rest))) : W p l e R s m args below meth c H locs cells slots Q (F0 m pc ls st0) := by
  have hDw := jw_D hD
  have hFc := va_free (wc := wc) hDw hS hA isC hC
  refine va_calli (hr (k_P_sub (jw_P hP) isC hC) (hDw.sub isC (jw_ck_spec hck).2.2 hC)) hS (fun q _ h => hFc q h) hFc (fun r u t H1 locs1 ht hvm hw hB hz hk hS1 => ?_)
  obtain ⟨hP1, hD1⟩ := hB
  rw [ht] at hP1
  exact kk r u H1 locs1 hw (fun X hX hXC hXR => jw_put hP hD isC isR hC hck hk hFc hP1 hD1 hX hXC hXR) hS1
theorem jw_l {post : Int64 → S → Prop} {B : S → va_W} {a : Array Value} (n : Nat) (isC isR : List Nat) (hP : va_P (dC, dI) vwCl (ws ++ T) H) (hD : va_D A (ws ++ T)) (hS : va_S A H0 H locs) (hA : ∀ q, H0.size ≤ q → A q)
    (hr : va_P (dC, dI) vwCl wc H → va_D A wc → va_Run p l e R s m args below meth c H locs cells slots 0 0 (F0 m pc ls st0) rest (k_Ql dC dI post B (va_A wc H.size) a) (va_A wc H.size))
    (hC : isC.map (fun i => ws[i]?) = wc.map some) (hck : jw_ck n isC isR = true)
    (kk : ∀ (r : Int64) (u : S) (H1 : Heap) (locs1 : List Loc), post r u → (∀ X : va_W, X.length = n → isC.map (fun i => X[i]?) = (B u).map some → isR.map (fun i => X[i]?) = isR.map (fun i => ws[i]?) → va_P (dC, dI) vwCl (X ++ T) H1 ∧ va_D A (X ++ T)) → va_S A H0 H1 locs1 → W p l e R s m args below meth c H1 locs1 cells slots Q (F0 m (pc + 3) ls (.long r :: rest))) : W p l e R s m args below meth c H locs cells slots Q (F0 m pc ls st0) := by
  have hDw := jw_D hD
  have hFc := va_free (wc := wc) hDw hS hA isC hC
  refine va_calll (hr (k_P_sub (jw_P hP) isC hC) (hDw.sub isC (jw_ck_spec hck).2.2 hC)) hS (fun q _ h => hFc q h) hFc (fun r u t H1 locs1 ht hvm hw hB hz hk hS1 => ?_)
  obtain ⟨hP1, hD1⟩ := hB
  rw [ht] at hP1
  exact kk r u H1 locs1 hw (fun X hX hXC hXR => jw_put hP hD isC isR hC hck hk hFc hP1 hD1 hX hXC hXR) hS1
theorem jw_v {post : S → Prop} {B : S → va_W} {a : Array Value} (hP : va_P (dC, dI) vwCl (ws ++ T) H) (hD : va_D A (ws ++ T)) (hS : va_S A H0 H locs) (hA : ∀ q, H0.size ≤ q → A q) (k j : Nat) (h1 : cells + mc ≤ k) (h2 : slots + ms ≤ j)
    (hr : va_P (dC, dI) vwCl ws H → va_D A ws → va_Run p l e R s m args below meth c H locs cells slots mc ms (F0 m pc ls st0) rest (k_Qv dC dI post B (va_A ws H.size) a) (va_A ws H.size))
    (kk : ∀ (u : S) (H1 : Heap) (locs1 : List Loc), post u → va_P (dC, dI) vwCl (B u ++ T) H1 → va_D A (B u ++ T) → va_S A H0 H1 locs1 → W p l e R s m args below meth c H1 locs1 k j Q (F0 m (pc + 3) ls rest)) : W p l e R s m args below meth c H locs cells slots Q (F0 m pc ls st0) := by
  have hDw := jw_D hD
  have hFc : ∀ q, va_A ws H.size q → A q := fun q h => h.elim (fun ⟨k, e, h⟩ => hDw.2 k (q, e) h) (fun h => hA q (Nat.le_trans hS.1 h))
  refine va_callv (hr (jw_P hP) hDw) hS (fun q _ h => hFc q h) hFc (fun u t H1 locs1 ht hvm hw hB hz hk hS1 => ?_)
  obtain ⟨hP1, hD1⟩ := hB
  rw [ht] at hP1
  obtain ⟨hP2, hD2⟩ := jw_app hP hD hk hFc hP1 hD1
  exact W.widen h1 h2 (kk u H1 locs1 hw hP2 hD2 hS1)
end JW
/-- functions by a list -/
def lf_i (l : List Int32) : Nat → Int32 := fun k => l.getD k 0
def lf_z (l : List Int64) : Nat → Int64 := fun k => l.getD k 0
def lf_n (l : List Nat) : Nat → Nat := fun k => l.getD k 0
def lf_f (l : List (Nat → Int32)) : Nat → Nat → Int32 := fun k => l.getD k (fun _ => 0)
def lf_l (l : List (Nat → Int64)) : Nat → Nat → Int64 := fun k => l.getD k (fun _ => 0)
abbrev XS : Type := (Nat → Nat) × (Nat → Nat) × (Nat → Nat) × (Nat → Int32) × Int64 × (Nat → Nat → Int32) × (Nat → Int32) × (Nat → Int32) × (Nat → Int32) × (Nat → Nat → Int32)
def wXx (cy : Nat → ClassId) (x0 : Nat) (xu xq xr : Nat → Nat) (xv : Nat → Int32) (xd : Int64) (xG : Nat → Nat → Int32) (xD xR xK : Nat → Int32) (xE : Nat → Nat → Int32) : va_W := ((x0, .inr (9, [.ref (xu 0), .int (xv 0), .ref (xu 1), .ref (xu 11), .ref (xu 21), .ref (xu 23), .ref (xu 25), .ref (xu 29), .ref (xu 30), .ref (xu 37), .ref (xu 39), .ref (xu 44), .ref (xu 48), .int (xv 52), .ref (xu 49), .long xd])) :: ((xu 0), .inl (cy 0, 1600, .inl (xG 0))) :: ((xu 1), .inr (4, [.int (xv 1), .int (xv 2), .int (xv 3), .int (xv 4), .int (xv 5), .int (xv 6), .int (xv 7), .ref (xu 2), .ref (xu 3), .ref (xu 4), .int (xv 8), .ref (xu 5), .ref (xu 6), .ref (xu 7), .ref (xu 8), .ref (xu 9), .int (xv 9), .ref (xu 10)])) :: ((xu 2), .inl (cy 0, 6, .inl (xG 1))) :: ((xu 3), .inl (cy 0, 6, .inl (xG 2))) :: ((xu 4), .inl (cy 0, 6, .inl (xG 3))) :: ((xu 5), .inl (cy 0, 12, .inl (xG 4))) :: ((xu 6), .inl (cy 0, 12, .inl (xG 5))) :: ((xu 7), .inl (cy 0, 200, .inl (xG 6))) :: ((xu 8), .inl (cy 0, 108, .inl (xG 7))) :: ((xu 9), .inl (cy 0, 1600, .inl (xG 8))) :: ((xu 10), .inl (cy 0, 6, .inl (xG 9))) :: ((xu 11), .inr (4, [.int (xv 10), .int (xv 11), .int (xv 12), .int (xv 13), .int (xv 14), .int (xv 15), .int (xv 16), .ref (xu 12), .ref (xu 13), .ref (xu 14), .int (xv 17), .ref (xu 15), .ref (xu 16), .ref (xu 17), .ref (xu 18), .ref (xu 19), .int (xv 18), .ref (xu 20)])) :: ((xu 12), .inl (cy 0, 6, .inl (xG 10))) :: ((xu 13), .inl (cy 0, 6, .inl (xG 11))) :: ((xu 14), .inl (cy 0, 6, .inl (xG 12))) :: ((xu 15), .inl (cy 0, 12, .inl (xG 13))) :: ((xu 16), .inl (cy 0, 12, .inl (xG 14))) :: ((xu 17), .inl (cy 0, 200, .inl (xG 15))) :: ((xu 18), .inl (cy 0, 108, .inl (xG 16))) :: ((xu 19), .inl (cy 0, 1600, .inl (xG 17))) :: ((xu 20), .inl (cy 0, 6, .inl (xG 18))) :: ((xu 21), .inr (6, [.int (xv 19), .int (xv 20), .int (xv 21), .ref (xu 22)])) :: ((xu 22), .inl (cy 0, 6, .inl (xG 19))) :: ((xu 23), .inr (2, [.ref (xu 24), .int (xv 22), .int (xv 23)])) :: ((xu 24), .inl (cy 4, 20, .inr (.inr (.inr (.inr (rg_f xq)))))) :: ((xq 0), .inr (6, [.int (xD 0), .int (xR 0), .int (xK 0), .ref (xr 0)])) :: ((xr 0), .inl (cy 0, 6, .inl (xE 0))) :: ((xq 1), .inr (6, [.int (xD 1), .int (xR 1), .int (xK 1), .ref (xr 1)])) :: ((xr 1), .inl (cy 0, 6, .inl (xE 1))) :: ((xq 2), .inr (6, [.int (xD 2), .int (xR 2), .int (xK 2), .ref (xr 2)])) :: ((xr 2), .inl (cy 0, 6, .inl (xE 2))) :: ((xq 3), .inr (6, [.int (xD 3), .int (xR 3), .int (xK 3), .ref (xr 3)])) :: ((xr 3), .inl (cy 0, 6, .inl (xE 3))) :: ((xq 4), .inr (6, [.int (xD 4), .int (xR 4), .int (xK 4), .ref (xr 4)])) :: ((xr 4), .inl (cy 0, 6, .inl (xE 4))) :: ((xq 5), .inr (6, [.int (xD 5), .int (xR 5), .int (xK 5), .ref (xr 5)])) :: ((xr 5), .inl (cy 0, 6, .inl (xE 5))) :: ((xq 6), .inr (6, [.int (xD 6), .int (xR 6), .int (xK 6), .ref (xr 6)])) :: ((xr 6), .inl (cy 0, 6, .inl (xE 6))) :: ((xq 7), .inr (6, [.int (xD 7), .int (xR 7), .int (xK 7), .ref (xr 7)])) :: ((xr 7), .inl (cy 0, 6, .inl (xE 7))) :: ((xq 8), .inr (6, [.int (xD 8), .int (xR 8), .int (xK 8), .ref (xr 8)])) :: ((xr 8), .inl (cy 0, 6, .inl (xE 8))) :: ((xq 9), .inr (6, [.int (xD 9), .int (xR 9), .int (xK 9), .ref (xr 9)])) :: ((xr 9), .inl (cy 0, 6, .inl (xE 9))) :: ((xq 10), .inr (6, [.int (xD 10), .int (xR 10), .int (xK 10), .ref (xr 10)])) :: ((xr 10), .inl (cy 0, 6, .inl (xE 10))) :: ((xq 11), .inr (6, [.int (xD 11), .int (xR 11), .int (xK 11), .ref (xr 11)])) :: ((xr 11), .inl (cy 0, 6, .inl (xE 11))) :: ((xq 12), .inr (6, [.int (xD 12), .int (xR 12), .int (xK 12), .ref (xr 12)])) :: ((xr 12), .inl (cy 0, 6, .inl (xE 12))) :: ((xq 13), .inr (6, [.int (xD 13), .int (xR 13), .int (xK 13), .ref (xr 13)])) :: ((xr 13), .inl (cy 0, 6, .inl (xE 13))) :: ((xq 14), .inr (6, [.int (xD 14), .int (xR 14), .int (xK 14), .ref (xr 14)])) :: ((xr 14), .inl (cy 0, 6, .inl (xE 14))) :: ((xq 15), .inr (6, [.int (xD 15), .int (xR 15), .int (xK 15), .ref (xr 15)])) :: ((xr 15), .inl (cy 0, 6, .inl (xE 15))) :: ((xq 16), .inr (6, [.int (xD 16), .int (xR 16), .int (xK 16), .ref (xr 16)])) :: ((xr 16), .inl (cy 0, 6, .inl (xE 16))) :: ((xq 17), .inr (6, [.int (xD 17), .int (xR 17), .int (xK 17), .ref (xr 17)])) :: ((xr 17), .inl (cy 0, 6, .inl (xE 17))) :: ((xq 18), .inr (6, [.int (xD 18), .int (xR 18), .int (xK 18), .ref (xr 18)])) :: ((xr 18), .inl (cy 0, 6, .inl (xE 18))) :: ((xq 19), .inr (6, [.int (xD 19), .int (xR 19), .int (xK 19), .ref (xr 19)])) :: ((xr 19), .inl (cy 0, 6, .inl (xE 19))) :: ((xu 25), .inr (3, [.ref (xu 26), .ref (xu 27)])) :: ((xu 26), .inl (cy 0, 13, .inl (xG 20))) :: ((xu 27), .inl (cy 0, 64, .inl (xG 21))) :: ((xu 29), .inr (5, [.ref (xu 0), .int (xv 24), .int (xv 25), .int (xv 26), .int (xv 27), .int (xv 28), .ref (xu 28), .int (xv 29), .int (xv 30)])) :: ((xu 30), .inr (7, [.ref (xu 25), .ref (xu 1), .int (xv 31), .ref (xu 31), .int (xv 32), .int (xv 33), .int (xv 34), .int (xv 35), .ref (xu 32), .ref (xu 33), .ref (xu 34), .ref (xu 35), .ref (xu 36), .int (xv 36), .int (xv 37), .int (xv 38), .int (xv 39)])) :: ((xu 31), .inl (cy 0, 6, .inl (xG 22))) :: ((xu 32), .inl (cy 0, 320, .inl (xG 23))) :: ((xu 33), .inl (cy 0, 320, .inl (xG 24))) :: ((xu 34), .inl (cy 0, 3600, .inl (xG 25))) :: ((xu 35), .inl (cy 0, 300, .inl (xG 26))) :: ((xu 36), .inl (cy 0, 12, .inl (xG 27))) :: ((xu 37), .inr (1, [.ref (xu 30), .ref (xu 38), .int (xv 40)])) :: ((xu 38), .inl (cy 0, 39, .inl (xG 28))) :: ((xu 39), .inr (0, [.ref (xu 30), .ref (xu 40), .ref (xu 42), .ref (xu 43), .int (xv 44)])) :: ((xu 40), .inr (6, [.int (xv 41), .int (xv 42), .int (xv 43), .ref (xu 41)])) :: ((xu 41), .inl (cy 0, 6, .inl (xG 29))) :: ((xu 42), .inl (cy 0, 180, .inl (xG 30))) :: ((xu 43), .inl (cy 0, 180, .inl (xG 31))) :: ((xu 44), .inr (8, [.ref (xu 30), .ref (xu 45), .ref (xu 46), .int (xv 45), .int (xv 46), .ref (xu 47), .int (xv 47), .int (xv 48), .int (xv 49), .int (xv 50), .int (xv 51)])) :: ((xu 45), .inl (cy 0, 16, .inl (xG 32))) :: ((xu 46), .inl (cy 0, 16, .inl (xG 33))) :: ((xu 47), .inl (cy 0, 720, .inl (xG 34))) :: ((xu 48), .inl (cy 0, 11, .inl (xG 35))) :: ((xu 49), .inl (cy 0, 6, .inl (xG 36))) :: [])
def wX (cy : Nat → ClassId) (x0 : Nat) (σ : XS) : va_W := wXx cy x0 σ.1 σ.2.1 σ.2.2.1 σ.2.2.2.1 σ.2.2.2.2.1 σ.2.2.2.2.2.1 σ.2.2.2.2.2.2.1 σ.2.2.2.2.2.2.2.1 σ.2.2.2.2.2.2.2.2.1 σ.2.2.2.2.2.2.2.2.2
def IXx (xv : Nat → Int32) (xG : Nat → Nat → Int32) : Prop := ia (xG 0) 1600 0 255 ∧ ib (xv 0) 0 1600 ∧ ib (xv 1) 0 120 ∧ ib (xv 4) 0 99 ∧ ib (xv 6) 0 81 ∧ ib (xv 7) 0 6 ∧ ib (xv 8) 0 12 ∧ ia (xG 4) 12 0 5 ∧ ia (xG 5) 12 0 199 ∧ ib (xv 9) 0 1600 ∧ ia (xG 9) 6 0 1600 ∧ ib (xv 10) 0 120 ∧ ib (xv 13) 0 99 ∧ ib (xv 15) 0 81 ∧ ib (xv 16) 0 6 ∧ ib (xv 17) 0 12 ∧ ia (xG 13) 12 0 5 ∧ ia (xG 14) 12 0 199 ∧ ib (xv 18) 0 1600 ∧ ia (xG 18) 6 0 1600 ∧ ib (xv 22) 0 19 ∧ ib (xv 23) 0 20 ∧ ib (xv 24) 0 1600 ∧ ib (xv 25) 0 1600 ∧ ib (xv 26) 0 1600 ∧ ib (xv 27) 0 4 ∧ (¬ (xv 27) = 0 → ib (xv 25) 0 1599) ∧ ib (xv 35) 0 1 ∧ ib (xv 40) 0 1 ∧ ib (xv 44) 0 30 ∧ ia (xG 32) 16 0 11 ∧ ib (xv 45) 0 16 ∧ ib (xv 46) 0 1 ∧ ib (xv 47) 0 60 ∧ ib (xv 52) 0 11
def IX (σ : XS) : Prop := IXx σ.2.2.2.1 σ.2.2.2.2.2.1
abbrev MS : Type := (Nat → Nat) × (Nat → Int32) × (Nat → Int64) × (Nat → Nat → Int32) × (Nat → Nat → Int64)
def wMm (cy : Nat → ClassId) (m0 : Nat) (mr : Nat → Nat) (mv : Nat → Int32) (mz : Nat → Int64) (mG : Nat → Nat → Int32) (mL : Nat → Nat → Int64) : va_W := ((m0, .inr (10, mfs mr (mv 0) (mv 1) (mv 2) (mv 3) (mv 4) (mv 5) (mv 6) (mv 7) (mv 8) (mv 9) (mv 10) (mv 11) (mv 12) (mv 13) (mv 14) (mv 15) (mv 16) (mv 17) (mv 18) (mv 19) (mv 20) (mv 21) (mv 22) (mv 23) (mv 24) (mv 25) (mv 26) (mv 27) (mz 0) (mv 28) (mv 29) (mv 30) (mv 31) (mv 32) (mz 1) (mv 33) (mv 34))) :: ((mr 0), .inl (cy 0, 1600, .inl (mG 0))) :: ((mr 9), .inl (cy 0, 6, .inl (mG 1))) :: ((mr 10), .inl (cy 2, 5, .inl (mG 2))) :: ((mr 11), .inl (cy 2, 5, .inl (mG 3))) :: ((mr 12), .inl (cy 2, 4, .inl (mG 4))) :: ((mr 13), .inl (cy 2, 5, .inl (mG 5))) :: ((mr 14), .inl (cy 2, 4, .inl (mG 6))) :: ((mr 15), .inl (cy 2, 4, .inl (mG 7))) :: ((mr 16), .inl (cy 2, 4, .inl (mG 8))) :: ((mr 17), .inl (cy 2, 6, .inl (mG 9))) :: ((mr 18), .inl (cy 2, 5, .inl (mG 10))) :: ((mr 19), .inl (cy 2, 2, .inl (mG 11))) :: ((mr 20), .inl (cy 2, 2, .inl (mG 12))) :: ((mr 21), .inl (cy 2, 3, .inl (mG 13))) :: ((mr 22), .inl (cy 2, 3, .inl (mG 14))) :: ((mr 23), .inl (cy 2, 6, .inl (mG 15))) :: ((mr 24), .inl (cy 2, 4, .inl (mG 16))) :: ((mr 25), .inl (cy 2, 6, .inl (mG 17))) :: ((mr 26), .inl (cy 2, 3, .inl (mG 18))) :: ((mr 27), .inl (cy 2, 5, .inl (mG 19))) :: ((mr 28), .inl (cy 2, 6, .inl (mG 20))) :: ((mr 29), .inl (cy 2, 3, .inl (mG 21))) :: ((mr 30), .inl (cy 2, 4, .inl (mG 22))) :: ((mr 31), .inl (cy 2, 6, .inl (mG 23))) :: ((mr 32), .inl (cy 2, 4, .inl (mG 24))) :: ((mr 33), .inl (cy 2, 4, .inl (mG 25))) :: ((mr 34), .inl (cy 2, 2, .inl (mG 26))) :: ((mr 35), .inl (cy 2, 3, .inl (mG 27))) :: ((mr 36), .inl (cy 2, 3, .inl (mG 28))) :: ((mr 37), .inl (cy 2, 3, .inl (mG 29))) :: ((mr 38), .inl (cy 2, 3, .inl (mG 30))) :: ((mr 39), .inl (cy 2, 3, .inl (mG 31))) :: ((mr 41), .inl (cy 0, 4, .inl (mG 32))) :: ((mr 42), .inl (cy 1, 48, .inr (.inl (mL 0)))) :: ((mr 43), .inl (cy 0, 8, .inl (mG 33))) :: ((mr 44), .inl (cy 0, 24, .inl (mG 34))) :: ((mr 45), .inl (cy 0, 6, .inl (mG 35))) :: ((mr 46), .inl (cy 0, 48, .inl (mG 36))) :: ((mr 49), .inl (cy 0, 6, .inl (mG 37))) :: ((mr 50), .inl (cy 0, 6, .inl (mG 38))) :: ((mr 51), .inl (cy 0, 3200, .inl (mG 39))) :: ((mr 56), .inl (cy 0, 9, .inl (mG 40))) :: ((mr 57), .inl (cy 0, 9, .inl (mG 41))) :: ((mr 60), .inl (cy 3, 320, .inl (mG 42))) :: ((mr 61), .inl (cy 0, 300, .inl (mG 43))) :: ((mr 62), .inl (cy 3, 300, .inl (mG 44))) :: ((mr 63), .inl (cy 3, 12, .inl (mG 45))) :: ((mr 64), .inl (cy 0, 12, .inl (mG 46))) :: ((mr 65), .inl (cy 0, 12, .inl (mG 47))) :: ((mr 66), .inl (cy 3, 12, .inl (mG 48))) :: ((mr 67), .inl (cy 3, 12, .inl (mG 49))) :: ((mr 68), .inl (cy 3, 12, .inl (mG 50))) :: ((mr 69), .inl (cy 3, 300, .inl (mG 51))) :: ((mr 76), .inl (cy 0, 32, .inl (mG 52))) :: ((mr 77), .inl (cy 0, 720, .inl (mG 53))) :: ((mr 81), .inl (cy 0, 180, .inl (mG 54))) :: ((mr 85), .inl (cy 2, 5, .inl (mG 55))) :: ((mr 86), .inl (cy 2, 4, .inl (mG 56))) :: ((mr 87), .inl (cy 2, 5, .inl (mG 57))) :: ((mr 88), .inl (cy 2, 5, .inl (mG 58))) :: ((mr 89), .inl (cy 2, 4, .inl (mG 59))) :: ((mr 90), .inl (cy 2, 5, .inl (mG 60))) :: ((mr 91), .inl (cy 2, 3, .inl (mG 61))) :: ((mr 92), .inl (cy 2, 3, .inl (mG 62))) :: ((mr 93), .inl (cy 2, 2, .inl (mG 63))) :: ((mr 94), .inl (cy 2, 3, .inl (mG 64))) :: ((mr 95), .inl (cy 2, 3, .inl (mG 65))) :: ((mr 96), .inl (cy 2, 3, .inl (mG 66))) :: ((mr 97), .inl (cy 2, 6, .inl (mG 67))) :: ((mr 98), .inl (cy 2, 3, .inl (mG 68))) :: ((mr 99), .inl (cy 2, 5, .inl (mG 69))) :: ((mr 100), .inl (cy 2, 6, .inl (mG 70))) :: ((mr 101), .inl (cy 2, 4, .inl (mG 71))) :: ((mr 102), .inl (cy 2, 4, .inl (mG 72))) :: ((mr 103), .inl (cy 2, 6, .inl (mG 73))) :: ((mr 104), .inl (cy 2, 3, .inl (mG 74))) :: ((mr 105), .inl (cy 2, 4, .inl (mG 75))) :: ((mr 106), .inl (cy 2, 6, .inl (mG 76))) :: ((mr 107), .inl (cy 2, 4, .inl (mG 77))) :: ((mr 108), .inl (cy 2, 4, .inl (mG 78))) :: ((mr 109), .inl (cy 2, 4, .inl (mG 79))) :: ((mr 110), .inl (cy 0, 1700, .inl (mG 80))) :: ((mr 112), .inl (cy 0, 1700, .inl (mG 81))) :: ((mr 116), .inl (cy 1, 1700, .inr (.inl (mL 1)))) :: ((mr 120), .inl (cy 0, 11, .inl (mG 82))) :: [])
def wM (cy : Nat → ClassId) (m0 : Nat) (τ : MS) : va_W := wMm cy m0 τ.1 τ.2.1 τ.2.2.1 τ.2.2.2.1 τ.2.2.2.2
def IMm (mv : Nat → Int32) (mG : Nat → Nat → Int32) : Prop := ib (mv 0) 0 1600 ∧ ia (mG 0) 1600 0 255 ∧ ib (mv 13) 0 1 ∧ ib (mv 22) 0 16 ∧ ib (mv 26) 0 20 ∧ ib (mv 28) 0 1700 ∧ ib (mv 29) 0 1700 ∧ ib (mv 31) 0 1700 ∧ ia (mG 32) 4 0 12 ∧ ib ((mG 32) 1) 0 12 ∧ ib ((mG 32) 2) 0 6 ∧ ib ((mG 32) 3) 0 12 ∧ ib ((mG 33) 4) 0 120 ∧ ip (mG 36) 48 2 0 0 5 ∧ ia (mG 37) 6 (-1) 1600 ∧ ib ((mG 37) 1) (-1) 1600 ∧ ib ((mG 37) 2) (-1) 1600 ∧ ib ((mG 37) 3) (-1) 1600 ∧ ib ((mG 37) 4) (-1) 1600 ∧ ib ((mG 37) 5) (-1) 1600 ∧ ia (mG 38) 6 0 1600 ∧ ib ((mG 38) 0) 0 1600 ∧ ib ((mG 38) 1) 0 1600 ∧ ib ((mG 38) 2) 0 1600 ∧ ib ((mG 38) 3) 0 1600 ∧ ib ((mG 38) 4) 0 1600 ∧ ib ((mG 38) 5) 0 1600 ∧ (¬ (mG 37) 3 = (-1) → okc (mG 39) 1600 false ((mG 37) 3) ((mG 38) 3)) ∧ (¬ (mG 37) 4 = (-1) → okc (mG 39) 1600 true ((mG 37) 4) ((mG 38) 4)) ∧ (¬ (mG 37) 5 = (-1) → okc (mG 39) 1600 false ((mG 37) 5) ((mG 38) 5)) ∧ (¬ (mv 13) = 0 → ib ((mG 33) 4) 10 120) ∧ (¬ ((mG 32) 2) = 0 → ib ((mG 33) 4) 10 120) ∧ (¬ ((mG 32) 3) = 0 → ib ((mG 33) 4) 10 120) ∧ ib (mv 17) 0 1 ∧ ib (mv 20) 0 1 ∧ ib (mv 32) 0 1700 ∧ ia (mG 43) 300 0 20 ∧ ip (mG 52) 32 2 0 0 11 ∧ ib (mv 23) 0 60 ∧ ib (mv 27) 0 19 ∧ ib (mv 1) 0 1600 ∧ ib (mv 2) 0 1600 ∧ ib (mv 33) 0 1 ∧ ib (mv 34) 0 11
def IM (τ : MS) : Prop := IMm τ.2.1 τ.2.2.2.1
/-- what feed, what end answers, and what becomes of the tape's size -/
def lw_feed (a b r : Int32) : Prop := (a.toInt + 20 ≤ 1600 ∧ b.toInt = a.toInt + 20 ∧ r = b) ∨ (1600 < a.toInt + 20 ∧ b = a ∧ r = -1)
def lw_end (p a b r : Int32) : Prop := (0 ≤ p.toInt ∧ p.toInt ≤ a.toInt ∧ b = p ∧ r = 1) ∨ (¬ (0 ≤ p.toInt ∧ p.toInt ≤ a.toInt) ∧ b = a ∧ r = 0)
theorem lw_feed_tie {a b r a1 b1 r1 : Int32} (h : lw_feed a b r) (h1 : lw_feed a1 b1 r1) (e : a = a1) : b = b1 ∧ r = r1 := by
  subst e
  rcases h with ⟨q1, q2, q3⟩ | ⟨q1, q2, q3⟩
  · rcases h1 with ⟨u1, u2, u3⟩ | ⟨u1, u2, u3⟩
    · have hb : b = b1 := Int32.toInt_inj.mp (q2.trans u2.symm)
      exact ⟨hb, by rw [q3, u3, hb]⟩
    · omega
  · rcases h1 with ⟨u1, u2, u3⟩ | ⟨u1, u2, u3⟩
    · omega
    · exact ⟨by rw [q2, u2], by rw [q3, u3]⟩
theorem lw_end_tie {p a b r a1 b1 r1 : Int32} (h : lw_end p a b r) (h1 : lw_end p a1 b1 r1) (e : a = a1) : b = b1 ∧ r = r1 := by
  subst e
  rcases h with ⟨q1, q2, q3, q4⟩ | ⟨q1, q2, q3⟩
  · rcases h1 with ⟨u1, u2, u3, u4⟩ | ⟨u1, u2, u3⟩
    · exact ⟨by rw [q3, u3], by rw [q4, u4]⟩
    · exact absurd ⟨q1, q2⟩ u1
  · rcases h1 with ⟨u1, u2, u3, u4⟩ | ⟨u1, u2, u3⟩
    · exact absurd ⟨u1, u2⟩ q1
    · exact ⟨by rw [q2, u2], by rw [q3, u3]⟩
theorem lw_keep_tie {a b a1 b1 : Int32} (h : b = a) (h1 : b1 = a1) (e : a = a1) : b = b1 := by rw [h, h1, e]
theorem lw_zero_tie {a a1 b b1 : Int32} (h : b = 0) (h1 : b1 = 0) (e : a = a1) : b = b1 := by rw [h, h1]
/-- the model's words -/
def LWm (mG : Nat → Nat → Int32) : Prop := mw (lf_A (mG 2)) (lf_A (mG 3)) (lf_A (mG 4)) (lf_A (mG 5)) (lf_A (mG 6)) (lf_A (mG 7)) (lf_A (mG 8)) (lf_A (mG 9)) (lf_A (mG 10)) (lf_A (mG 11)) (lf_A (mG 12)) (lf_A (mG 13)) (lf_A (mG 14)) (lf_A (mG 15)) (lf_A (mG 16)) (lf_A (mG 17)) (lf_A (mG 18)) (lf_A (mG 19)) (lf_A (mG 20)) (lf_A (mG 21)) (lf_A (mG 22)) (lf_A (mG 23)) (lf_A (mG 24)) (lf_A (mG 25)) (lf_A (mG 26)) (lf_A (mG 27)) (lf_A (mG 28)) (lf_A (mG 29)) (lf_A (mG 30)) (lf_A (mG 31)) ∧ qw (lf_A (mG 67)) (lf_A (mG 68)) (lf_A (mG 69)) (lf_A (mG 70)) (lf_A (mG 71)) (lf_A (mG 72)) (lf_A (mG 73)) (lf_A (mG 74)) (lf_A (mG 75)) (lf_A (mG 76)) (lf_A (mG 77)) (lf_A (mG 78)) (lf_A (mG 79)) ∧ wa (lf_A (mG 61)) W_not ∧ wa (lf_A (mG 62)) W_and ∧ wa (lf_A (mG 63)) W_or ∧ wa (lf_A (mG 64)) W_all ∧ wa (lf_A (mG 65)) W_min ∧ wa (lf_A (mG 66)) W_max
def LTc (a : Int32) (G : Nat → Int32) (b : Int32) (G2 : Nat → Int32) (mG : Nat → Nat → Int32) : Prop := a = b ∧ lf_A G = lf_A G2 ∧ LWm mG
def lx4_keep (a : Int32) (G : Nat → Int32) (a1 : Int32) (G1 : Nat → Int32) : Prop := a1 = a ∧ G1 = G
def lx4_zero (a : Int32) (G : Nat → Int32) (a1 : Int32) (G1 : Nat → Int32) : Prop := a1 = 0 ∧ G1 = G
def lx4_cr (a : Int32) (G : Nat → Int32) (a1 : Int32) (G1 : Nat → Int32) (r : Int32) : Prop := a1 = 0 ∧ G1 = G ∧ ∃ cd, r.toInt = ansR (rcT (lf_A G) a.toInt.toNat cd)
def lx4_feed (a : Int32) (G : Nat → Int32) (a1 : Int32) (G1 : Nat → Int32) (r p0 p1 p2 p3 p4 : Int32) : Prop := lw_feed a a1 r ∧ lf_A G1 = fdT (lf_A G) a.toInt p0.toInt p1.toInt p2.toInt p3.toInt p4.toInt
def lx4_end (p a : Int32) (G : Nat → Int32) (a1 : Int32) (G1 : Nat → Int32) (r : Int32) : Prop := lw_end p a a1 r ∧ G1 = G
def lm4_keep (a : Int32) (G : Nat → Int32) (a1 : Int32) (G1 : Nat → Int32) (mG mG1 : Nat → Nat → Int32) : Prop := a1 = a ∧ G1 = G ∧ (LWm mG → LWm mG1)
def lm4_zero (a : Int32) (G : Nat → Int32) (a1 : Int32) (G1 : Nat → Int32) (mG mG1 : Nat → Nat → Int32) : Prop := a1 = 0 ∧ G1 = G ∧ (LWm mG → LWm mG1)
def lm4_cr (a : Int32) (G : Nat → Int32) (a1 : Int32) (G1 : Nat → Int32) (mG mG1 : Nat → Nat → Int32) (r : Int32) : Prop := a1 = 0 ∧ G1 = G ∧ (LWm mG → LWm mG1) ∧ (LWm mG → ∀ cd, r.toInt = ansR (rcT (lf_A G) a.toInt.toNat cd))
def lm4_feed (a : Int32) (G : Nat → Int32) (a1 : Int32) (G1 : Nat → Int32) (mG mG1 : Nat → Nat → Int32) (r p0 p1 p2 p3 p4 : Int32) : Prop := lw_feed a a1 r ∧ lf_A G1 = fdT (lf_A G) a.toInt p0.toInt p1.toInt p2.toInt p3.toInt p4.toInt ∧ (LWm mG → LWm mG1)
def lm4_end (p a : Int32) (G : Nat → Int32) (a1 : Int32) (G1 : Nat → Int32) (mG mG1 : Nat → Nat → Int32) (r : Int32) : Prop := lw_end p a a1 r ∧ G1 = G ∧ (LWm mG → LWm mG1)
theorem lt4_keep {a a1 b b1 : Int32} {G G1 G2 G3 : Nat → Int32} {mG mG1 : Nat → Nat → Int32} (h : lx4_keep a G a1 G1) (h1 : lm4_keep b G2 b1 G3 mG mG1) (e : LTc a G b G2 mG) : LTc a1 G1 b1 G3 mG1 := ⟨by rw [h.1, h1.1, e.1], by rw [h.2, h1.2.1, e.2.1], h1.2.2 e.2.2⟩
theorem lt4_zero {a a1 b b1 : Int32} {G G1 G2 G3 : Nat → Int32} {mG mG1 : Nat → Nat → Int32} (h : lx4_zero a G a1 G1) (h1 : lm4_zero b G2 b1 G3 mG mG1) (e : LTc a G b G2 mG) : LTc a1 G1 b1 G3 mG1 := ⟨by rw [h.1, h1.1], by rw [h.2, h1.2.1, e.2.1], h1.2.2 e.2.2⟩
theorem lt4_cr {a a1 b b1 r r1 : Int32} {G G1 G2 G3 : Nat → Int32} {mG mG1 : Nat → Nat → Int32} (h : lx4_cr a G a1 G1 r) (h1 : lm4_cr b G2 b1 G3 mG mG1 r1) (e : LTc a G b G2 mG) : LTc a1 G1 b1 G3 mG1 ∧ r = r1 := by
  obtain ⟨cd, hc⟩ := h.2.2
  refine ⟨⟨by rw [h.1, h1.1], by rw [h.2.1, h1.2.1, e.2.1], h1.2.2.1 e.2.2⟩, Int32.toInt_inj.mp ?_⟩
  rw [hc, e.1, e.2.1]
  exact (h1.2.2.2 e.2.2 cd).symm
theorem lt4_feed {a a1 b b1 r r1 p0 p1 p2 p3 p4 : Int32} {G G1 G2 G3 : Nat → Int32} {mG mG1 : Nat → Nat → Int32} (h : lx4_feed a G a1 G1 r p0 p1 p2 p3 p4) (h1 : lm4_feed b G2 b1 G3 mG mG1 r1 p0 p1 p2 p3 p4) (e : LTc a G b G2 mG) : LTc a1 G1 b1 G3 mG1 ∧ r = r1 := by
  obtain ⟨t1, t2⟩ := lw_feed_tie h.1 h1.1 e.1
  exact ⟨⟨t1, by rw [h.2, h1.2.1, e.1, e.2.1], h1.2.2 e.2.2⟩, t2⟩
theorem lt4_end {p a a1 b b1 r r1 : Int32} {G G1 G2 G3 : Nat → Int32} {mG mG1 : Nat → Nat → Int32} (h : lx4_end p a G a1 G1 r) (h1 : lm4_end p b G2 b1 G3 mG mG1 r1) (e : LTc a G b G2 mG) : LTc a1 G1 b1 G3 mG1 ∧ r = r1 := by
  obtain ⟨t1, t2⟩ := lw_end_tie h.1 h1.1 e.1
  exact ⟨⟨t1, by rw [h.2, h1.2.1, e.2.1], h1.2.2 e.2.2⟩, t2⟩
theorem cx_2 {g calm pace trusts kindOf comesAt comers names code spans t rf : Nat → Int} {s x1 x2 x3 x4 al x5 x6 x7 x8 x9 x10 : Int} {pl sp : Nat} {O : Int × Nat × Nat × Int × Int × Int × Int × Int × Int × Int × Int × Int × Int × Int × Int × Int × Int × Int × Int × (Nat → Int) × (Nat → Int) × (Nat → Int) × (Nat → Int) × (Nat → Int) × (Nat → Int) × (Nat → Int) × (Nat → Int) × (Nat → Int) × Int × Int × Int × (Nat → Int) × Int × Int × Int × Nat × Int × Int × Int × Int × (Nat → Int)} (h0 : 0 ≤ s) (h1 : s ≤ 1600) (h : F_X9_crossing g s pl sp calm pace trusts kindOf comesAt comers names code spans x1 x2 x3 t x4 al x5 x6 x7 x8 x9 x10 rf = O) : O.1 = ansR (rcT g s.toNat code) := by
  rw [← h]
  exact cx_1 h0 h1
theorem fx_2 {g rf A B : Nat → Int} {s p0 p1 p2 p3 p4 r n0 : Int} (h : F_X9_feed g s rf p0 p1 p2 p3 p4 = (r, n0, A, B)) : A = fdT g s p0 p1 p2 p3 p4 := by
  rw [← fx_1 (rf := rf), h]
theorem fm_2 {g rf A B : Nat → Int} {s p0 p1 p2 p3 p4 r n0 : Int} (h : F_X10_feed s g rf p0 p1 p2 p3 p4 = (r, n0, B, A)) : A = fdT g s p0 p1 p2 p3 p4 := by
  rw [← fm_1 (rf := rf), h]
theorem mx_3 {mG : Nat → Nat → Int32} {g refu now M cf bar N wk kd ce cs tr qwt qc : Nat → Int} {s np aw0 isc rm0 und x1 x2 x3 x4 x5 : Int} {O : Int × Int × Int × Int × Int × Int × Int × Int × Int × Int × Int × Int × Int × Int × Int × Int × Int × Int × Int × Int × (Nat → Int) × (Nat → Int) × (Nat → Int) × (Nat → Int) × (Nat → Int) × (Nat → Int) × (Nat → Int) × (Nat → Int) × (Nat → Int) × (Nat → Int) × (Nat → Int) × (Nat → Int) × (Nat → Int)} (h : LWm mG) (cd : Nat → Int) (h0 : 0 ≤ s) (h1 : s ≤ 1600) (hg : ∀ k, k < 1600 → 0 ≤ g k) (hF : F_X10_crossing s np aw0 isc x1 rm0 und x2 x3 x4 x5 g refu (lf_A (mG 2)) (lf_A (mG 3)) (lf_A (mG 4)) (lf_A (mG 5)) (lf_A (mG 6)) (lf_A (mG 7)) (lf_A (mG 8)) (lf_A (mG 9)) (lf_A (mG 10)) (lf_A (mG 11)) (lf_A (mG 12)) (lf_A (mG 13)) (lf_A (mG 14)) (lf_A (mG 15)) (lf_A (mG 16)) (lf_A (mG 17)) (lf_A (mG 18)) (lf_A (mG 19)) (lf_A (mG 20)) (lf_A (mG 21)) (lf_A (mG 22)) (lf_A (mG 23)) (lf_A (mG 24)) (lf_A (mG 25)) (lf_A (mG 26)) (lf_A (mG 27)) (lf_A (mG 28)) (lf_A (mG 29)) (lf_A (mG 30)) (lf_A (mG 31)) M N bar kd tr wk cf ce cs now (lf_A (mG 61)) (lf_A (mG 62)) (lf_A (mG 63)) (lf_A (mG 64)) (lf_A (mG 65)) (lf_A (mG 66)) (lf_A (mG 67)) (lf_A (mG 68)) (lf_A (mG 69)) (lf_A (mG 70)) (lf_A (mG 71)) (lf_A (mG 72)) (lf_A (mG 73)) (lf_A (mG 74)) (lf_A (mG 75)) (lf_A (mG 76)) (lf_A (mG 77)) (lf_A (mG 78)) (lf_A (mG 79)) qc qwt = O) : O.1 = ansR (rcT g s.toNat cd) := by
  obtain ⟨a1, a2, a3, a4, a5, a6, a7, a8⟩ := h
  rw [← hF]
  exact mx_1 cd h0 h1 hg a1 a2 a3 a4 a5 a6 a7 a8
/-- what stands, on both sides -/
def SPc (kd wk cy : Int32) (nm : Nat → Int32) (M bar : Nat → Int32) (N : Nat → Int64) (isc : Int32) : Prop := ∃ Ks Ws, kd.toInt = (Ks.length : Int) ∧ wk.toInt = (Ws.length : Int) ∧ nms (lf_A nm) Ks Ws ∧ lf_A M 2 = (Ks.length : Int) ∧ lf_A M 3 = (Ws.length : Int) ∧ keptM (lf_L N) 24 Ks ∧ keptM (lf_L N) 36 Ws ∧ cy.toInt = lf_A bar 4 ∧ ((isc.toInt = 0 ∧ cy.toInt = 0) ∨ (isc.toInt = 1 ∧ 10 ≤ cy.toInt))
def lx5_same (kd wk cy : Int32) (nm : Nat → Int32) (kd1 wk1 cy1 : Int32) (nm1 : Nat → Int32) : Prop := kd1 = kd ∧ wk1 = wk ∧ cy1 = cy ∧ nm1 = nm
def lm5_same (M bar : Nat → Int32) (N : Nat → Int64) (isc : Int32) (M1 bar1 : Nat → Int32) (N1 : Nat → Int64) (isc1 : Int32) : Prop := M1 = M ∧ bar1 = bar ∧ N1 = N ∧ isc1 = isc
def crX (g : Nat → Int) (n : Nat) (R : Sum (Int × Int) (Nat × PL)) (r : Int32) (kd wk cy : Int32) (nm : Nat → Int32) (kd1 wk1 cy1 : Int32) (nm1 : Nat → Int32) : Prop := match R with
  | .inl _ => r.toInt = -1 ∧ lx5_same kd wk cy nm kd1 wk1 cy1 nm1
  | .inr x => r.toInt = (x.1 : Int) ∧ kd1.toInt = (x.2.1.length : Int) ∧ wk1.toInt = (x.2.2.1.length : Int) ∧ cy1.toInt = (sp_1a g n (.inr 0)).1 ∧ nms (lf_A nm1) x.2.1 x.2.2.1
def crM (g : Nat → Int) (n : Nat) (R : Sum (Int × Int) (Nat × PL)) (r : Int32) (M bar : Nat → Int32) (N : Nat → Int64) (isc : Int32) (M1 bar1 : Nat → Int32) (N1 : Nat → Int64) (isc1 : Int32) : Prop := match R with
  | .inl _ => r.toInt = -1 ∧ (∀ j, 2 ≤ j → lf_A M1 j = lf_A M j) ∧ (∀ j, 24 ≤ j → lf_L N1 j = lf_L N j) ∧ lf_A bar1 4 = lf_A bar 4 ∧ isc1 = isc
  | .inr x => r.toInt = (x.1 : Int) ∧ lf_A M1 2 = (x.2.1.length : Int) ∧ lf_A M1 3 = (x.2.2.1.length : Int) ∧ keptM (lf_L N1) 24 x.2.1 ∧ keptM (lf_L N1) 36 x.2.2.1 ∧ lf_A bar1 4 = (sp_1a g n (.inr 0)).1 ∧ isc1.toInt = 1
def lx5_cr (a : Int32) (G : Nat → Int32) (a1 : Int32) (G1 : Nat → Int32) (r : Int32) (kd wk cy : Int32) (nm : Nat → Int32) (kd1 wk1 cy1 : Int32) (nm1 : Nat → Int32) : Prop := a1 = 0 ∧ G1 = G ∧ ∃ cd, crX (lf_A G) a.toInt.toNat (rcT (lf_A G) a.toInt.toNat cd) r kd wk cy nm kd1 wk1 cy1 nm1
def lm5_cr (a : Int32) (G : Nat → Int32) (a1 : Int32) (G1 : Nat → Int32) (mG mG1 : Nat → Nat → Int32) (r : Int32) (M bar : Nat → Int32) (N : Nat → Int64) (isc : Int32) (M1 bar1 : Nat → Int32) (N1 : Nat → Int64) (isc1 : Int32) : Prop := a1 = 0 ∧ G1 = G ∧ (LWm mG → LWm mG1) ∧ (LWm mG → ∀ cd, crM (lf_A G) a.toInt.toNat (rcT (lf_A G) a.toInt.toNat cd) r M bar N isc M1 bar1 N1 isc1)
def LT5 (a : Int32) (G : Nat → Int32) (kd wk cy : Int32) (nm : Nat → Int32) (b : Int32) (G2 : Nat → Int32) (mG : Nat → Nat → Int32) (M bar : Nat → Int32) (N : Nat → Int64) (isc : Int32) : Prop := LTc a G b G2 mG ∧ SPc kd wk cy nm M bar N isc
theorem sp5_0 {kd wk cy : Int32} {nm : Nat → Int32} {M bar : Nat → Int32} {N : Nat → Int64} {isc : Int32} (h1 : kd = 0) (h2 : wk = 0) (h3 : cy = 0) (h4 : M = (fun _ => 0)) (h5 : bar = (fun _ => 0)) (h6 : isc = 0) : SPc kd wk cy nm M bar N isc := by
  subst h1 h2 h3 h4 h5 h6
  exact ⟨[], [], by decide, by decide, nms_0 _, by decide, by decide, fun i hi => absurd hi (Nat.not_lt_zero i), fun i hi => absurd hi (Nat.not_lt_zero i), by decide, Or.inl ⟨by decide, by decide⟩⟩
theorem sp5_same {kd wk cy : Int32} {nm : Nat → Int32} {kd1 wk1 cy1 : Int32} {nm1 : Nat → Int32} {M bar : Nat → Int32} {N : Nat → Int64} {isc : Int32} {M1 bar1 : Nat → Int32} {N1 : Nat → Int64} {isc1 : Int32} (h : lx5_same kd wk cy nm kd1 wk1 cy1 nm1) (h1 : lm5_same M bar N isc M1 bar1 N1 isc1) (e : SPc kd wk cy nm M bar N isc) : SPc kd1 wk1 cy1 nm1 M1 bar1 N1 isc1 := by
  obtain ⟨a1, a2, a3, a4⟩ := h
  obtain ⟨b1, b2, b3, b4⟩ := h1
  rw [a1, a2, a3, a4, b1, b2, b3, b4]
  exact e
theorem sp5_cr {g : Nat → Int} {n : Nat} {R : Sum (Int × Int) (Nat × PL)} {r r1 : Int32} {kd wk cy : Int32} {nm : Nat → Int32} {kd1 wk1 cy1 : Int32} {nm1 : Nat → Int32} {M bar : Nat → Int32} {N : Nat → Int64} {isc : Int32} {M1 bar1 : Nat → Int32} {N1 : Nat → Int64} {isc1 : Int32} (h : crX g n R r kd wk cy nm kd1 wk1 cy1 nm1) (h1 : crM g n R r1 M bar N isc M1 bar1 N1 isc1) (e : SPc kd wk cy nm M bar N isc) : SPc kd1 wk1 cy1 nm1 M1 bar1 N1 isc1 ∧ r = r1 := by
  cases R with
  | inl q =>
    obtain ⟨a0, a1, a2, a3, a4⟩ := h
    obtain ⟨b0, b1, b2, b3, b4⟩ := h1
    obtain ⟨Ks, Ws, c1, c2, c3, c4, c5, c6, c7, c8, c9⟩ := e
    refine ⟨⟨Ks, Ws, by rw [a1]; exact c1, by rw [a2]; exact c2, by rw [a4]; exact c3, (b1 2 (Nat.le_refl _)).trans c4, (b1 3 (by decide)).trans c5, fun i hi => (b2 (24 + i) (by omega)).trans (c6 i hi), fun i hi => (b2 (36 + i) (by omega)).trans (c7 i hi), by rw [a3, b3]; exact c8, by rw [a3, b4]; exact c9⟩, Int32.toInt_inj.mp (a0.trans b0.symm)⟩
  | inr x =>
    obtain ⟨a0, a1, a2, a3, a4⟩ := h
    obtain ⟨b0, b1, b2, b3, b4, b5, b6⟩ := h1
    refine ⟨⟨x.2.1, x.2.2.1, a1, a2, a4, b1, b2, b3, b4, a3.trans b5.symm, Or.inr ⟨b6, ?_⟩⟩, Int32.toInt_inj.mp (a0.trans b0.symm)⟩
    rw [a3]
    exact sp_1a_lo
theorem lt5_keep {a a1 b b1 : Int32} {G G1 G2 G3 : Nat → Int32} {mG mG1 : Nat → Nat → Int32} {kd wk cy : Int32} {nm : Nat → Int32} {kd1 wk1 cy1 : Int32} {nm1 : Nat → Int32} {M bar : Nat → Int32} {N : Nat → Int64} {isc : Int32} {M1 bar1 : Nat → Int32} {N1 : Nat → Int64} {isc1 : Int32} (h : lx4_keep a G a1 G1 ∧ lx5_same kd wk cy nm kd1 wk1 cy1 nm1) (h1 : lm4_keep b G2 b1 G3 mG mG1 ∧ lm5_same M bar N isc M1 bar1 N1 isc1) (e : LT5 a G kd wk cy nm b G2 mG M bar N isc) : LT5 a1 G1 kd1 wk1 cy1 nm1 b1 G3 mG1 M1 bar1 N1 isc1 := ⟨lt4_keep h.1 h1.1 e.1, sp5_same h.2 h1.2 e.2⟩
theorem lt5_zero {a a1 b b1 : Int32} {G G1 G2 G3 : Nat → Int32} {mG mG1 : Nat → Nat → Int32} {kd wk cy : Int32} {nm : Nat → Int32} {kd1 wk1 cy1 : Int32} {nm1 : Nat → Int32} {M bar : Nat → Int32} {N : Nat → Int64} {isc : Int32} {M1 bar1 : Nat → Int32} {N1 : Nat → Int64} {isc1 : Int32} (h : lx4_zero a G a1 G1 ∧ lx5_same kd wk cy nm kd1 wk1 cy1 nm1) (h1 : lm4_zero b G2 b1 G3 mG mG1 ∧ lm5_same M bar N isc M1 bar1 N1 isc1) (e : LT5 a G kd wk cy nm b G2 mG M bar N isc) : LT5 a1 G1 kd1 wk1 cy1 nm1 b1 G3 mG1 M1 bar1 N1 isc1 := ⟨lt4_zero h.1 h1.1 e.1, sp5_same h.2 h1.2 e.2⟩
theorem lt5_feed {a a1 b b1 r r1 p0 p1 p2 p3 p4 : Int32} {G G1 G2 G3 : Nat → Int32} {mG mG1 : Nat → Nat → Int32} {kd wk cy : Int32} {nm : Nat → Int32} {kd1 wk1 cy1 : Int32} {nm1 : Nat → Int32} {M bar : Nat → Int32} {N : Nat → Int64} {isc : Int32} {M1 bar1 : Nat → Int32} {N1 : Nat → Int64} {isc1 : Int32} (h : lx4_feed a G a1 G1 r p0 p1 p2 p3 p4 ∧ lx5_same kd wk cy nm kd1 wk1 cy1 nm1) (h1 : lm4_feed b G2 b1 G3 mG mG1 r1 p0 p1 p2 p3 p4 ∧ lm5_same M bar N isc M1 bar1 N1 isc1) (e : LT5 a G kd wk cy nm b G2 mG M bar N isc) : LT5 a1 G1 kd1 wk1 cy1 nm1 b1 G3 mG1 M1 bar1 N1 isc1 ∧ r = r1 := ⟨⟨(lt4_feed h.1 h1.1 e.1).1, sp5_same h.2 h1.2 e.2⟩, (lt4_feed h.1 h1.1 e.1).2⟩
theorem lt5_end {p a a1 b b1 r r1 : Int32} {G G1 G2 G3 : Nat → Int32} {mG mG1 : Nat → Nat → Int32} {kd wk cy : Int32} {nm : Nat → Int32} {kd1 wk1 cy1 : Int32} {nm1 : Nat → Int32} {M bar : Nat → Int32} {N : Nat → Int64} {isc : Int32} {M1 bar1 : Nat → Int32} {N1 : Nat → Int64} {isc1 : Int32} (h : lx4_end p a G a1 G1 r ∧ lx5_same kd wk cy nm kd1 wk1 cy1 nm1) (h1 : lm4_end p b G2 b1 G3 mG mG1 r1 ∧ lm5_same M bar N isc M1 bar1 N1 isc1) (e : LT5 a G kd wk cy nm b G2 mG M bar N isc) : LT5 a1 G1 kd1 wk1 cy1 nm1 b1 G3 mG1 M1 bar1 N1 isc1 ∧ r = r1 := ⟨⟨(lt4_end h.1 h1.1 e.1).1, sp5_same h.2 h1.2 e.2⟩, (lt4_end h.1 h1.1 e.1).2⟩
theorem lt5_cr {a a1 b b1 r r1 : Int32} {G G1 G2 G3 : Nat → Int32} {mG mG1 : Nat → Nat → Int32} {kd wk cy : Int32} {nm : Nat → Int32} {kd1 wk1 cy1 : Int32} {nm1 : Nat → Int32} {M bar : Nat → Int32} {N : Nat → Int64} {isc : Int32} {M1 bar1 : Nat → Int32} {N1 : Nat → Int64} {isc1 : Int32} (h : lx5_cr a G a1 G1 r kd wk cy nm kd1 wk1 cy1 nm1) (h1 : lm5_cr b G2 b1 G3 mG mG1 r1 M bar N isc M1 bar1 N1 isc1) (e : LT5 a G kd wk cy nm b G2 mG M bar N isc) : LT5 a1 G1 kd1 wk1 cy1 nm1 b1 G3 mG1 M1 bar1 N1 isc1 ∧ r = r1 := by
  obtain ⟨cd, hc⟩ := h.2.2
  have hm := h1.2.2.2 e.1.2.2 cd
  rw [← e.1.1, ← e.1.2.1] at hm
  obtain ⟨s1, s2⟩ := sp5_cr hc hm e.2
  exact ⟨⟨⟨by rw [h.1, h1.1], by rw [h.2.1, h1.2.1, e.1.2.1], h1.2.2.1 e.1.2.2⟩, s1⟩, s2⟩
theorem lx5_of {g calm pace trusts kindOf comesAt comers names code spans t rf : Nat → Int} {s x1 x2 x3 x4 al x5 x6 x7 x8 x9 x10 : Int} {pl sp : Nat} {O : Int × Nat × Nat × Int × Int × Int × Int × Int × Int × Int × Int × Int × Int × Int × Int × Int × Int × Int × Int × (Nat → Int) × (Nat → Int) × (Nat → Int) × (Nat → Int) × (Nat → Int) × (Nat → Int) × (Nat → Int) × (Nat → Int) × (Nat → Int) × Int × Int × Int × (Nat → Int) × Int × Int × Int × Nat × Int × Int × Int × Int × (Nat → Int)} (h0 : 0 ≤ s) (h1 : s ≤ 1600) (h : F_X9_crossing g s pl sp calm pace trusts kindOf comesAt comers names code spans x1 x2 x3 t x4 al x5 x6 x7 x8 x9 x10 rf = O) : tellX g s.toNat O (rcT g s.toNat code) := by
  rw [← h]
  exact cx5 h0 h1
theorem lx5_no {g : Nat → Int} {n : Nat} {R : Sum (Int × Int) (Nat × PL)} {O : Int × Nat × Nat × Int × Int × Int × Int × Int × Int × Int × Int × Int × Int × Int × Int × Int × Int × Int × Int × (Nat → Int) × (Nat → Int) × (Nat → Int) × (Nat → Int) × (Nat → Int) × (Nat → Int) × (Nat → Int) × (Nat → Int) × (Nat → Int) × Int × Int × Int × (Nat → Int) × Int × Int × Int × Nat × Int × Int × Int × Int × (Nat → Int)} {r : Int32} {kd wk cy : Int32} {nm : Nat → Int32} (h : tellX g n O R) (hr : r.toInt = O.1) (e : r = -1) : crX g n R r kd wk cy nm kd wk cy nm := by
  cases R with
  | inl q => exact ⟨hr.trans h.1, rfl, rfl, rfl, rfl⟩
  | inr x =>
    exfalso
    have h1 : O.1 = (x.1 : Int) := h.1
    have h2 : r.toInt = -1 := by rw [e]; decide
    omega
theorem lx5_yes {g : Nat → Int} {n : Nat} {R : Sum (Int × Int) (Nat × PL)} {O : Int × Nat × Nat × Int × Int × Int × Int × Int × Int × Int × Int × Int × Int × Int × Int × Int × Int × Int × Int × (Nat → Int) × (Nat → Int) × (Nat → Int) × (Nat → Int) × (Nat → Int) × (Nat → Int) × (Nat → Int) × (Nat → Int) × (Nat → Int) × Int × Int × Int × (Nat → Int) × Int × Int × Int × Nat × Int × Int × Int × Int × (Nat → Int)} {r : Int32} {kd wk cy : Int32} {nm : Nat → Int32} {kd1 wk1 cy1 : Int32} {nm1 : Nat → Int32} (h : tellX g n O R) (hr : r.toInt = O.1) (e : ¬ r = -1) (h1 : kd1.toInt = O.2.2.2.2.2.2.2.2.2.2.2.2.2.2.2.2.1) (h2 : wk1.toInt = O.2.2.2.2.2.2.2.2.2.2.2.2.2.2.2.2.2.1) (h3 : cy1.toInt = O.2.2.2.2.2.2.2.2.2.2.1) (h4 : lf_A nm1 = O.2.2.2.2.2.2.2.2.2.2.2.2.2.2.2.2.2.2.2.2.2.1) : crX g n R r kd wk cy nm kd1 wk1 cy1 nm1 := by
  cases R with
  | inl q => exact absurd (Int32.toInt_inj.mp ((hr.trans h.1).trans (show (-1 : Int) = (-1 : Int32).toInt from by decide))) e
  | inr x =>
    obtain ⟨a1, a2, a3, a4, a5, a6, a7, a8, a9, a10⟩ := h
    exact ⟨hr.trans a1, h1.trans a8, h2.trans a9, h3.trans a4, by rw [h4]; exact a10⟩
theorem mx5_of {mG : Nat → Nat → Int32} {g refu now cf wk0 kd0 ce cs tr qwt qc : Nat → Int} {s np aw0 rm0 und x1 x2 x3 x4 x5 : Int} {r : Int32} {M bar : Nat → Int32} {N : Nat → Int64} {isc : Int32} {M1 bar1 : Nat → Int32} {N1 : Nat → Int64} {isc1 : Int32} {O : Int × Int × Int × Int × Int × Int × Int × Int × Int × Int × Int × Int × Int × Int × Int × Int × Int × Int × Int × Int × (Nat → Int) × (Nat → Int) × (Nat → Int) × (Nat → Int) × (Nat → Int) × (Nat → Int) × (Nat → Int) × (Nat → Int) × (Nat → Int) × (Nat → Int) × (Nat → Int) × (Nat → Int) × (Nat → Int)} (h : LWm mG) (cd : Nat → Int) (h0 : 0 ≤ s) (h1 : s ≤ 1600) (hg : ∀ k, k < 1600 → 0 ≤ g k) (hF : F_X10_crossing s np aw0 isc.toInt x1 rm0 und x2 x3 x4 x5 g refu (lf_A (mG 2)) (lf_A (mG 3)) (lf_A (mG 4)) (lf_A (mG 5)) (lf_A (mG 6)) (lf_A (mG 7)) (lf_A (mG 8)) (lf_A (mG 9)) (lf_A (mG 10)) (lf_A (mG 11)) (lf_A (mG 12)) (lf_A (mG 13)) (lf_A (mG 14)) (lf_A (mG 15)) (lf_A (mG 16)) (lf_A (mG 17)) (lf_A (mG 18)) (lf_A (mG 19)) (lf_A (mG 20)) (lf_A (mG 21)) (lf_A (mG 22)) (lf_A (mG 23)) (lf_A (mG 24)) (lf_A (mG 25)) (lf_A (mG 26)) (lf_A (mG 27)) (lf_A (mG 28)) (lf_A (mG 29)) (lf_A (mG 30)) (lf_A (mG 31)) (lf_A M) (lf_L N) (lf_A bar) kd0 tr wk0 cf ce cs now (lf_A (mG 61)) (lf_A (mG 62)) (lf_A (mG 63)) (lf_A (mG 64)) (lf_A (mG 65)) (lf_A (mG 66)) (lf_A (mG 67)) (lf_A (mG 68)) (lf_A (mG 69)) (lf_A (mG 70)) (lf_A (mG 71)) (lf_A (mG 72)) (lf_A (mG 73)) (lf_A (mG 74)) (lf_A (mG 75)) (lf_A (mG 76)) (lf_A (mG 77)) (lf_A (mG 78)) (lf_A (mG 79)) qc qwt = O) (hr : r.toInt = O.1) (e1 : lf_A M1 = O.2.2.2.2.2.2.2.2.2.2.2.2.2.2.2.2.2.2.2.2.1) (e2 : lf_L N1 = O.2.2.2.2.2.2.2.2.2.2.2.2.2.2.2.2.2.2.2.2.2.2.2.2.1) (e3 : lf_A bar1 = O.2.2.2.2.2.2.2.2.2.2.2.2.2.2.2.2.2.2.2.2.2.2.1) (e4 : isc1.toInt = O.2.2.2.2.2.2.2.2.2.2.2.2.1) : crM g s.toNat (rcT g s.toNat cd) r M bar N isc M1 bar1 N1 isc1 := by
  obtain ⟨a1, a2, a3, a4, a5, a6, a7, a8⟩ := h
  obtain ⟨n, rfl⟩ := Int.eq_ofNat_of_zero_le h0
  have hn : n ≤ 1600 := by omega
  rw [Int.toNat_natCast]
  obtain ⟨b1, c1, c2, c3⟩ := mc2_1 (np := np) (aw0 := aw0) (isc := isc.toInt) (rm0 := rm0) (und := und) (x1 := x1) (x2 := x2) (x3 := x3) (x4 := x4) (x5 := x5) (refu := refu) (now := now) (M := lf_A M) (cf := cf) (bar := lf_A bar) (N := lf_L N) (wk := wk0) (kd := kd0) (ce := ce) (cs := cs) (tr := tr) (qwt := qwt) (qc := qc) (cd := cd) hn (fun k hk => hg k (by omega)) a1 a2 a3 a4 a5 a6 a7 a8
  rw [hF] at c3
  cases e : rcT g n cd with
  | inl q =>
    rw [e] at c3
    obtain ⟨d1, d2, d3, d4, d5, d6, d7⟩ := c3
    exact ⟨hr.trans d1, fun j hj => by rw [e1]; exact d4 j hj, fun j hj => by rw [e2]; exact d5 j hj, by rw [e3, d6]; exact c1 4 (Nat.le_refl _), Int32.toInt_inj.mp (e4.trans d7)⟩
  | inr x =>
    rw [e] at c3
    obtain ⟨d1, d2, d3, d4, d5, d6, d7, d8, d9, d10, d11⟩ := c3
    exact ⟨hr.trans d1, by rw [e1]; exact d4, by rw [e1]; exact d5, by rw [e2]; exact d6, by rw [e2]; exact d7, by rw [e3, d8]; exact (c2 x e).1, e4.trans d9⟩
theorem lx5_im {k d r0 gr : Int} {t oc A : Nat → Int} {r n0 : Int} (h0 : 0 ≤ k) (h1 : k ≤ 6) (h : F_X9_image k d r0 gr t oc = (r, n0, A)) : r = k + 5 := by
  rw [← ix_1 (d := d) (r := r0) (gr := gr) (t := t) (oc := oc) h0 h1, h]
theorem lm5_im {M now oc A : Nat → Int} {r n0 : Int} (h : F_X10_image M now oc = (r, n0, A)) (h0 : 0 ≤ M 2) (h1 : M 2 ≤ 6) : r = M 2 + 5 := by
  rw [← im_1 (now := now) (oc := oc) rfl h0 h1, h]
theorem lt5_im {a a1 b b1 r r1 : Int32} {G G1 G2 G3 : Nat → Int32} {mG mG1 : Nat → Nat → Int32} {kd wk cy : Int32} {nm : Nat → Int32} {kd1 wk1 cy1 : Int32} {nm1 : Nat → Int32} {M bar : Nat → Int32} {N : Nat → Int64} {isc : Int32} {M1 bar1 : Nat → Int32} {N1 : Nat → Int64} {isc1 : Int32} (h : (lx4_keep a G a1 G1 ∧ lx5_same kd wk cy nm kd1 wk1 cy1 nm1) ∧ r.toInt = kd.toInt + 5) (h1 : (lm4_keep b G2 b1 G3 mG mG1 ∧ lm5_same M bar N isc M1 bar1 N1 isc1) ∧ (0 ≤ lf_A M 2 → lf_A M 2 ≤ 6 → r1.toInt = lf_A M 2 + 5)) (e : LT5 a G kd wk cy nm b G2 mG M bar N isc) : LT5 a1 G1 kd1 wk1 cy1 nm1 b1 G3 mG1 M1 bar1 N1 isc1 ∧ r = r1 := by
  refine ⟨lt5_keep h.1 h1.1 e, Int32.toInt_inj.mp ?_⟩
  obtain ⟨Ks, Ws, c1, c2, c3, c4, c5, c6, c7, c8, c9⟩ := e.2
  have hl : Ks.length ≤ 6 := c3.2.2.2.2.1
  rw [h.2, h1.2 (by omega) (by omega)]
  omega
theorem lx5_le {N : Nat → Int} {kd wk p0 p1 p2 r : Int} (h : F_X9_letter kd wk N p0 p1 p2 = r) (Ks Ws : List (List Int)) (e1 : kd = (Ks.length : Int)) (e2 : wk = (Ws.length : Int)) (hn : nms N Ks Ws) : r = leA Ks Ws p0 p1 p2 := by
  rw [← h, e1, e2]
  exact lx_le hn
theorem lm5_le {M N : Nat → Int} {p0 p1 p2 r : Int} (h : F_X10_letter M N p0 p1 p2 = r) (N0 : Nat → Int) (Ks Ws : List (List Int)) (hn : nms N0 Ks Ws) (h2 : M 2 = (Ks.length : Int)) (h3 : M 3 = (Ws.length : Int)) (hK : keptM N 24 Ks) (hW : keptM N 36 Ws) : r = leA Ks Ws p0 p1 p2 := by
  rw [← h]
  exact lm_le hn h2 h3 hK hW
theorem lt5_le {a a1 b b1 r r1 p0 p1 p2 : Int32} {G G1 G2 G3 : Nat → Int32} {mG mG1 : Nat → Nat → Int32} {kd wk cy : Int32} {nm : Nat → Int32} {kd1 wk1 cy1 : Int32} {nm1 : Nat → Int32} {M bar : Nat → Int32} {N : Nat → Int64} {isc : Int32} {M1 bar1 : Nat → Int32} {N1 : Nat → Int64} {isc1 : Int32} (h : (lx4_keep a G a1 G1 ∧ lx5_same kd wk cy nm kd1 wk1 cy1 nm1) ∧ (∀ Ks Ws, kd.toInt = (Ks.length : Int) → wk.toInt = (Ws.length : Int) → nms (lf_A nm) Ks Ws → r.toInt = leA Ks Ws p0.toInt p1.toInt p2.toInt)) (h1 : (lm4_keep b G2 b1 G3 mG mG1 ∧ lm5_same M bar N isc M1 bar1 N1 isc1) ∧ (∀ N0 Ks Ws, nms N0 Ks Ws → lf_A M 2 = (Ks.length : Int) → lf_A M 3 = (Ws.length : Int) → keptM (lf_L N) 24 Ks → keptM (lf_L N) 36 Ws → r1.toInt = leA Ks Ws p0.toInt p1.toInt p2.toInt)) (e : LT5 a G kd wk cy nm b G2 mG M bar N isc) : LT5 a1 G1 kd1 wk1 cy1 nm1 b1 G3 mG1 M1 bar1 N1 isc1 ∧ r = r1 := by
  refine ⟨lt5_keep h.1 h1.1 e, Int32.toInt_inj.mp ?_⟩
  obtain ⟨Ks, Ws, c1, c2, c3, c4, c5, c6, c7, c8, c9⟩ := e.2
  rw [h.2 Ks Ws c1 c2 c3, h1.2 (lf_A nm) Ks Ws c3 c4 c5 c6 c7]
