theorem k_dropP {D : va_G} {cl : List vw_C} {Z : va_W} {u : Nat × va_E} {H : Heap} (h : va_P D cl (Z ++ [u]) H) : va_P D cl Z H := fun k q hq => h k q (by rw [List.getElem?_append_left (List.getElem?_eq_some_iff.mp hq).1]; exact hq)
theorem k_dropD {A : Nat → Prop} {Z : va_W} {u : Nat × va_E} (h : va_D A (Z ++ [u])) : va_D A Z :=
  ⟨fun i j p q hi hj e => h.1 i j p q (by rw [List.getElem?_append_left (List.getElem?_eq_some_iff.mp hi).1]; exact hi) (by rw [List.getElem?_append_left (List.getElem?_eq_some_iff.mp hj).1]; exact hj) e, fun k q hq => h.2 k q (by rw [List.getElem?_append_left (List.getElem?_eq_some_iff.mp hq).1]; exact hq)⟩
section KY
variable {p : Program} {l : Launch} {e : Env} {R : Room} {s : State} {m : MethodId} {args : Array Value} {below : List Frame} {meth : Method} {c : Code} {H : Heap} {locs : List Loc} {cells slots : Nat} {Q : State → Prop}
variable {cc : ByteArray} {pc : Nat} {ls : Array Slot} {rest : List Value} {A : Nat → Prop} {a : Nat} {H0 : Heap} {nL : Nat} {own : String} {dC : Nat → ClassId} {dI : Nat → Nat → Nat} {cy : Nat → ClassId} {sq : Nat → Nat}
theorem k_iastX (C0 : k_cx p s m args c cc nL own dC dI cy sq) {X : va_W} {n : Nat} {f : Nat → Int32} (hP : va_P (dC, dI) vwCl (X ++ [(a, .inl (cy 0, n, .inl f))]) H) (hD : va_D A (X ++ [(a, .inl (cy 0, n, .inl f))])) (hS : va_S A H0 H locs) {i x : Int32} (hin : vp_in i n) (hdg : decode cc pc = .ok (.iastore, 1))
    (kk : ∀ (g : Nat → Int32) (H1 : Heap) (locs1 : List Loc), va_P (dC, dI) vwCl (X ++ [(a, .inl (cy 0, n, .inl g))]) H1 → va_D A (X ++ [(a, .inl (cy 0, n, .inl g))]) → va_S A H0 H1 locs1 → W p l e R s m args below meth c H1 locs1 cells slots Q (F0 m (pc + 1) ls rest)) : W p l e R s m args below meth c H locs cells slots Q (F0 m pc ls (.int x :: .int i :: .ref a :: rest)) := by
  refine va_iast (n := n) (f := f) (cA := cy 0) C0.1 C0.2.1 C0.2.2.2.2.2.1 hP hD hS X.length 0 (by simp) rfl hin hdg (fun H1 locs1 h1 h2 h3 => ?_)
  have e1 : ∀ u z : Nat × va_E, (X ++ [u]).set X.length z = X ++ [z] := fun u z => by simp
  rw [e1] at h1 h2
  exact kk _ H1 locs1 h1 h2 h3
end KY
