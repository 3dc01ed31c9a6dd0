section MI
variable {p : Program} {l : Launch} {e : Env} {R : Room} {s : State} {m : MethodId} {args : Array Value} {below : List Frame} {meth : Method} {c : Code} {H : Heap} {locs : List Loc} {cells slots : Nat} {Q : State → Prop}
variable {cc : ByteArray} {pc : Nat} {ls : Array Slot} {rest : List Value} {A : Nat → Prop} {a : Nat} {H0 : Heap} {nL : Nat} {own : String} {dC : Nat → ClassId} {dI : Nat → Nat → Nat} {cy : Nat → ClassId} {sq : Nat → Nat}
/-- a store into the row made last, its contents as they become -/
theorem k_iastU (C0 : k_cx p s m args c cc nL own dC dI cy sq) {X : va_W} {n : Nat} {f : Nat → Int32} (hP : va_P (dC, dI) vwCl (X ++ [(a, .inl (cy 0, n, .inl f))]) H) (hD : va_D A (X ++ [(a, .inl (cy 0, n, .inl f))])) (hS : va_S A H0 H locs) {i x : Int32} (hin : vp_in i n) (hdg : decode cc pc = .ok (.iastore, 1))
    (kk : ∀ (g : Nat → Int32) (H1 : Heap) (locs1 : List Loc), g = upd f i.toNatClampNeg x → va_P (dC, dI) vwCl (X ++ [(a, .inl (cy 0, n, .inl g))]) H1 → va_D A (X ++ [(a, .inl (cy 0, n, .inl g))]) → va_S A H0 H1 locs1 → W p l e R s m args below meth c H1 locs1 cells slots Q (F0 m (pc + 1) ls rest)) : W p l e R s m args below meth c H locs cells slots Q (F0 m pc ls (.int x :: .int i :: .ref a :: rest)) := by
  refine va_iast (n := n) (f := f) (cA := cy 0) C0.1 C0.2.1 C0.2.2.2.2.2.1 hP hD hS X.length 0 (by simp) rfl hin hdg (fun H1 locs1 h1 h2 h3 => ?_)
  have e1 : ∀ u z : Nat × va_E, (X ++ [u]).set X.length z = X ++ [z] := fun u z => by simp
  rw [e1] at h1 h2
  exact kk _ H1 locs1 rfl h1 h2 h3
end MI
section MJ
variable {p : Program} {l : Launch} {e : Env} {R : Room} {s : State} {m : MethodId} {args : Array Value} {below : List Frame} {meth : Method} {c : Code} {H : Heap} {locs : List Loc} {cells slots : Nat} {Q : State → Prop}
variable {cc : ByteArray} {pc : Nat} {ls : Array Slot} {rest : List Value} {A : Nat → Prop} {a : Nat} {H0 : Heap} {nL : Nat} {own : String} {dC : Nat → ClassId} {dI : Nat → Nat → Nat} {cy : Nat → ClassId} {sq : Nat → Nat}
theorem k_castU (C0 : k_cx p s m args c cc nL own dC dI cy sq) {X : va_W} {n : Nat} {f : Nat → Int32} (hP : va_P (dC, dI) vwCl (X ++ [(a, .inl (cy 2, n, .inl f))]) H) (hD : va_D A (X ++ [(a, .inl (cy 2, n, .inl f))])) (hS : va_S A H0 H locs) {i x : Int32} (hin : vp_in i n) (hdg : decode cc pc = .ok (.castore, 1))
    (kk : ∀ (g : Nat → Int32) (H1 : Heap) (locs1 : List Loc), g = upd f i.toNatClampNeg (vp_nar .char x) → va_P (dC, dI) vwCl (X ++ [(a, .inl (cy 2, n, .inl g))]) H1 → va_D A (X ++ [(a, .inl (cy 2, n, .inl g))]) → va_S A H0 H1 locs1 → W p l e R s m args below meth c H1 locs1 cells slots Q (F0 m (pc + 1) ls rest)) : W p l e R s m args below meth c H locs cells slots Q (F0 m pc ls (.int x :: .int i :: .ref a :: rest)) := by
  refine va_cast (n := n) (f := f) (cA := cy 2) C0.1 C0.2.1 C0.2.2.2.2.2.1 hP hD hS X.length 2 (by simp) rfl hin hdg (fun H1 locs1 h1 h2 h3 => ?_)
  have e1 : ∀ u z : Nat × va_E, (X ++ [u]).set X.length z = X ++ [z] := fun u z => by simp
  rw [e1] at h1 h2
  exact kk _ H1 locs1 rfl h1 h2 h3
end MJ
set_option maxHeartbeats 4000000 in
theorem mi_0 {p : Program} {l : Launch} {e : Env} {R : Room} {s : State} {m : MethodId} {args : Array Value} {below : List Frame} {meth : Method} {c : Code} {H : Heap} {locs : List Loc} {cells slots : Nat} {Q : State → Prop} {ls : Array Slot} {A : Nat → Prop} {H0 : Heap} {dC : Nat → ClassId} {dI : Nat → Nat → Nat} {cy : Nat → ClassId} {sq : Nat → Nat} {a0 : Nat} {fs : List Value} {Y : va_W} (C0 : k_cx p s m args c cX10_init 1 RX10 dC dI cy sq) (hin : meth.name = "<init>") (hA : ∀ q, H0.size ≤ q → A q) (hl : lv_has ls 1 [(0, .ref a0)]) (hlen : fs.length = 122) (hP : va_P (dC, dI) vwCl ((a0, .inr (10, fs)) :: Y) H) (hD : va_D A ((a0, .inr (10, fs)) :: Y)) (hS : va_S A H0 H locs) (h3 : cells + 1 ≤ R.cells) (h4 : slots + 1600 ≤ R.slots) (kk : ∀ (q : Nat) (fs1 : List Value) (Y1 : va_W) (H1 : Heap) (locs1 : List Loc), fs1 = fs.set 0 (.ref q) → fs1.length = 122 → Y1 = Y ++ [(q, .inl (cy 0, 1600, .inl (fun _ => 0)))] → va_P (dC, dI) vwCl ((a0, .inr (10, fs1)) :: Y1) H1 → va_D A ((a0, .inr (10, fs1)) :: Y1) → va_S A H0 H1 locs1 → W p l e R s m args below meth c H1 locs1 (cells + 1) (slots + 1600) Q (F0 m 13 ls [])) : W p l e R s m args below meth c H locs cells slots Q (F0 m 4 ls []) := by
  have hx := C0.1
  have hb := C0.2.1
  refine lv_aload_n hx hb dk_dX10_init_0.2.2.1 rfl (lv_at hl 0 rfl) ?_
  refine lv_sipush (v := 1600) hx hb dk_dX10_init_0.2.2.2.1 (by decide) ?_
  refine k_newa C0 0 (ty := .int) rfl (atype := .int) rfl wd12 hP hD hS hA (a0 := (1600, .inl (fun _ => 0))) (fun _ => rfl) (by decide) (by decide) (Nat.le_of_ble_eq_true rfl) (cells + 1) (slots + 1600) (Nat.le_refl _) (Nat.le_refl _) h3 h4 dk_dX10_init_0.2.2.2.2.1 (fun q H hP hD hS => ?_)
  refine k_putF C0 hin fp_X10_7 hP hD hS 0 rfl rfl rfl (Nat.lt_of_lt_of_eq (by decide) hlen.symm) dk_dX10_init_0.2.2.2.2.2.1 (fun H locs hP hD hS => ?_)
  exact kk q _ _ H locs rfl (by rw [List.length_set]; exact hlen) rfl hP hD hS
set_option maxHeartbeats 4000000 in
theorem mi_8 {p : Program} {l : Launch} {e : Env} {R : Room} {s : State} {m : MethodId} {args : Array Value} {below : List Frame} {meth : Method} {c : Code} {H : Heap} {locs : List Loc} {cells slots : Nat} {Q : State → Prop} {ls : Array Slot} {A : Nat → Prop} {H0 : Heap} {dC : Nat → ClassId} {dI : Nat → Nat → Nat} {cy : Nat → ClassId} {sq : Nat → Nat} {a0 : Nat} {fs : List Value} {Y : va_W} (C0 : k_cx p s m args c cX10_init 1 RX10 dC dI cy sq) (hin : meth.name = "<init>") (hA : ∀ q, H0.size ≤ q → A q) (hl : lv_has ls 1 [(0, .ref a0)]) (hlen : fs.length = 122) (hP : va_P (dC, dI) vwCl ((a0, .inr (10, fs)) :: Y) H) (hD : va_D A ((a0, .inr (10, fs)) :: Y)) (hS : va_S A H0 H locs) (kk : ∀ (fs1 : List Value) (H1 : Heap) (locs1 : List Loc), fs1 = fs.set 8 (.int (-1)) → fs1.length = 122 → va_P (dC, dI) vwCl ((a0, .inr (10, fs1)) :: Y) H1 → va_D A ((a0, .inr (10, fs1)) :: Y) → va_S A H0 H1 locs1 → W p l e R s m args below meth c H1 locs1 cells slots Q (F0 m 18 ls [])) : W p l e R s m args below meth c H locs cells slots Q (F0 m 13 ls []) := by
  have hx := C0.1
  have hb := C0.2.1
  refine lv_aload_n hx hb dk_dX10_init_0.2.2.2.2.2.2.1 rfl (lv_at hl 0 rfl) ?_
  refine lv_iconst (v := (-1)) hx hb dk_dX10_init_0.2.2.2.2.2.2.2.1 (by decide) ?_
  refine k_put C0 fp_X10_13 hP hD hS 0 rfl rfl rfl (Nat.lt_of_lt_of_eq (by decide) hlen.symm) dk_dX10_init_0_8.1 (fun H locs hP hD hS => ?_)
  exact kk _ H locs rfl (by rw [List.length_set]; exact hlen) hP hD hS
set_option maxHeartbeats 4000000 in
theorem mi_9 {p : Program} {l : Launch} {e : Env} {R : Room} {s : State} {m : MethodId} {args : Array Value} {below : List Frame} {meth : Method} {c : Code} {H : Heap} {locs : List Loc} {cells slots : Nat} {Q : State → Prop} {ls : Array Slot} {A : Nat → Prop} {H0 : Heap} {dC : Nat → ClassId} {dI : Nat → Nat → Nat} {cy : Nat → ClassId} {sq : Nat → Nat} {a0 : Nat} {fs : List Value} {Y : va_W} (C0 : k_cx p s m args c cX10_init 1 RX10 dC dI cy sq) (hin : meth.name = "<init>") (hA : ∀ q, H0.size ≤ q → A q) (hl : lv_has ls 1 [(0, .ref a0)]) (hlen : fs.length = 122) (hP : va_P (dC, dI) vwCl ((a0, .inr (10, fs)) :: Y) H) (hD : va_D A ((a0, .inr (10, fs)) :: Y)) (hS : va_S A H0 H locs) (h3 : cells + 1 ≤ R.cells) (h4 : slots + 6 ≤ R.slots) (kk : ∀ (q : Nat) (fs1 : List Value) (Y1 : va_W) (H1 : Heap) (locs1 : List Loc), fs1 = fs.set 9 (.ref q) → fs1.length = 122 → Y1 = Y ++ [(q, .inl (cy 0, 6, .inl (fun _ => 0)))] → va_P (dC, dI) vwCl ((a0, .inr (10, fs1)) :: Y1) H1 → va_D A ((a0, .inr (10, fs1)) :: Y1) → va_S A H0 H1 locs1 → W p l e R s m args below meth c H1 locs1 (cells + 1) (slots + 6) Q (F0 m 26 ls [])) : W p l e R s m args below meth c H locs cells slots Q (F0 m 18 ls []) := by
  have hx := C0.1
  have hb := C0.2.1
  refine lv_aload_n hx hb dk_dX10_init_0_8.2.1 rfl (lv_at hl 0 rfl) ?_
  refine lv_bipush (v := 6) hx hb dk_dX10_init_0_8.2.2.1 (by decide) ?_
  refine k_newa C0 0 (ty := .int) rfl (atype := .int) rfl wd12 hP hD hS hA (a0 := (6, .inl (fun _ => 0))) (fun _ => rfl) (by decide) (by decide) (Nat.le_of_ble_eq_true rfl) (cells + 1) (slots + 6) (Nat.le_refl _) (Nat.le_refl _) h3 h4 dk_dX10_init_0_8.2.2.2.1 (fun q H hP hD hS => ?_)
  refine k_putF C0 hin fp_X10_17 hP hD hS 0 rfl rfl rfl (Nat.lt_of_lt_of_eq (by decide) hlen.symm) dk_dX10_init_0_8.2.2.2.2.1 (fun H locs hP hD hS => ?_)
  exact kk q _ _ H locs rfl (by rw [List.length_set]; exact hlen) rfl hP hD hS
set_option maxHeartbeats 4000000 in
theorem mi_10 {p : Program} {l : Launch} {e : Env} {R : Room} {s : State} {m : MethodId} {args : Array Value} {below : List Frame} {meth : Method} {c : Code} {H : Heap} {locs : List Loc} {cells slots : Nat} {Q : State → Prop} {ls : Array Slot} {A : Nat → Prop} {H0 : Heap} {dC : Nat → ClassId} {dI : Nat → Nat → Nat} {cy : Nat → ClassId} {sq : Nat → Nat} {a0 : Nat} {fs : List Value} {Y : va_W} (C0 : k_cx p s m args c cX10_init 1 RX10 dC dI cy sq) (hin : meth.name = "<init>") (hA : ∀ q, H0.size ≤ q → A q) (hl : lv_has ls 1 [(0, .ref a0)]) (hlen : fs.length = 122) (hP : va_P (dC, dI) vwCl ((a0, .inr (10, fs)) :: Y) H) (hD : va_D A ((a0, .inr (10, fs)) :: Y)) (hS : va_S A H0 H locs) (h3 : cells + 1 ≤ R.cells) (h4 : slots + 5 ≤ R.slots) (kk : ∀ (q : Nat) (g : Nat → Int32) (fs1 : List Value) (Y1 : va_W) (H1 : Heap) (locs1 : List Loc), wa (lf_A g) [99, 121, 99, 108, 101] → fs1 = fs.set 10 (.ref q) → fs1.length = 122 → Y1 = Y ++ [(q, .inl (cy 2, 5, .inl g))] → va_P (dC, dI) vwCl ((a0, .inr (10, fs1)) :: Y1) H1 → va_D A ((a0, .inr (10, fs1)) :: Y1) → va_S A H0 H1 locs1 → W p l e R s m args below meth c H1 locs1 (cells + 1) (slots + 5) Q (F0 m 58 ls [])) : W p l e R s m args below meth c H locs cells slots Q (F0 m 26 ls []) := by
  have hx := C0.1
  have hb := C0.2.1
  refine lv_aload_n hx hb dk_dX10_init_0_8.2.2.2.2.2.1 rfl (lv_at hl 0 rfl) ?_
  refine lv_iconst (v := 5) hx hb dk_dX10_init_0_8.2.2.2.2.2.2.1 (by decide) ?_
  refine k_newa C0 2 (ty := .char) rfl (atype := .char) rfl wd161 hP hD hS hA (a0 := (5, .inl (fun _ => 0))) (fun _ => rfl) (by decide) (by decide) (Nat.le_of_ble_eq_true rfl) (cells + 1) (slots + 5) (Nat.le_refl _) (Nat.le_refl _) h3 h4 dk_dX10_init_0_8.2.2.2.2.2.2.2.1 (fun q H hP hD hS => ?_)
  refine lv_dup hx hb dk_dX10_init_30.1 rfl ?_
  refine lv_iconst (v := 0) hx hb dk_dX10_init_30.2.1 (by decide) ?_
  refine lv_bipush (v := 99) hx hb dk_dX10_init_30.2.2.1 (by decide) ?_
  refine k_castU C0 hP hD hS (k_in 0 5 (by decide)) dk_dX10_init_30.2.2.2.1 (fun g3 H locs e3 hP hD hS => ?_)
  refine lv_dup hx hb dk_dX10_init_30.2.2.2.2.1 rfl ?_
  refine lv_iconst (v := 1) hx hb dk_dX10_init_30.2.2.2.2.2.1 (by decide) ?_
  refine lv_bipush (v := 121) hx hb dk_dX10_init_30.2.2.2.2.2.2.1 (by decide) ?_
  refine k_castU C0 hP hD hS (k_in 1 5 (by decide)) dk_dX10_init_30.2.2.2.2.2.2.2.1 (fun g7 H locs e7 hP hD hS => ?_)
  refine lv_dup hx hb dk_dX10_init_30_8.1 rfl ?_
  refine lv_iconst (v := 2) hx hb dk_dX10_init_30_8.2.1 (by decide) ?_
  refine lv_bipush (v := 99) hx hb dk_dX10_init_30_8.2.2.1 (by decide) ?_
  refine k_castU C0 hP hD hS (k_in 2 5 (by decide)) dk_dX10_init_30_8.2.2.2.1 (fun g11 H locs e11 hP hD hS => ?_)
  refine lv_dup hx hb dk_dX10_init_30_8.2.2.2.2.1 rfl ?_
  refine lv_iconst (v := 3) hx hb dk_dX10_init_30_8.2.2.2.2.2.1 (by decide) ?_
  refine lv_bipush (v := 108) hx hb dk_dX10_init_30_8.2.2.2.2.2.2.1 (by decide) ?_
  refine k_castU C0 hP hD hS (k_in 3 5 (by decide)) dk_dX10_init_30_8.2.2.2.2.2.2.2.1 (fun g15 H locs e15 hP hD hS => ?_)
  refine lv_dup hx hb dk_dX10_init_50.1 rfl ?_
  refine lv_iconst (v := 4) hx hb dk_dX10_init_50.2.1 (by decide) ?_
  refine lv_bipush (v := 101) hx hb dk_dX10_init_50.2.2.1 (by decide) ?_
  refine k_castU C0 hP hD hS (k_in 4 5 (by decide)) dk_dX10_init_50.2.2.2.1 (fun g19 H locs e19 hP hD hS => ?_)
  refine k_putF C0 hin fp_X10_20 hP hD hS 0 rfl rfl rfl (Nat.lt_of_lt_of_eq (by decide) hlen.symm) dk_dX10_init_50.2.2.2.2.1 (fun H locs hP hD hS => ?_)
  have hg : wa (lf_A g19) [99, 121, 99, 108, 101] := by
    subst e19 e15 e11 e7 e3
    unfold wa
    decide +kernel
  exact kk q g19 _ _ H locs hg rfl (by rw [List.length_set]; exact hlen) rfl hP hD hS
set_option maxHeartbeats 4000000 in
theorem mi_11 {p : Program} {l : Launch} {e : Env} {R : Room} {s : State} {m : MethodId} {args : Array Value} {below : List Frame} {meth : Method} {c : Code} {H : Heap} {locs : List Loc} {cells slots : Nat} {Q : State → Prop} {ls : Array Slot} {A : Nat → Prop} {H0 : Heap} {dC : Nat → ClassId} {dI : Nat → Nat → Nat} {cy : Nat → ClassId} {sq : Nat → Nat} {a0 : Nat} {fs : List Value} {Y : va_W} (C0 : k_cx p s m args c cX10_init 1 RX10 dC dI cy sq) (hin : meth.name = "<init>") (hA : ∀ q, H0.size ≤ q → A q) (hl : lv_has ls 1 [(0, .ref a0)]) (hlen : fs.length = 122) (hP : va_P (dC, dI) vwCl ((a0, .inr (10, fs)) :: Y) H) (hD : va_D A ((a0, .inr (10, fs)) :: Y)) (hS : va_S A H0 H locs) (h3 : cells + 1 ≤ R.cells) (h4 : slots + 5 ≤ R.slots) (kk : ∀ (q : Nat) (g : Nat → Int32) (fs1 : List Value) (Y1 : va_W) (H1 : Heap) (locs1 : List Loc), wa (lf_A g) [103, 114, 101, 101, 110] → fs1 = fs.set 11 (.ref q) → fs1.length = 122 → Y1 = Y ++ [(q, .inl (cy 2, 5, .inl g))] → va_P (dC, dI) vwCl ((a0, .inr (10, fs1)) :: Y1) H1 → va_D A ((a0, .inr (10, fs1)) :: Y1) → va_S A H0 H1 locs1 → W p l e R s m args below meth c H1 locs1 (cells + 1) (slots + 5) Q (F0 m 90 ls [])) : W p l e R s m args below meth c H locs cells slots Q (F0 m 58 ls []) := by
  have hx := C0.1
  have hb := C0.2.1
  refine lv_aload_n hx hb dk_dX10_init_50.2.2.2.2.2.1 rfl (lv_at hl 0 rfl) ?_
  refine lv_iconst (v := 5) hx hb dk_dX10_init_50.2.2.2.2.2.2.1 (by decide) ?_
  refine k_newa C0 2 (ty := .char) rfl (atype := .char) rfl wd161 hP hD hS hA (a0 := (5, .inl (fun _ => 0))) (fun _ => rfl) (by decide) (by decide) (Nat.le_of_ble_eq_true rfl) (cells + 1) (slots + 5) (Nat.le_refl _) (Nat.le_refl _) h3 h4 dk_dX10_init_50.2.2.2.2.2.2.2.1 (fun q H hP hD hS => ?_)
  refine lv_dup hx hb dk_dX10_init_50_8.1 rfl ?_
  refine lv_iconst (v := 0) hx hb dk_dX10_init_50_8.2.1 (by decide) ?_
  refine lv_bipush (v := 103) hx hb dk_dX10_init_50_8.2.2.1 (by decide) ?_
  refine k_castU C0 hP hD hS (k_in 0 5 (by decide)) dk_dX10_init_50_8.2.2.2.1 (fun g3 H locs e3 hP hD hS => ?_)
  refine lv_dup hx hb dk_dX10_init_50_8.2.2.2.2.1 rfl ?_
  refine lv_iconst (v := 1) hx hb dk_dX10_init_50_8.2.2.2.2.2.1 (by decide) ?_
  refine lv_bipush (v := 114) hx hb dk_dX10_init_50_8.2.2.2.2.2.2.1 (by decide) ?_
  refine k_castU C0 hP hD hS (k_in 1 5 (by decide)) dk_dX10_init_50_8.2.2.2.2.2.2.2.1 (fun g7 H locs e7 hP hD hS => ?_)
  refine lv_dup hx hb dk_dX10_init_72.1 rfl ?_
  refine lv_iconst (v := 2) hx hb dk_dX10_init_72.2.1 (by decide) ?_
  refine lv_bipush (v := 101) hx hb dk_dX10_init_72.2.2.1 (by decide) ?_
  refine k_castU C0 hP hD hS (k_in 2 5 (by decide)) dk_dX10_init_72.2.2.2.1 (fun g11 H locs e11 hP hD hS => ?_)
  refine lv_dup hx hb dk_dX10_init_72.2.2.2.2.1 rfl ?_
  refine lv_iconst (v := 3) hx hb dk_dX10_init_72.2.2.2.2.2.1 (by decide) ?_
  refine lv_bipush (v := 101) hx hb dk_dX10_init_72.2.2.2.2.2.2.1 (by decide) ?_
  refine k_castU C0 hP hD hS (k_in 3 5 (by decide)) dk_dX10_init_72.2.2.2.2.2.2.2.1 (fun g15 H locs e15 hP hD hS => ?_)
  refine lv_dup hx hb dk_dX10_init_72_8.1 rfl ?_
  refine lv_iconst (v := 4) hx hb dk_dX10_init_72_8.2.1 (by decide) ?_
  refine lv_bipush (v := 110) hx hb dk_dX10_init_72_8.2.2.1 (by decide) ?_
  refine k_castU C0 hP hD hS (k_in 4 5 (by decide)) dk_dX10_init_72_8.2.2.2.1 (fun g19 H locs e19 hP hD hS => ?_)
  refine k_putF C0 hin fp_X10_24 hP hD hS 0 rfl rfl rfl (Nat.lt_of_lt_of_eq (by decide) hlen.symm) dk_dX10_init_72_8.2.2.2.2.1 (fun H locs hP hD hS => ?_)
  have hg : wa (lf_A g19) [103, 114, 101, 101, 110] := by
    subst e19 e15 e11 e7 e3
    unfold wa
    decide +kernel
  exact kk q g19 _ _ H locs hg rfl (by rw [List.length_set]; exact hlen) rfl hP hD hS
set_option maxHeartbeats 4000000 in
theorem mi_12 {p : Program} {l : Launch} {e : Env} {R : Room} {s : State} {m : MethodId} {args : Array Value} {below : List Frame} {meth : Method} {c : Code} {H : Heap} {locs : List Loc} {cells slots : Nat} {Q : State → Prop} {ls : Array Slot} {A : Nat → Prop} {H0 : Heap} {dC : Nat → ClassId} {dI : Nat → Nat → Nat} {cy : Nat → ClassId} {sq : Nat → Nat} {a0 : Nat} {fs : List Value} {Y : va_W} (C0 : k_cx p s m args c cX10_init 1 RX10 dC dI cy sq) (hin : meth.name = "<init>") (hA : ∀ q, H0.size ≤ q → A q) (hl : lv_has ls 1 [(0, .ref a0)]) (hlen : fs.length = 122) (hP : va_P (dC, dI) vwCl ((a0, .inr (10, fs)) :: Y) H) (hD : va_D A ((a0, .inr (10, fs)) :: Y)) (hS : va_S A H0 H locs) (h3 : cells + 1 ≤ R.cells) (h4 : slots + 4 ≤ R.slots) (kk : ∀ (q : Nat) (g : Nat → Int32) (fs1 : List Value) (Y1 : va_W) (H1 : Heap) (locs1 : List Loc), wa (lf_A g) [114, 117, 108, 101] → fs1 = fs.set 12 (.ref q) → fs1.length = 122 → Y1 = Y ++ [(q, .inl (cy 2, 4, .inl g))] → va_P (dC, dI) vwCl ((a0, .inr (10, fs1)) :: Y1) H1 → va_D A ((a0, .inr (10, fs1)) :: Y1) → va_S A H0 H1 locs1 → W p l e R s m args below meth c H1 locs1 (cells + 1) (slots + 4) Q (F0 m 117 ls [])) : W p l e R s m args below meth c H locs cells slots Q (F0 m 90 ls []) := by
  have hx := C0.1
  have hb := C0.2.1
  refine lv_aload_n hx hb dk_dX10_init_72_8.2.2.2.2.2.1 rfl (lv_at hl 0 rfl) ?_
  refine lv_iconst (v := 4) hx hb dk_dX10_init_72_8.2.2.2.2.2.2.1 (by decide) ?_
  refine k_newa C0 2 (ty := .char) rfl (atype := .char) rfl wd161 hP hD hS hA (a0 := (4, .inl (fun _ => 0))) (fun _ => rfl) (by decide) (by decide) (Nat.le_of_ble_eq_true rfl) (cells + 1) (slots + 4) (Nat.le_refl _) (Nat.le_refl _) h3 h4 dk_dX10_init_72_8.2.2.2.2.2.2.2.1 (fun q H hP hD hS => ?_)
  refine lv_dup hx hb dk_dX10_init_94.1 rfl ?_
  refine lv_iconst (v := 0) hx hb dk_dX10_init_94.2.1 (by decide) ?_
  refine lv_bipush (v := 114) hx hb dk_dX10_init_94.2.2.1 (by decide) ?_
  refine k_castU C0 hP hD hS (k_in 0 4 (by decide)) dk_dX10_init_94.2.2.2.1 (fun g3 H locs e3 hP hD hS => ?_)
  refine lv_dup hx hb dk_dX10_init_94.2.2.2.2.1 rfl ?_
  refine lv_iconst (v := 1) hx hb dk_dX10_init_94.2.2.2.2.2.1 (by decide) ?_
  refine lv_bipush (v := 117) hx hb dk_dX10_init_94.2.2.2.2.2.2.1 (by decide) ?_
  refine k_castU C0 hP hD hS (k_in 1 4 (by decide)) dk_dX10_init_94.2.2.2.2.2.2.2.1 (fun g7 H locs e7 hP hD hS => ?_)
  refine lv_dup hx hb dk_dX10_init_94_8.1 rfl ?_
  refine lv_iconst (v := 2) hx hb dk_dX10_init_94_8.2.1 (by decide) ?_
  refine lv_bipush (v := 108) hx hb dk_dX10_init_94_8.2.2.1 (by decide) ?_
  refine k_castU C0 hP hD hS (k_in 2 4 (by decide)) dk_dX10_init_94_8.2.2.2.1 (fun g11 H locs e11 hP hD hS => ?_)
  refine lv_dup hx hb dk_dX10_init_94_8.2.2.2.2.1 rfl ?_
  refine lv_iconst (v := 3) hx hb dk_dX10_init_94_8.2.2.2.2.2.1 (by decide) ?_
  refine lv_bipush (v := 101) hx hb dk_dX10_init_94_8.2.2.2.2.2.2.1 (by decide) ?_
  refine k_castU C0 hP hD hS (k_in 3 4 (by decide)) dk_dX10_init_94_8.2.2.2.2.2.2.2.1 (fun g15 H locs e15 hP hD hS => ?_)
  refine k_putF C0 hin fp_X10_27 hP hD hS 0 rfl rfl rfl (Nat.lt_of_lt_of_eq (by decide) hlen.symm) dk_dX10_init_114.1 (fun H locs hP hD hS => ?_)
  have hg : wa (lf_A g15) [114, 117, 108, 101] := by
    subst e15 e11 e7 e3
    unfold wa
    decide +kernel
  exact kk q g15 _ _ H locs hg rfl (by rw [List.length_set]; exact hlen) rfl hP hD hS
set_option maxHeartbeats 4000000 in
theorem mi_13 {p : Program} {l : Launch} {e : Env} {R : Room} {s : State} {m : MethodId} {args : Array Value} {below : List Frame} {meth : Method} {c : Code} {H : Heap} {locs : List Loc} {cells slots : Nat} {Q : State → Prop} {ls : Array Slot} {A : Nat → Prop} {H0 : Heap} {dC : Nat → ClassId} {dI : Nat → Nat → Nat} {cy : Nat → ClassId} {sq : Nat → Nat} {a0 : Nat} {fs : List Value} {Y : va_W} (C0 : k_cx p s m args c cX10_init 1 RX10 dC dI cy sq) (hin : meth.name = "<init>") (hA : ∀ q, H0.size ≤ q → A q) (hl : lv_has ls 1 [(0, .ref a0)]) (hlen : fs.length = 122) (hP : va_P (dC, dI) vwCl ((a0, .inr (10, fs)) :: Y) H) (hD : va_D A ((a0, .inr (10, fs)) :: Y)) (hS : va_S A H0 H locs) (h3 : cells + 1 ≤ R.cells) (h4 : slots + 5 ≤ R.slots) (kk : ∀ (q : Nat) (g : Nat → Int32) (fs1 : List Value) (Y1 : va_W) (H1 : Heap) (locs1 : List Loc), wa (lf_A g) [108, 101, 97, 115, 116] → fs1 = fs.set 13 (.ref q) → fs1.length = 122 → Y1 = Y ++ [(q, .inl (cy 2, 5, .inl g))] → va_P (dC, dI) vwCl ((a0, .inr (10, fs1)) :: Y1) H1 → va_D A ((a0, .inr (10, fs1)) :: Y1) → va_S A H0 H1 locs1 → W p l e R s m args below meth c H1 locs1 (cells + 1) (slots + 5) Q (F0 m 149 ls [])) : W p l e R s m args below meth c H locs cells slots Q (F0 m 117 ls []) := by
  have hx := C0.1
  have hb := C0.2.1
  refine lv_aload_n hx hb dk_dX10_init_114.2.1 rfl (lv_at hl 0 rfl) ?_
  refine lv_iconst (v := 5) hx hb dk_dX10_init_114.2.2.1 (by decide) ?_
  refine k_newa C0 2 (ty := .char) rfl (atype := .char) rfl wd161 hP hD hS hA (a0 := (5, .inl (fun _ => 0))) (fun _ => rfl) (by decide) (by decide) (Nat.le_of_ble_eq_true rfl) (cells + 1) (slots + 5) (Nat.le_refl _) (Nat.le_refl _) h3 h4 dk_dX10_init_114.2.2.2.1 (fun q H hP hD hS => ?_)
  refine lv_dup hx hb dk_dX10_init_114.2.2.2.2.1 rfl ?_
  refine lv_iconst (v := 0) hx hb dk_dX10_init_114.2.2.2.2.2.1 (by decide) ?_
  refine lv_bipush (v := 108) hx hb dk_dX10_init_114.2.2.2.2.2.2.1 (by decide) ?_
  refine k_castU C0 hP hD hS (k_in 0 5 (by decide)) dk_dX10_init_114.2.2.2.2.2.2.2.1 (fun g3 H locs e3 hP hD hS => ?_)
  refine lv_dup hx hb dk_dX10_init_114_8.1 rfl ?_
  refine lv_iconst (v := 1) hx hb dk_dX10_init_114_8.2.1 (by decide) ?_
  refine lv_bipush (v := 101) hx hb dk_dX10_init_114_8.2.2.1 (by decide) ?_
  refine k_castU C0 hP hD hS (k_in 1 5 (by decide)) dk_dX10_init_114_8.2.2.2.1 (fun g7 H locs e7 hP hD hS => ?_)
  refine lv_dup hx hb dk_dX10_init_114_8.2.2.2.2.1 rfl ?_
  refine lv_iconst (v := 2) hx hb dk_dX10_init_114_8.2.2.2.2.2.1 (by decide) ?_
  refine lv_bipush (v := 97) hx hb dk_dX10_init_114_8.2.2.2.2.2.2.1 (by decide) ?_
  refine k_castU C0 hP hD hS (k_in 2 5 (by decide)) dk_dX10_init_114_8.2.2.2.2.2.2.2.1 (fun g11 H locs e11 hP hD hS => ?_)
  refine lv_dup hx hb dk_dX10_init_136.1 rfl ?_
  refine lv_iconst (v := 3) hx hb dk_dX10_init_136.2.1 (by decide) ?_
  refine lv_bipush (v := 115) hx hb dk_dX10_init_136.2.2.1 (by decide) ?_
  refine k_castU C0 hP hD hS (k_in 3 5 (by decide)) dk_dX10_init_136.2.2.2.1 (fun g15 H locs e15 hP hD hS => ?_)
  refine lv_dup hx hb dk_dX10_init_136.2.2.2.2.1 rfl ?_
  refine lv_iconst (v := 4) hx hb dk_dX10_init_136.2.2.2.2.2.1 (by decide) ?_
  refine lv_bipush (v := 116) hx hb dk_dX10_init_136.2.2.2.2.2.2.1 (by decide) ?_
  refine k_castU C0 hP hD hS (k_in 4 5 (by decide)) dk_dX10_init_136.2.2.2.2.2.2.2.1 (fun g19 H locs e19 hP hD hS => ?_)
  refine k_putF C0 hin fp_X10_30 hP hD hS 0 rfl rfl rfl (Nat.lt_of_lt_of_eq (by decide) hlen.symm) dk_dX10_init_136_8.1 (fun H locs hP hD hS => ?_)
  have hg : wa (lf_A g19) [108, 101, 97, 115, 116] := by
    subst e19 e15 e11 e7 e3
    unfold wa
    decide +kernel
  exact kk q g19 _ _ H locs hg rfl (by rw [List.length_set]; exact hlen) rfl hP hD hS
set_option maxHeartbeats 4000000 in
theorem mi_14 {p : Program} {l : Launch} {e : Env} {R : Room} {s : State} {m : MethodId} {args : Array Value} {below : List Frame} {meth : Method} {c : Code} {H : Heap} {locs : List Loc} {cells slots : Nat} {Q : State → Prop} {ls : Array Slot} {A : Nat → Prop} {H0 : Heap} {dC : Nat → ClassId} {dI : Nat → Nat → Nat} {cy : Nat → ClassId} {sq : Nat → Nat} {a0 : Nat} {fs : List Value} {Y : va_W} (C0 : k_cx p s m args c cX10_init 1 RX10 dC dI cy sq) (hin : meth.name = "<init>") (hA : ∀ q, H0.size ≤ q → A q) (hl : lv_has ls 1 [(0, .ref a0)]) (hlen : fs.length = 122) (hP : va_P (dC, dI) vwCl ((a0, .inr (10, fs)) :: Y) H) (hD : va_D A ((a0, .inr (10, fs)) :: Y)) (hS : va_S A H0 H locs) (h3 : cells + 1 ≤ R.cells) (h4 : slots + 4 ≤ R.slots) (kk : ∀ (q : Nat) (g : Nat → Int32) (fs1 : List Value) (Y1 : va_W) (H1 : Heap) (locs1 : List Loc), wa (lf_A g) [107, 105, 110, 100] → fs1 = fs.set 14 (.ref q) → fs1.length = 122 → Y1 = Y ++ [(q, .inl (cy 2, 4, .inl g))] → va_P (dC, dI) vwCl ((a0, .inr (10, fs1)) :: Y1) H1 → va_D A ((a0, .inr (10, fs1)) :: Y1) → va_S A H0 H1 locs1 → W p l e R s m args below meth c H1 locs1 (cells + 1) (slots + 4) Q (F0 m 176 ls [])) : W p l e R s m args below meth c H locs cells slots Q (F0 m 149 ls []) := by
  have hx := C0.1
  have hb := C0.2.1
  refine lv_aload_n hx hb dk_dX10_init_136_8.2.1 rfl (lv_at hl 0 rfl) ?_
  refine lv_iconst (v := 4) hx hb dk_dX10_init_136_8.2.2.1 (by decide) ?_
  refine k_newa C0 2 (ty := .char) rfl (atype := .char) rfl wd161 hP hD hS hA (a0 := (4, .inl (fun _ => 0))) (fun _ => rfl) (by decide) (by decide) (Nat.le_of_ble_eq_true rfl) (cells + 1) (slots + 4) (Nat.le_refl _) (Nat.le_refl _) h3 h4 dk_dX10_init_136_8.2.2.2.1 (fun q H hP hD hS => ?_)
  refine lv_dup hx hb dk_dX10_init_136_8.2.2.2.2.1 rfl ?_
  refine lv_iconst (v := 0) hx hb dk_dX10_init_136_8.2.2.2.2.2.1 (by decide) ?_
  refine lv_bipush (v := 107) hx hb dk_dX10_init_136_8.2.2.2.2.2.2.1 (by decide) ?_
  refine k_castU C0 hP hD hS (k_in 0 4 (by decide)) dk_dX10_init_136_8.2.2.2.2.2.2.2.1 (fun g3 H locs e3 hP hD hS => ?_)
  refine lv_dup hx hb dk_dX10_init_158.1 rfl ?_
  refine lv_iconst (v := 1) hx hb dk_dX10_init_158.2.1 (by decide) ?_
  refine lv_bipush (v := 105) hx hb dk_dX10_init_158.2.2.1 (by decide) ?_
  refine k_castU C0 hP hD hS (k_in 1 4 (by decide)) dk_dX10_init_158.2.2.2.1 (fun g7 H locs e7 hP hD hS => ?_)
  refine lv_dup hx hb dk_dX10_init_158.2.2.2.2.1 rfl ?_
  refine lv_iconst (v := 2) hx hb dk_dX10_init_158.2.2.2.2.2.1 (by decide) ?_
  refine lv_bipush (v := 110) hx hb dk_dX10_init_158.2.2.2.2.2.2.1 (by decide) ?_
  refine k_castU C0 hP hD hS (k_in 2 4 (by decide)) dk_dX10_init_158.2.2.2.2.2.2.2.1 (fun g11 H locs e11 hP hD hS => ?_)
  refine lv_dup hx hb dk_dX10_init_158_8.1 rfl ?_
  refine lv_iconst (v := 3) hx hb dk_dX10_init_158_8.2.1 (by decide) ?_
  refine lv_bipush (v := 100) hx hb dk_dX10_init_158_8.2.2.1 (by decide) ?_
  refine k_castU C0 hP hD hS (k_in 3 4 (by decide)) dk_dX10_init_158_8.2.2.2.1 (fun g15 H locs e15 hP hD hS => ?_)
  refine k_putF C0 hin fp_X10_33 hP hD hS 0 rfl rfl rfl (Nat.lt_of_lt_of_eq (by decide) hlen.symm) dk_dX10_init_158_8.2.2.2.2.1 (fun H locs hP hD hS => ?_)
  have hg : wa (lf_A g15) [107, 105, 110, 100] := by
    subst e15 e11 e7 e3
    unfold wa
    decide +kernel
  exact kk q g15 _ _ H locs hg rfl (by rw [List.length_set]; exact hlen) rfl hP hD hS
set_option maxHeartbeats 4000000 in
theorem mi_15 {p : Program} {l : Launch} {e : Env} {R : Room} {s : State} {m : MethodId} {args : Array Value} {below : List Frame} {meth : Method} {c : Code} {H : Heap} {locs : List Loc} {cells slots : Nat} {Q : State → Prop} {ls : Array Slot} {A : Nat → Prop} {H0 : Heap} {dC : Nat → ClassId} {dI : Nat → Nat → Nat} {cy : Nat → ClassId} {sq : Nat → Nat} {a0 : Nat} {fs : List Value} {Y : va_W} (C0 : k_cx p s m args c cX10_init 1 RX10 dC dI cy sq) (hin : meth.name = "<init>") (hA : ∀ q, H0.size ≤ q → A q) (hl : lv_has ls 1 [(0, .ref a0)]) (hlen : fs.length = 122) (hP : va_P (dC, dI) vwCl ((a0, .inr (10, fs)) :: Y) H) (hD : va_D A ((a0, .inr (10, fs)) :: Y)) (hS : va_S A H0 H locs) (h3 : cells + 1 ≤ R.cells) (h4 : slots + 4 ≤ R.slots) (kk : ∀ (q : Nat) (g : Nat → Int32) (fs1 : List Value) (Y1 : va_W) (H1 : Heap) (locs1 : List Loc), wa (lf_A g) [99, 97, 108, 109] → fs1 = fs.set 15 (.ref q) → fs1.length = 122 → Y1 = Y ++ [(q, .inl (cy 2, 4, .inl g))] → va_P (dC, dI) vwCl ((a0, .inr (10, fs1)) :: Y1) H1 → va_D A ((a0, .inr (10, fs1)) :: Y1) → va_S A H0 H1 locs1 → W p l e R s m args below meth c H1 locs1 (cells + 1) (slots + 4) Q (F0 m 203 ls [])) : W p l e R s m args below meth c H locs cells slots Q (F0 m 176 ls []) := by
  have hx := C0.1
  have hb := C0.2.1
  refine lv_aload_n hx hb dk_dX10_init_158_8.2.2.2.2.2.1 rfl (lv_at hl 0 rfl) ?_
  refine lv_iconst (v := 4) hx hb dk_dX10_init_158_8.2.2.2.2.2.2.1 (by decide) ?_
  refine k_newa C0 2 (ty := .char) rfl (atype := .char) rfl wd161 hP hD hS hA (a0 := (4, .inl (fun _ => 0))) (fun _ => rfl) (by decide) (by decide) (Nat.le_of_ble_eq_true rfl) (cells + 1) (slots + 4) (Nat.le_refl _) (Nat.le_refl _) h3 h4 dk_dX10_init_158_8.2.2.2.2.2.2.2.1 (fun q H hP hD hS => ?_)
  refine lv_dup hx hb dk_dX10_init_180.1 rfl ?_
  refine lv_iconst (v := 0) hx hb dk_dX10_init_180.2.1 (by decide) ?_
  refine lv_bipush (v := 99) hx hb dk_dX10_init_180.2.2.1 (by decide) ?_
  refine k_castU C0 hP hD hS (k_in 0 4 (by decide)) dk_dX10_init_180.2.2.2.1 (fun g3 H locs e3 hP hD hS => ?_)
  refine lv_dup hx hb dk_dX10_init_180.2.2.2.2.1 rfl ?_
  refine lv_iconst (v := 1) hx hb dk_dX10_init_180.2.2.2.2.2.1 (by decide) ?_
  refine lv_bipush (v := 97) hx hb dk_dX10_init_180.2.2.2.2.2.2.1 (by decide) ?_
  refine k_castU C0 hP hD hS (k_in 1 4 (by decide)) dk_dX10_init_180.2.2.2.2.2.2.2.1 (fun g7 H locs e7 hP hD hS => ?_)
  refine lv_dup hx hb dk_dX10_init_180_8.1 rfl ?_
  refine lv_iconst (v := 2) hx hb dk_dX10_init_180_8.2.1 (by decide) ?_
  refine lv_bipush (v := 108) hx hb dk_dX10_init_180_8.2.2.1 (by decide) ?_
  refine k_castU C0 hP hD hS (k_in 2 4 (by decide)) dk_dX10_init_180_8.2.2.2.1 (fun g11 H locs e11 hP hD hS => ?_)
  refine lv_dup hx hb dk_dX10_init_180_8.2.2.2.2.1 rfl ?_
  refine lv_iconst (v := 3) hx hb dk_dX10_init_180_8.2.2.2.2.2.1 (by decide) ?_
  refine lv_bipush (v := 109) hx hb dk_dX10_init_180_8.2.2.2.2.2.2.1 (by decide) ?_
  refine k_castU C0 hP hD hS (k_in 3 4 (by decide)) dk_dX10_init_180_8.2.2.2.2.2.2.2.1 (fun g15 H locs e15 hP hD hS => ?_)
  refine k_putF C0 hin fp_X10_36 hP hD hS 0 rfl rfl rfl (Nat.lt_of_lt_of_eq (by decide) hlen.symm) dk_dX10_init_200.1 (fun H locs hP hD hS => ?_)
  have hg : wa (lf_A g15) [99, 97, 108, 109] := by
    subst e15 e11 e7 e3
    unfold wa
    decide +kernel
  exact kk q g15 _ _ H locs hg rfl (by rw [List.length_set]; exact hlen) rfl hP hD hS
set_option maxHeartbeats 4000000 in
theorem mi_16 {p : Program} {l : Launch} {e : Env} {R : Room} {s : State} {m : MethodId} {args : Array Value} {below : List Frame} {meth : Method} {c : Code} {H : Heap} {locs : List Loc} {cells slots : Nat} {Q : State → Prop} {ls : Array Slot} {A : Nat → Prop} {H0 : Heap} {dC : Nat → ClassId} {dI : Nat → Nat → Nat} {cy : Nat → ClassId} {sq : Nat → Nat} {a0 : Nat} {fs : List Value} {Y : va_W} (C0 : k_cx p s m args c cX10_init 1 RX10 dC dI cy sq) (hin : meth.name = "<init>") (hA : ∀ q, H0.size ≤ q → A q) (hl : lv_has ls 1 [(0, .ref a0)]) (hlen : fs.length = 122) (hP : va_P (dC, dI) vwCl ((a0, .inr (10, fs)) :: Y) H) (hD : va_D A ((a0, .inr (10, fs)) :: Y)) (hS : va_S A H0 H locs) (h3 : cells + 1 ≤ R.cells) (h4 : slots + 4 ≤ R.slots) (kk : ∀ (q : Nat) (g : Nat → Int32) (fs1 : List Value) (Y1 : va_W) (H1 : Heap) (locs1 : List Loc), wa (lf_A g) [112, 97, 99, 101] → fs1 = fs.set 16 (.ref q) → fs1.length = 122 → Y1 = Y ++ [(q, .inl (cy 2, 4, .inl g))] → va_P (dC, dI) vwCl ((a0, .inr (10, fs1)) :: Y1) H1 → va_D A ((a0, .inr (10, fs1)) :: Y1) → va_S A H0 H1 locs1 → W p l e R s m args below meth c H1 locs1 (cells + 1) (slots + 4) Q (F0 m 230 ls [])) : W p l e R s m args below meth c H locs cells slots Q (F0 m 203 ls []) := by
  have hx := C0.1
  have hb := C0.2.1
  refine lv_aload_n hx hb dk_dX10_init_200.2.1 rfl (lv_at hl 0 rfl) ?_
  refine lv_iconst (v := 4) hx hb dk_dX10_init_200.2.2.1 (by decide) ?_
  refine k_newa C0 2 (ty := .char) rfl (atype := .char) rfl wd161 hP hD hS hA (a0 := (4, .inl (fun _ => 0))) (fun _ => rfl) (by decide) (by decide) (Nat.le_of_ble_eq_true rfl) (cells + 1) (slots + 4) (Nat.le_refl _) (Nat.le_refl _) h3 h4 dk_dX10_init_200.2.2.2.1 (fun q H hP hD hS => ?_)
  refine lv_dup hx hb dk_dX10_init_200.2.2.2.2.1 rfl ?_
  refine lv_iconst (v := 0) hx hb dk_dX10_init_200.2.2.2.2.2.1 (by decide) ?_
  refine lv_bipush (v := 112) hx hb dk_dX10_init_200.2.2.2.2.2.2.1 (by decide) ?_
  refine k_castU C0 hP hD hS (k_in 0 4 (by decide)) dk_dX10_init_200.2.2.2.2.2.2.2.1 (fun g3 H locs e3 hP hD hS => ?_)
  refine lv_dup hx hb dk_dX10_init_200_8.1 rfl ?_
  refine lv_iconst (v := 1) hx hb dk_dX10_init_200_8.2.1 (by decide) ?_
  refine lv_bipush (v := 97) hx hb dk_dX10_init_200_8.2.2.1 (by decide) ?_
  refine k_castU C0 hP hD hS (k_in 1 4 (by decide)) dk_dX10_init_200_8.2.2.2.1 (fun g7 H locs e7 hP hD hS => ?_)
  refine lv_dup hx hb dk_dX10_init_200_8.2.2.2.2.1 rfl ?_
  refine lv_iconst (v := 2) hx hb dk_dX10_init_200_8.2.2.2.2.2.1 (by decide) ?_
  refine lv_bipush (v := 99) hx hb dk_dX10_init_200_8.2.2.2.2.2.2.1 (by decide) ?_
  refine k_castU C0 hP hD hS (k_in 2 4 (by decide)) dk_dX10_init_200_8.2.2.2.2.2.2.2.1 (fun g11 H locs e11 hP hD hS => ?_)
  refine lv_dup hx hb dk_dX10_init_222.1 rfl ?_
  refine lv_iconst (v := 3) hx hb dk_dX10_init_222.2.1 (by decide) ?_
  refine lv_bipush (v := 101) hx hb dk_dX10_init_222.2.2.1 (by decide) ?_
  refine k_castU C0 hP hD hS (k_in 3 4 (by decide)) dk_dX10_init_222.2.2.2.1 (fun g15 H locs e15 hP hD hS => ?_)
  refine k_putF C0 hin fp_X10_39 hP hD hS 0 rfl rfl rfl (Nat.lt_of_lt_of_eq (by decide) hlen.symm) dk_dX10_init_222.2.2.2.2.1 (fun H locs hP hD hS => ?_)
  have hg : wa (lf_A g15) [112, 97, 99, 101] := by
    subst e15 e11 e7 e3
    unfold wa
    decide +kernel
  exact kk q g15 _ _ H locs hg rfl (by rw [List.length_set]; exact hlen) rfl hP hD hS
set_option maxHeartbeats 4000000 in
theorem mi_17 {p : Program} {l : Launch} {e : Env} {R : Room} {s : State} {m : MethodId} {args : Array Value} {below : List Frame} {meth : Method} {c : Code} {H : Heap} {locs : List Loc} {cells slots : Nat} {Q : State → Prop} {ls : Array Slot} {A : Nat → Prop} {H0 : Heap} {dC : Nat → ClassId} {dI : Nat → Nat → Nat} {cy : Nat → ClassId} {sq : Nat → Nat} {a0 : Nat} {fs : List Value} {Y : va_W} (C0 : k_cx p s m args c cX10_init 1 RX10 dC dI cy sq) (hin : meth.name = "<init>") (hA : ∀ q, H0.size ≤ q → A q) (hl : lv_has ls 1 [(0, .ref a0)]) (hlen : fs.length = 122) (hP : va_P (dC, dI) vwCl ((a0, .inr (10, fs)) :: Y) H) (hD : va_D A ((a0, .inr (10, fs)) :: Y)) (hS : va_S A H0 H locs) (h3 : cells + 1 ≤ R.cells) (h4 : slots + 6 ≤ R.slots) (kk : ∀ (q : Nat) (g : Nat → Int32) (fs1 : List Value) (Y1 : va_W) (H1 : Heap) (locs1 : List Loc), wa (lf_A g) [116, 114, 117, 115, 116, 115] → fs1 = fs.set 17 (.ref q) → fs1.length = 122 → Y1 = Y ++ [(q, .inl (cy 2, 6, .inl g))] → va_P (dC, dI) vwCl ((a0, .inr (10, fs1)) :: Y1) H1 → va_D A ((a0, .inr (10, fs1)) :: Y1) → va_S A H0 H1 locs1 → W p l e R s m args below meth c H1 locs1 (cells + 1) (slots + 6) Q (F0 m 268 ls [])) : W p l e R s m args below meth c H locs cells slots Q (F0 m 230 ls []) := by
  have hx := C0.1
  have hb := C0.2.1
  refine lv_aload_n hx hb dk_dX10_init_222.2.2.2.2.2.1 rfl (lv_at hl 0 rfl) ?_
  refine lv_bipush (v := 6) hx hb dk_dX10_init_222.2.2.2.2.2.2.1 (by decide) ?_
  refine k_newa C0 2 (ty := .char) rfl (atype := .char) rfl wd161 hP hD hS hA (a0 := (6, .inl (fun _ => 0))) (fun _ => rfl) (by decide) (by decide) (Nat.le_of_ble_eq_true rfl) (cells + 1) (slots + 6) (Nat.le_refl _) (Nat.le_refl _) h3 h4 dk_dX10_init_222.2.2.2.2.2.2.2.1 (fun q H hP hD hS => ?_)
  refine lv_dup hx hb dk_dX10_init_222_8.1 rfl ?_
  refine lv_iconst (v := 0) hx hb dk_dX10_init_222_8.2.1 (by decide) ?_
  refine lv_bipush (v := 116) hx hb dk_dX10_init_222_8.2.2.1 (by decide) ?_
  refine k_castU C0 hP hD hS (k_in 0 6 (by decide)) dk_dX10_init_222_8.2.2.2.1 (fun g3 H locs e3 hP hD hS => ?_)
  refine lv_dup hx hb dk_dX10_init_222_8.2.2.2.2.1 rfl ?_
  refine lv_iconst (v := 1) hx hb dk_dX10_init_222_8.2.2.2.2.2.1 (by decide) ?_
  refine lv_bipush (v := 114) hx hb dk_dX10_init_222_8.2.2.2.2.2.2.1 (by decide) ?_
  refine k_castU C0 hP hD hS (k_in 1 6 (by decide)) dk_dX10_init_222_8.2.2.2.2.2.2.2.1 (fun g7 H locs e7 hP hD hS => ?_)
  refine lv_dup hx hb dk_dX10_init_245.1 rfl ?_
  refine lv_iconst (v := 2) hx hb dk_dX10_init_245.2.1 (by decide) ?_
  refine lv_bipush (v := 117) hx hb dk_dX10_init_245.2.2.1 (by decide) ?_
  refine k_castU C0 hP hD hS (k_in 2 6 (by decide)) dk_dX10_init_245.2.2.2.1 (fun g11 H locs e11 hP hD hS => ?_)
  refine lv_dup hx hb dk_dX10_init_245.2.2.2.2.1 rfl ?_
  refine lv_iconst (v := 3) hx hb dk_dX10_init_245.2.2.2.2.2.1 (by decide) ?_
  refine lv_bipush (v := 115) hx hb dk_dX10_init_245.2.2.2.2.2.2.1 (by decide) ?_
  refine k_castU C0 hP hD hS (k_in 3 6 (by decide)) dk_dX10_init_245.2.2.2.2.2.2.2.1 (fun g15 H locs e15 hP hD hS => ?_)
  refine lv_dup hx hb dk_dX10_init_245_8.1 rfl ?_
  refine lv_iconst (v := 4) hx hb dk_dX10_init_245_8.2.1 (by decide) ?_
  refine lv_bipush (v := 116) hx hb dk_dX10_init_245_8.2.2.1 (by decide) ?_
  refine k_castU C0 hP hD hS (k_in 4 6 (by decide)) dk_dX10_init_245_8.2.2.2.1 (fun g19 H locs e19 hP hD hS => ?_)
  refine lv_dup hx hb dk_dX10_init_245_8.2.2.2.2.1 rfl ?_
  refine lv_iconst (v := 5) hx hb dk_dX10_init_245_8.2.2.2.2.2.1 (by decide) ?_
  refine lv_bipush (v := 115) hx hb dk_dX10_init_245_8.2.2.2.2.2.2.1 (by decide) ?_
  refine k_castU C0 hP hD hS (k_in 5 6 (by decide)) dk_dX10_init_245_8.2.2.2.2.2.2.2.1 (fun g23 H locs e23 hP hD hS => ?_)
  refine k_putF C0 hin fp_X10_42 hP hD hS 0 rfl rfl rfl (Nat.lt_of_lt_of_eq (by decide) hlen.symm) dk_dX10_init_265.1 (fun H locs hP hD hS => ?_)
  have hg : wa (lf_A g23) [116, 114, 117, 115, 116, 115] := by
    subst e23 e19 e15 e11 e7 e3
    unfold wa
    decide +kernel
  exact kk q g23 _ _ H locs hg rfl (by rw [List.length_set]; exact hlen) rfl hP hD hS
set_option maxHeartbeats 4000000 in
theorem mi_18 {p : Program} {l : Launch} {e : Env} {R : Room} {s : State} {m : MethodId} {args : Array Value} {below : List Frame} {meth : Method} {c : Code} {H : Heap} {locs : List Loc} {cells slots : Nat} {Q : State → Prop} {ls : Array Slot} {A : Nat → Prop} {H0 : Heap} {dC : Nat → ClassId} {dI : Nat → Nat → Nat} {cy : Nat → ClassId} {sq : Nat → Nat} {a0 : Nat} {fs : List Value} {Y : va_W} (C0 : k_cx p s m args c cX10_init 1 RX10 dC dI cy sq) (hin : meth.name = "<init>") (hA : ∀ q, H0.size ≤ q → A q) (hl : lv_has ls 1 [(0, .ref a0)]) (hlen : fs.length = 122) (hP : va_P (dC, dI) vwCl ((a0, .inr (10, fs)) :: Y) H) (hD : va_D A ((a0, .inr (10, fs)) :: Y)) (hS : va_S A H0 H locs) (h3 : cells + 1 ≤ R.cells) (h4 : slots + 5 ≤ R.slots) (kk : ∀ (q : Nat) (g : Nat → Int32) (fs1 : List Value) (Y1 : va_W) (H1 : Heap) (locs1 : List Loc), wa (lf_A g) [99, 111, 109, 101, 115] → fs1 = fs.set 18 (.ref q) → fs1.length = 122 → Y1 = Y ++ [(q, .inl (cy 2, 5, .inl g))] → va_P (dC, dI) vwCl ((a0, .inr (10, fs1)) :: Y1) H1 → va_D A ((a0, .inr (10, fs1)) :: Y1) → va_S A H0 H1 locs1 → W p l e R s m args below meth c H1 locs1 (cells + 1) (slots + 5) Q (F0 m 300 ls [])) : W p l e R s m args below meth c H locs cells slots Q (F0 m 268 ls []) := by
  have hx := C0.1
  have hb := C0.2.1
  refine lv_aload_n hx hb dk_dX10_init_265.2.1 rfl (lv_at hl 0 rfl) ?_
  refine lv_iconst (v := 5) hx hb dk_dX10_init_265.2.2.1 (by decide) ?_
  refine k_newa C0 2 (ty := .char) rfl (atype := .char) rfl wd161 hP hD hS hA (a0 := (5, .inl (fun _ => 0))) (fun _ => rfl) (by decide) (by decide) (Nat.le_of_ble_eq_true rfl) (cells + 1) (slots + 5) (Nat.le_refl _) (Nat.le_refl _) h3 h4 dk_dX10_init_265.2.2.2.1 (fun q H hP hD hS => ?_)
  refine lv_dup hx hb dk_dX10_init_265.2.2.2.2.1 rfl ?_
  refine lv_iconst (v := 0) hx hb dk_dX10_init_265.2.2.2.2.2.1 (by decide) ?_
  refine lv_bipush (v := 99) hx hb dk_dX10_init_265.2.2.2.2.2.2.1 (by decide) ?_
  refine k_castU C0 hP hD hS (k_in 0 5 (by decide)) dk_dX10_init_265.2.2.2.2.2.2.2.1 (fun g3 H locs e3 hP hD hS => ?_)
  refine lv_dup hx hb dk_dX10_init_265_8.1 rfl ?_
  refine lv_iconst (v := 1) hx hb dk_dX10_init_265_8.2.1 (by decide) ?_
  refine lv_bipush (v := 111) hx hb dk_dX10_init_265_8.2.2.1 (by decide) ?_
  refine k_castU C0 hP hD hS (k_in 1 5 (by decide)) dk_dX10_init_265_8.2.2.2.1 (fun g7 H locs e7 hP hD hS => ?_)
  refine lv_dup hx hb dk_dX10_init_265_8.2.2.2.2.1 rfl ?_
  refine lv_iconst (v := 2) hx hb dk_dX10_init_265_8.2.2.2.2.2.1 (by decide) ?_
  refine lv_bipush (v := 109) hx hb dk_dX10_init_265_8.2.2.2.2.2.2.1 (by decide) ?_
  refine k_castU C0 hP hD hS (k_in 2 5 (by decide)) dk_dX10_init_265_8.2.2.2.2.2.2.2.1 (fun g11 H locs e11 hP hD hS => ?_)
  refine lv_dup hx hb dk_dX10_init_287.1 rfl ?_
  refine lv_iconst (v := 3) hx hb dk_dX10_init_287.2.1 (by decide) ?_
  refine lv_bipush (v := 101) hx hb dk_dX10_init_287.2.2.1 (by decide) ?_
  refine k_castU C0 hP hD hS (k_in 3 5 (by decide)) dk_dX10_init_287.2.2.2.1 (fun g15 H locs e15 hP hD hS => ?_)
  refine lv_dup hx hb dk_dX10_init_287.2.2.2.2.1 rfl ?_
  refine lv_iconst (v := 4) hx hb dk_dX10_init_287.2.2.2.2.2.1 (by decide) ?_
  refine lv_bipush (v := 115) hx hb dk_dX10_init_287.2.2.2.2.2.2.1 (by decide) ?_
  refine k_castU C0 hP hD hS (k_in 4 5 (by decide)) dk_dX10_init_287.2.2.2.2.2.2.2.1 (fun g19 H locs e19 hP hD hS => ?_)
  refine k_putF C0 hin fp_X10_45 hP hD hS 0 rfl rfl rfl (Nat.lt_of_lt_of_eq (by decide) hlen.symm) dk_dX10_init_287_8.1 (fun H locs hP hD hS => ?_)
  have hg : wa (lf_A g19) [99, 111, 109, 101, 115] := by
    subst e19 e15 e11 e7 e3
    unfold wa
    decide +kernel
  exact kk q g19 _ _ H locs hg rfl (by rw [List.length_set]; exact hlen) rfl hP hD hS
set_option maxHeartbeats 4000000 in
theorem mi_19 {p : Program} {l : Launch} {e : Env} {R : Room} {s : State} {m : MethodId} {args : Array Value} {below : List Frame} {meth : Method} {c : Code} {H : Heap} {locs : List Loc} {cells slots : Nat} {Q : State → Prop} {ls : Array Slot} {A : Nat → Prop} {H0 : Heap} {dC : Nat → ClassId} {dI : Nat → Nat → Nat} {cy : Nat → ClassId} {sq : Nat → Nat} {a0 : Nat} {fs : List Value} {Y : va_W} (C0 : k_cx p s m args c cX10_init 1 RX10 dC dI cy sq) (hin : meth.name = "<init>") (hA : ∀ q, H0.size ≤ q → A q) (hl : lv_has ls 1 [(0, .ref a0)]) (hlen : fs.length = 122) (hP : va_P (dC, dI) vwCl ((a0, .inr (10, fs)) :: Y) H) (hD : va_D A ((a0, .inr (10, fs)) :: Y)) (hS : va_S A H0 H locs) (h3 : cells + 1 ≤ R.cells) (h4 : slots + 2 ≤ R.slots) (kk : ∀ (q : Nat) (g : Nat → Int32) (fs1 : List Value) (Y1 : va_W) (H1 : Heap) (locs1 : List Loc), wa (lf_A g) [105, 115] → fs1 = fs.set 19 (.ref q) → fs1.length = 122 → Y1 = Y ++ [(q, .inl (cy 2, 2, .inl g))] → va_P (dC, dI) vwCl ((a0, .inr (10, fs1)) :: Y1) H1 → va_D A ((a0, .inr (10, fs1)) :: Y1) → va_S A H0 H1 locs1 → W p l e R s m args below meth c H1 locs1 (cells + 1) (slots + 2) Q (F0 m 317 ls [])) : W p l e R s m args below meth c H locs cells slots Q (F0 m 300 ls []) := by
  have hx := C0.1
  have hb := C0.2.1
  refine lv_aload_n hx hb dk_dX10_init_287_8.2.1 rfl (lv_at hl 0 rfl) ?_
  refine lv_iconst (v := 2) hx hb dk_dX10_init_287_8.2.2.1 (by decide) ?_
  refine k_newa C0 2 (ty := .char) rfl (atype := .char) rfl wd161 hP hD hS hA (a0 := (2, .inl (fun _ => 0))) (fun _ => rfl) (by decide) (by decide) (Nat.le_of_ble_eq_true rfl) (cells + 1) (slots + 2) (Nat.le_refl _) (Nat.le_refl _) h3 h4 dk_dX10_init_287_8.2.2.2.1 (fun q H hP hD hS => ?_)
  refine lv_dup hx hb dk_dX10_init_287_8.2.2.2.2.1 rfl ?_
  refine lv_iconst (v := 0) hx hb dk_dX10_init_287_8.2.2.2.2.2.1 (by decide) ?_
  refine lv_bipush (v := 105) hx hb dk_dX10_init_287_8.2.2.2.2.2.2.1 (by decide) ?_
  refine k_castU C0 hP hD hS (k_in 0 2 (by decide)) dk_dX10_init_287_8.2.2.2.2.2.2.2.1 (fun g3 H locs e3 hP hD hS => ?_)
  refine lv_dup hx hb dk_dX10_init_309.1 rfl ?_
  refine lv_iconst (v := 1) hx hb dk_dX10_init_309.2.1 (by decide) ?_
  refine lv_bipush (v := 115) hx hb dk_dX10_init_309.2.2.1 (by decide) ?_
  refine k_castU C0 hP hD hS (k_in 1 2 (by decide)) dk_dX10_init_309.2.2.2.1 (fun g7 H locs e7 hP hD hS => ?_)
  refine k_putF C0 hin fp_X10_48 hP hD hS 0 rfl rfl rfl (Nat.lt_of_lt_of_eq (by decide) hlen.symm) dk_dX10_init_309.2.2.2.2.1 (fun H locs hP hD hS => ?_)
  have hg : wa (lf_A g7) [105, 115] := by
    subst e7 e3
    unfold wa
    decide +kernel
  exact kk q g7 _ _ H locs hg rfl (by rw [List.length_set]; exact hlen) rfl hP hD hS
set_option maxHeartbeats 4000000 in
theorem mi_20 {p : Program} {l : Launch} {e : Env} {R : Room} {s : State} {m : MethodId} {args : Array Value} {below : List Frame} {meth : Method} {c : Code} {H : Heap} {locs : List Loc} {cells slots : Nat} {Q : State → Prop} {ls : Array Slot} {A : Nat → Prop} {H0 : Heap} {dC : Nat → ClassId} {dI : Nat → Nat → Nat} {cy : Nat → ClassId} {sq : Nat → Nat} {a0 : Nat} {fs : List Value} {Y : va_W} (C0 : k_cx p s m args c cX10_init 1 RX10 dC dI cy sq) (hin : meth.name = "<init>") (hA : ∀ q, H0.size ≤ q → A q) (hl : lv_has ls 1 [(0, .ref a0)]) (hlen : fs.length = 122) (hP : va_P (dC, dI) vwCl ((a0, .inr (10, fs)) :: Y) H) (hD : va_D A ((a0, .inr (10, fs)) :: Y)) (hS : va_S A H0 H locs) (h3 : cells + 1 ≤ R.cells) (h4 : slots + 2 ≤ R.slots) (kk : ∀ (q : Nat) (g : Nat → Int32) (fs1 : List Value) (Y1 : va_W) (H1 : Heap) (locs1 : List Loc), wa (lf_A g) [97, 116] → fs1 = fs.set 20 (.ref q) → fs1.length = 122 → Y1 = Y ++ [(q, .inl (cy 2, 2, .inl g))] → va_P (dC, dI) vwCl ((a0, .inr (10, fs1)) :: Y1) H1 → va_D A ((a0, .inr (10, fs1)) :: Y1) → va_S A H0 H1 locs1 → W p l e R s m args below meth c H1 locs1 (cells + 1) (slots + 2) Q (F0 m 334 ls [])) : W p l e R s m args below meth c H locs cells slots Q (F0 m 317 ls []) := by
  have hx := C0.1
  have hb := C0.2.1
  refine lv_aload_n hx hb dk_dX10_init_309.2.2.2.2.2.1 rfl (lv_at hl 0 rfl) ?_
  refine lv_iconst (v := 2) hx hb dk_dX10_init_309.2.2.2.2.2.2.1 (by decide) ?_
  refine k_newa C0 2 (ty := .char) rfl (atype := .char) rfl wd161 hP hD hS hA (a0 := (2, .inl (fun _ => 0))) (fun _ => rfl) (by decide) (by decide) (Nat.le_of_ble_eq_true rfl) (cells + 1) (slots + 2) (Nat.le_refl _) (Nat.le_refl _) h3 h4 dk_dX10_init_309.2.2.2.2.2.2.2.1 (fun q H hP hD hS => ?_)
  refine lv_dup hx hb dk_dX10_init_309_8.1 rfl ?_
  refine lv_iconst (v := 0) hx hb dk_dX10_init_309_8.2.1 (by decide) ?_
  refine lv_bipush (v := 97) hx hb dk_dX10_init_309_8.2.2.1 (by decide) ?_
  refine k_castU C0 hP hD hS (k_in 0 2 (by decide)) dk_dX10_init_309_8.2.2.2.1 (fun g3 H locs e3 hP hD hS => ?_)
  refine lv_dup hx hb dk_dX10_init_309_8.2.2.2.2.1 rfl ?_
  refine lv_iconst (v := 1) hx hb dk_dX10_init_309_8.2.2.2.2.2.1 (by decide) ?_
  refine lv_bipush (v := 116) hx hb dk_dX10_init_309_8.2.2.2.2.2.2.1 (by decide) ?_
  refine k_castU C0 hP hD hS (k_in 1 2 (by decide)) dk_dX10_init_309_8.2.2.2.2.2.2.2.1 (fun g7 H locs e7 hP hD hS => ?_)
  refine k_putF C0 hin fp_X10_51 hP hD hS 0 rfl rfl rfl (Nat.lt_of_lt_of_eq (by decide) hlen.symm) dk_dX10_init_331.1 (fun H locs hP hD hS => ?_)
  have hg : wa (lf_A g7) [97, 116] := by
    subst e7 e3
    unfold wa
    decide +kernel
  exact kk q g7 _ _ H locs hg rfl (by rw [List.length_set]; exact hlen) rfl hP hD hS
set_option maxHeartbeats 4000000 in
theorem mi_21 {p : Program} {l : Launch} {e : Env} {R : Room} {s : State} {m : MethodId} {args : Array Value} {below : List Frame} {meth : Method} {c : Code} {H : Heap} {locs : List Loc} {cells slots : Nat} {Q : State → Prop} {ls : Array Slot} {A : Nat → Prop} {H0 : Heap} {dC : Nat → ClassId} {dI : Nat → Nat → Nat} {cy : Nat → ClassId} {sq : Nat → Nat} {a0 : Nat} {fs : List Value} {Y : va_W} (C0 : k_cx p s m args c cX10_init 1 RX10 dC dI cy sq) (hin : meth.name = "<init>") (hA : ∀ q, H0.size ≤ q → A q) (hl : lv_has ls 1 [(0, .ref a0)]) (hlen : fs.length = 122) (hP : va_P (dC, dI) vwCl ((a0, .inr (10, fs)) :: Y) H) (hD : va_D A ((a0, .inr (10, fs)) :: Y)) (hS : va_S A H0 H locs) (h3 : cells + 1 ≤ R.cells) (h4 : slots + 3 ≤ R.slots) (kk : ∀ (q : Nat) (g : Nat → Int32) (fs1 : List Value) (Y1 : va_W) (H1 : Heap) (locs1 : List Loc), wa (lf_A g) [99, 97, 114] → fs1 = fs.set 21 (.ref q) → fs1.length = 122 → Y1 = Y ++ [(q, .inl (cy 2, 3, .inl g))] → va_P (dC, dI) vwCl ((a0, .inr (10, fs1)) :: Y1) H1 → va_D A ((a0, .inr (10, fs1)) :: Y1) → va_S A H0 H1 locs1 → W p l e R s m args below meth c H1 locs1 (cells + 1) (slots + 3) Q (F0 m 356 ls [])) : W p l e R s m args below meth c H locs cells slots Q (F0 m 334 ls []) := by
  have hx := C0.1
  have hb := C0.2.1
  refine lv_aload_n hx hb dk_dX10_init_331.2.1 rfl (lv_at hl 0 rfl) ?_
  refine lv_iconst (v := 3) hx hb dk_dX10_init_331.2.2.1 (by decide) ?_
  refine k_newa C0 2 (ty := .char) rfl (atype := .char) rfl wd161 hP hD hS hA (a0 := (3, .inl (fun _ => 0))) (fun _ => rfl) (by decide) (by decide) (Nat.le_of_ble_eq_true rfl) (cells + 1) (slots + 3) (Nat.le_refl _) (Nat.le_refl _) h3 h4 dk_dX10_init_331.2.2.2.1 (fun q H hP hD hS => ?_)
  refine lv_dup hx hb dk_dX10_init_331.2.2.2.2.1 rfl ?_
  refine lv_iconst (v := 0) hx hb dk_dX10_init_331.2.2.2.2.2.1 (by decide) ?_
  refine lv_bipush (v := 99) hx hb dk_dX10_init_331.2.2.2.2.2.2.1 (by decide) ?_
  refine k_castU C0 hP hD hS (k_in 0 3 (by decide)) dk_dX10_init_331.2.2.2.2.2.2.2.1 (fun g3 H locs e3 hP hD hS => ?_)
  refine lv_dup hx hb dk_dX10_init_331_8.1 rfl ?_
  refine lv_iconst (v := 1) hx hb dk_dX10_init_331_8.2.1 (by decide) ?_
  refine lv_bipush (v := 97) hx hb dk_dX10_init_331_8.2.2.1 (by decide) ?_
  refine k_castU C0 hP hD hS (k_in 1 3 (by decide)) dk_dX10_init_331_8.2.2.2.1 (fun g7 H locs e7 hP hD hS => ?_)
  refine lv_dup hx hb dk_dX10_init_331_8.2.2.2.2.1 rfl ?_
  refine lv_iconst (v := 2) hx hb dk_dX10_init_331_8.2.2.2.2.2.1 (by decide) ?_
  refine lv_bipush (v := 114) hx hb dk_dX10_init_350.1 (by decide) ?_
  refine k_castU C0 hP hD hS (k_in 2 3 (by decide)) dk_dX10_init_350.2.1 (fun g11 H locs e11 hP hD hS => ?_)
  refine k_putF C0 hin fp_X10_54 hP hD hS 0 rfl rfl rfl (Nat.lt_of_lt_of_eq (by decide) hlen.symm) dk_dX10_init_350.2.2.1 (fun H locs hP hD hS => ?_)
  have hg : wa (lf_A g11) [99, 97, 114] := by
    subst e11 e7 e3
    unfold wa
    decide +kernel
  exact kk q g11 _ _ H locs hg rfl (by rw [List.length_set]; exact hlen) rfl hP hD hS
set_option maxHeartbeats 4000000 in
theorem mi_22 {p : Program} {l : Launch} {e : Env} {R : Room} {s : State} {m : MethodId} {args : Array Value} {below : List Frame} {meth : Method} {c : Code} {H : Heap} {locs : List Loc} {cells slots : Nat} {Q : State → Prop} {ls : Array Slot} {A : Nat → Prop} {H0 : Heap} {dC : Nat → ClassId} {dI : Nat → Nat → Nat} {cy : Nat → ClassId} {sq : Nat → Nat} {a0 : Nat} {fs : List Value} {Y : va_W} (C0 : k_cx p s m args c cX10_init 1 RX10 dC dI cy sq) (hin : meth.name = "<init>") (hA : ∀ q, H0.size ≤ q → A q) (hl : lv_has ls 1 [(0, .ref a0)]) (hlen : fs.length = 122) (hP : va_P (dC, dI) vwCl ((a0, .inr (10, fs)) :: Y) H) (hD : va_D A ((a0, .inr (10, fs)) :: Y)) (hS : va_S A H0 H locs) (h3 : cells + 1 ≤ R.cells) (h4 : slots + 3 ≤ R.slots) (kk : ∀ (q : Nat) (g : Nat → Int32) (fs1 : List Value) (Y1 : va_W) (H1 : Heap) (locs1 : List Loc), wa (lf_A g) [114, 101, 100] → fs1 = fs.set 22 (.ref q) → fs1.length = 122 → Y1 = Y ++ [(q, .inl (cy 2, 3, .inl g))] → va_P (dC, dI) vwCl ((a0, .inr (10, fs1)) :: Y1) H1 → va_D A ((a0, .inr (10, fs1)) :: Y1) → va_S A H0 H1 locs1 → W p l e R s m args below meth c H1 locs1 (cells + 1) (slots + 3) Q (F0 m 378 ls [])) : W p l e R s m args below meth c H locs cells slots Q (F0 m 356 ls []) := by
  have hx := C0.1
  have hb := C0.2.1
  refine lv_aload_n hx hb dk_dX10_init_350.2.2.2.1 rfl (lv_at hl 0 rfl) ?_
  refine lv_iconst (v := 3) hx hb dk_dX10_init_350.2.2.2.2.1 (by decide) ?_
  refine k_newa C0 2 (ty := .char) rfl (atype := .char) rfl wd161 hP hD hS hA (a0 := (3, .inl (fun _ => 0))) (fun _ => rfl) (by decide) (by decide) (Nat.le_of_ble_eq_true rfl) (cells + 1) (slots + 3) (Nat.le_refl _) (Nat.le_refl _) h3 h4 dk_dX10_init_350.2.2.2.2.2.1 (fun q H hP hD hS => ?_)
  refine lv_dup hx hb dk_dX10_init_350.2.2.2.2.2.2.1 rfl ?_
  refine lv_iconst (v := 0) hx hb dk_dX10_init_350.2.2.2.2.2.2.2.1 (by decide) ?_
  refine lv_bipush (v := 114) hx hb dk_dX10_init_350_8.1 (by decide) ?_
  refine k_castU C0 hP hD hS (k_in 0 3 (by decide)) dk_dX10_init_350_8.2.1 (fun g3 H locs e3 hP hD hS => ?_)
  refine lv_dup hx hb dk_dX10_init_350_8.2.2.1 rfl ?_
  refine lv_iconst (v := 1) hx hb dk_dX10_init_350_8.2.2.2.1 (by decide) ?_
  refine lv_bipush (v := 101) hx hb dk_dX10_init_350_8.2.2.2.2.1 (by decide) ?_
  refine k_castU C0 hP hD hS (k_in 1 3 (by decide)) dk_dX10_init_350_8.2.2.2.2.2.1 (fun g7 H locs e7 hP hD hS => ?_)
  refine lv_dup hx hb dk_dX10_init_350_8.2.2.2.2.2.2.1 rfl ?_
  refine lv_iconst (v := 2) hx hb dk_dX10_init_350_8.2.2.2.2.2.2.2.1 (by decide) ?_
  refine lv_bipush (v := 100) hx hb dk_dX10_init_372.1 (by decide) ?_
  refine k_castU C0 hP hD hS (k_in 2 3 (by decide)) dk_dX10_init_372.2.1 (fun g11 H locs e11 hP hD hS => ?_)
  refine k_putF C0 hin fp_X10_57 hP hD hS 0 rfl rfl rfl (Nat.lt_of_lt_of_eq (by decide) hlen.symm) dk_dX10_init_372.2.2.1 (fun H locs hP hD hS => ?_)
  have hg : wa (lf_A g11) [114, 101, 100] := by
    subst e11 e7 e3
    unfold wa
    decide +kernel
  exact kk q g11 _ _ H locs hg rfl (by rw [List.length_set]; exact hlen) rfl hP hD hS
set_option maxHeartbeats 4000000 in
theorem mi_23 {p : Program} {l : Launch} {e : Env} {R : Room} {s : State} {m : MethodId} {args : Array Value} {below : List Frame} {meth : Method} {c : Code} {H : Heap} {locs : List Loc} {cells slots : Nat} {Q : State → Prop} {ls : Array Slot} {A : Nat → Prop} {H0 : Heap} {dC : Nat → ClassId} {dI : Nat → Nat → Nat} {cy : Nat → ClassId} {sq : Nat → Nat} {a0 : Nat} {fs : List Value} {Y : va_W} (C0 : k_cx p s m args c cX10_init 1 RX10 dC dI cy sq) (hin : meth.name = "<init>") (hA : ∀ q, H0.size ≤ q → A q) (hl : lv_has ls 1 [(0, .ref a0)]) (hlen : fs.length = 122) (hP : va_P (dC, dI) vwCl ((a0, .inr (10, fs)) :: Y) H) (hD : va_D A ((a0, .inr (10, fs)) :: Y)) (hS : va_S A H0 H locs) (h3 : cells + 1 ≤ R.cells) (h4 : slots + 6 ≤ R.slots) (kk : ∀ (q : Nat) (g : Nat → Int32) (fs1 : List Value) (Y1 : va_W) (H1 : Heap) (locs1 : List Loc), wa (lf_A g) [108, 101, 97, 114, 110, 115] → fs1 = fs.set 23 (.ref q) → fs1.length = 122 → Y1 = Y ++ [(q, .inl (cy 2, 6, .inl g))] → va_P (dC, dI) vwCl ((a0, .inr (10, fs1)) :: Y1) H1 → va_D A ((a0, .inr (10, fs1)) :: Y1) → va_S A H0 H1 locs1 → W p l e R s m args below meth c H1 locs1 (cells + 1) (slots + 6) Q (F0 m 416 ls [])) : W p l e R s m args below meth c H locs cells slots Q (F0 m 378 ls []) := by
  have hx := C0.1
  have hb := C0.2.1
  refine lv_aload_n hx hb dk_dX10_init_372.2.2.2.1 rfl (lv_at hl 0 rfl) ?_
  refine lv_bipush (v := 6) hx hb dk_dX10_init_372.2.2.2.2.1 (by decide) ?_
  refine k_newa C0 2 (ty := .char) rfl (atype := .char) rfl wd161 hP hD hS hA (a0 := (6, .inl (fun _ => 0))) (fun _ => rfl) (by decide) (by decide) (Nat.le_of_ble_eq_true rfl) (cells + 1) (slots + 6) (Nat.le_refl _) (Nat.le_refl _) h3 h4 dk_dX10_init_372.2.2.2.2.2.1 (fun q H hP hD hS => ?_)
  refine lv_dup hx hb dk_dX10_init_372.2.2.2.2.2.2.1 rfl ?_
  refine lv_iconst (v := 0) hx hb dk_dX10_init_372.2.2.2.2.2.2.2.1 (by decide) ?_
  refine lv_bipush (v := 108) hx hb dk_dX10_init_372_8.1 (by decide) ?_
  refine k_castU C0 hP hD hS (k_in 0 6 (by decide)) dk_dX10_init_372_8.2.1 (fun g3 H locs e3 hP hD hS => ?_)
  refine lv_dup hx hb dk_dX10_init_372_8.2.2.1 rfl ?_
  refine lv_iconst (v := 1) hx hb dk_dX10_init_372_8.2.2.2.1 (by decide) ?_
  refine lv_bipush (v := 101) hx hb dk_dX10_init_372_8.2.2.2.2.1 (by decide) ?_
  refine k_castU C0 hP hD hS (k_in 1 6 (by decide)) dk_dX10_init_372_8.2.2.2.2.2.1 (fun g7 H locs e7 hP hD hS => ?_)
  refine lv_dup hx hb dk_dX10_init_372_8.2.2.2.2.2.2.1 rfl ?_
  refine lv_iconst (v := 2) hx hb dk_dX10_init_372_8.2.2.2.2.2.2.2.1 (by decide) ?_
  refine lv_bipush (v := 97) hx hb dk_dX10_init_395.1 (by decide) ?_
  refine k_castU C0 hP hD hS (k_in 2 6 (by decide)) dk_dX10_init_395.2.1 (fun g11 H locs e11 hP hD hS => ?_)
  refine lv_dup hx hb dk_dX10_init_395.2.2.1 rfl ?_
  refine lv_iconst (v := 3) hx hb dk_dX10_init_395.2.2.2.1 (by decide) ?_
  refine lv_bipush (v := 114) hx hb dk_dX10_init_395.2.2.2.2.1 (by decide) ?_
  refine k_castU C0 hP hD hS (k_in 3 6 (by decide)) dk_dX10_init_395.2.2.2.2.2.1 (fun g15 H locs e15 hP hD hS => ?_)
  refine lv_dup hx hb dk_dX10_init_395.2.2.2.2.2.2.1 rfl ?_
  refine lv_iconst (v := 4) hx hb dk_dX10_init_395.2.2.2.2.2.2.2.1 (by decide) ?_
  refine lv_bipush (v := 110) hx hb dk_dX10_init_395_8.1 (by decide) ?_
  refine k_castU C0 hP hD hS (k_in 4 6 (by decide)) dk_dX10_init_395_8.2.1 (fun g19 H locs e19 hP hD hS => ?_)
  refine lv_dup hx hb dk_dX10_init_395_8.2.2.1 rfl ?_
  refine lv_iconst (v := 5) hx hb dk_dX10_init_395_8.2.2.2.1 (by decide) ?_
  refine lv_bipush (v := 115) hx hb dk_dX10_init_395_8.2.2.2.2.1 (by decide) ?_
  refine k_castU C0 hP hD hS (k_in 5 6 (by decide)) dk_dX10_init_395_8.2.2.2.2.2.1 (fun g23 H locs e23 hP hD hS => ?_)
  refine k_putF C0 hin fp_X10_60 hP hD hS 0 rfl rfl rfl (Nat.lt_of_lt_of_eq (by decide) hlen.symm) dk_dX10_init_395_8.2.2.2.2.2.2.1 (fun H locs hP hD hS => ?_)
  have hg : wa (lf_A g23) [108, 101, 97, 114, 110, 115] := by
    subst e23 e19 e15 e11 e7 e3
    unfold wa
    decide +kernel
  exact kk q g23 _ _ H locs hg rfl (by rw [List.length_set]; exact hlen) rfl hP hD hS
set_option maxHeartbeats 4000000 in
theorem mi_24 {p : Program} {l : Launch} {e : Env} {R : Room} {s : State} {m : MethodId} {args : Array Value} {below : List Frame} {meth : Method} {c : Code} {H : Heap} {locs : List Loc} {cells slots : Nat} {Q : State → Prop} {ls : Array Slot} {A : Nat → Prop} {H0 : Heap} {dC : Nat → ClassId} {dI : Nat → Nat → Nat} {cy : Nat → ClassId} {sq : Nat → Nat} {a0 : Nat} {fs : List Value} {Y : va_W} (C0 : k_cx p s m args c cX10_init 1 RX10 dC dI cy sq) (hin : meth.name = "<init>") (hA : ∀ q, H0.size ≤ q → A q) (hl : lv_has ls 1 [(0, .ref a0)]) (hlen : fs.length = 122) (hP : va_P (dC, dI) vwCl ((a0, .inr (10, fs)) :: Y) H) (hD : va_D A ((a0, .inr (10, fs)) :: Y)) (hS : va_S A H0 H locs) (h3 : cells + 1 ≤ R.cells) (h4 : slots + 4 ≤ R.slots) (kk : ∀ (q : Nat) (g : Nat → Int32) (fs1 : List Value) (Y1 : va_W) (H1 : Heap) (locs1 : List Loc), wa (lf_A g) [97, 119, 97, 121] → fs1 = fs.set 24 (.ref q) → fs1.length = 122 → Y1 = Y ++ [(q, .inl (cy 2, 4, .inl g))] → va_P (dC, dI) vwCl ((a0, .inr (10, fs1)) :: Y1) H1 → va_D A ((a0, .inr (10, fs1)) :: Y1) → va_S A H0 H1 locs1 → W p l e R s m args below meth c H1 locs1 (cells + 1) (slots + 4) Q (F0 m 443 ls [])) : W p l e R s m args below meth c H locs cells slots Q (F0 m 416 ls []) := by
  have hx := C0.1
  have hb := C0.2.1
  refine lv_aload_n hx hb dk_dX10_init_395_8.2.2.2.2.2.2.2.1 rfl (lv_at hl 0 rfl) ?_
  refine lv_iconst (v := 4) hx hb dk_dX10_init_417.1 (by decide) ?_
  refine k_newa C0 2 (ty := .char) rfl (atype := .char) rfl wd161 hP hD hS hA (a0 := (4, .inl (fun _ => 0))) (fun _ => rfl) (by decide) (by decide) (Nat.le_of_ble_eq_true rfl) (cells + 1) (slots + 4) (Nat.le_refl _) (Nat.le_refl _) h3 h4 dk_dX10_init_417.2.1 (fun q H hP hD hS => ?_)
  refine lv_dup hx hb dk_dX10_init_417.2.2.1 rfl ?_
  refine lv_iconst (v := 0) hx hb dk_dX10_init_417.2.2.2.1 (by decide) ?_
  refine lv_bipush (v := 97) hx hb dk_dX10_init_417.2.2.2.2.1 (by decide) ?_
  refine k_castU C0 hP hD hS (k_in 0 4 (by decide)) dk_dX10_init_417.2.2.2.2.2.1 (fun g3 H locs e3 hP hD hS => ?_)
  refine lv_dup hx hb dk_dX10_init_417.2.2.2.2.2.2.1 rfl ?_
  refine lv_iconst (v := 1) hx hb dk_dX10_init_417.2.2.2.2.2.2.2.1 (by decide) ?_
  refine lv_bipush (v := 119) hx hb dk_dX10_init_417_8.1 (by decide) ?_
  refine k_castU C0 hP hD hS (k_in 1 4 (by decide)) dk_dX10_init_417_8.2.1 (fun g7 H locs e7 hP hD hS => ?_)
  refine lv_dup hx hb dk_dX10_init_417_8.2.2.1 rfl ?_
  refine lv_iconst (v := 2) hx hb dk_dX10_init_417_8.2.2.2.1 (by decide) ?_
  refine lv_bipush (v := 97) hx hb dk_dX10_init_417_8.2.2.2.2.1 (by decide) ?_
  refine k_castU C0 hP hD hS (k_in 2 4 (by decide)) dk_dX10_init_417_8.2.2.2.2.2.1 (fun g11 H locs e11 hP hD hS => ?_)
  refine lv_dup hx hb dk_dX10_init_417_8.2.2.2.2.2.2.1 rfl ?_
  refine lv_iconst (v := 3) hx hb dk_dX10_init_417_8.2.2.2.2.2.2.2.1 (by decide) ?_
  refine lv_bipush (v := 121) hx hb dk_dX10_init_437.1 (by decide) ?_
  refine k_castU C0 hP hD hS (k_in 3 4 (by decide)) dk_dX10_init_437.2.1 (fun g15 H locs e15 hP hD hS => ?_)
  refine k_putF C0 hin fp_X10_63 hP hD hS 0 rfl rfl rfl (Nat.lt_of_lt_of_eq (by decide) hlen.symm) dk_dX10_init_437.2.2.1 (fun H locs hP hD hS => ?_)
  have hg : wa (lf_A g15) [97, 119, 97, 121] := by
    subst e15 e11 e7 e3
    unfold wa
    decide +kernel
  exact kk q g15 _ _ H locs hg rfl (by rw [List.length_set]; exact hlen) rfl hP hD hS
set_option maxHeartbeats 4000000 in
theorem mi_25 {p : Program} {l : Launch} {e : Env} {R : Room} {s : State} {m : MethodId} {args : Array Value} {below : List Frame} {meth : Method} {c : Code} {H : Heap} {locs : List Loc} {cells slots : Nat} {Q : State → Prop} {ls : Array Slot} {A : Nat → Prop} {H0 : Heap} {dC : Nat → ClassId} {dI : Nat → Nat → Nat} {cy : Nat → ClassId} {sq : Nat → Nat} {a0 : Nat} {fs : List Value} {Y : va_W} (C0 : k_cx p s m args c cX10_init 1 RX10 dC dI cy sq) (hin : meth.name = "<init>") (hA : ∀ q, H0.size ≤ q → A q) (hl : lv_has ls 1 [(0, .ref a0)]) (hlen : fs.length = 122) (hP : va_P (dC, dI) vwCl ((a0, .inr (10, fs)) :: Y) H) (hD : va_D A ((a0, .inr (10, fs)) :: Y)) (hS : va_S A H0 H locs) (h3 : cells + 1 ≤ R.cells) (h4 : slots + 6 ≤ R.slots) (kk : ∀ (q : Nat) (g : Nat → Int32) (fs1 : List Value) (Y1 : va_W) (H1 : Heap) (locs1 : List Loc), wa (lf_A g) [115, 101, 99, 111, 110, 100] → fs1 = fs.set 25 (.ref q) → fs1.length = 122 → Y1 = Y ++ [(q, .inl (cy 2, 6, .inl g))] → va_P (dC, dI) vwCl ((a0, .inr (10, fs1)) :: Y1) H1 → va_D A ((a0, .inr (10, fs1)) :: Y1) → va_S A H0 H1 locs1 → W p l e R s m args below meth c H1 locs1 (cells + 1) (slots + 6) Q (F0 m 481 ls [])) : W p l e R s m args below meth c H locs cells slots Q (F0 m 443 ls []) := by
  have hx := C0.1
  have hb := C0.2.1
  refine lv_aload_n hx hb dk_dX10_init_437.2.2.2.1 rfl (lv_at hl 0 rfl) ?_
  refine lv_bipush (v := 6) hx hb dk_dX10_init_437.2.2.2.2.1 (by decide) ?_
  refine k_newa C0 2 (ty := .char) rfl (atype := .char) rfl wd161 hP hD hS hA (a0 := (6, .inl (fun _ => 0))) (fun _ => rfl) (by decide) (by decide) (Nat.le_of_ble_eq_true rfl) (cells + 1) (slots + 6) (Nat.le_refl _) (Nat.le_refl _) h3 h4 dk_dX10_init_437.2.2.2.2.2.1 (fun q H hP hD hS => ?_)
  refine lv_dup hx hb dk_dX10_init_437.2.2.2.2.2.2.1 rfl ?_
  refine lv_iconst (v := 0) hx hb dk_dX10_init_437.2.2.2.2.2.2.2.1 (by decide) ?_
  refine lv_bipush (v := 115) hx hb dk_dX10_init_437_8.1 (by decide) ?_
  refine k_castU C0 hP hD hS (k_in 0 6 (by decide)) dk_dX10_init_437_8.2.1 (fun g3 H locs e3 hP hD hS => ?_)
  refine lv_dup hx hb dk_dX10_init_437_8.2.2.1 rfl ?_
  refine lv_iconst (v := 1) hx hb dk_dX10_init_437_8.2.2.2.1 (by decide) ?_
  refine lv_bipush (v := 101) hx hb dk_dX10_init_437_8.2.2.2.2.1 (by decide) ?_
  refine k_castU C0 hP hD hS (k_in 1 6 (by decide)) dk_dX10_init_437_8.2.2.2.2.2.1 (fun g7 H locs e7 hP hD hS => ?_)
  refine lv_dup hx hb dk_dX10_init_437_8.2.2.2.2.2.2.1 rfl ?_
  refine lv_iconst (v := 2) hx hb dk_dX10_init_437_8.2.2.2.2.2.2.2.1 (by decide) ?_
  refine lv_bipush (v := 99) hx hb dk_dX10_init_460.1 (by decide) ?_
  refine k_castU C0 hP hD hS (k_in 2 6 (by decide)) dk_dX10_init_460.2.1 (fun g11 H locs e11 hP hD hS => ?_)
  refine lv_dup hx hb dk_dX10_init_460.2.2.1 rfl ?_
  refine lv_iconst (v := 3) hx hb dk_dX10_init_460.2.2.2.1 (by decide) ?_
  refine lv_bipush (v := 111) hx hb dk_dX10_init_460.2.2.2.2.1 (by decide) ?_
  refine k_castU C0 hP hD hS (k_in 3 6 (by decide)) dk_dX10_init_460.2.2.2.2.2.1 (fun g15 H locs e15 hP hD hS => ?_)
  refine lv_dup hx hb dk_dX10_init_460.2.2.2.2.2.2.1 rfl ?_
  refine lv_iconst (v := 4) hx hb dk_dX10_init_460.2.2.2.2.2.2.2.1 (by decide) ?_
  refine lv_bipush (v := 110) hx hb dk_dX10_init_460_8.1 (by decide) ?_
  refine k_castU C0 hP hD hS (k_in 4 6 (by decide)) dk_dX10_init_460_8.2.1 (fun g19 H locs e19 hP hD hS => ?_)
  refine lv_dup hx hb dk_dX10_init_460_8.2.2.1 rfl ?_
  refine lv_iconst (v := 5) hx hb dk_dX10_init_460_8.2.2.2.1 (by decide) ?_
  refine lv_bipush (v := 100) hx hb dk_dX10_init_460_8.2.2.2.2.1 (by decide) ?_
  refine k_castU C0 hP hD hS (k_in 5 6 (by decide)) dk_dX10_init_460_8.2.2.2.2.2.1 (fun g23 H locs e23 hP hD hS => ?_)
  refine k_putF C0 hin fp_X10_66 hP hD hS 0 rfl rfl rfl (Nat.lt_of_lt_of_eq (by decide) hlen.symm) dk_dX10_init_460_8.2.2.2.2.2.2.1 (fun H locs hP hD hS => ?_)
  have hg : wa (lf_A g23) [115, 101, 99, 111, 110, 100] := by
    subst e23 e19 e15 e11 e7 e3
    unfold wa
    decide +kernel
  exact kk q g23 _ _ H locs hg rfl (by rw [List.length_set]; exact hlen) rfl hP hD hS
set_option maxHeartbeats 4000000 in
theorem mi_26 {p : Program} {l : Launch} {e : Env} {R : Room} {s : State} {m : MethodId} {args : Array Value} {below : List Frame} {meth : Method} {c : Code} {H : Heap} {locs : List Loc} {cells slots : Nat} {Q : State → Prop} {ls : Array Slot} {A : Nat → Prop} {H0 : Heap} {dC : Nat → ClassId} {dI : Nat → Nat → Nat} {cy : Nat → ClassId} {sq : Nat → Nat} {a0 : Nat} {fs : List Value} {Y : va_W} (C0 : k_cx p s m args c cX10_init 1 RX10 dC dI cy sq) (hin : meth.name = "<init>") (hA : ∀ q, H0.size ≤ q → A q) (hl : lv_has ls 1 [(0, .ref a0)]) (hlen : fs.length = 122) (hP : va_P (dC, dI) vwCl ((a0, .inr (10, fs)) :: Y) H) (hD : va_D A ((a0, .inr (10, fs)) :: Y)) (hS : va_S A H0 H locs) (h3 : cells + 1 ≤ R.cells) (h4 : slots + 3 ≤ R.slots) (kk : ∀ (q : Nat) (g : Nat → Int32) (fs1 : List Value) (Y1 : va_W) (H1 : Heap) (locs1 : List Loc), wa (lf_A g) [100, 97, 121] → fs1 = fs.set 26 (.ref q) → fs1.length = 122 → Y1 = Y ++ [(q, .inl (cy 2, 3, .inl g))] → va_P (dC, dI) vwCl ((a0, .inr (10, fs1)) :: Y1) H1 → va_D A ((a0, .inr (10, fs1)) :: Y1) → va_S A H0 H1 locs1 → W p l e R s m args below meth c H1 locs1 (cells + 1) (slots + 3) Q (F0 m 503 ls [])) : W p l e R s m args below meth c H locs cells slots Q (F0 m 481 ls []) := by
  have hx := C0.1
  have hb := C0.2.1
  refine lv_aload_n hx hb dk_dX10_init_460_8.2.2.2.2.2.2.2.1 rfl (lv_at hl 0 rfl) ?_
  refine lv_iconst (v := 3) hx hb dk_dX10_init_482.1 (by decide) ?_
  refine k_newa C0 2 (ty := .char) rfl (atype := .char) rfl wd161 hP hD hS hA (a0 := (3, .inl (fun _ => 0))) (fun _ => rfl) (by decide) (by decide) (Nat.le_of_ble_eq_true rfl) (cells + 1) (slots + 3) (Nat.le_refl _) (Nat.le_refl _) h3 h4 dk_dX10_init_482.2.1 (fun q H hP hD hS => ?_)
  refine lv_dup hx hb dk_dX10_init_482.2.2.1 rfl ?_
  refine lv_iconst (v := 0) hx hb dk_dX10_init_482.2.2.2.1 (by decide) ?_
  refine lv_bipush (v := 100) hx hb dk_dX10_init_482.2.2.2.2.1 (by decide) ?_
  refine k_castU C0 hP hD hS (k_in 0 3 (by decide)) dk_dX10_init_482.2.2.2.2.2.1 (fun g3 H locs e3 hP hD hS => ?_)
  refine lv_dup hx hb dk_dX10_init_482.2.2.2.2.2.2.1 rfl ?_
  refine lv_iconst (v := 1) hx hb dk_dX10_init_482.2.2.2.2.2.2.2.1 (by decide) ?_
  refine lv_bipush (v := 97) hx hb dk_dX10_init_482_8.1 (by decide) ?_
  refine k_castU C0 hP hD hS (k_in 1 3 (by decide)) dk_dX10_init_482_8.2.1 (fun g7 H locs e7 hP hD hS => ?_)
  refine lv_dup hx hb dk_dX10_init_482_8.2.2.1 rfl ?_
  refine lv_iconst (v := 2) hx hb dk_dX10_init_482_8.2.2.2.1 (by decide) ?_
  refine lv_bipush (v := 121) hx hb dk_dX10_init_482_8.2.2.2.2.1 (by decide) ?_
  refine k_castU C0 hP hD hS (k_in 2 3 (by decide)) dk_dX10_init_482_8.2.2.2.2.2.1 (fun g11 H locs e11 hP hD hS => ?_)
  refine k_putF C0 hin fp_X10_69 hP hD hS 0 rfl rfl rfl (Nat.lt_of_lt_of_eq (by decide) hlen.symm) dk_dX10_init_482_8.2.2.2.2.2.2.1 (fun H locs hP hD hS => ?_)
  have hg : wa (lf_A g11) [100, 97, 121] := by
    subst e11 e7 e3
    unfold wa
    decide +kernel
  exact kk q g11 _ _ H locs hg rfl (by rw [List.length_set]; exact hlen) rfl hP hD hS
set_option maxHeartbeats 4000000 in
theorem mi_27 {p : Program} {l : Launch} {e : Env} {R : Room} {s : State} {m : MethodId} {args : Array Value} {below : List Frame} {meth : Method} {c : Code} {H : Heap} {locs : List Loc} {cells slots : Nat} {Q : State → Prop} {ls : Array Slot} {A : Nat → Prop} {H0 : Heap} {dC : Nat → ClassId} {dI : Nat → Nat → Nat} {cy : Nat → ClassId} {sq : Nat → Nat} {a0 : Nat} {fs : List Value} {Y : va_W} (C0 : k_cx p s m args c cX10_init 1 RX10 dC dI cy sq) (hin : meth.name = "<init>") (hA : ∀ q, H0.size ≤ q → A q) (hl : lv_has ls 1 [(0, .ref a0)]) (hlen : fs.length = 122) (hP : va_P (dC, dI) vwCl ((a0, .inr (10, fs)) :: Y) H) (hD : va_D A ((a0, .inr (10, fs)) :: Y)) (hS : va_S A H0 H locs) (h3 : cells + 1 ≤ R.cells) (h4 : slots + 5 ≤ R.slots) (kk : ∀ (q : Nat) (g : Nat → Int32) (fs1 : List Value) (Y1 : va_W) (H1 : Heap) (locs1 : List Loc), wa (lf_A g) [112, 104, 97, 115, 101] → fs1 = fs.set 27 (.ref q) → fs1.length = 122 → Y1 = Y ++ [(q, .inl (cy 2, 5, .inl g))] → va_P (dC, dI) vwCl ((a0, .inr (10, fs1)) :: Y1) H1 → va_D A ((a0, .inr (10, fs1)) :: Y1) → va_S A H0 H1 locs1 → W p l e R s m args below meth c H1 locs1 (cells + 1) (slots + 5) Q (F0 m 535 ls [])) : W p l e R s m args below meth c H locs cells slots Q (F0 m 503 ls []) := by
  have hx := C0.1
  have hb := C0.2.1
  refine lv_aload_n hx hb dk_dX10_init_482_8.2.2.2.2.2.2.2.1 rfl (lv_at hl 0 rfl) ?_
  refine lv_iconst (v := 5) hx hb dk_dX10_init_504.1 (by decide) ?_
  refine k_newa C0 2 (ty := .char) rfl (atype := .char) rfl wd161 hP hD hS hA (a0 := (5, .inl (fun _ => 0))) (fun _ => rfl) (by decide) (by decide) (Nat.le_of_ble_eq_true rfl) (cells + 1) (slots + 5) (Nat.le_refl _) (Nat.le_refl _) h3 h4 dk_dX10_init_504.2.1 (fun q H hP hD hS => ?_)
  refine lv_dup hx hb dk_dX10_init_504.2.2.1 rfl ?_
  refine lv_iconst (v := 0) hx hb dk_dX10_init_504.2.2.2.1 (by decide) ?_
  refine lv_bipush (v := 112) hx hb dk_dX10_init_504.2.2.2.2.1 (by decide) ?_
  refine k_castU C0 hP hD hS (k_in 0 5 (by decide)) dk_dX10_init_504.2.2.2.2.2.1 (fun g3 H locs e3 hP hD hS => ?_)
  refine lv_dup hx hb dk_dX10_init_504.2.2.2.2.2.2.1 rfl ?_
  refine lv_iconst (v := 1) hx hb dk_dX10_init_504.2.2.2.2.2.2.2.1 (by decide) ?_
  refine lv_bipush (v := 104) hx hb dk_dX10_init_504_8.1 (by decide) ?_
  refine k_castU C0 hP hD hS (k_in 1 5 (by decide)) dk_dX10_init_504_8.2.1 (fun g7 H locs e7 hP hD hS => ?_)
  refine lv_dup hx hb dk_dX10_init_504_8.2.2.1 rfl ?_
  refine lv_iconst (v := 2) hx hb dk_dX10_init_504_8.2.2.2.1 (by decide) ?_
  refine lv_bipush (v := 97) hx hb dk_dX10_init_504_8.2.2.2.2.1 (by decide) ?_
  refine k_castU C0 hP hD hS (k_in 2 5 (by decide)) dk_dX10_init_504_8.2.2.2.2.2.1 (fun g11 H locs e11 hP hD hS => ?_)
  refine lv_dup hx hb dk_dX10_init_504_8.2.2.2.2.2.2.1 rfl ?_
  refine lv_iconst (v := 3) hx hb dk_dX10_init_504_8.2.2.2.2.2.2.2.1 (by decide) ?_
  refine lv_bipush (v := 115) hx hb dk_dX10_init_524.1 (by decide) ?_
  refine k_castU C0 hP hD hS (k_in 3 5 (by decide)) dk_dX10_init_524.2.1 (fun g15 H locs e15 hP hD hS => ?_)
  refine lv_dup hx hb dk_dX10_init_524.2.2.1 rfl ?_
  refine lv_iconst (v := 4) hx hb dk_dX10_init_524.2.2.2.1 (by decide) ?_
  refine lv_bipush (v := 101) hx hb dk_dX10_init_524.2.2.2.2.1 (by decide) ?_
  refine k_castU C0 hP hD hS (k_in 4 5 (by decide)) dk_dX10_init_524.2.2.2.2.2.1 (fun g19 H locs e19 hP hD hS => ?_)
  refine k_putF C0 hin fp_X10_72 hP hD hS 0 rfl rfl rfl (Nat.lt_of_lt_of_eq (by decide) hlen.symm) dk_dX10_init_524.2.2.2.2.2.2.1 (fun H locs hP hD hS => ?_)
  have hg : wa (lf_A g19) [112, 104, 97, 115, 101] := by
    subst e19 e15 e11 e7 e3
    unfold wa
    decide +kernel
  exact kk q g19 _ _ H locs hg rfl (by rw [List.length_set]; exact hlen) rfl hP hD hS
set_option maxHeartbeats 4000000 in
theorem mi_28 {p : Program} {l : Launch} {e : Env} {R : Room} {s : State} {m : MethodId} {args : Array Value} {below : List Frame} {meth : Method} {c : Code} {H : Heap} {locs : List Loc} {cells slots : Nat} {Q : State → Prop} {ls : Array Slot} {A : Nat → Prop} {H0 : Heap} {dC : Nat → ClassId} {dI : Nat → Nat → Nat} {cy : Nat → ClassId} {sq : Nat → Nat} {a0 : Nat} {fs : List Value} {Y : va_W} (C0 : k_cx p s m args c cX10_init 1 RX10 dC dI cy sq) (hin : meth.name = "<init>") (hA : ∀ q, H0.size ≤ q → A q) (hl : lv_has ls 1 [(0, .ref a0)]) (hlen : fs.length = 122) (hP : va_P (dC, dI) vwCl ((a0, .inr (10, fs)) :: Y) H) (hD : va_D A ((a0, .inr (10, fs)) :: Y)) (hS : va_S A H0 H locs) (h3 : cells + 1 ≤ R.cells) (h4 : slots + 6 ≤ R.slots) (kk : ∀ (q : Nat) (g : Nat → Int32) (fs1 : List Value) (Y1 : va_W) (H1 : Heap) (locs1 : List Loc), wa (lf_A g) [119, 97, 105, 116, 101, 100] → fs1 = fs.set 28 (.ref q) → fs1.length = 122 → Y1 = Y ++ [(q, .inl (cy 2, 6, .inl g))] → va_P (dC, dI) vwCl ((a0, .inr (10, fs1)) :: Y1) H1 → va_D A ((a0, .inr (10, fs1)) :: Y1) → va_S A H0 H1 locs1 → W p l e R s m args below meth c H1 locs1 (cells + 1) (slots + 6) Q (F0 m 573 ls [])) : W p l e R s m args below meth c H locs cells slots Q (F0 m 535 ls []) := by
  have hx := C0.1
  have hb := C0.2.1
  refine lv_aload_n hx hb dk_dX10_init_524.2.2.2.2.2.2.2.1 rfl (lv_at hl 0 rfl) ?_
  refine lv_bipush (v := 6) hx hb dk_dX10_init_524_8.1 (by decide) ?_
  refine k_newa C0 2 (ty := .char) rfl (atype := .char) rfl wd161 hP hD hS hA (a0 := (6, .inl (fun _ => 0))) (fun _ => rfl) (by decide) (by decide) (Nat.le_of_ble_eq_true rfl) (cells + 1) (slots + 6) (Nat.le_refl _) (Nat.le_refl _) h3 h4 dk_dX10_init_524_8.2.1 (fun q H hP hD hS => ?_)
  refine lv_dup hx hb dk_dX10_init_524_8.2.2.1 rfl ?_
  refine lv_iconst (v := 0) hx hb dk_dX10_init_524_8.2.2.2.1 (by decide) ?_
  refine lv_bipush (v := 119) hx hb dk_dX10_init_524_8.2.2.2.2.1 (by decide) ?_
  refine k_castU C0 hP hD hS (k_in 0 6 (by decide)) dk_dX10_init_524_8.2.2.2.2.2.1 (fun g3 H locs e3 hP hD hS => ?_)
  refine lv_dup hx hb dk_dX10_init_524_8.2.2.2.2.2.2.1 rfl ?_
  refine lv_iconst (v := 1) hx hb dk_dX10_init_524_8.2.2.2.2.2.2.2.1 (by decide) ?_
  refine lv_bipush (v := 97) hx hb dk_dX10_init_547.1 (by decide) ?_
  refine k_castU C0 hP hD hS (k_in 1 6 (by decide)) dk_dX10_init_547.2.1 (fun g7 H locs e7 hP hD hS => ?_)
  refine lv_dup hx hb dk_dX10_init_547.2.2.1 rfl ?_
  refine lv_iconst (v := 2) hx hb dk_dX10_init_547.2.2.2.1 (by decide) ?_
  refine lv_bipush (v := 105) hx hb dk_dX10_init_547.2.2.2.2.1 (by decide) ?_
  refine k_castU C0 hP hD hS (k_in 2 6 (by decide)) dk_dX10_init_547.2.2.2.2.2.1 (fun g11 H locs e11 hP hD hS => ?_)
  refine lv_dup hx hb dk_dX10_init_547.2.2.2.2.2.2.1 rfl ?_
  refine lv_iconst (v := 3) hx hb dk_dX10_init_547.2.2.2.2.2.2.2.1 (by decide) ?_
  refine lv_bipush (v := 116) hx hb dk_dX10_init_547_8.1 (by decide) ?_
  refine k_castU C0 hP hD hS (k_in 3 6 (by decide)) dk_dX10_init_547_8.2.1 (fun g15 H locs e15 hP hD hS => ?_)
  refine lv_dup hx hb dk_dX10_init_547_8.2.2.1 rfl ?_
  refine lv_iconst (v := 4) hx hb dk_dX10_init_547_8.2.2.2.1 (by decide) ?_
  refine lv_bipush (v := 101) hx hb dk_dX10_init_547_8.2.2.2.2.1 (by decide) ?_
  refine k_castU C0 hP hD hS (k_in 4 6 (by decide)) dk_dX10_init_547_8.2.2.2.2.2.1 (fun g19 H locs e19 hP hD hS => ?_)
  refine lv_dup hx hb dk_dX10_init_547_8.2.2.2.2.2.2.1 rfl ?_
  refine lv_iconst (v := 5) hx hb dk_dX10_init_547_8.2.2.2.2.2.2.2.1 (by decide) ?_
  refine lv_bipush (v := 100) hx hb dk_dX10_init_567.1 (by decide) ?_
  refine k_castU C0 hP hD hS (k_in 5 6 (by decide)) dk_dX10_init_567.2.1 (fun g23 H locs e23 hP hD hS => ?_)
  refine k_putF C0 hin fp_X10_75 hP hD hS 0 rfl rfl rfl (Nat.lt_of_lt_of_eq (by decide) hlen.symm) dk_dX10_init_567.2.2.1 (fun H locs hP hD hS => ?_)
  have hg : wa (lf_A g23) [119, 97, 105, 116, 101, 100] := by
    subst e23 e19 e15 e11 e7 e3
    unfold wa
    decide +kernel
  exact kk q g23 _ _ H locs hg rfl (by rw [List.length_set]; exact hlen) rfl hP hD hS
set_option maxHeartbeats 4000000 in
theorem mi_29 {p : Program} {l : Launch} {e : Env} {R : Room} {s : State} {m : MethodId} {args : Array Value} {below : List Frame} {meth : Method} {c : Code} {H : Heap} {locs : List Loc} {cells slots : Nat} {Q : State → Prop} {ls : Array Slot} {A : Nat → Prop} {H0 : Heap} {dC : Nat → ClassId} {dI : Nat → Nat → Nat} {cy : Nat → ClassId} {sq : Nat → Nat} {a0 : Nat} {fs : List Value} {Y : va_W} (C0 : k_cx p s m args c cX10_init 1 RX10 dC dI cy sq) (hin : meth.name = "<init>") (hA : ∀ q, H0.size ≤ q → A q) (hl : lv_has ls 1 [(0, .ref a0)]) (hlen : fs.length = 122) (hP : va_P (dC, dI) vwCl ((a0, .inr (10, fs)) :: Y) H) (hD : va_D A ((a0, .inr (10, fs)) :: Y)) (hS : va_S A H0 H locs) (h3 : cells + 1 ≤ R.cells) (h4 : slots + 3 ≤ R.slots) (kk : ∀ (q : Nat) (g : Nat → Int32) (fs1 : List Value) (Y1 : va_W) (H1 : Heap) (locs1 : List Loc), wa (lf_A g) [103, 97, 112] → fs1 = fs.set 29 (.ref q) → fs1.length = 122 → Y1 = Y ++ [(q, .inl (cy 2, 3, .inl g))] → va_P (dC, dI) vwCl ((a0, .inr (10, fs1)) :: Y1) H1 → va_D A ((a0, .inr (10, fs1)) :: Y1) → va_S A H0 H1 locs1 → W p l e R s m args below meth c H1 locs1 (cells + 1) (slots + 3) Q (F0 m 595 ls [])) : W p l e R s m args below meth c H locs cells slots Q (F0 m 573 ls []) := by
  have hx := C0.1
  have hb := C0.2.1
  refine lv_aload_n hx hb dk_dX10_init_567.2.2.2.1 rfl (lv_at hl 0 rfl) ?_
  refine lv_iconst (v := 3) hx hb dk_dX10_init_567.2.2.2.2.1 (by decide) ?_
  refine k_newa C0 2 (ty := .char) rfl (atype := .char) rfl wd161 hP hD hS hA (a0 := (3, .inl (fun _ => 0))) (fun _ => rfl) (by decide) (by decide) (Nat.le_of_ble_eq_true rfl) (cells + 1) (slots + 3) (Nat.le_refl _) (Nat.le_refl _) h3 h4 dk_dX10_init_567.2.2.2.2.2.1 (fun q H hP hD hS => ?_)
  refine lv_dup hx hb dk_dX10_init_567.2.2.2.2.2.2.1 rfl ?_
  refine lv_iconst (v := 0) hx hb dk_dX10_init_567.2.2.2.2.2.2.2.1 (by decide) ?_
  refine lv_bipush (v := 103) hx hb dk_dX10_init_567_8.1 (by decide) ?_
  refine k_castU C0 hP hD hS (k_in 0 3 (by decide)) dk_dX10_init_567_8.2.1 (fun g3 H locs e3 hP hD hS => ?_)
  refine lv_dup hx hb dk_dX10_init_567_8.2.2.1 rfl ?_
  refine lv_iconst (v := 1) hx hb dk_dX10_init_567_8.2.2.2.1 (by decide) ?_
  refine lv_bipush (v := 97) hx hb dk_dX10_init_567_8.2.2.2.2.1 (by decide) ?_
  refine k_castU C0 hP hD hS (k_in 1 3 (by decide)) dk_dX10_init_567_8.2.2.2.2.2.1 (fun g7 H locs e7 hP hD hS => ?_)
  refine lv_dup hx hb dk_dX10_init_567_8.2.2.2.2.2.2.1 rfl ?_
  refine lv_iconst (v := 2) hx hb dk_dX10_init_567_8.2.2.2.2.2.2.2.1 (by decide) ?_
  refine lv_bipush (v := 112) hx hb dk_dX10_init_589.1 (by decide) ?_
  refine k_castU C0 hP hD hS (k_in 2 3 (by decide)) dk_dX10_init_589.2.1 (fun g11 H locs e11 hP hD hS => ?_)
  refine k_putF C0 hin fp_X10_78 hP hD hS 0 rfl rfl rfl (Nat.lt_of_lt_of_eq (by decide) hlen.symm) dk_dX10_init_589.2.2.1 (fun H locs hP hD hS => ?_)
  have hg : wa (lf_A g11) [103, 97, 112] := by
    subst e11 e7 e3
    unfold wa
    decide +kernel
  exact kk q g11 _ _ H locs hg rfl (by rw [List.length_set]; exact hlen) rfl hP hD hS
set_option maxHeartbeats 4000000 in
theorem mi_30 {p : Program} {l : Launch} {e : Env} {R : Room} {s : State} {m : MethodId} {args : Array Value} {below : List Frame} {meth : Method} {c : Code} {H : Heap} {locs : List Loc} {cells slots : Nat} {Q : State → Prop} {ls : Array Slot} {A : Nat → Prop} {H0 : Heap} {dC : Nat → ClassId} {dI : Nat → Nat → Nat} {cy : Nat → ClassId} {sq : Nat → Nat} {a0 : Nat} {fs : List Value} {Y : va_W} (C0 : k_cx p s m args c cX10_init 1 RX10 dC dI cy sq) (hin : meth.name = "<init>") (hA : ∀ q, H0.size ≤ q → A q) (hl : lv_has ls 1 [(0, .ref a0)]) (hlen : fs.length = 122) (hP : va_P (dC, dI) vwCl ((a0, .inr (10, fs)) :: Y) H) (hD : va_D A ((a0, .inr (10, fs)) :: Y)) (hS : va_S A H0 H locs) (h3 : cells + 1 ≤ R.cells) (h4 : slots + 4 ≤ R.slots) (kk : ∀ (q : Nat) (g : Nat → Int32) (fs1 : List Value) (Y1 : va_W) (H1 : Heap) (locs1 : List Loc), wa (lf_A g) [114, 101, 100, 115] → fs1 = fs.set 30 (.ref q) → fs1.length = 122 → Y1 = Y ++ [(q, .inl (cy 2, 4, .inl g))] → va_P (dC, dI) vwCl ((a0, .inr (10, fs1)) :: Y1) H1 → va_D A ((a0, .inr (10, fs1)) :: Y1) → va_S A H0 H1 locs1 → W p l e R s m args below meth c H1 locs1 (cells + 1) (slots + 4) Q (F0 m 622 ls [])) : W p l e R s m args below meth c H locs cells slots Q (F0 m 595 ls []) := by
  have hx := C0.1
  have hb := C0.2.1
  refine lv_aload_n hx hb dk_dX10_init_589.2.2.2.1 rfl (lv_at hl 0 rfl) ?_
  refine lv_iconst (v := 4) hx hb dk_dX10_init_589.2.2.2.2.1 (by decide) ?_
  refine k_newa C0 2 (ty := .char) rfl (atype := .char) rfl wd161 hP hD hS hA (a0 := (4, .inl (fun _ => 0))) (fun _ => rfl) (by decide) (by decide) (Nat.le_of_ble_eq_true rfl) (cells + 1) (slots + 4) (Nat.le_refl _) (Nat.le_refl _) h3 h4 dk_dX10_init_589.2.2.2.2.2.1 (fun q H hP hD hS => ?_)
  refine lv_dup hx hb dk_dX10_init_589.2.2.2.2.2.2.1 rfl ?_
  refine lv_iconst (v := 0) hx hb dk_dX10_init_589.2.2.2.2.2.2.2.1 (by decide) ?_
  refine lv_bipush (v := 114) hx hb dk_dX10_init_589_8.1 (by decide) ?_
  refine k_castU C0 hP hD hS (k_in 0 4 (by decide)) dk_dX10_init_589_8.2.1 (fun g3 H locs e3 hP hD hS => ?_)
  refine lv_dup hx hb dk_dX10_init_589_8.2.2.1 rfl ?_
  refine lv_iconst (v := 1) hx hb dk_dX10_init_589_8.2.2.2.1 (by decide) ?_
  refine lv_bipush (v := 101) hx hb dk_dX10_init_589_8.2.2.2.2.1 (by decide) ?_
  refine k_castU C0 hP hD hS (k_in 1 4 (by decide)) dk_dX10_init_589_8.2.2.2.2.2.1 (fun g7 H locs e7 hP hD hS => ?_)
  refine lv_dup hx hb dk_dX10_init_589_8.2.2.2.2.2.2.1 rfl ?_
  refine lv_iconst (v := 2) hx hb dk_dX10_init_589_8.2.2.2.2.2.2.2.1 (by decide) ?_
  refine lv_bipush (v := 100) hx hb dk_dX10_init_611.1 (by decide) ?_
  refine k_castU C0 hP hD hS (k_in 2 4 (by decide)) dk_dX10_init_611.2.1 (fun g11 H locs e11 hP hD hS => ?_)
  refine lv_dup hx hb dk_dX10_init_611.2.2.1 rfl ?_
  refine lv_iconst (v := 3) hx hb dk_dX10_init_611.2.2.2.1 (by decide) ?_
  refine lv_bipush (v := 115) hx hb dk_dX10_init_611.2.2.2.2.1 (by decide) ?_
  refine k_castU C0 hP hD hS (k_in 3 4 (by decide)) dk_dX10_init_611.2.2.2.2.2.1 (fun g15 H locs e15 hP hD hS => ?_)
  refine k_putF C0 hin fp_X10_81 hP hD hS 0 rfl rfl rfl (Nat.lt_of_lt_of_eq (by decide) hlen.symm) dk_dX10_init_611.2.2.2.2.2.2.1 (fun H locs hP hD hS => ?_)
  have hg : wa (lf_A g15) [114, 101, 100, 115] := by
    subst e15 e11 e7 e3
    unfold wa
    decide +kernel
  exact kk q g15 _ _ H locs hg rfl (by rw [List.length_set]; exact hlen) rfl hP hD hS
set_option maxHeartbeats 4000000 in
theorem mi_31 {p : Program} {l : Launch} {e : Env} {R : Room} {s : State} {m : MethodId} {args : Array Value} {below : List Frame} {meth : Method} {c : Code} {H : Heap} {locs : List Loc} {cells slots : Nat} {Q : State → Prop} {ls : Array Slot} {A : Nat → Prop} {H0 : Heap} {dC : Nat → ClassId} {dI : Nat → Nat → Nat} {cy : Nat → ClassId} {sq : Nat → Nat} {a0 : Nat} {fs : List Value} {Y : va_W} (C0 : k_cx p s m args c cX10_init 1 RX10 dC dI cy sq) (hin : meth.name = "<init>") (hA : ∀ q, H0.size ≤ q → A q) (hl : lv_has ls 1 [(0, .ref a0)]) (hlen : fs.length = 122) (hP : va_P (dC, dI) vwCl ((a0, .inr (10, fs)) :: Y) H) (hD : va_D A ((a0, .inr (10, fs)) :: Y)) (hS : va_S A H0 H locs) (h3 : cells + 1 ≤ R.cells) (h4 : slots + 6 ≤ R.slots) (kk : ∀ (q : Nat) (g : Nat → Int32) (fs1 : List Value) (Y1 : va_W) (H1 : Heap) (locs1 : List Loc), wa (lf_A g) [110, 117, 109, 98, 101, 114] → fs1 = fs.set 31 (.ref q) → fs1.length = 122 → Y1 = Y ++ [(q, .inl (cy 2, 6, .inl g))] → va_P (dC, dI) vwCl ((a0, .inr (10, fs1)) :: Y1) H1 → va_D A ((a0, .inr (10, fs1)) :: Y1) → va_S A H0 H1 locs1 → W p l e R s m args below meth c H1 locs1 (cells + 1) (slots + 6) Q (F0 m 660 ls [])) : W p l e R s m args below meth c H locs cells slots Q (F0 m 622 ls []) := by
  have hx := C0.1
  have hb := C0.2.1
  refine lv_aload_n hx hb dk_dX10_init_611.2.2.2.2.2.2.2.1 rfl (lv_at hl 0 rfl) ?_
  refine lv_bipush (v := 6) hx hb dk_dX10_init_611_8.1 (by decide) ?_
  refine k_newa C0 2 (ty := .char) rfl (atype := .char) rfl wd161 hP hD hS hA (a0 := (6, .inl (fun _ => 0))) (fun _ => rfl) (by decide) (by decide) (Nat.le_of_ble_eq_true rfl) (cells + 1) (slots + 6) (Nat.le_refl _) (Nat.le_refl _) h3 h4 dk_dX10_init_611_8.2.1 (fun q H hP hD hS => ?_)
  refine lv_dup hx hb dk_dX10_init_611_8.2.2.1 rfl ?_
  refine lv_iconst (v := 0) hx hb dk_dX10_init_611_8.2.2.2.1 (by decide) ?_
  refine lv_bipush (v := 110) hx hb dk_dX10_init_611_8.2.2.2.2.1 (by decide) ?_
  refine k_castU C0 hP hD hS (k_in 0 6 (by decide)) dk_dX10_init_611_8.2.2.2.2.2.1 (fun g3 H locs e3 hP hD hS => ?_)
  refine lv_dup hx hb dk_dX10_init_611_8.2.2.2.2.2.2.1 rfl ?_
  refine lv_iconst (v := 1) hx hb dk_dX10_init_611_8.2.2.2.2.2.2.2.1 (by decide) ?_
  refine lv_bipush (v := 117) hx hb dk_dX10_init_634.1 (by decide) ?_
  refine k_castU C0 hP hD hS (k_in 1 6 (by decide)) dk_dX10_init_634.2.1 (fun g7 H locs e7 hP hD hS => ?_)
  refine lv_dup hx hb dk_dX10_init_634.2.2.1 rfl ?_
  refine lv_iconst (v := 2) hx hb dk_dX10_init_634.2.2.2.1 (by decide) ?_
  refine lv_bipush (v := 109) hx hb dk_dX10_init_634.2.2.2.2.1 (by decide) ?_
  refine k_castU C0 hP hD hS (k_in 2 6 (by decide)) dk_dX10_init_634.2.2.2.2.2.1 (fun g11 H locs e11 hP hD hS => ?_)
  refine lv_dup hx hb dk_dX10_init_634.2.2.2.2.2.2.1 rfl ?_
  refine lv_iconst (v := 3) hx hb dk_dX10_init_634.2.2.2.2.2.2.2.1 (by decide) ?_
  refine lv_bipush (v := 98) hx hb dk_dX10_init_634_8.1 (by decide) ?_
  refine k_castU C0 hP hD hS (k_in 3 6 (by decide)) dk_dX10_init_634_8.2.1 (fun g15 H locs e15 hP hD hS => ?_)
  refine lv_dup hx hb dk_dX10_init_634_8.2.2.1 rfl ?_
  refine lv_iconst (v := 4) hx hb dk_dX10_init_634_8.2.2.2.1 (by decide) ?_
  refine lv_bipush (v := 101) hx hb dk_dX10_init_634_8.2.2.2.2.1 (by decide) ?_
  refine k_castU C0 hP hD hS (k_in 4 6 (by decide)) dk_dX10_init_634_8.2.2.2.2.2.1 (fun g19 H locs e19 hP hD hS => ?_)
  refine lv_dup hx hb dk_dX10_init_634_8.2.2.2.2.2.2.1 rfl ?_
  refine lv_iconst (v := 5) hx hb dk_dX10_init_634_8.2.2.2.2.2.2.2.1 (by decide) ?_
  refine lv_bipush (v := 114) hx hb dk_dX10_init_654.1 (by decide) ?_
  refine k_castU C0 hP hD hS (k_in 5 6 (by decide)) dk_dX10_init_654.2.1 (fun g23 H locs e23 hP hD hS => ?_)
  refine k_putF C0 hin fp_X10_84 hP hD hS 0 rfl rfl rfl (Nat.lt_of_lt_of_eq (by decide) hlen.symm) dk_dX10_init_654.2.2.1 (fun H locs hP hD hS => ?_)
  have hg : wa (lf_A g23) [110, 117, 109, 98, 101, 114] := by
    subst e23 e19 e15 e11 e7 e3
    unfold wa
    decide +kernel
  exact kk q g23 _ _ H locs hg rfl (by rw [List.length_set]; exact hlen) rfl hP hD hS
set_option maxHeartbeats 4000000 in
theorem mi_32 {p : Program} {l : Launch} {e : Env} {R : Room} {s : State} {m : MethodId} {args : Array Value} {below : List Frame} {meth : Method} {c : Code} {H : Heap} {locs : List Loc} {cells slots : Nat} {Q : State → Prop} {ls : Array Slot} {A : Nat → Prop} {H0 : Heap} {dC : Nat → ClassId} {dI : Nat → Nat → Nat} {cy : Nat → ClassId} {sq : Nat → Nat} {a0 : Nat} {fs : List Value} {Y : va_W} (C0 : k_cx p s m args c cX10_init 1 RX10 dC dI cy sq) (hin : meth.name = "<init>") (hA : ∀ q, H0.size ≤ q → A q) (hl : lv_has ls 1 [(0, .ref a0)]) (hlen : fs.length = 122) (hP : va_P (dC, dI) vwCl ((a0, .inr (10, fs)) :: Y) H) (hD : va_D A ((a0, .inr (10, fs)) :: Y)) (hS : va_S A H0 H locs) (h3 : cells + 1 ≤ R.cells) (h4 : slots + 4 ≤ R.slots) (kk : ∀ (q : Nat) (g : Nat → Int32) (fs1 : List Value) (Y1 : va_W) (H1 : Heap) (locs1 : List Loc), wa (lf_A g) [119, 101, 110, 116] → fs1 = fs.set 32 (.ref q) → fs1.length = 122 → Y1 = Y ++ [(q, .inl (cy 2, 4, .inl g))] → va_P (dC, dI) vwCl ((a0, .inr (10, fs1)) :: Y1) H1 → va_D A ((a0, .inr (10, fs1)) :: Y1) → va_S A H0 H1 locs1 → W p l e R s m args below meth c H1 locs1 (cells + 1) (slots + 4) Q (F0 m 687 ls [])) : W p l e R s m args below meth c H locs cells slots Q (F0 m 660 ls []) := by
  have hx := C0.1
  have hb := C0.2.1
  refine lv_aload_n hx hb dk_dX10_init_654.2.2.2.1 rfl (lv_at hl 0 rfl) ?_
  refine lv_iconst (v := 4) hx hb dk_dX10_init_654.2.2.2.2.1 (by decide) ?_
  refine k_newa C0 2 (ty := .char) rfl (atype := .char) rfl wd161 hP hD hS hA (a0 := (4, .inl (fun _ => 0))) (fun _ => rfl) (by decide) (by decide) (Nat.le_of_ble_eq_true rfl) (cells + 1) (slots + 4) (Nat.le_refl _) (Nat.le_refl _) h3 h4 dk_dX10_init_654.2.2.2.2.2.1 (fun q H hP hD hS => ?_)
  refine lv_dup hx hb dk_dX10_init_654.2.2.2.2.2.2.1 rfl ?_
  refine lv_iconst (v := 0) hx hb dk_dX10_init_654.2.2.2.2.2.2.2.1 (by decide) ?_
  refine lv_bipush (v := 119) hx hb dk_dX10_init_654_8.1 (by decide) ?_
  refine k_castU C0 hP hD hS (k_in 0 4 (by decide)) dk_dX10_init_654_8.2.1 (fun g3 H locs e3 hP hD hS => ?_)
  refine lv_dup hx hb dk_dX10_init_654_8.2.2.1 rfl ?_
  refine lv_iconst (v := 1) hx hb dk_dX10_init_654_8.2.2.2.1 (by decide) ?_
  refine lv_bipush (v := 101) hx hb dk_dX10_init_654_8.2.2.2.2.1 (by decide) ?_
  refine k_castU C0 hP hD hS (k_in 1 4 (by decide)) dk_dX10_init_654_8.2.2.2.2.2.1 (fun g7 H locs e7 hP hD hS => ?_)
  refine lv_dup hx hb dk_dX10_init_654_8.2.2.2.2.2.2.1 rfl ?_
  refine lv_iconst (v := 2) hx hb dk_dX10_init_654_8.2.2.2.2.2.2.2.1 (by decide) ?_
  refine lv_bipush (v := 110) hx hb dk_dX10_init_676.1 (by decide) ?_
  refine k_castU C0 hP hD hS (k_in 2 4 (by decide)) dk_dX10_init_676.2.1 (fun g11 H locs e11 hP hD hS => ?_)
  refine lv_dup hx hb dk_dX10_init_676.2.2.1 rfl ?_
  refine lv_iconst (v := 3) hx hb dk_dX10_init_676.2.2.2.1 (by decide) ?_
  refine lv_bipush (v := 116) hx hb dk_dX10_init_676.2.2.2.2.1 (by decide) ?_
  refine k_castU C0 hP hD hS (k_in 3 4 (by decide)) dk_dX10_init_676.2.2.2.2.2.1 (fun g15 H locs e15 hP hD hS => ?_)
  refine k_putF C0 hin fp_X10_87 hP hD hS 0 rfl rfl rfl (Nat.lt_of_lt_of_eq (by decide) hlen.symm) dk_dX10_init_676.2.2.2.2.2.2.1 (fun H locs hP hD hS => ?_)
  have hg : wa (lf_A g15) [119, 101, 110, 116] := by
    subst e15 e11 e7 e3
    unfold wa
    decide +kernel
  exact kk q g15 _ _ H locs hg rfl (by rw [List.length_set]; exact hlen) rfl hP hD hS
set_option maxHeartbeats 4000000 in
theorem mi_33 {p : Program} {l : Launch} {e : Env} {R : Room} {s : State} {m : MethodId} {args : Array Value} {below : List Frame} {meth : Method} {c : Code} {H : Heap} {locs : List Loc} {cells slots : Nat} {Q : State → Prop} {ls : Array Slot} {A : Nat → Prop} {H0 : Heap} {dC : Nat → ClassId} {dI : Nat → Nat → Nat} {cy : Nat → ClassId} {sq : Nat → Nat} {a0 : Nat} {fs : List Value} {Y : va_W} (C0 : k_cx p s m args c cX10_init 1 RX10 dC dI cy sq) (hin : meth.name = "<init>") (hA : ∀ q, H0.size ≤ q → A q) (hl : lv_has ls 1 [(0, .ref a0)]) (hlen : fs.length = 122) (hP : va_P (dC, dI) vwCl ((a0, .inr (10, fs)) :: Y) H) (hD : va_D A ((a0, .inr (10, fs)) :: Y)) (hS : va_S A H0 H locs) (h3 : cells + 1 ≤ R.cells) (h4 : slots + 4 ≤ R.slots) (kk : ∀ (q : Nat) (g : Nat → Int32) (fs1 : List Value) (Y1 : va_W) (H1 : Heap) (locs1 : List Loc), wa (lf_A g) [104, 97, 114, 109] → fs1 = fs.set 33 (.ref q) → fs1.length = 122 → Y1 = Y ++ [(q, .inl (cy 2, 4, .inl g))] → va_P (dC, dI) vwCl ((a0, .inr (10, fs1)) :: Y1) H1 → va_D A ((a0, .inr (10, fs1)) :: Y1) → va_S A H0 H1 locs1 → W p l e R s m args below meth c H1 locs1 (cells + 1) (slots + 4) Q (F0 m 714 ls [])) : W p l e R s m args below meth c H locs cells slots Q (F0 m 687 ls []) := by
  have hx := C0.1
  have hb := C0.2.1
  refine lv_aload_n hx hb dk_dX10_init_676.2.2.2.2.2.2.2.1 rfl (lv_at hl 0 rfl) ?_
  refine lv_iconst (v := 4) hx hb dk_dX10_init_676_8.1 (by decide) ?_
  refine k_newa C0 2 (ty := .char) rfl (atype := .char) rfl wd161 hP hD hS hA (a0 := (4, .inl (fun _ => 0))) (fun _ => rfl) (by decide) (by decide) (Nat.le_of_ble_eq_true rfl) (cells + 1) (slots + 4) (Nat.le_refl _) (Nat.le_refl _) h3 h4 dk_dX10_init_676_8.2.1 (fun q H hP hD hS => ?_)
  refine lv_dup hx hb dk_dX10_init_676_8.2.2.1 rfl ?_
  refine lv_iconst (v := 0) hx hb dk_dX10_init_676_8.2.2.2.1 (by decide) ?_
  refine lv_bipush (v := 104) hx hb dk_dX10_init_676_8.2.2.2.2.1 (by decide) ?_
  refine k_castU C0 hP hD hS (k_in 0 4 (by decide)) dk_dX10_init_676_8.2.2.2.2.2.1 (fun g3 H locs e3 hP hD hS => ?_)
  refine lv_dup hx hb dk_dX10_init_676_8.2.2.2.2.2.2.1 rfl ?_
  refine lv_iconst (v := 1) hx hb dk_dX10_init_676_8.2.2.2.2.2.2.2.1 (by decide) ?_
  refine lv_bipush (v := 97) hx hb dk_dX10_init_698.1 (by decide) ?_
  refine k_castU C0 hP hD hS (k_in 1 4 (by decide)) dk_dX10_init_698.2.1 (fun g7 H locs e7 hP hD hS => ?_)
  refine lv_dup hx hb dk_dX10_init_698.2.2.1 rfl ?_
  refine lv_iconst (v := 2) hx hb dk_dX10_init_698.2.2.2.1 (by decide) ?_
  refine lv_bipush (v := 114) hx hb dk_dX10_init_698.2.2.2.2.1 (by decide) ?_
  refine k_castU C0 hP hD hS (k_in 2 4 (by decide)) dk_dX10_init_698.2.2.2.2.2.1 (fun g11 H locs e11 hP hD hS => ?_)
  refine lv_dup hx hb dk_dX10_init_698.2.2.2.2.2.2.1 rfl ?_
  refine lv_iconst (v := 3) hx hb dk_dX10_init_698.2.2.2.2.2.2.2.1 (by decide) ?_
  refine lv_bipush (v := 109) hx hb dk_dX10_init_698_8.1 (by decide) ?_
  refine k_castU C0 hP hD hS (k_in 3 4 (by decide)) dk_dX10_init_698_8.2.1 (fun g15 H locs e15 hP hD hS => ?_)
  refine k_putF C0 hin fp_X10_90 hP hD hS 0 rfl rfl rfl (Nat.lt_of_lt_of_eq (by decide) hlen.symm) dk_dX10_init_698_8.2.2.1 (fun H locs hP hD hS => ?_)
  have hg : wa (lf_A g15) [104, 97, 114, 109] := by
    subst e15 e11 e7 e3
    unfold wa
    decide +kernel
  exact kk q g15 _ _ H locs hg rfl (by rw [List.length_set]; exact hlen) rfl hP hD hS
set_option maxHeartbeats 4000000 in
theorem mi_34 {p : Program} {l : Launch} {e : Env} {R : Room} {s : State} {m : MethodId} {args : Array Value} {below : List Frame} {meth : Method} {c : Code} {H : Heap} {locs : List Loc} {cells slots : Nat} {Q : State → Prop} {ls : Array Slot} {A : Nat → Prop} {H0 : Heap} {dC : Nat → ClassId} {dI : Nat → Nat → Nat} {cy : Nat → ClassId} {sq : Nat → Nat} {a0 : Nat} {fs : List Value} {Y : va_W} (C0 : k_cx p s m args c cX10_init 1 RX10 dC dI cy sq) (hin : meth.name = "<init>") (hA : ∀ q, H0.size ≤ q → A q) (hl : lv_has ls 1 [(0, .ref a0)]) (hlen : fs.length = 122) (hP : va_P (dC, dI) vwCl ((a0, .inr (10, fs)) :: Y) H) (hD : va_D A ((a0, .inr (10, fs)) :: Y)) (hS : va_S A H0 H locs) (h3 : cells + 1 ≤ R.cells) (h4 : slots + 2 ≤ R.slots) (kk : ∀ (q : Nat) (g : Nat → Int32) (fs1 : List Value) (Y1 : va_W) (H1 : Heap) (locs1 : List Loc), wa (lf_A g) [111, 114] → fs1 = fs.set 34 (.ref q) → fs1.length = 122 → Y1 = Y ++ [(q, .inl (cy 2, 2, .inl g))] → va_P (dC, dI) vwCl ((a0, .inr (10, fs1)) :: Y1) H1 → va_D A ((a0, .inr (10, fs1)) :: Y1) → va_S A H0 H1 locs1 → W p l e R s m args below meth c H1 locs1 (cells + 1) (slots + 2) Q (F0 m 731 ls [])) : W p l e R s m args below meth c H locs cells slots Q (F0 m 714 ls []) := by
  have hx := C0.1
  have hb := C0.2.1
  refine lv_aload_n hx hb dk_dX10_init_698_8.2.2.2.1 rfl (lv_at hl 0 rfl) ?_
  refine lv_iconst (v := 2) hx hb dk_dX10_init_698_8.2.2.2.2.1 (by decide) ?_
  refine k_newa C0 2 (ty := .char) rfl (atype := .char) rfl wd161 hP hD hS hA (a0 := (2, .inl (fun _ => 0))) (fun _ => rfl) (by decide) (by decide) (Nat.le_of_ble_eq_true rfl) (cells + 1) (slots + 2) (Nat.le_refl _) (Nat.le_refl _) h3 h4 dk_dX10_init_698_8.2.2.2.2.2.1 (fun q H hP hD hS => ?_)
  refine lv_dup hx hb dk_dX10_init_698_8.2.2.2.2.2.2.1 rfl ?_
  refine lv_iconst (v := 0) hx hb dk_dX10_init_698_8.2.2.2.2.2.2.2.1 (by decide) ?_
  refine lv_bipush (v := 111) hx hb dk_dX10_init_720.1 (by decide) ?_
  refine k_castU C0 hP hD hS (k_in 0 2 (by decide)) dk_dX10_init_720.2.1 (fun g3 H locs e3 hP hD hS => ?_)
  refine lv_dup hx hb dk_dX10_init_720.2.2.1 rfl ?_
  refine lv_iconst (v := 1) hx hb dk_dX10_init_720.2.2.2.1 (by decide) ?_
  refine lv_bipush (v := 114) hx hb dk_dX10_init_720.2.2.2.2.1 (by decide) ?_
  refine k_castU C0 hP hD hS (k_in 1 2 (by decide)) dk_dX10_init_720.2.2.2.2.2.1 (fun g7 H locs e7 hP hD hS => ?_)
  refine k_putF C0 hin fp_X10_93 hP hD hS 0 rfl rfl rfl (Nat.lt_of_lt_of_eq (by decide) hlen.symm) dk_dX10_init_720.2.2.2.2.2.2.1 (fun H locs hP hD hS => ?_)
  have hg : wa (lf_A g7) [111, 114] := by
    subst e7 e3
    unfold wa
    decide +kernel
  exact kk q g7 _ _ H locs hg rfl (by rw [List.length_set]; exact hlen) rfl hP hD hS
set_option maxHeartbeats 4000000 in
theorem mi_35 {p : Program} {l : Launch} {e : Env} {R : Room} {s : State} {m : MethodId} {args : Array Value} {below : List Frame} {meth : Method} {c : Code} {H : Heap} {locs : List Loc} {cells slots : Nat} {Q : State → Prop} {ls : Array Slot} {A : Nat → Prop} {H0 : Heap} {dC : Nat → ClassId} {dI : Nat → Nat → Nat} {cy : Nat → ClassId} {sq : Nat → Nat} {a0 : Nat} {fs : List Value} {Y : va_W} (C0 : k_cx p s m args c cX10_init 1 RX10 dC dI cy sq) (hin : meth.name = "<init>") (hA : ∀ q, H0.size ≤ q → A q) (hl : lv_has ls 1 [(0, .ref a0)]) (hlen : fs.length = 122) (hP : va_P (dC, dI) vwCl ((a0, .inr (10, fs)) :: Y) H) (hD : va_D A ((a0, .inr (10, fs)) :: Y)) (hS : va_S A H0 H locs) (h3 : cells + 1 ≤ R.cells) (h4 : slots + 3 ≤ R.slots) (kk : ∀ (q : Nat) (g : Nat → Int32) (fs1 : List Value) (Y1 : va_W) (H1 : Heap) (locs1 : List Loc), wa (lf_A g) [97, 110, 100] → fs1 = fs.set 35 (.ref q) → fs1.length = 122 → Y1 = Y ++ [(q, .inl (cy 2, 3, .inl g))] → va_P (dC, dI) vwCl ((a0, .inr (10, fs1)) :: Y1) H1 → va_D A ((a0, .inr (10, fs1)) :: Y1) → va_S A H0 H1 locs1 → W p l e R s m args below meth c H1 locs1 (cells + 1) (slots + 3) Q (F0 m 753 ls [])) : W p l e R s m args below meth c H locs cells slots Q (F0 m 731 ls []) := by
  have hx := C0.1
  have hb := C0.2.1
  refine lv_aload_n hx hb dk_dX10_init_720.2.2.2.2.2.2.2.1 rfl (lv_at hl 0 rfl) ?_
  refine lv_iconst (v := 3) hx hb dk_dX10_init_720_8.1 (by decide) ?_
  refine k_newa C0 2 (ty := .char) rfl (atype := .char) rfl wd161 hP hD hS hA (a0 := (3, .inl (fun _ => 0))) (fun _ => rfl) (by decide) (by decide) (Nat.le_of_ble_eq_true rfl) (cells + 1) (slots + 3) (Nat.le_refl _) (Nat.le_refl _) h3 h4 dk_dX10_init_720_8.2.1 (fun q H hP hD hS => ?_)
  refine lv_dup hx hb dk_dX10_init_720_8.2.2.1 rfl ?_
  refine lv_iconst (v := 0) hx hb dk_dX10_init_720_8.2.2.2.1 (by decide) ?_
  refine lv_bipush (v := 97) hx hb dk_dX10_init_720_8.2.2.2.2.1 (by decide) ?_
  refine k_castU C0 hP hD hS (k_in 0 3 (by decide)) dk_dX10_init_720_8.2.2.2.2.2.1 (fun g3 H locs e3 hP hD hS => ?_)
  refine lv_dup hx hb dk_dX10_init_720_8.2.2.2.2.2.2.1 rfl ?_
  refine lv_iconst (v := 1) hx hb dk_dX10_init_720_8.2.2.2.2.2.2.2.1 (by decide) ?_
  refine lv_bipush (v := 110) hx hb dk_dX10_init_742.1 (by decide) ?_
  refine k_castU C0 hP hD hS (k_in 1 3 (by decide)) dk_dX10_init_742.2.1 (fun g7 H locs e7 hP hD hS => ?_)
  refine lv_dup hx hb dk_dX10_init_742.2.2.1 rfl ?_
  refine lv_iconst (v := 2) hx hb dk_dX10_init_742.2.2.2.1 (by decide) ?_
  refine lv_bipush (v := 100) hx hb dk_dX10_init_742.2.2.2.2.1 (by decide) ?_
  refine k_castU C0 hP hD hS (k_in 2 3 (by decide)) dk_dX10_init_742.2.2.2.2.2.1 (fun g11 H locs e11 hP hD hS => ?_)
  refine k_putF C0 hin fp_X10_96 hP hD hS 0 rfl rfl rfl (Nat.lt_of_lt_of_eq (by decide) hlen.symm) dk_dX10_init_742.2.2.2.2.2.2.1 (fun H locs hP hD hS => ?_)
  have hg : wa (lf_A g11) [97, 110, 100] := by
    subst e11 e7 e3
    unfold wa
    decide +kernel
  exact kk q g11 _ _ H locs hg rfl (by rw [List.length_set]; exact hlen) rfl hP hD hS
set_option maxHeartbeats 4000000 in
theorem mi_36 {p : Program} {l : Launch} {e : Env} {R : Room} {s : State} {m : MethodId} {args : Array Value} {below : List Frame} {meth : Method} {c : Code} {H : Heap} {locs : List Loc} {cells slots : Nat} {Q : State → Prop} {ls : Array Slot} {A : Nat → Prop} {H0 : Heap} {dC : Nat → ClassId} {dI : Nat → Nat → Nat} {cy : Nat → ClassId} {sq : Nat → Nat} {a0 : Nat} {fs : List Value} {Y : va_W} (C0 : k_cx p s m args c cX10_init 1 RX10 dC dI cy sq) (hin : meth.name = "<init>") (hA : ∀ q, H0.size ≤ q → A q) (hl : lv_has ls 1 [(0, .ref a0)]) (hlen : fs.length = 122) (hP : va_P (dC, dI) vwCl ((a0, .inr (10, fs)) :: Y) H) (hD : va_D A ((a0, .inr (10, fs)) :: Y)) (hS : va_S A H0 H locs) (h3 : cells + 1 ≤ R.cells) (h4 : slots + 3 ≤ R.slots) (kk : ∀ (q : Nat) (g : Nat → Int32) (fs1 : List Value) (Y1 : va_W) (H1 : Heap) (locs1 : List Loc), wa (lf_A g) [110, 111, 116] → fs1 = fs.set 36 (.ref q) → fs1.length = 122 → Y1 = Y ++ [(q, .inl (cy 2, 3, .inl g))] → va_P (dC, dI) vwCl ((a0, .inr (10, fs1)) :: Y1) H1 → va_D A ((a0, .inr (10, fs1)) :: Y1) → va_S A H0 H1 locs1 → W p l e R s m args below meth c H1 locs1 (cells + 1) (slots + 3) Q (F0 m 775 ls [])) : W p l e R s m args below meth c H locs cells slots Q (F0 m 753 ls []) := by
  have hx := C0.1
  have hb := C0.2.1
  refine lv_aload_n hx hb dk_dX10_init_742.2.2.2.2.2.2.2.1 rfl (lv_at hl 0 rfl) ?_
  refine lv_iconst (v := 3) hx hb dk_dX10_init_742_8.1 (by decide) ?_
  refine k_newa C0 2 (ty := .char) rfl (atype := .char) rfl wd161 hP hD hS hA (a0 := (3, .inl (fun _ => 0))) (fun _ => rfl) (by decide) (by decide) (Nat.le_of_ble_eq_true rfl) (cells + 1) (slots + 3) (Nat.le_refl _) (Nat.le_refl _) h3 h4 dk_dX10_init_742_8.2.1 (fun q H hP hD hS => ?_)
  refine lv_dup hx hb dk_dX10_init_742_8.2.2.1 rfl ?_
  refine lv_iconst (v := 0) hx hb dk_dX10_init_742_8.2.2.2.1 (by decide) ?_
  refine lv_bipush (v := 110) hx hb dk_dX10_init_742_8.2.2.2.2.1 (by decide) ?_
  refine k_castU C0 hP hD hS (k_in 0 3 (by decide)) dk_dX10_init_742_8.2.2.2.2.2.1 (fun g3 H locs e3 hP hD hS => ?_)
  refine lv_dup hx hb dk_dX10_init_742_8.2.2.2.2.2.2.1 rfl ?_
  refine lv_iconst (v := 1) hx hb dk_dX10_init_742_8.2.2.2.2.2.2.2.1 (by decide) ?_
  refine lv_bipush (v := 111) hx hb dk_dX10_init_764.1 (by decide) ?_
  refine k_castU C0 hP hD hS (k_in 1 3 (by decide)) dk_dX10_init_764.2.1 (fun g7 H locs e7 hP hD hS => ?_)
  refine lv_dup hx hb dk_dX10_init_764.2.2.1 rfl ?_
  refine lv_iconst (v := 2) hx hb dk_dX10_init_764.2.2.2.1 (by decide) ?_
  refine lv_bipush (v := 116) hx hb dk_dX10_init_764.2.2.2.2.1 (by decide) ?_
  refine k_castU C0 hP hD hS (k_in 2 3 (by decide)) dk_dX10_init_764.2.2.2.2.2.1 (fun g11 H locs e11 hP hD hS => ?_)
  refine k_putF C0 hin fp_X10_99 hP hD hS 0 rfl rfl rfl (Nat.lt_of_lt_of_eq (by decide) hlen.symm) dk_dX10_init_764.2.2.2.2.2.2.1 (fun H locs hP hD hS => ?_)
  have hg : wa (lf_A g11) [110, 111, 116] := by
    subst e11 e7 e3
    unfold wa
    decide +kernel
  exact kk q g11 _ _ H locs hg rfl (by rw [List.length_set]; exact hlen) rfl hP hD hS
set_option maxHeartbeats 4000000 in
theorem mi_37 {p : Program} {l : Launch} {e : Env} {R : Room} {s : State} {m : MethodId} {args : Array Value} {below : List Frame} {meth : Method} {c : Code} {H : Heap} {locs : List Loc} {cells slots : Nat} {Q : State → Prop} {ls : Array Slot} {A : Nat → Prop} {H0 : Heap} {dC : Nat → ClassId} {dI : Nat → Nat → Nat} {cy : Nat → ClassId} {sq : Nat → Nat} {a0 : Nat} {fs : List Value} {Y : va_W} (C0 : k_cx p s m args c cX10_init 1 RX10 dC dI cy sq) (hin : meth.name = "<init>") (hA : ∀ q, H0.size ≤ q → A q) (hl : lv_has ls 1 [(0, .ref a0)]) (hlen : fs.length = 122) (hP : va_P (dC, dI) vwCl ((a0, .inr (10, fs)) :: Y) H) (hD : va_D A ((a0, .inr (10, fs)) :: Y)) (hS : va_S A H0 H locs) (h3 : cells + 1 ≤ R.cells) (h4 : slots + 3 ≤ R.slots) (kk : ∀ (q : Nat) (g : Nat → Int32) (fs1 : List Value) (Y1 : va_W) (H1 : Heap) (locs1 : List Loc), wa (lf_A g) [97, 108, 108] → fs1 = fs.set 37 (.ref q) → fs1.length = 122 → Y1 = Y ++ [(q, .inl (cy 2, 3, .inl g))] → va_P (dC, dI) vwCl ((a0, .inr (10, fs1)) :: Y1) H1 → va_D A ((a0, .inr (10, fs1)) :: Y1) → va_S A H0 H1 locs1 → W p l e R s m args below meth c H1 locs1 (cells + 1) (slots + 3) Q (F0 m 797 ls [])) : W p l e R s m args below meth c H locs cells slots Q (F0 m 775 ls []) := by
  have hx := C0.1
  have hb := C0.2.1
  refine lv_aload_n hx hb dk_dX10_init_764.2.2.2.2.2.2.2.1 rfl (lv_at hl 0 rfl) ?_
  refine lv_iconst (v := 3) hx hb dk_dX10_init_764_8.1 (by decide) ?_
  refine k_newa C0 2 (ty := .char) rfl (atype := .char) rfl wd161 hP hD hS hA (a0 := (3, .inl (fun _ => 0))) (fun _ => rfl) (by decide) (by decide) (Nat.le_of_ble_eq_true rfl) (cells + 1) (slots + 3) (Nat.le_refl _) (Nat.le_refl _) h3 h4 dk_dX10_init_764_8.2.1 (fun q H hP hD hS => ?_)
  refine lv_dup hx hb dk_dX10_init_764_8.2.2.1 rfl ?_
  refine lv_iconst (v := 0) hx hb dk_dX10_init_764_8.2.2.2.1 (by decide) ?_
  refine lv_bipush (v := 97) hx hb dk_dX10_init_764_8.2.2.2.2.1 (by decide) ?_
  refine k_castU C0 hP hD hS (k_in 0 3 (by decide)) dk_dX10_init_764_8.2.2.2.2.2.1 (fun g3 H locs e3 hP hD hS => ?_)
  refine lv_dup hx hb dk_dX10_init_764_8.2.2.2.2.2.2.1 rfl ?_
  refine lv_iconst (v := 1) hx hb dk_dX10_init_764_8.2.2.2.2.2.2.2.1 (by decide) ?_
  refine lv_bipush (v := 108) hx hb dk_dX10_init_786.1 (by decide) ?_
  refine k_castU C0 hP hD hS (k_in 1 3 (by decide)) dk_dX10_init_786.2.1 (fun g7 H locs e7 hP hD hS => ?_)
  refine lv_dup hx hb dk_dX10_init_786.2.2.1 rfl ?_
  refine lv_iconst (v := 2) hx hb dk_dX10_init_786.2.2.2.1 (by decide) ?_
  refine lv_bipush (v := 108) hx hb dk_dX10_init_786.2.2.2.2.1 (by decide) ?_
  refine k_castU C0 hP hD hS (k_in 2 3 (by decide)) dk_dX10_init_786.2.2.2.2.2.1 (fun g11 H locs e11 hP hD hS => ?_)
  refine k_putF C0 hin fp_X10_102 hP hD hS 0 rfl rfl rfl (Nat.lt_of_lt_of_eq (by decide) hlen.symm) dk_dX10_init_786.2.2.2.2.2.2.1 (fun H locs hP hD hS => ?_)
  have hg : wa (lf_A g11) [97, 108, 108] := by
    subst e11 e7 e3
    unfold wa
    decide +kernel
  exact kk q g11 _ _ H locs hg rfl (by rw [List.length_set]; exact hlen) rfl hP hD hS
set_option maxHeartbeats 4000000 in
theorem mi_38 {p : Program} {l : Launch} {e : Env} {R : Room} {s : State} {m : MethodId} {args : Array Value} {below : List Frame} {meth : Method} {c : Code} {H : Heap} {locs : List Loc} {cells slots : Nat} {Q : State → Prop} {ls : Array Slot} {A : Nat → Prop} {H0 : Heap} {dC : Nat → ClassId} {dI : Nat → Nat → Nat} {cy : Nat → ClassId} {sq : Nat → Nat} {a0 : Nat} {fs : List Value} {Y : va_W} (C0 : k_cx p s m args c cX10_init 1 RX10 dC dI cy sq) (hin : meth.name = "<init>") (hA : ∀ q, H0.size ≤ q → A q) (hl : lv_has ls 1 [(0, .ref a0)]) (hlen : fs.length = 122) (hP : va_P (dC, dI) vwCl ((a0, .inr (10, fs)) :: Y) H) (hD : va_D A ((a0, .inr (10, fs)) :: Y)) (hS : va_S A H0 H locs) (h3 : cells + 1 ≤ R.cells) (h4 : slots + 3 ≤ R.slots) (kk : ∀ (q : Nat) (g : Nat → Int32) (fs1 : List Value) (Y1 : va_W) (H1 : Heap) (locs1 : List Loc), wa (lf_A g) [109, 105, 110] → fs1 = fs.set 38 (.ref q) → fs1.length = 122 → Y1 = Y ++ [(q, .inl (cy 2, 3, .inl g))] → va_P (dC, dI) vwCl ((a0, .inr (10, fs1)) :: Y1) H1 → va_D A ((a0, .inr (10, fs1)) :: Y1) → va_S A H0 H1 locs1 → W p l e R s m args below meth c H1 locs1 (cells + 1) (slots + 3) Q (F0 m 819 ls [])) : W p l e R s m args below meth c H locs cells slots Q (F0 m 797 ls []) := by
  have hx := C0.1
  have hb := C0.2.1
  refine lv_aload_n hx hb dk_dX10_init_786.2.2.2.2.2.2.2.1 rfl (lv_at hl 0 rfl) ?_
  refine lv_iconst (v := 3) hx hb dk_dX10_init_786_8.1 (by decide) ?_
  refine k_newa C0 2 (ty := .char) rfl (atype := .char) rfl wd161 hP hD hS hA (a0 := (3, .inl (fun _ => 0))) (fun _ => rfl) (by decide) (by decide) (Nat.le_of_ble_eq_true rfl) (cells + 1) (slots + 3) (Nat.le_refl _) (Nat.le_refl _) h3 h4 dk_dX10_init_786_8.2.1 (fun q H hP hD hS => ?_)
  refine lv_dup hx hb dk_dX10_init_786_8.2.2.1 rfl ?_
  refine lv_iconst (v := 0) hx hb dk_dX10_init_786_8.2.2.2.1 (by decide) ?_
  refine lv_bipush (v := 109) hx hb dk_dX10_init_786_8.2.2.2.2.1 (by decide) ?_
  refine k_castU C0 hP hD hS (k_in 0 3 (by decide)) dk_dX10_init_786_8.2.2.2.2.2.1 (fun g3 H locs e3 hP hD hS => ?_)
  refine lv_dup hx hb dk_dX10_init_786_8.2.2.2.2.2.2.1 rfl ?_
  refine lv_iconst (v := 1) hx hb dk_dX10_init_786_8.2.2.2.2.2.2.2.1 (by decide) ?_
  refine lv_bipush (v := 105) hx hb dk_dX10_init_808.1 (by decide) ?_
  refine k_castU C0 hP hD hS (k_in 1 3 (by decide)) dk_dX10_init_808.2.1 (fun g7 H locs e7 hP hD hS => ?_)
  refine lv_dup hx hb dk_dX10_init_808.2.2.1 rfl ?_
  refine lv_iconst (v := 2) hx hb dk_dX10_init_808.2.2.2.1 (by decide) ?_
  refine lv_bipush (v := 110) hx hb dk_dX10_init_808.2.2.2.2.1 (by decide) ?_
  refine k_castU C0 hP hD hS (k_in 2 3 (by decide)) dk_dX10_init_808.2.2.2.2.2.1 (fun g11 H locs e11 hP hD hS => ?_)
  refine k_putF C0 hin fp_X10_105 hP hD hS 0 rfl rfl rfl (Nat.lt_of_lt_of_eq (by decide) hlen.symm) dk_dX10_init_808.2.2.2.2.2.2.1 (fun H locs hP hD hS => ?_)
  have hg : wa (lf_A g11) [109, 105, 110] := by
    subst e11 e7 e3
    unfold wa
    decide +kernel
  exact kk q g11 _ _ H locs hg rfl (by rw [List.length_set]; exact hlen) rfl hP hD hS
set_option maxHeartbeats 4000000 in
theorem mi_39 {p : Program} {l : Launch} {e : Env} {R : Room} {s : State} {m : MethodId} {args : Array Value} {below : List Frame} {meth : Method} {c : Code} {H : Heap} {locs : List Loc} {cells slots : Nat} {Q : State → Prop} {ls : Array Slot} {A : Nat → Prop} {H0 : Heap} {dC : Nat → ClassId} {dI : Nat → Nat → Nat} {cy : Nat → ClassId} {sq : Nat → Nat} {a0 : Nat} {fs : List Value} {Y : va_W} (C0 : k_cx p s m args c cX10_init 1 RX10 dC dI cy sq) (hin : meth.name = "<init>") (hA : ∀ q, H0.size ≤ q → A q) (hl : lv_has ls 1 [(0, .ref a0)]) (hlen : fs.length = 122) (hP : va_P (dC, dI) vwCl ((a0, .inr (10, fs)) :: Y) H) (hD : va_D A ((a0, .inr (10, fs)) :: Y)) (hS : va_S A H0 H locs) (h3 : cells + 1 ≤ R.cells) (h4 : slots + 3 ≤ R.slots) (kk : ∀ (q : Nat) (g : Nat → Int32) (fs1 : List Value) (Y1 : va_W) (H1 : Heap) (locs1 : List Loc), wa (lf_A g) [109, 97, 120] → fs1 = fs.set 39 (.ref q) → fs1.length = 122 → Y1 = Y ++ [(q, .inl (cy 2, 3, .inl g))] → va_P (dC, dI) vwCl ((a0, .inr (10, fs1)) :: Y1) H1 → va_D A ((a0, .inr (10, fs1)) :: Y1) → va_S A H0 H1 locs1 → W p l e R s m args below meth c H1 locs1 (cells + 1) (slots + 3) Q (F0 m 841 ls [])) : W p l e R s m args below meth c H locs cells slots Q (F0 m 819 ls []) := by
  have hx := C0.1
  have hb := C0.2.1
  refine lv_aload_n hx hb dk_dX10_init_808.2.2.2.2.2.2.2.1 rfl (lv_at hl 0 rfl) ?_
  refine lv_iconst (v := 3) hx hb dk_dX10_init_808_8.1 (by decide) ?_
  refine k_newa C0 2 (ty := .char) rfl (atype := .char) rfl wd161 hP hD hS hA (a0 := (3, .inl (fun _ => 0))) (fun _ => rfl) (by decide) (by decide) (Nat.le_of_ble_eq_true rfl) (cells + 1) (slots + 3) (Nat.le_refl _) (Nat.le_refl _) h3 h4 dk_dX10_init_808_8.2.1 (fun q H hP hD hS => ?_)
  refine lv_dup hx hb dk_dX10_init_808_8.2.2.1 rfl ?_
  refine lv_iconst (v := 0) hx hb dk_dX10_init_808_8.2.2.2.1 (by decide) ?_
  refine lv_bipush (v := 109) hx hb dk_dX10_init_808_8.2.2.2.2.1 (by decide) ?_
  refine k_castU C0 hP hD hS (k_in 0 3 (by decide)) dk_dX10_init_808_8.2.2.2.2.2.1 (fun g3 H locs e3 hP hD hS => ?_)
  refine lv_dup hx hb dk_dX10_init_808_8.2.2.2.2.2.2.1 rfl ?_
  refine lv_iconst (v := 1) hx hb dk_dX10_init_808_8.2.2.2.2.2.2.2.1 (by decide) ?_
  refine lv_bipush (v := 97) hx hb dk_dX10_init_830.1 (by decide) ?_
  refine k_castU C0 hP hD hS (k_in 1 3 (by decide)) dk_dX10_init_830.2.1 (fun g7 H locs e7 hP hD hS => ?_)
  refine lv_dup hx hb dk_dX10_init_830.2.2.1 rfl ?_
  refine lv_iconst (v := 2) hx hb dk_dX10_init_830.2.2.2.1 (by decide) ?_
  refine lv_bipush (v := 120) hx hb dk_dX10_init_830.2.2.2.2.1 (by decide) ?_
  refine k_castU C0 hP hD hS (k_in 2 3 (by decide)) dk_dX10_init_830.2.2.2.2.2.1 (fun g11 H locs e11 hP hD hS => ?_)
  refine k_putF C0 hin fp_X10_108 hP hD hS 0 rfl rfl rfl (Nat.lt_of_lt_of_eq (by decide) hlen.symm) dk_dX10_init_830.2.2.2.2.2.2.1 (fun H locs hP hD hS => ?_)
  have hg : wa (lf_A g11) [109, 97, 120] := by
    subst e11 e7 e3
    unfold wa
    decide +kernel
  exact kk q g11 _ _ H locs hg rfl (by rw [List.length_set]; exact hlen) rfl hP hD hS
set_option maxHeartbeats 4000000 in
theorem mi_41 {p : Program} {l : Launch} {e : Env} {R : Room} {s : State} {m : MethodId} {args : Array Value} {below : List Frame} {meth : Method} {c : Code} {H : Heap} {locs : List Loc} {cells slots : Nat} {Q : State → Prop} {ls : Array Slot} {A : Nat → Prop} {H0 : Heap} {dC : Nat → ClassId} {dI : Nat → Nat → Nat} {cy : Nat → ClassId} {sq : Nat → Nat} {a0 : Nat} {fs : List Value} {Y : va_W} (C0 : k_cx p s m args c cX10_init 1 RX10 dC dI cy sq) (hin : meth.name = "<init>") (hA : ∀ q, H0.size ≤ q → A q) (hl : lv_has ls 1 [(0, .ref a0)]) (hlen : fs.length = 122) (hP : va_P (dC, dI) vwCl ((a0, .inr (10, fs)) :: Y) H) (hD : va_D A ((a0, .inr (10, fs)) :: Y)) (hS : va_S A H0 H locs) (h3 : cells + 1 ≤ R.cells) (h4 : slots + 4 ≤ R.slots) (kk : ∀ (q : Nat) (fs1 : List Value) (Y1 : va_W) (H1 : Heap) (locs1 : List Loc), fs1 = fs.set 41 (.ref q) → fs1.length = 122 → Y1 = Y ++ [(q, .inl (cy 0, 4, .inl (fun _ => 0)))] → va_P (dC, dI) vwCl ((a0, .inr (10, fs1)) :: Y1) H1 → va_D A ((a0, .inr (10, fs1)) :: Y1) → va_S A H0 H1 locs1 → W p l e R s m args below meth c H1 locs1 (cells + 1) (slots + 4) Q (F0 m 848 ls [])) : W p l e R s m args below meth c H locs cells slots Q (F0 m 841 ls []) := by
  have hx := C0.1
  have hb := C0.2.1
  refine lv_aload_n hx hb dk_dX10_init_830.2.2.2.2.2.2.2.1 rfl (lv_at hl 0 rfl) ?_
  refine lv_iconst (v := 4) hx hb dk_dX10_init_830_8.1 (by decide) ?_
  refine k_newa C0 0 (ty := .int) rfl (atype := .int) rfl wd12 hP hD hS hA (a0 := (4, .inl (fun _ => 0))) (fun _ => rfl) (by decide) (by decide) (Nat.le_of_ble_eq_true rfl) (cells + 1) (slots + 4) (Nat.le_refl _) (Nat.le_refl _) h3 h4 dk_dX10_init_830_8.2.1 (fun q H hP hD hS => ?_)
  refine k_putF C0 hin fp_X10_111 hP hD hS 0 rfl rfl rfl (Nat.lt_of_lt_of_eq (by decide) hlen.symm) dk_dX10_init_830_8.2.2.1 (fun H locs hP hD hS => ?_)
  exact kk q _ _ H locs rfl (by rw [List.length_set]; exact hlen) rfl hP hD hS
set_option maxHeartbeats 4000000 in
theorem mi_42 {p : Program} {l : Launch} {e : Env} {R : Room} {s : State} {m : MethodId} {args : Array Value} {below : List Frame} {meth : Method} {c : Code} {H : Heap} {locs : List Loc} {cells slots : Nat} {Q : State → Prop} {ls : Array Slot} {A : Nat → Prop} {H0 : Heap} {dC : Nat → ClassId} {dI : Nat → Nat → Nat} {cy : Nat → ClassId} {sq : Nat → Nat} {a0 : Nat} {fs : List Value} {Y : va_W} (C0 : k_cx p s m args c cX10_init 1 RX10 dC dI cy sq) (hin : meth.name = "<init>") (hA : ∀ q, H0.size ≤ q → A q) (hl : lv_has ls 1 [(0, .ref a0)]) (hlen : fs.length = 122) (hP : va_P (dC, dI) vwCl ((a0, .inr (10, fs)) :: Y) H) (hD : va_D A ((a0, .inr (10, fs)) :: Y)) (hS : va_S A H0 H locs) (h3 : cells + 1 ≤ R.cells) (h4 : slots + 48 ≤ R.slots) (kk : ∀ (q : Nat) (fs1 : List Value) (Y1 : va_W) (H1 : Heap) (locs1 : List Loc), fs1 = fs.set 42 (.ref q) → fs1.length = 122 → Y1 = Y ++ [(q, .inl (cy 1, 48, .inr (.inl (fun _ => 0))))] → va_P (dC, dI) vwCl ((a0, .inr (10, fs1)) :: Y1) H1 → va_D A ((a0, .inr (10, fs1)) :: Y1) → va_S A H0 H1 locs1 → W p l e R s m args below meth c H1 locs1 (cells + 1) (slots + 48) Q (F0 m 856 ls [])) : W p l e R s m args below meth c H locs cells slots Q (F0 m 848 ls []) := by
  have hx := C0.1
  have hb := C0.2.1
  refine lv_aload_n hx hb dk_dX10_init_830_8.2.2.2.1 rfl (lv_at hl 0 rfl) ?_
  refine lv_bipush (v := 48) hx hb dk_dX10_init_830_8.2.2.2.2.1 (by decide) ?_
  refine k_newa C0 1 (ty := .long) rfl (atype := .long) rfl wd193 hP hD hS hA (a0 := (48, .inr (.inl (fun _ => 0)))) (fun _ => rfl) (by decide) (by decide) (Nat.le_of_ble_eq_true rfl) (cells + 1) (slots + 48) (Nat.le_refl _) (Nat.le_refl _) h3 h4 dk_dX10_init_830_8.2.2.2.2.2.1 (fun q H hP hD hS => ?_)
  refine k_putF C0 hin fp_X10_114 hP hD hS 0 rfl rfl rfl (Nat.lt_of_lt_of_eq (by decide) hlen.symm) dk_dX10_init_830_8.2.2.2.2.2.2.1 (fun H locs hP hD hS => ?_)
  exact kk q _ _ H locs rfl (by rw [List.length_set]; exact hlen) rfl hP hD hS
set_option maxHeartbeats 4000000 in
theorem mi_43 {p : Program} {l : Launch} {e : Env} {R : Room} {s : State} {m : MethodId} {args : Array Value} {below : List Frame} {meth : Method} {c : Code} {H : Heap} {locs : List Loc} {cells slots : Nat} {Q : State → Prop} {ls : Array Slot} {A : Nat → Prop} {H0 : Heap} {dC : Nat → ClassId} {dI : Nat → Nat → Nat} {cy : Nat → ClassId} {sq : Nat → Nat} {a0 : Nat} {fs : List Value} {Y : va_W} (C0 : k_cx p s m args c cX10_init 1 RX10 dC dI cy sq) (hin : meth.name = "<init>") (hA : ∀ q, H0.size ≤ q → A q) (hl : lv_has ls 1 [(0, .ref a0)]) (hlen : fs.length = 122) (hP : va_P (dC, dI) vwCl ((a0, .inr (10, fs)) :: Y) H) (hD : va_D A ((a0, .inr (10, fs)) :: Y)) (hS : va_S A H0 H locs) (h3 : cells + 1 ≤ R.cells) (h4 : slots + 8 ≤ R.slots) (kk : ∀ (q : Nat) (fs1 : List Value) (Y1 : va_W) (H1 : Heap) (locs1 : List Loc), fs1 = fs.set 43 (.ref q) → fs1.length = 122 → Y1 = Y ++ [(q, .inl (cy 0, 8, .inl (fun _ => 0)))] → va_P (dC, dI) vwCl ((a0, .inr (10, fs1)) :: Y1) H1 → va_D A ((a0, .inr (10, fs1)) :: Y1) → va_S A H0 H1 locs1 → W p l e R s m args below meth c H1 locs1 (cells + 1) (slots + 8) Q (F0 m 864 ls [])) : W p l e R s m args below meth c H locs cells slots Q (F0 m 856 ls []) := by
  have hx := C0.1
  have hb := C0.2.1
  refine lv_aload_n hx hb dk_dX10_init_830_8.2.2.2.2.2.2.2.1 rfl (lv_at hl 0 rfl) ?_
  refine lv_bipush (v := 8) hx hb dk_dX10_init_857.1 (by decide) ?_
  refine k_newa C0 0 (ty := .int) rfl (atype := .int) rfl wd12 hP hD hS hA (a0 := (8, .inl (fun _ => 0))) (fun _ => rfl) (by decide) (by decide) (Nat.le_of_ble_eq_true rfl) (cells + 1) (slots + 8) (Nat.le_refl _) (Nat.le_refl _) h3 h4 dk_dX10_init_857.2.1 (fun q H hP hD hS => ?_)
  refine k_putF C0 hin fp_X10_118 hP hD hS 0 rfl rfl rfl (Nat.lt_of_lt_of_eq (by decide) hlen.symm) dk_dX10_init_857.2.2.1 (fun H locs hP hD hS => ?_)
  exact kk q _ _ H locs rfl (by rw [List.length_set]; exact hlen) rfl hP hD hS
set_option maxHeartbeats 4000000 in
theorem mi_44 {p : Program} {l : Launch} {e : Env} {R : Room} {s : State} {m : MethodId} {args : Array Value} {below : List Frame} {meth : Method} {c : Code} {H : Heap} {locs : List Loc} {cells slots : Nat} {Q : State → Prop} {ls : Array Slot} {A : Nat → Prop} {H0 : Heap} {dC : Nat → ClassId} {dI : Nat → Nat → Nat} {cy : Nat → ClassId} {sq : Nat → Nat} {a0 : Nat} {fs : List Value} {Y : va_W} (C0 : k_cx p s m args c cX10_init 1 RX10 dC dI cy sq) (hin : meth.name = "<init>") (hA : ∀ q, H0.size ≤ q → A q) (hl : lv_has ls 1 [(0, .ref a0)]) (hlen : fs.length = 122) (hP : va_P (dC, dI) vwCl ((a0, .inr (10, fs)) :: Y) H) (hD : va_D A ((a0, .inr (10, fs)) :: Y)) (hS : va_S A H0 H locs) (h3 : cells + 1 ≤ R.cells) (h4 : slots + 24 ≤ R.slots) (kk : ∀ (q : Nat) (fs1 : List Value) (Y1 : va_W) (H1 : Heap) (locs1 : List Loc), fs1 = fs.set 44 (.ref q) → fs1.length = 122 → Y1 = Y ++ [(q, .inl (cy 0, 24, .inl (fun _ => 0)))] → va_P (dC, dI) vwCl ((a0, .inr (10, fs1)) :: Y1) H1 → va_D A ((a0, .inr (10, fs1)) :: Y1) → va_S A H0 H1 locs1 → W p l e R s m args below meth c H1 locs1 (cells + 1) (slots + 24) Q (F0 m 872 ls [])) : W p l e R s m args below meth c H locs cells slots Q (F0 m 864 ls []) := by
  have hx := C0.1
  have hb := C0.2.1
  refine lv_aload_n hx hb dk_dX10_init_857.2.2.2.1 rfl (lv_at hl 0 rfl) ?_
  refine lv_bipush (v := 24) hx hb dk_dX10_init_857.2.2.2.2.1 (by decide) ?_
  refine k_newa C0 0 (ty := .int) rfl (atype := .int) rfl wd12 hP hD hS hA (a0 := (24, .inl (fun _ => 0))) (fun _ => rfl) (by decide) (by decide) (Nat.le_of_ble_eq_true rfl) (cells + 1) (slots + 24) (Nat.le_refl _) (Nat.le_refl _) h3 h4 dk_dX10_init_857.2.2.2.2.2.1 (fun q H hP hD hS => ?_)
  refine k_putF C0 hin fp_X10_121 hP hD hS 0 rfl rfl rfl (Nat.lt_of_lt_of_eq (by decide) hlen.symm) dk_dX10_init_857.2.2.2.2.2.2.1 (fun H locs hP hD hS => ?_)
  exact kk q _ _ H locs rfl (by rw [List.length_set]; exact hlen) rfl hP hD hS
set_option maxHeartbeats 4000000 in
theorem mi_45 {p : Program} {l : Launch} {e : Env} {R : Room} {s : State} {m : MethodId} {args : Array Value} {below : List Frame} {meth : Method} {c : Code} {H : Heap} {locs : List Loc} {cells slots : Nat} {Q : State → Prop} {ls : Array Slot} {A : Nat → Prop} {H0 : Heap} {dC : Nat → ClassId} {dI : Nat → Nat → Nat} {cy : Nat → ClassId} {sq : Nat → Nat} {a0 : Nat} {fs : List Value} {Y : va_W} (C0 : k_cx p s m args c cX10_init 1 RX10 dC dI cy sq) (hin : meth.name = "<init>") (hA : ∀ q, H0.size ≤ q → A q) (hl : lv_has ls 1 [(0, .ref a0)]) (hlen : fs.length = 122) (hP : va_P (dC, dI) vwCl ((a0, .inr (10, fs)) :: Y) H) (hD : va_D A ((a0, .inr (10, fs)) :: Y)) (hS : va_S A H0 H locs) (h3 : cells + 1 ≤ R.cells) (h4 : slots + 6 ≤ R.slots) (kk : ∀ (q : Nat) (fs1 : List Value) (Y1 : va_W) (H1 : Heap) (locs1 : List Loc), fs1 = fs.set 45 (.ref q) → fs1.length = 122 → Y1 = Y ++ [(q, .inl (cy 0, 6, .inl (fun _ => 0)))] → va_P (dC, dI) vwCl ((a0, .inr (10, fs1)) :: Y1) H1 → va_D A ((a0, .inr (10, fs1)) :: Y1) → va_S A H0 H1 locs1 → W p l e R s m args below meth c H1 locs1 (cells + 1) (slots + 6) Q (F0 m 880 ls [])) : W p l e R s m args below meth c H locs cells slots Q (F0 m 872 ls []) := by
  have hx := C0.1
  have hb := C0.2.1
  refine lv_aload_n hx hb dk_dX10_init_857.2.2.2.2.2.2.2.1 rfl (lv_at hl 0 rfl) ?_
  refine lv_bipush (v := 6) hx hb dk_dX10_init_857_8.1 (by decide) ?_
  refine k_newa C0 0 (ty := .int) rfl (atype := .int) rfl wd12 hP hD hS hA (a0 := (6, .inl (fun _ => 0))) (fun _ => rfl) (by decide) (by decide) (Nat.le_of_ble_eq_true rfl) (cells + 1) (slots + 6) (Nat.le_refl _) (Nat.le_refl _) h3 h4 dk_dX10_init_857_8.2.1 (fun q H hP hD hS => ?_)
  refine k_putF C0 hin fp_X10_124 hP hD hS 0 rfl rfl rfl (Nat.lt_of_lt_of_eq (by decide) hlen.symm) dk_dX10_init_857_8.2.2.1 (fun H locs hP hD hS => ?_)
  exact kk q _ _ H locs rfl (by rw [List.length_set]; exact hlen) rfl hP hD hS
set_option maxHeartbeats 4000000 in
theorem mi_46 {p : Program} {l : Launch} {e : Env} {R : Room} {s : State} {m : MethodId} {args : Array Value} {below : List Frame} {meth : Method} {c : Code} {H : Heap} {locs : List Loc} {cells slots : Nat} {Q : State → Prop} {ls : Array Slot} {A : Nat → Prop} {H0 : Heap} {dC : Nat → ClassId} {dI : Nat → Nat → Nat} {cy : Nat → ClassId} {sq : Nat → Nat} {a0 : Nat} {fs : List Value} {Y : va_W} (C0 : k_cx p s m args c cX10_init 1 RX10 dC dI cy sq) (hin : meth.name = "<init>") (hA : ∀ q, H0.size ≤ q → A q) (hl : lv_has ls 1 [(0, .ref a0)]) (hlen : fs.length = 122) (hP : va_P (dC, dI) vwCl ((a0, .inr (10, fs)) :: Y) H) (hD : va_D A ((a0, .inr (10, fs)) :: Y)) (hS : va_S A H0 H locs) (h3 : cells + 1 ≤ R.cells) (h4 : slots + 48 ≤ R.slots) (kk : ∀ (q : Nat) (fs1 : List Value) (Y1 : va_W) (H1 : Heap) (locs1 : List Loc), fs1 = fs.set 46 (.ref q) → fs1.length = 122 → Y1 = Y ++ [(q, .inl (cy 0, 48, .inl (fun _ => 0)))] → va_P (dC, dI) vwCl ((a0, .inr (10, fs1)) :: Y1) H1 → va_D A ((a0, .inr (10, fs1)) :: Y1) → va_S A H0 H1 locs1 → W p l e R s m args below meth c H1 locs1 (cells + 1) (slots + 48) Q (F0 m 888 ls [])) : W p l e R s m args below meth c H locs cells slots Q (F0 m 880 ls []) := by
  have hx := C0.1
  have hb := C0.2.1
  refine lv_aload_n hx hb dk_dX10_init_857_8.2.2.2.1 rfl (lv_at hl 0 rfl) ?_
  refine lv_bipush (v := 48) hx hb dk_dX10_init_857_8.2.2.2.2.1 (by decide) ?_
  refine k_newa C0 0 (ty := .int) rfl (atype := .int) rfl wd12 hP hD hS hA (a0 := (48, .inl (fun _ => 0))) (fun _ => rfl) (by decide) (by decide) (Nat.le_of_ble_eq_true rfl) (cells + 1) (slots + 48) (Nat.le_refl _) (Nat.le_refl _) h3 h4 dk_dX10_init_857_8.2.2.2.2.2.1 (fun q H hP hD hS => ?_)
  refine k_putF C0 hin fp_X10_127 hP hD hS 0 rfl rfl rfl (Nat.lt_of_lt_of_eq (by decide) hlen.symm) dk_dX10_init_857_8.2.2.2.2.2.2.1 (fun H locs hP hD hS => ?_)
  exact kk q _ _ H locs rfl (by rw [List.length_set]; exact hlen) rfl hP hD hS
set_option maxHeartbeats 4000000 in
theorem mi_49 {p : Program} {l : Launch} {e : Env} {R : Room} {s : State} {m : MethodId} {args : Array Value} {below : List Frame} {meth : Method} {c : Code} {H : Heap} {locs : List Loc} {cells slots : Nat} {Q : State → Prop} {ls : Array Slot} {A : Nat → Prop} {H0 : Heap} {dC : Nat → ClassId} {dI : Nat → Nat → Nat} {cy : Nat → ClassId} {sq : Nat → Nat} {a0 : Nat} {fs : List Value} {Y : va_W} (C0 : k_cx p s m args c cX10_init 1 RX10 dC dI cy sq) (hin : meth.name = "<init>") (hA : ∀ q, H0.size ≤ q → A q) (hl : lv_has ls 1 [(0, .ref a0)]) (hlen : fs.length = 122) (hP : va_P (dC, dI) vwCl ((a0, .inr (10, fs)) :: Y) H) (hD : va_D A ((a0, .inr (10, fs)) :: Y)) (hS : va_S A H0 H locs) (h3 : cells + 1 ≤ R.cells) (h4 : slots + 6 ≤ R.slots) (kk : ∀ (q : Nat) (g : Nat → Int32) (fs1 : List Value) (Y1 : va_W) (H1 : Heap) (locs1 : List Loc), (∀ k, k < 6 → g k = -1) → fs1 = fs.set 49 (.ref q) → fs1.length = 122 → Y1 = Y ++ [(q, .inl (cy 0, 6, .inl g))] → va_P (dC, dI) vwCl ((a0, .inr (10, fs1)) :: Y1) H1 → va_D A ((a0, .inr (10, fs1)) :: Y1) → va_S A H0 H1 locs1 → W p l e R s m args below meth c H1 locs1 (cells + 1) (slots + 6) Q (F0 m 920 ls [])) : W p l e R s m args below meth c H locs cells slots Q (F0 m 888 ls []) := by
  have hx := C0.1
  have hb := C0.2.1
  refine lv_aload_n hx hb dk_dX10_init_857_8.2.2.2.2.2.2.2.1 rfl (lv_at hl 0 rfl) ?_
  refine lv_bipush (v := 6) hx hb dk_dX10_init_889.1 (by decide) ?_
  refine k_newa C0 0 (ty := .int) rfl (atype := .int) rfl wd12 hP hD hS hA (a0 := (6, .inl (fun _ => 0))) (fun _ => rfl) (by decide) (by decide) (Nat.le_of_ble_eq_true rfl) (cells + 1) (slots + 6) (Nat.le_refl _) (Nat.le_refl _) h3 h4 dk_dX10_init_889.2.1 (fun q H hP hD hS => ?_)
  refine lv_dup hx hb dk_dX10_init_889.2.2.1 rfl ?_
  refine lv_iconst (v := 0) hx hb dk_dX10_init_889.2.2.2.1 (by decide) ?_
  refine lv_iconst (v := (-1)) hx hb dk_dX10_init_889.2.2.2.2.1 (by decide) ?_
  refine k_iastU C0 hP hD hS (k_in 0 6 (by decide)) dk_dX10_init_889.2.2.2.2.2.1 (fun g3 H locs e3 hP hD hS => ?_)
  refine lv_dup hx hb dk_dX10_init_889.2.2.2.2.2.2.1 rfl ?_
  refine lv_iconst (v := 1) hx hb dk_dX10_init_889.2.2.2.2.2.2.2.1 (by decide) ?_
  refine lv_iconst (v := (-1)) hx hb dk_dX10_init_889_8.1 (by decide) ?_
  refine k_iastU C0 hP hD hS (k_in 1 6 (by decide)) dk_dX10_init_889_8.2.1 (fun g7 H locs e7 hP hD hS => ?_)
  refine lv_dup hx hb dk_dX10_init_889_8.2.2.1 rfl ?_
  refine lv_iconst (v := 2) hx hb dk_dX10_init_889_8.2.2.2.1 (by decide) ?_
  refine lv_iconst (v := (-1)) hx hb dk_dX10_init_889_8.2.2.2.2.1 (by decide) ?_
  refine k_iastU C0 hP hD hS (k_in 2 6 (by decide)) dk_dX10_init_889_8.2.2.2.2.2.1 (fun g11 H locs e11 hP hD hS => ?_)
  refine lv_dup hx hb dk_dX10_init_889_8.2.2.2.2.2.2.1 rfl ?_
  refine lv_iconst (v := 3) hx hb dk_dX10_init_889_8.2.2.2.2.2.2.2.1 (by decide) ?_
  refine lv_iconst (v := (-1)) hx hb dk_dX10_init_907.1 (by decide) ?_
  refine k_iastU C0 hP hD hS (k_in 3 6 (by decide)) dk_dX10_init_907.2.1 (fun g15 H locs e15 hP hD hS => ?_)
  refine lv_dup hx hb dk_dX10_init_907.2.2.1 rfl ?_
  refine lv_iconst (v := 4) hx hb dk_dX10_init_907.2.2.2.1 (by decide) ?_
  refine lv_iconst (v := (-1)) hx hb dk_dX10_init_907.2.2.2.2.1 (by decide) ?_
  refine k_iastU C0 hP hD hS (k_in 4 6 (by decide)) dk_dX10_init_907.2.2.2.2.2.1 (fun g19 H locs e19 hP hD hS => ?_)
  refine lv_dup hx hb dk_dX10_init_907.2.2.2.2.2.2.1 rfl ?_
  refine lv_iconst (v := 5) hx hb dk_dX10_init_907.2.2.2.2.2.2.2.1 (by decide) ?_
  refine lv_iconst (v := (-1)) hx hb dk_dX10_init_907_8.1 (by decide) ?_
  refine k_iastU C0 hP hD hS (k_in 5 6 (by decide)) dk_dX10_init_907_8.2.1 (fun g23 H locs e23 hP hD hS => ?_)
  refine k_putF C0 hin fp_X10_130 hP hD hS 0 rfl rfl rfl (Nat.lt_of_lt_of_eq (by decide) hlen.symm) dk_dX10_init_907_8.2.2.1 (fun H locs hP hD hS => ?_)
  have hg : ∀ k, k < 6 → g23 k = -1 := by
    subst e23 e19 e15 e11 e7 e3
    decide +kernel
  exact kk q g23 _ _ H locs hg rfl (by rw [List.length_set]; exact hlen) rfl hP hD hS
set_option maxHeartbeats 4000000 in
theorem mi_50 {p : Program} {l : Launch} {e : Env} {R : Room} {s : State} {m : MethodId} {args : Array Value} {below : List Frame} {meth : Method} {c : Code} {H : Heap} {locs : List Loc} {cells slots : Nat} {Q : State → Prop} {ls : Array Slot} {A : Nat → Prop} {H0 : Heap} {dC : Nat → ClassId} {dI : Nat → Nat → Nat} {cy : Nat → ClassId} {sq : Nat → Nat} {a0 : Nat} {fs : List Value} {Y : va_W} (C0 : k_cx p s m args c cX10_init 1 RX10 dC dI cy sq) (hin : meth.name = "<init>") (hA : ∀ q, H0.size ≤ q → A q) (hl : lv_has ls 1 [(0, .ref a0)]) (hlen : fs.length = 122) (hP : va_P (dC, dI) vwCl ((a0, .inr (10, fs)) :: Y) H) (hD : va_D A ((a0, .inr (10, fs)) :: Y)) (hS : va_S A H0 H locs) (h3 : cells + 1 ≤ R.cells) (h4 : slots + 6 ≤ R.slots) (kk : ∀ (q : Nat) (fs1 : List Value) (Y1 : va_W) (H1 : Heap) (locs1 : List Loc), fs1 = fs.set 50 (.ref q) → fs1.length = 122 → Y1 = Y ++ [(q, .inl (cy 0, 6, .inl (fun _ => 0)))] → va_P (dC, dI) vwCl ((a0, .inr (10, fs1)) :: Y1) H1 → va_D A ((a0, .inr (10, fs1)) :: Y1) → va_S A H0 H1 locs1 → W p l e R s m args below meth c H1 locs1 (cells + 1) (slots + 6) Q (F0 m 928 ls [])) : W p l e R s m args below meth c H locs cells slots Q (F0 m 920 ls []) := by
  have hx := C0.1
  have hb := C0.2.1
  refine lv_aload_n hx hb dk_dX10_init_907_8.2.2.2.1 rfl (lv_at hl 0 rfl) ?_
  refine lv_bipush (v := 6) hx hb dk_dX10_init_907_8.2.2.2.2.1 (by decide) ?_
  refine k_newa C0 0 (ty := .int) rfl (atype := .int) rfl wd12 hP hD hS hA (a0 := (6, .inl (fun _ => 0))) (fun _ => rfl) (by decide) (by decide) (Nat.le_of_ble_eq_true rfl) (cells + 1) (slots + 6) (Nat.le_refl _) (Nat.le_refl _) h3 h4 dk_dX10_init_907_8.2.2.2.2.2.1 (fun q H hP hD hS => ?_)
  refine k_putF C0 hin fp_X10_133 hP hD hS 0 rfl rfl rfl (Nat.lt_of_lt_of_eq (by decide) hlen.symm) dk_dX10_init_907_8.2.2.2.2.2.2.1 (fun H locs hP hD hS => ?_)
  exact kk q _ _ H locs rfl (by rw [List.length_set]; exact hlen) rfl hP hD hS
set_option maxHeartbeats 4000000 in
theorem mi_51 {p : Program} {l : Launch} {e : Env} {R : Room} {s : State} {m : MethodId} {args : Array Value} {below : List Frame} {meth : Method} {c : Code} {H : Heap} {locs : List Loc} {cells slots : Nat} {Q : State → Prop} {ls : Array Slot} {A : Nat → Prop} {H0 : Heap} {dC : Nat → ClassId} {dI : Nat → Nat → Nat} {cy : Nat → ClassId} {sq : Nat → Nat} {a0 : Nat} {fs : List Value} {Y : va_W} (C0 : k_cx p s m args c cX10_init 1 RX10 dC dI cy sq) (hin : meth.name = "<init>") (hA : ∀ q, H0.size ≤ q → A q) (hl : lv_has ls 1 [(0, .ref a0)]) (hlen : fs.length = 122) (hP : va_P (dC, dI) vwCl ((a0, .inr (10, fs)) :: Y) H) (hD : va_D A ((a0, .inr (10, fs)) :: Y)) (hS : va_S A H0 H locs) (h3 : cells + 1 ≤ R.cells) (h4 : slots + 3200 ≤ R.slots) (kk : ∀ (q : Nat) (fs1 : List Value) (Y1 : va_W) (H1 : Heap) (locs1 : List Loc), fs1 = fs.set 51 (.ref q) → fs1.length = 122 → Y1 = Y ++ [(q, .inl (cy 0, 3200, .inl (fun _ => 0)))] → va_P (dC, dI) vwCl ((a0, .inr (10, fs1)) :: Y1) H1 → va_D A ((a0, .inr (10, fs1)) :: Y1) → va_S A H0 H1 locs1 → W p l e R s m args below meth c H1 locs1 (cells + 1) (slots + 3200) Q (F0 m 937 ls [])) : W p l e R s m args below meth c H locs cells slots Q (F0 m 928 ls []) := by
  have hx := C0.1
  have hb := C0.2.1
  refine lv_aload_n hx hb dk_dX10_init_907_8.2.2.2.2.2.2.2.1 rfl (lv_at hl 0 rfl) ?_
  refine lv_sipush (v := 3200) hx hb dk_dX10_init_929.1 (by decide) ?_
  refine k_newa C0 0 (ty := .int) rfl (atype := .int) rfl wd12 hP hD hS hA (a0 := (3200, .inl (fun _ => 0))) (fun _ => rfl) (by decide) (by decide) (Nat.le_of_ble_eq_true rfl) (cells + 1) (slots + 3200) (Nat.le_refl _) (Nat.le_refl _) h3 h4 dk_dX10_init_929.2.1 (fun q H hP hD hS => ?_)
  refine k_putF C0 hin fp_X10_136 hP hD hS 0 rfl rfl rfl (Nat.lt_of_lt_of_eq (by decide) hlen.symm) dk_dX10_init_929.2.2.1 (fun H locs hP hD hS => ?_)
  exact kk q _ _ H locs rfl (by rw [List.length_set]; exact hlen) rfl hP hD hS
set_option maxHeartbeats 4000000 in
theorem mi_56 {p : Program} {l : Launch} {e : Env} {R : Room} {s : State} {m : MethodId} {args : Array Value} {below : List Frame} {meth : Method} {c : Code} {H : Heap} {locs : List Loc} {cells slots : Nat} {Q : State → Prop} {ls : Array Slot} {A : Nat → Prop} {H0 : Heap} {dC : Nat → ClassId} {dI : Nat → Nat → Nat} {cy : Nat → ClassId} {sq : Nat → Nat} {a0 : Nat} {fs : List Value} {Y : va_W} (C0 : k_cx p s m args c cX10_init 1 RX10 dC dI cy sq) (hin : meth.name = "<init>") (hA : ∀ q, H0.size ≤ q → A q) (hl : lv_has ls 1 [(0, .ref a0)]) (hlen : fs.length = 122) (hP : va_P (dC, dI) vwCl ((a0, .inr (10, fs)) :: Y) H) (hD : va_D A ((a0, .inr (10, fs)) :: Y)) (hS : va_S A H0 H locs) (h3 : cells + 1 ≤ R.cells) (h4 : slots + 9 ≤ R.slots) (kk : ∀ (q : Nat) (fs1 : List Value) (Y1 : va_W) (H1 : Heap) (locs1 : List Loc), fs1 = fs.set 56 (.ref q) → fs1.length = 122 → Y1 = Y ++ [(q, .inl (cy 0, 9, .inl (fun _ => 0)))] → va_P (dC, dI) vwCl ((a0, .inr (10, fs1)) :: Y1) H1 → va_D A ((a0, .inr (10, fs1)) :: Y1) → va_S A H0 H1 locs1 → W p l e R s m args below meth c H1 locs1 (cells + 1) (slots + 9) Q (F0 m 945 ls [])) : W p l e R s m args below meth c H locs cells slots Q (F0 m 937 ls []) := by
  have hx := C0.1
  have hb := C0.2.1
  refine lv_aload_n hx hb dk_dX10_init_929.2.2.2.1 rfl (lv_at hl 0 rfl) ?_
  refine lv_bipush (v := 9) hx hb dk_dX10_init_929.2.2.2.2.1 (by decide) ?_
  refine k_newa C0 0 (ty := .int) rfl (atype := .int) rfl wd12 hP hD hS hA (a0 := (9, .inl (fun _ => 0))) (fun _ => rfl) (by decide) (by decide) (Nat.le_of_ble_eq_true rfl) (cells + 1) (slots + 9) (Nat.le_refl _) (Nat.le_refl _) h3 h4 dk_dX10_init_929.2.2.2.2.2.1 (fun q H hP hD hS => ?_)
  refine k_putF C0 hin fp_X10_139 hP hD hS 0 rfl rfl rfl (Nat.lt_of_lt_of_eq (by decide) hlen.symm) dk_dX10_init_929.2.2.2.2.2.2.1 (fun H locs hP hD hS => ?_)
  exact kk q _ _ H locs rfl (by rw [List.length_set]; exact hlen) rfl hP hD hS
set_option maxHeartbeats 4000000 in
theorem mi_57 {p : Program} {l : Launch} {e : Env} {R : Room} {s : State} {m : MethodId} {args : Array Value} {below : List Frame} {meth : Method} {c : Code} {H : Heap} {locs : List Loc} {cells slots : Nat} {Q : State → Prop} {ls : Array Slot} {A : Nat → Prop} {H0 : Heap} {dC : Nat → ClassId} {dI : Nat → Nat → Nat} {cy : Nat → ClassId} {sq : Nat → Nat} {a0 : Nat} {fs : List Value} {Y : va_W} (C0 : k_cx p s m args c cX10_init 1 RX10 dC dI cy sq) (hin : meth.name = "<init>") (hA : ∀ q, H0.size ≤ q → A q) (hl : lv_has ls 1 [(0, .ref a0)]) (hlen : fs.length = 122) (hP : va_P (dC, dI) vwCl ((a0, .inr (10, fs)) :: Y) H) (hD : va_D A ((a0, .inr (10, fs)) :: Y)) (hS : va_S A H0 H locs) (h3 : cells + 1 ≤ R.cells) (h4 : slots + 9 ≤ R.slots) (kk : ∀ (q : Nat) (fs1 : List Value) (Y1 : va_W) (H1 : Heap) (locs1 : List Loc), fs1 = fs.set 57 (.ref q) → fs1.length = 122 → Y1 = Y ++ [(q, .inl (cy 0, 9, .inl (fun _ => 0)))] → va_P (dC, dI) vwCl ((a0, .inr (10, fs1)) :: Y1) H1 → va_D A ((a0, .inr (10, fs1)) :: Y1) → va_S A H0 H1 locs1 → W p l e R s m args below meth c H1 locs1 (cells + 1) (slots + 9) Q (F0 m 953 ls [])) : W p l e R s m args below meth c H locs cells slots Q (F0 m 945 ls []) := by
  have hx := C0.1
  have hb := C0.2.1
  refine lv_aload_n hx hb dk_dX10_init_929.2.2.2.2.2.2.2.1 rfl (lv_at hl 0 rfl) ?_
  refine lv_bipush (v := 9) hx hb dk_dX10_init_929_8.1 (by decide) ?_
  refine k_newa C0 0 (ty := .int) rfl (atype := .int) rfl wd12 hP hD hS hA (a0 := (9, .inl (fun _ => 0))) (fun _ => rfl) (by decide) (by decide) (Nat.le_of_ble_eq_true rfl) (cells + 1) (slots + 9) (Nat.le_refl _) (Nat.le_refl _) h3 h4 dk_dX10_init_929_8.2.1 (fun q H hP hD hS => ?_)
  refine k_putF C0 hin fp_X10_142 hP hD hS 0 rfl rfl rfl (Nat.lt_of_lt_of_eq (by decide) hlen.symm) dk_dX10_init_929_8.2.2.1 (fun H locs hP hD hS => ?_)
  exact kk q _ _ H locs rfl (by rw [List.length_set]; exact hlen) rfl hP hD hS
set_option maxHeartbeats 4000000 in
theorem mi_60 {p : Program} {l : Launch} {e : Env} {R : Room} {s : State} {m : MethodId} {args : Array Value} {below : List Frame} {meth : Method} {c : Code} {H : Heap} {locs : List Loc} {cells slots : Nat} {Q : State → Prop} {ls : Array Slot} {A : Nat → Prop} {H0 : Heap} {dC : Nat → ClassId} {dI : Nat → Nat → Nat} {cy : Nat → ClassId} {sq : Nat → Nat} {a0 : Nat} {fs : List Value} {Y : va_W} (C0 : k_cx p s m args c cX10_init 1 RX10 dC dI cy sq) (hin : meth.name = "<init>") (hA : ∀ q, H0.size ≤ q → A q) (hl : lv_has ls 1 [(0, .ref a0)]) (hlen : fs.length = 122) (hP : va_P (dC, dI) vwCl ((a0, .inr (10, fs)) :: Y) H) (hD : va_D A ((a0, .inr (10, fs)) :: Y)) (hS : va_S A H0 H locs) (h3 : cells + 1 ≤ R.cells) (h4 : slots + 320 ≤ R.slots) (kk : ∀ (q : Nat) (fs1 : List Value) (Y1 : va_W) (H1 : Heap) (locs1 : List Loc), fs1 = fs.set 60 (.ref q) → fs1.length = 122 → Y1 = Y ++ [(q, .inl (cy 3, 320, .inl (fun _ => 0)))] → va_P (dC, dI) vwCl ((a0, .inr (10, fs1)) :: Y1) H1 → va_D A ((a0, .inr (10, fs1)) :: Y1) → va_S A H0 H1 locs1 → W p l e R s m args below meth c H1 locs1 (cells + 1) (slots + 320) Q (F0 m 962 ls [])) : W p l e R s m args below meth c H locs cells slots Q (F0 m 953 ls []) := by
  have hx := C0.1
  have hb := C0.2.1
  refine lv_aload_n hx hb dk_dX10_init_929_8.2.2.2.1 rfl (lv_at hl 0 rfl) ?_
  refine lv_sipush (v := 320) hx hb dk_dX10_init_929_8.2.2.2.2.1 (by decide) ?_
  refine k_newa C0 3 (ty := .boolean) rfl (atype := .boolean) rfl wd204 hP hD hS hA (a0 := (320, .inl (fun _ => 0))) (fun _ => rfl) (by decide) (by decide) (Nat.le_of_ble_eq_true rfl) (cells + 1) (slots + 320) (Nat.le_refl _) (Nat.le_refl _) h3 h4 dk_dX10_init_929_8.2.2.2.2.2.1 (fun q H hP hD hS => ?_)
  refine k_putF C0 hin fp_X10_145 hP hD hS 0 rfl rfl rfl (Nat.lt_of_lt_of_eq (by decide) hlen.symm) dk_dX10_init_929_8.2.2.2.2.2.2.1 (fun H locs hP hD hS => ?_)
  exact kk q _ _ H locs rfl (by rw [List.length_set]; exact hlen) rfl hP hD hS
set_option maxHeartbeats 4000000 in
theorem mi_61 {p : Program} {l : Launch} {e : Env} {R : Room} {s : State} {m : MethodId} {args : Array Value} {below : List Frame} {meth : Method} {c : Code} {H : Heap} {locs : List Loc} {cells slots : Nat} {Q : State → Prop} {ls : Array Slot} {A : Nat → Prop} {H0 : Heap} {dC : Nat → ClassId} {dI : Nat → Nat → Nat} {cy : Nat → ClassId} {sq : Nat → Nat} {a0 : Nat} {fs : List Value} {Y : va_W} (C0 : k_cx p s m args c cX10_init 1 RX10 dC dI cy sq) (hin : meth.name = "<init>") (hA : ∀ q, H0.size ≤ q → A q) (hl : lv_has ls 1 [(0, .ref a0)]) (hlen : fs.length = 122) (hP : va_P (dC, dI) vwCl ((a0, .inr (10, fs)) :: Y) H) (hD : va_D A ((a0, .inr (10, fs)) :: Y)) (hS : va_S A H0 H locs) (h3 : cells + 1 ≤ R.cells) (h4 : slots + 300 ≤ R.slots) (kk : ∀ (q : Nat) (fs1 : List Value) (Y1 : va_W) (H1 : Heap) (locs1 : List Loc), fs1 = fs.set 61 (.ref q) → fs1.length = 122 → Y1 = Y ++ [(q, .inl (cy 0, 300, .inl (fun _ => 0)))] → va_P (dC, dI) vwCl ((a0, .inr (10, fs1)) :: Y1) H1 → va_D A ((a0, .inr (10, fs1)) :: Y1) → va_S A H0 H1 locs1 → W p l e R s m args below meth c H1 locs1 (cells + 1) (slots + 300) Q (F0 m 971 ls [])) : W p l e R s m args below meth c H locs cells slots Q (F0 m 962 ls []) := by
  have hx := C0.1
  have hb := C0.2.1
  refine lv_aload_n hx hb dk_dX10_init_929_8.2.2.2.2.2.2.2.1 rfl (lv_at hl 0 rfl) ?_
  refine lv_sipush (v := 300) hx hb dk_dX10_init_963.1 (by decide) ?_
  refine k_newa C0 0 (ty := .int) rfl (atype := .int) rfl wd12 hP hD hS hA (a0 := (300, .inl (fun _ => 0))) (fun _ => rfl) (by decide) (by decide) (Nat.le_of_ble_eq_true rfl) (cells + 1) (slots + 300) (Nat.le_refl _) (Nat.le_refl _) h3 h4 dk_dX10_init_963.2.1 (fun q H hP hD hS => ?_)
  refine k_putF C0 hin fp_X10_149 hP hD hS 0 rfl rfl rfl (Nat.lt_of_lt_of_eq (by decide) hlen.symm) dk_dX10_init_963.2.2.1 (fun H locs hP hD hS => ?_)
  exact kk q _ _ H locs rfl (by rw [List.length_set]; exact hlen) rfl hP hD hS
set_option maxHeartbeats 4000000 in
theorem mi_62 {p : Program} {l : Launch} {e : Env} {R : Room} {s : State} {m : MethodId} {args : Array Value} {below : List Frame} {meth : Method} {c : Code} {H : Heap} {locs : List Loc} {cells slots : Nat} {Q : State → Prop} {ls : Array Slot} {A : Nat → Prop} {H0 : Heap} {dC : Nat → ClassId} {dI : Nat → Nat → Nat} {cy : Nat → ClassId} {sq : Nat → Nat} {a0 : Nat} {fs : List Value} {Y : va_W} (C0 : k_cx p s m args c cX10_init 1 RX10 dC dI cy sq) (hin : meth.name = "<init>") (hA : ∀ q, H0.size ≤ q → A q) (hl : lv_has ls 1 [(0, .ref a0)]) (hlen : fs.length = 122) (hP : va_P (dC, dI) vwCl ((a0, .inr (10, fs)) :: Y) H) (hD : va_D A ((a0, .inr (10, fs)) :: Y)) (hS : va_S A H0 H locs) (h3 : cells + 1 ≤ R.cells) (h4 : slots + 300 ≤ R.slots) (kk : ∀ (q : Nat) (fs1 : List Value) (Y1 : va_W) (H1 : Heap) (locs1 : List Loc), fs1 = fs.set 62 (.ref q) → fs1.length = 122 → Y1 = Y ++ [(q, .inl (cy 3, 300, .inl (fun _ => 0)))] → va_P (dC, dI) vwCl ((a0, .inr (10, fs1)) :: Y1) H1 → va_D A ((a0, .inr (10, fs1)) :: Y1) → va_S A H0 H1 locs1 → W p l e R s m args below meth c H1 locs1 (cells + 1) (slots + 300) Q (F0 m 980 ls [])) : W p l e R s m args below meth c H locs cells slots Q (F0 m 971 ls []) := by
  have hx := C0.1
  have hb := C0.2.1
  refine lv_aload_n hx hb dk_dX10_init_963.2.2.2.1 rfl (lv_at hl 0 rfl) ?_
  refine lv_sipush (v := 300) hx hb dk_dX10_init_963.2.2.2.2.1 (by decide) ?_
  refine k_newa C0 3 (ty := .boolean) rfl (atype := .boolean) rfl wd204 hP hD hS hA (a0 := (300, .inl (fun _ => 0))) (fun _ => rfl) (by decide) (by decide) (Nat.le_of_ble_eq_true rfl) (cells + 1) (slots + 300) (Nat.le_refl _) (Nat.le_refl _) h3 h4 dk_dX10_init_963.2.2.2.2.2.1 (fun q H hP hD hS => ?_)
  refine k_putF C0 hin fp_X10_152 hP hD hS 0 rfl rfl rfl (Nat.lt_of_lt_of_eq (by decide) hlen.symm) dk_dX10_init_963.2.2.2.2.2.2.1 (fun H locs hP hD hS => ?_)
  exact kk q _ _ H locs rfl (by rw [List.length_set]; exact hlen) rfl hP hD hS
set_option maxHeartbeats 4000000 in
theorem mi_63 {p : Program} {l : Launch} {e : Env} {R : Room} {s : State} {m : MethodId} {args : Array Value} {below : List Frame} {meth : Method} {c : Code} {H : Heap} {locs : List Loc} {cells slots : Nat} {Q : State → Prop} {ls : Array Slot} {A : Nat → Prop} {H0 : Heap} {dC : Nat → ClassId} {dI : Nat → Nat → Nat} {cy : Nat → ClassId} {sq : Nat → Nat} {a0 : Nat} {fs : List Value} {Y : va_W} (C0 : k_cx p s m args c cX10_init 1 RX10 dC dI cy sq) (hin : meth.name = "<init>") (hA : ∀ q, H0.size ≤ q → A q) (hl : lv_has ls 1 [(0, .ref a0)]) (hlen : fs.length = 122) (hP : va_P (dC, dI) vwCl ((a0, .inr (10, fs)) :: Y) H) (hD : va_D A ((a0, .inr (10, fs)) :: Y)) (hS : va_S A H0 H locs) (h3 : cells + 1 ≤ R.cells) (h4 : slots + 12 ≤ R.slots) (kk : ∀ (q : Nat) (fs1 : List Value) (Y1 : va_W) (H1 : Heap) (locs1 : List Loc), fs1 = fs.set 63 (.ref q) → fs1.length = 122 → Y1 = Y ++ [(q, .inl (cy 3, 12, .inl (fun _ => 0)))] → va_P (dC, dI) vwCl ((a0, .inr (10, fs1)) :: Y1) H1 → va_D A ((a0, .inr (10, fs1)) :: Y1) → va_S A H0 H1 locs1 → W p l e R s m args below meth c H1 locs1 (cells + 1) (slots + 12) Q (F0 m 988 ls [])) : W p l e R s m args below meth c H locs cells slots Q (F0 m 980 ls []) := by
  have hx := C0.1
  have hb := C0.2.1
  refine lv_aload_n hx hb dk_dX10_init_963.2.2.2.2.2.2.2.1 rfl (lv_at hl 0 rfl) ?_
  refine lv_bipush (v := 12) hx hb dk_dX10_init_963_8.1 (by decide) ?_
  refine k_newa C0 3 (ty := .boolean) rfl (atype := .boolean) rfl wd204 hP hD hS hA (a0 := (12, .inl (fun _ => 0))) (fun _ => rfl) (by decide) (by decide) (Nat.le_of_ble_eq_true rfl) (cells + 1) (slots + 12) (Nat.le_refl _) (Nat.le_refl _) h3 h4 dk_dX10_init_963_8.2.1 (fun q H hP hD hS => ?_)
  refine k_putF C0 hin fp_X10_155 hP hD hS 0 rfl rfl rfl (Nat.lt_of_lt_of_eq (by decide) hlen.symm) dk_dX10_init_963_8.2.2.1 (fun H locs hP hD hS => ?_)
  exact kk q _ _ H locs rfl (by rw [List.length_set]; exact hlen) rfl hP hD hS
set_option maxHeartbeats 4000000 in
theorem mi_64 {p : Program} {l : Launch} {e : Env} {R : Room} {s : State} {m : MethodId} {args : Array Value} {below : List Frame} {meth : Method} {c : Code} {H : Heap} {locs : List Loc} {cells slots : Nat} {Q : State → Prop} {ls : Array Slot} {A : Nat → Prop} {H0 : Heap} {dC : Nat → ClassId} {dI : Nat → Nat → Nat} {cy : Nat → ClassId} {sq : Nat → Nat} {a0 : Nat} {fs : List Value} {Y : va_W} (C0 : k_cx p s m args c cX10_init 1 RX10 dC dI cy sq) (hin : meth.name = "<init>") (hA : ∀ q, H0.size ≤ q → A q) (hl : lv_has ls 1 [(0, .ref a0)]) (hlen : fs.length = 122) (hP : va_P (dC, dI) vwCl ((a0, .inr (10, fs)) :: Y) H) (hD : va_D A ((a0, .inr (10, fs)) :: Y)) (hS : va_S A H0 H locs) (h3 : cells + 1 ≤ R.cells) (h4 : slots + 12 ≤ R.slots) (kk : ∀ (q : Nat) (fs1 : List Value) (Y1 : va_W) (H1 : Heap) (locs1 : List Loc), fs1 = fs.set 64 (.ref q) → fs1.length = 122 → Y1 = Y ++ [(q, .inl (cy 0, 12, .inl (fun _ => 0)))] → va_P (dC, dI) vwCl ((a0, .inr (10, fs1)) :: Y1) H1 → va_D A ((a0, .inr (10, fs1)) :: Y1) → va_S A H0 H1 locs1 → W p l e R s m args below meth c H1 locs1 (cells + 1) (slots + 12) Q (F0 m 996 ls [])) : W p l e R s m args below meth c H locs cells slots Q (F0 m 988 ls []) := by
  have hx := C0.1
  have hb := C0.2.1
  refine lv_aload_n hx hb dk_dX10_init_963_8.2.2.2.1 rfl (lv_at hl 0 rfl) ?_
  refine lv_bipush (v := 12) hx hb dk_dX10_init_963_8.2.2.2.2.1 (by decide) ?_
  refine k_newa C0 0 (ty := .int) rfl (atype := .int) rfl wd12 hP hD hS hA (a0 := (12, .inl (fun _ => 0))) (fun _ => rfl) (by decide) (by decide) (Nat.le_of_ble_eq_true rfl) (cells + 1) (slots + 12) (Nat.le_refl _) (Nat.le_refl _) h3 h4 dk_dX10_init_963_8.2.2.2.2.2.1 (fun q H hP hD hS => ?_)
  refine k_putF C0 hin fp_X10_158 hP hD hS 0 rfl rfl rfl (Nat.lt_of_lt_of_eq (by decide) hlen.symm) dk_dX10_init_963_8.2.2.2.2.2.2.1 (fun H locs hP hD hS => ?_)
  exact kk q _ _ H locs rfl (by rw [List.length_set]; exact hlen) rfl hP hD hS
set_option maxHeartbeats 4000000 in
theorem mi_65 {p : Program} {l : Launch} {e : Env} {R : Room} {s : State} {m : MethodId} {args : Array Value} {below : List Frame} {meth : Method} {c : Code} {H : Heap} {locs : List Loc} {cells slots : Nat} {Q : State → Prop} {ls : Array Slot} {A : Nat → Prop} {H0 : Heap} {dC : Nat → ClassId} {dI : Nat → Nat → Nat} {cy : Nat → ClassId} {sq : Nat → Nat} {a0 : Nat} {fs : List Value} {Y : va_W} (C0 : k_cx p s m args c cX10_init 1 RX10 dC dI cy sq) (hin : meth.name = "<init>") (hA : ∀ q, H0.size ≤ q → A q) (hl : lv_has ls 1 [(0, .ref a0)]) (hlen : fs.length = 122) (hP : va_P (dC, dI) vwCl ((a0, .inr (10, fs)) :: Y) H) (hD : va_D A ((a0, .inr (10, fs)) :: Y)) (hS : va_S A H0 H locs) (h3 : cells + 1 ≤ R.cells) (h4 : slots + 12 ≤ R.slots) (kk : ∀ (q : Nat) (fs1 : List Value) (Y1 : va_W) (H1 : Heap) (locs1 : List Loc), fs1 = fs.set 65 (.ref q) → fs1.length = 122 → Y1 = Y ++ [(q, .inl (cy 0, 12, .inl (fun _ => 0)))] → va_P (dC, dI) vwCl ((a0, .inr (10, fs1)) :: Y1) H1 → va_D A ((a0, .inr (10, fs1)) :: Y1) → va_S A H0 H1 locs1 → W p l e R s m args below meth c H1 locs1 (cells + 1) (slots + 12) Q (F0 m 1004 ls [])) : W p l e R s m args below meth c H locs cells slots Q (F0 m 996 ls []) := by
  have hx := C0.1
  have hb := C0.2.1
  refine lv_aload_n hx hb dk_dX10_init_963_8.2.2.2.2.2.2.2.1 rfl (lv_at hl 0 rfl) ?_
  refine lv_bipush (v := 12) hx hb dk_dX10_init_997.1 (by decide) ?_
  refine k_newa C0 0 (ty := .int) rfl (atype := .int) rfl wd12 hP hD hS hA (a0 := (12, .inl (fun _ => 0))) (fun _ => rfl) (by decide) (by decide) (Nat.le_of_ble_eq_true rfl) (cells + 1) (slots + 12) (Nat.le_refl _) (Nat.le_refl _) h3 h4 dk_dX10_init_997.2.1 (fun q H hP hD hS => ?_)
  refine k_putF C0 hin fp_X10_161 hP hD hS 0 rfl rfl rfl (Nat.lt_of_lt_of_eq (by decide) hlen.symm) dk_dX10_init_997.2.2.1 (fun H locs hP hD hS => ?_)
  exact kk q _ _ H locs rfl (by rw [List.length_set]; exact hlen) rfl hP hD hS
set_option maxHeartbeats 4000000 in
theorem mi_66 {p : Program} {l : Launch} {e : Env} {R : Room} {s : State} {m : MethodId} {args : Array Value} {below : List Frame} {meth : Method} {c : Code} {H : Heap} {locs : List Loc} {cells slots : Nat} {Q : State → Prop} {ls : Array Slot} {A : Nat → Prop} {H0 : Heap} {dC : Nat → ClassId} {dI : Nat → Nat → Nat} {cy : Nat → ClassId} {sq : Nat → Nat} {a0 : Nat} {fs : List Value} {Y : va_W} (C0 : k_cx p s m args c cX10_init 1 RX10 dC dI cy sq) (hin : meth.name = "<init>") (hA : ∀ q, H0.size ≤ q → A q) (hl : lv_has ls 1 [(0, .ref a0)]) (hlen : fs.length = 122) (hP : va_P (dC, dI) vwCl ((a0, .inr (10, fs)) :: Y) H) (hD : va_D A ((a0, .inr (10, fs)) :: Y)) (hS : va_S A H0 H locs) (h3 : cells + 1 ≤ R.cells) (h4 : slots + 12 ≤ R.slots) (kk : ∀ (q : Nat) (fs1 : List Value) (Y1 : va_W) (H1 : Heap) (locs1 : List Loc), fs1 = fs.set 66 (.ref q) → fs1.length = 122 → Y1 = Y ++ [(q, .inl (cy 3, 12, .inl (fun _ => 0)))] → va_P (dC, dI) vwCl ((a0, .inr (10, fs1)) :: Y1) H1 → va_D A ((a0, .inr (10, fs1)) :: Y1) → va_S A H0 H1 locs1 → W p l e R s m args below meth c H1 locs1 (cells + 1) (slots + 12) Q (F0 m 1012 ls [])) : W p l e R s m args below meth c H locs cells slots Q (F0 m 1004 ls []) := by
  have hx := C0.1
  have hb := C0.2.1
  refine lv_aload_n hx hb dk_dX10_init_997.2.2.2.1 rfl (lv_at hl 0 rfl) ?_
  refine lv_bipush (v := 12) hx hb dk_dX10_init_997.2.2.2.2.1 (by decide) ?_
  refine k_newa C0 3 (ty := .boolean) rfl (atype := .boolean) rfl wd204 hP hD hS hA (a0 := (12, .inl (fun _ => 0))) (fun _ => rfl) (by decide) (by decide) (Nat.le_of_ble_eq_true rfl) (cells + 1) (slots + 12) (Nat.le_refl _) (Nat.le_refl _) h3 h4 dk_dX10_init_997.2.2.2.2.2.1 (fun q H hP hD hS => ?_)
  refine k_putF C0 hin fp_X10_164 hP hD hS 0 rfl rfl rfl (Nat.lt_of_lt_of_eq (by decide) hlen.symm) dk_dX10_init_997.2.2.2.2.2.2.1 (fun H locs hP hD hS => ?_)
  exact kk q _ _ H locs rfl (by rw [List.length_set]; exact hlen) rfl hP hD hS
set_option maxHeartbeats 4000000 in
theorem mi_67 {p : Program} {l : Launch} {e : Env} {R : Room} {s : State} {m : MethodId} {args : Array Value} {below : List Frame} {meth : Method} {c : Code} {H : Heap} {locs : List Loc} {cells slots : Nat} {Q : State → Prop} {ls : Array Slot} {A : Nat → Prop} {H0 : Heap} {dC : Nat → ClassId} {dI : Nat → Nat → Nat} {cy : Nat → ClassId} {sq : Nat → Nat} {a0 : Nat} {fs : List Value} {Y : va_W} (C0 : k_cx p s m args c cX10_init 1 RX10 dC dI cy sq) (hin : meth.name = "<init>") (hA : ∀ q, H0.size ≤ q → A q) (hl : lv_has ls 1 [(0, .ref a0)]) (hlen : fs.length = 122) (hP : va_P (dC, dI) vwCl ((a0, .inr (10, fs)) :: Y) H) (hD : va_D A ((a0, .inr (10, fs)) :: Y)) (hS : va_S A H0 H locs) (h3 : cells + 1 ≤ R.cells) (h4 : slots + 12 ≤ R.slots) (kk : ∀ (q : Nat) (fs1 : List Value) (Y1 : va_W) (H1 : Heap) (locs1 : List Loc), fs1 = fs.set 67 (.ref q) → fs1.length = 122 → Y1 = Y ++ [(q, .inl (cy 3, 12, .inl (fun _ => 0)))] → va_P (dC, dI) vwCl ((a0, .inr (10, fs1)) :: Y1) H1 → va_D A ((a0, .inr (10, fs1)) :: Y1) → va_S A H0 H1 locs1 → W p l e R s m args below meth c H1 locs1 (cells + 1) (slots + 12) Q (F0 m 1020 ls [])) : W p l e R s m args below meth c H locs cells slots Q (F0 m 1012 ls []) := by
  have hx := C0.1
  have hb := C0.2.1
  refine lv_aload_n hx hb dk_dX10_init_997.2.2.2.2.2.2.2.1 rfl (lv_at hl 0 rfl) ?_
  refine lv_bipush (v := 12) hx hb dk_dX10_init_997_8.1 (by decide) ?_
  refine k_newa C0 3 (ty := .boolean) rfl (atype := .boolean) rfl wd204 hP hD hS hA (a0 := (12, .inl (fun _ => 0))) (fun _ => rfl) (by decide) (by decide) (Nat.le_of_ble_eq_true rfl) (cells + 1) (slots + 12) (Nat.le_refl _) (Nat.le_refl _) h3 h4 dk_dX10_init_997_8.2.1 (fun q H hP hD hS => ?_)
  refine k_putF C0 hin fp_X10_167 hP hD hS 0 rfl rfl rfl (Nat.lt_of_lt_of_eq (by decide) hlen.symm) dk_dX10_init_997_8.2.2.1 (fun H locs hP hD hS => ?_)
  exact kk q _ _ H locs rfl (by rw [List.length_set]; exact hlen) rfl hP hD hS
set_option maxHeartbeats 4000000 in
theorem mi_68 {p : Program} {l : Launch} {e : Env} {R : Room} {s : State} {m : MethodId} {args : Array Value} {below : List Frame} {meth : Method} {c : Code} {H : Heap} {locs : List Loc} {cells slots : Nat} {Q : State → Prop} {ls : Array Slot} {A : Nat → Prop} {H0 : Heap} {dC : Nat → ClassId} {dI : Nat → Nat → Nat} {cy : Nat → ClassId} {sq : Nat → Nat} {a0 : Nat} {fs : List Value} {Y : va_W} (C0 : k_cx p s m args c cX10_init 1 RX10 dC dI cy sq) (hin : meth.name = "<init>") (hA : ∀ q, H0.size ≤ q → A q) (hl : lv_has ls 1 [(0, .ref a0)]) (hlen : fs.length = 122) (hP : va_P (dC, dI) vwCl ((a0, .inr (10, fs)) :: Y) H) (hD : va_D A ((a0, .inr (10, fs)) :: Y)) (hS : va_S A H0 H locs) (h3 : cells + 1 ≤ R.cells) (h4 : slots + 12 ≤ R.slots) (kk : ∀ (q : Nat) (fs1 : List Value) (Y1 : va_W) (H1 : Heap) (locs1 : List Loc), fs1 = fs.set 68 (.ref q) → fs1.length = 122 → Y1 = Y ++ [(q, .inl (cy 3, 12, .inl (fun _ => 0)))] → va_P (dC, dI) vwCl ((a0, .inr (10, fs1)) :: Y1) H1 → va_D A ((a0, .inr (10, fs1)) :: Y1) → va_S A H0 H1 locs1 → W p l e R s m args below meth c H1 locs1 (cells + 1) (slots + 12) Q (F0 m 1028 ls [])) : W p l e R s m args below meth c H locs cells slots Q (F0 m 1020 ls []) := by
  have hx := C0.1
  have hb := C0.2.1
  refine lv_aload_n hx hb dk_dX10_init_997_8.2.2.2.1 rfl (lv_at hl 0 rfl) ?_
  refine lv_bipush (v := 12) hx hb dk_dX10_init_997_8.2.2.2.2.1 (by decide) ?_
  refine k_newa C0 3 (ty := .boolean) rfl (atype := .boolean) rfl wd204 hP hD hS hA (a0 := (12, .inl (fun _ => 0))) (fun _ => rfl) (by decide) (by decide) (Nat.le_of_ble_eq_true rfl) (cells + 1) (slots + 12) (Nat.le_refl _) (Nat.le_refl _) h3 h4 dk_dX10_init_997_8.2.2.2.2.2.1 (fun q H hP hD hS => ?_)
  refine k_putF C0 hin fp_X10_170 hP hD hS 0 rfl rfl rfl (Nat.lt_of_lt_of_eq (by decide) hlen.symm) dk_dX10_init_997_8.2.2.2.2.2.2.1 (fun H locs hP hD hS => ?_)
  exact kk q _ _ H locs rfl (by rw [List.length_set]; exact hlen) rfl hP hD hS
set_option maxHeartbeats 4000000 in
theorem mi_69 {p : Program} {l : Launch} {e : Env} {R : Room} {s : State} {m : MethodId} {args : Array Value} {below : List Frame} {meth : Method} {c : Code} {H : Heap} {locs : List Loc} {cells slots : Nat} {Q : State → Prop} {ls : Array Slot} {A : Nat → Prop} {H0 : Heap} {dC : Nat → ClassId} {dI : Nat → Nat → Nat} {cy : Nat → ClassId} {sq : Nat → Nat} {a0 : Nat} {fs : List Value} {Y : va_W} (C0 : k_cx p s m args c cX10_init 1 RX10 dC dI cy sq) (hin : meth.name = "<init>") (hA : ∀ q, H0.size ≤ q → A q) (hl : lv_has ls 1 [(0, .ref a0)]) (hlen : fs.length = 122) (hP : va_P (dC, dI) vwCl ((a0, .inr (10, fs)) :: Y) H) (hD : va_D A ((a0, .inr (10, fs)) :: Y)) (hS : va_S A H0 H locs) (h3 : cells + 1 ≤ R.cells) (h4 : slots + 300 ≤ R.slots) (kk : ∀ (q : Nat) (fs1 : List Value) (Y1 : va_W) (H1 : Heap) (locs1 : List Loc), fs1 = fs.set 69 (.ref q) → fs1.length = 122 → Y1 = Y ++ [(q, .inl (cy 3, 300, .inl (fun _ => 0)))] → va_P (dC, dI) vwCl ((a0, .inr (10, fs1)) :: Y1) H1 → va_D A ((a0, .inr (10, fs1)) :: Y1) → va_S A H0 H1 locs1 → W p l e R s m args below meth c H1 locs1 (cells + 1) (slots + 300) Q (F0 m 1037 ls [])) : W p l e R s m args below meth c H locs cells slots Q (F0 m 1028 ls []) := by
  have hx := C0.1
  have hb := C0.2.1
  refine lv_aload_n hx hb dk_dX10_init_997_8.2.2.2.2.2.2.2.1 rfl (lv_at hl 0 rfl) ?_
  refine lv_sipush (v := 300) hx hb dk_dX10_init_1029.1 (by decide) ?_
  refine k_newa C0 3 (ty := .boolean) rfl (atype := .boolean) rfl wd204 hP hD hS hA (a0 := (300, .inl (fun _ => 0))) (fun _ => rfl) (by decide) (by decide) (Nat.le_of_ble_eq_true rfl) (cells + 1) (slots + 300) (Nat.le_refl _) (Nat.le_refl _) h3 h4 dk_dX10_init_1029.2.1 (fun q H hP hD hS => ?_)
  refine k_putF C0 hin fp_X10_173 hP hD hS 0 rfl rfl rfl (Nat.lt_of_lt_of_eq (by decide) hlen.symm) dk_dX10_init_1029.2.2.1 (fun H locs hP hD hS => ?_)
  exact kk q _ _ H locs rfl (by rw [List.length_set]; exact hlen) rfl hP hD hS
set_option maxHeartbeats 4000000 in
theorem mi_76 {p : Program} {l : Launch} {e : Env} {R : Room} {s : State} {m : MethodId} {args : Array Value} {below : List Frame} {meth : Method} {c : Code} {H : Heap} {locs : List Loc} {cells slots : Nat} {Q : State → Prop} {ls : Array Slot} {A : Nat → Prop} {H0 : Heap} {dC : Nat → ClassId} {dI : Nat → Nat → Nat} {cy : Nat → ClassId} {sq : Nat → Nat} {a0 : Nat} {fs : List Value} {Y : va_W} (C0 : k_cx p s m args c cX10_init 1 RX10 dC dI cy sq) (hin : meth.name = "<init>") (hA : ∀ q, H0.size ≤ q → A q) (hl : lv_has ls 1 [(0, .ref a0)]) (hlen : fs.length = 122) (hP : va_P (dC, dI) vwCl ((a0, .inr (10, fs)) :: Y) H) (hD : va_D A ((a0, .inr (10, fs)) :: Y)) (hS : va_S A H0 H locs) (h3 : cells + 1 ≤ R.cells) (h4 : slots + 32 ≤ R.slots) (kk : ∀ (q : Nat) (fs1 : List Value) (Y1 : va_W) (H1 : Heap) (locs1 : List Loc), fs1 = fs.set 76 (.ref q) → fs1.length = 122 → Y1 = Y ++ [(q, .inl (cy 0, 32, .inl (fun _ => 0)))] → va_P (dC, dI) vwCl ((a0, .inr (10, fs1)) :: Y1) H1 → va_D A ((a0, .inr (10, fs1)) :: Y1) → va_S A H0 H1 locs1 → W p l e R s m args below meth c H1 locs1 (cells + 1) (slots + 32) Q (F0 m 1045 ls [])) : W p l e R s m args below meth c H locs cells slots Q (F0 m 1037 ls []) := by
  have hx := C0.1
  have hb := C0.2.1
  refine lv_aload_n hx hb dk_dX10_init_1029.2.2.2.1 rfl (lv_at hl 0 rfl) ?_
  refine lv_bipush (v := 32) hx hb dk_dX10_init_1029.2.2.2.2.1 (by decide) ?_
  refine k_newa C0 0 (ty := .int) rfl (atype := .int) rfl wd12 hP hD hS hA (a0 := (32, .inl (fun _ => 0))) (fun _ => rfl) (by decide) (by decide) (Nat.le_of_ble_eq_true rfl) (cells + 1) (slots + 32) (Nat.le_refl _) (Nat.le_refl _) h3 h4 dk_dX10_init_1029.2.2.2.2.2.1 (fun q H hP hD hS => ?_)
  refine k_putF C0 hin fp_X10_176 hP hD hS 0 rfl rfl rfl (Nat.lt_of_lt_of_eq (by decide) hlen.symm) dk_dX10_init_1029.2.2.2.2.2.2.1 (fun H locs hP hD hS => ?_)
  exact kk q _ _ H locs rfl (by rw [List.length_set]; exact hlen) rfl hP hD hS
set_option maxHeartbeats 4000000 in
theorem mi_77 {p : Program} {l : Launch} {e : Env} {R : Room} {s : State} {m : MethodId} {args : Array Value} {below : List Frame} {meth : Method} {c : Code} {H : Heap} {locs : List Loc} {cells slots : Nat} {Q : State → Prop} {ls : Array Slot} {A : Nat → Prop} {H0 : Heap} {dC : Nat → ClassId} {dI : Nat → Nat → Nat} {cy : Nat → ClassId} {sq : Nat → Nat} {a0 : Nat} {fs : List Value} {Y : va_W} (C0 : k_cx p s m args c cX10_init 1 RX10 dC dI cy sq) (hin : meth.name = "<init>") (hA : ∀ q, H0.size ≤ q → A q) (hl : lv_has ls 1 [(0, .ref a0)]) (hlen : fs.length = 122) (hP : va_P (dC, dI) vwCl ((a0, .inr (10, fs)) :: Y) H) (hD : va_D A ((a0, .inr (10, fs)) :: Y)) (hS : va_S A H0 H locs) (h3 : cells + 1 ≤ R.cells) (h4 : slots + 720 ≤ R.slots) (kk : ∀ (q : Nat) (fs1 : List Value) (Y1 : va_W) (H1 : Heap) (locs1 : List Loc), fs1 = fs.set 77 (.ref q) → fs1.length = 122 → Y1 = Y ++ [(q, .inl (cy 0, 720, .inl (fun _ => 0)))] → va_P (dC, dI) vwCl ((a0, .inr (10, fs1)) :: Y1) H1 → va_D A ((a0, .inr (10, fs1)) :: Y1) → va_S A H0 H1 locs1 → W p l e R s m args below meth c H1 locs1 (cells + 1) (slots + 720) Q (F0 m 1054 ls [])) : W p l e R s m args below meth c H locs cells slots Q (F0 m 1045 ls []) := by
  have hx := C0.1
  have hb := C0.2.1
  refine lv_aload_n hx hb dk_dX10_init_1029.2.2.2.2.2.2.2.1 rfl (lv_at hl 0 rfl) ?_
  refine lv_sipush (v := 720) hx hb dk_dX10_init_1029_8.1 (by decide) ?_
  refine k_newa C0 0 (ty := .int) rfl (atype := .int) rfl wd12 hP hD hS hA (a0 := (720, .inl (fun _ => 0))) (fun _ => rfl) (by decide) (by decide) (Nat.le_of_ble_eq_true rfl) (cells + 1) (slots + 720) (Nat.le_refl _) (Nat.le_refl _) h3 h4 dk_dX10_init_1029_8.2.1 (fun q H hP hD hS => ?_)
  refine k_putF C0 hin fp_X10_179 hP hD hS 0 rfl rfl rfl (Nat.lt_of_lt_of_eq (by decide) hlen.symm) dk_dX10_init_1029_8.2.2.1 (fun H locs hP hD hS => ?_)
  exact kk q _ _ H locs rfl (by rw [List.length_set]; exact hlen) rfl hP hD hS
set_option maxHeartbeats 4000000 in
theorem mi_81 {p : Program} {l : Launch} {e : Env} {R : Room} {s : State} {m : MethodId} {args : Array Value} {below : List Frame} {meth : Method} {c : Code} {H : Heap} {locs : List Loc} {cells slots : Nat} {Q : State → Prop} {ls : Array Slot} {A : Nat → Prop} {H0 : Heap} {dC : Nat → ClassId} {dI : Nat → Nat → Nat} {cy : Nat → ClassId} {sq : Nat → Nat} {a0 : Nat} {fs : List Value} {Y : va_W} (C0 : k_cx p s m args c cX10_init 1 RX10 dC dI cy sq) (hin : meth.name = "<init>") (hA : ∀ q, H0.size ≤ q → A q) (hl : lv_has ls 1 [(0, .ref a0)]) (hlen : fs.length = 122) (hP : va_P (dC, dI) vwCl ((a0, .inr (10, fs)) :: Y) H) (hD : va_D A ((a0, .inr (10, fs)) :: Y)) (hS : va_S A H0 H locs) (h3 : cells + 1 ≤ R.cells) (h4 : slots + 180 ≤ R.slots) (kk : ∀ (q : Nat) (fs1 : List Value) (Y1 : va_W) (H1 : Heap) (locs1 : List Loc), fs1 = fs.set 81 (.ref q) → fs1.length = 122 → Y1 = Y ++ [(q, .inl (cy 0, 180, .inl (fun _ => 0)))] → va_P (dC, dI) vwCl ((a0, .inr (10, fs1)) :: Y1) H1 → va_D A ((a0, .inr (10, fs1)) :: Y1) → va_S A H0 H1 locs1 → W p l e R s m args below meth c H1 locs1 (cells + 1) (slots + 180) Q (F0 m 1063 ls [])) : W p l e R s m args below meth c H locs cells slots Q (F0 m 1054 ls []) := by
  have hx := C0.1
  have hb := C0.2.1
  refine lv_aload_n hx hb dk_dX10_init_1029_8.2.2.2.1 rfl (lv_at hl 0 rfl) ?_
  refine lv_sipush (v := 180) hx hb dk_dX10_init_1029_8.2.2.2.2.1 (by decide) ?_
  refine k_newa C0 0 (ty := .int) rfl (atype := .int) rfl wd12 hP hD hS hA (a0 := (180, .inl (fun _ => 0))) (fun _ => rfl) (by decide) (by decide) (Nat.le_of_ble_eq_true rfl) (cells + 1) (slots + 180) (Nat.le_refl _) (Nat.le_refl _) h3 h4 dk_dX10_init_1029_8.2.2.2.2.2.1 (fun q H hP hD hS => ?_)
  refine k_putF C0 hin fp_X10_182 hP hD hS 0 rfl rfl rfl (Nat.lt_of_lt_of_eq (by decide) hlen.symm) dk_dX10_init_1029_8.2.2.2.2.2.2.1 (fun H locs hP hD hS => ?_)
  exact kk q _ _ H locs rfl (by rw [List.length_set]; exact hlen) rfl hP hD hS
set_option maxHeartbeats 4000000 in
theorem mi_84 {p : Program} {l : Launch} {e : Env} {R : Room} {s : State} {m : MethodId} {args : Array Value} {below : List Frame} {meth : Method} {c : Code} {H : Heap} {locs : List Loc} {cells slots : Nat} {Q : State → Prop} {ls : Array Slot} {A : Nat → Prop} {H0 : Heap} {dC : Nat → ClassId} {dI : Nat → Nat → Nat} {cy : Nat → ClassId} {sq : Nat → Nat} {a0 : Nat} {fs : List Value} {Y : va_W} (C0 : k_cx p s m args c cX10_init 1 RX10 dC dI cy sq) (hin : meth.name = "<init>") (hA : ∀ q, H0.size ≤ q → A q) (hl : lv_has ls 1 [(0, .ref a0)]) (hlen : fs.length = 122) (hP : va_P (dC, dI) vwCl ((a0, .inr (10, fs)) :: Y) H) (hD : va_D A ((a0, .inr (10, fs)) :: Y)) (hS : va_S A H0 H locs) (kk : ∀ (fs1 : List Value) (H1 : Heap) (locs1 : List Loc), fs1 = fs.set 84 (.long 1) → fs1.length = 122 → va_P (dC, dI) vwCl ((a0, .inr (10, fs1)) :: Y) H1 → va_D A ((a0, .inr (10, fs1)) :: Y) → va_S A H0 H1 locs1 → W p l e R s m args below meth c H1 locs1 cells slots Q (F0 m 1068 ls [])) : W p l e R s m args below meth c H locs cells slots Q (F0 m 1063 ls []) := by
  have hx := C0.1
  have hb := C0.2.1
  refine lv_aload_n hx hb dk_dX10_init_1029_8.2.2.2.2.2.2.2.1 rfl (lv_at hl 0 rfl) ?_
  refine lv_lconst (v := 1) hx hb dk_dX10_init_1064.1 (by decide) ?_
  refine k_put C0 fp_X10_185 hP hD hS 0 rfl rfl rfl (Nat.lt_of_lt_of_eq (by decide) hlen.symm) dk_dX10_init_1064.2.1 (fun H locs hP hD hS => ?_)
  exact kk _ H locs rfl (by rw [List.length_set]; exact hlen) hP hD hS
set_option maxHeartbeats 4000000 in
theorem mi_85 {p : Program} {l : Launch} {e : Env} {R : Room} {s : State} {m : MethodId} {args : Array Value} {below : List Frame} {meth : Method} {c : Code} {H : Heap} {locs : List Loc} {cells slots : Nat} {Q : State → Prop} {ls : Array Slot} {A : Nat → Prop} {H0 : Heap} {dC : Nat → ClassId} {dI : Nat → Nat → Nat} {cy : Nat → ClassId} {sq : Nat → Nat} {a0 : Nat} {fs : List Value} {Y : va_W} (C0 : k_cx p s m args c cX10_init 1 RX10 dC dI cy sq) (hin : meth.name = "<init>") (hA : ∀ q, H0.size ≤ q → A q) (hl : lv_has ls 1 [(0, .ref a0)]) (hlen : fs.length = 122) (hP : va_P (dC, dI) vwCl ((a0, .inr (10, fs)) :: Y) H) (hD : va_D A ((a0, .inr (10, fs)) :: Y)) (hS : va_S A H0 H locs) (h3 : cells + 1 ≤ R.cells) (h4 : slots + 5 ≤ R.slots) (kk : ∀ (q : Nat) (g : Nat → Int32) (fs1 : List Value) (Y1 : va_W) (H1 : Heap) (locs1 : List Loc), wa (lf_A g) [102, 105, 114, 115, 116] → fs1 = fs.set 85 (.ref q) → fs1.length = 122 → Y1 = Y ++ [(q, .inl (cy 2, 5, .inl g))] → va_P (dC, dI) vwCl ((a0, .inr (10, fs1)) :: Y1) H1 → va_D A ((a0, .inr (10, fs1)) :: Y1) → va_S A H0 H1 locs1 → W p l e R s m args below meth c H1 locs1 (cells + 1) (slots + 5) Q (F0 m 1100 ls [])) : W p l e R s m args below meth c H locs cells slots Q (F0 m 1068 ls []) := by
  have hx := C0.1
  have hb := C0.2.1
  refine lv_aload_n hx hb dk_dX10_init_1064.2.2.1 rfl (lv_at hl 0 rfl) ?_
  refine lv_iconst (v := 5) hx hb dk_dX10_init_1064.2.2.2.1 (by decide) ?_
  refine k_newa C0 2 (ty := .char) rfl (atype := .char) rfl wd161 hP hD hS hA (a0 := (5, .inl (fun _ => 0))) (fun _ => rfl) (by decide) (by decide) (Nat.le_of_ble_eq_true rfl) (cells + 1) (slots + 5) (Nat.le_refl _) (Nat.le_refl _) h3 h4 dk_dX10_init_1064.2.2.2.2.1 (fun q H hP hD hS => ?_)
  refine lv_dup hx hb dk_dX10_init_1064.2.2.2.2.2.1 rfl ?_
  refine lv_iconst (v := 0) hx hb dk_dX10_init_1064.2.2.2.2.2.2.1 (by decide) ?_
  refine lv_bipush (v := 102) hx hb dk_dX10_init_1064.2.2.2.2.2.2.2.1 (by decide) ?_
  refine k_castU C0 hP hD hS (k_in 0 5 (by decide)) dk_dX10_init_1064_8.1 (fun g3 H locs e3 hP hD hS => ?_)
  refine lv_dup hx hb dk_dX10_init_1064_8.2.1 rfl ?_
  refine lv_iconst (v := 1) hx hb dk_dX10_init_1064_8.2.2.1 (by decide) ?_
  refine lv_bipush (v := 105) hx hb dk_dX10_init_1064_8.2.2.2.1 (by decide) ?_
  refine k_castU C0 hP hD hS (k_in 1 5 (by decide)) dk_dX10_init_1064_8.2.2.2.2.1 (fun g7 H locs e7 hP hD hS => ?_)
  refine lv_dup hx hb dk_dX10_init_1064_8.2.2.2.2.2.1 rfl ?_
  refine lv_iconst (v := 2) hx hb dk_dX10_init_1064_8.2.2.2.2.2.2.1 (by decide) ?_
  refine lv_bipush (v := 114) hx hb dk_dX10_init_1064_8.2.2.2.2.2.2.2.1 (by decide) ?_
  refine k_castU C0 hP hD hS (k_in 2 5 (by decide)) dk_dX10_init_1086.1 (fun g11 H locs e11 hP hD hS => ?_)
  refine lv_dup hx hb dk_dX10_init_1086.2.1 rfl ?_
  refine lv_iconst (v := 3) hx hb dk_dX10_init_1086.2.2.1 (by decide) ?_
  refine lv_bipush (v := 115) hx hb dk_dX10_init_1086.2.2.2.1 (by decide) ?_
  refine k_castU C0 hP hD hS (k_in 3 5 (by decide)) dk_dX10_init_1086.2.2.2.2.1 (fun g15 H locs e15 hP hD hS => ?_)
  refine lv_dup hx hb dk_dX10_init_1086.2.2.2.2.2.1 rfl ?_
  refine lv_iconst (v := 4) hx hb dk_dX10_init_1086.2.2.2.2.2.2.1 (by decide) ?_
  refine lv_bipush (v := 116) hx hb dk_dX10_init_1086.2.2.2.2.2.2.2.1 (by decide) ?_
  refine k_castU C0 hP hD hS (k_in 4 5 (by decide)) dk_dX10_init_1086_8.1 (fun g19 H locs e19 hP hD hS => ?_)
  refine k_putF C0 hin fp_X10_189 hP hD hS 0 rfl rfl rfl (Nat.lt_of_lt_of_eq (by decide) hlen.symm) dk_dX10_init_1086_8.2.1 (fun H locs hP hD hS => ?_)
  have hg : wa (lf_A g19) [102, 105, 114, 115, 116] := by
    subst e19 e15 e11 e7 e3
    unfold wa
    decide +kernel
  exact kk q g19 _ _ H locs hg rfl (by rw [List.length_set]; exact hlen) rfl hP hD hS
set_option maxHeartbeats 4000000 in
theorem mi_86 {p : Program} {l : Launch} {e : Env} {R : Room} {s : State} {m : MethodId} {args : Array Value} {below : List Frame} {meth : Method} {c : Code} {H : Heap} {locs : List Loc} {cells slots : Nat} {Q : State → Prop} {ls : Array Slot} {A : Nat → Prop} {H0 : Heap} {dC : Nat → ClassId} {dI : Nat → Nat → Nat} {cy : Nat → ClassId} {sq : Nat → Nat} {a0 : Nat} {fs : List Value} {Y : va_W} (C0 : k_cx p s m args c cX10_init 1 RX10 dC dI cy sq) (hin : meth.name = "<init>") (hA : ∀ q, H0.size ≤ q → A q) (hl : lv_has ls 1 [(0, .ref a0)]) (hlen : fs.length = 122) (hP : va_P (dC, dI) vwCl ((a0, .inr (10, fs)) :: Y) H) (hD : va_D A ((a0, .inr (10, fs)) :: Y)) (hS : va_S A H0 H locs) (h3 : cells + 1 ≤ R.cells) (h4 : slots + 4 ≤ R.slots) (kk : ∀ (q : Nat) (g : Nat → Int32) (fs1 : List Value) (Y1 : va_W) (H1 : Heap) (locs1 : List Loc), wa (lf_A g) [108, 97, 115, 116] → fs1 = fs.set 86 (.ref q) → fs1.length = 122 → Y1 = Y ++ [(q, .inl (cy 2, 4, .inl g))] → va_P (dC, dI) vwCl ((a0, .inr (10, fs1)) :: Y1) H1 → va_D A ((a0, .inr (10, fs1)) :: Y1) → va_S A H0 H1 locs1 → W p l e R s m args below meth c H1 locs1 (cells + 1) (slots + 4) Q (F0 m 1127 ls [])) : W p l e R s m args below meth c H locs cells slots Q (F0 m 1100 ls []) := by
  have hx := C0.1
  have hb := C0.2.1
  refine lv_aload_n hx hb dk_dX10_init_1086_8.2.2.1 rfl (lv_at hl 0 rfl) ?_
  refine lv_iconst (v := 4) hx hb dk_dX10_init_1086_8.2.2.2.1 (by decide) ?_
  refine k_newa C0 2 (ty := .char) rfl (atype := .char) rfl wd161 hP hD hS hA (a0 := (4, .inl (fun _ => 0))) (fun _ => rfl) (by decide) (by decide) (Nat.le_of_ble_eq_true rfl) (cells + 1) (slots + 4) (Nat.le_refl _) (Nat.le_refl _) h3 h4 dk_dX10_init_1086_8.2.2.2.2.1 (fun q H hP hD hS => ?_)
  refine lv_dup hx hb dk_dX10_init_1086_8.2.2.2.2.2.1 rfl ?_
  refine lv_iconst (v := 0) hx hb dk_dX10_init_1086_8.2.2.2.2.2.2.1 (by decide) ?_
  refine lv_bipush (v := 108) hx hb dk_dX10_init_1086_8.2.2.2.2.2.2.2.1 (by decide) ?_
  refine k_castU C0 hP hD hS (k_in 0 4 (by decide)) dk_dX10_init_1108.1 (fun g3 H locs e3 hP hD hS => ?_)
  refine lv_dup hx hb dk_dX10_init_1108.2.1 rfl ?_
  refine lv_iconst (v := 1) hx hb dk_dX10_init_1108.2.2.1 (by decide) ?_
  refine lv_bipush (v := 97) hx hb dk_dX10_init_1108.2.2.2.1 (by decide) ?_
  refine k_castU C0 hP hD hS (k_in 1 4 (by decide)) dk_dX10_init_1108.2.2.2.2.1 (fun g7 H locs e7 hP hD hS => ?_)
  refine lv_dup hx hb dk_dX10_init_1108.2.2.2.2.2.1 rfl ?_
  refine lv_iconst (v := 2) hx hb dk_dX10_init_1108.2.2.2.2.2.2.1 (by decide) ?_
  refine lv_bipush (v := 115) hx hb dk_dX10_init_1108.2.2.2.2.2.2.2.1 (by decide) ?_
  refine k_castU C0 hP hD hS (k_in 2 4 (by decide)) dk_dX10_init_1108_8.1 (fun g11 H locs e11 hP hD hS => ?_)
  refine lv_dup hx hb dk_dX10_init_1108_8.2.1 rfl ?_
  refine lv_iconst (v := 3) hx hb dk_dX10_init_1108_8.2.2.1 (by decide) ?_
  refine lv_bipush (v := 116) hx hb dk_dX10_init_1108_8.2.2.2.1 (by decide) ?_
  refine k_castU C0 hP hD hS (k_in 3 4 (by decide)) dk_dX10_init_1108_8.2.2.2.2.1 (fun g15 H locs e15 hP hD hS => ?_)
  refine k_putF C0 hin fp_X10_192 hP hD hS 0 rfl rfl rfl (Nat.lt_of_lt_of_eq (by decide) hlen.symm) dk_dX10_init_1108_8.2.2.2.2.2.1 (fun H locs hP hD hS => ?_)
  have hg : wa (lf_A g15) [108, 97, 115, 116] := by
    subst e15 e11 e7 e3
    unfold wa
    decide +kernel
  exact kk q g15 _ _ H locs hg rfl (by rw [List.length_set]; exact hlen) rfl hP hD hS
set_option maxHeartbeats 4000000 in
theorem mi_87 {p : Program} {l : Launch} {e : Env} {R : Room} {s : State} {m : MethodId} {args : Array Value} {below : List Frame} {meth : Method} {c : Code} {H : Heap} {locs : List Loc} {cells slots : Nat} {Q : State → Prop} {ls : Array Slot} {A : Nat → Prop} {H0 : Heap} {dC : Nat → ClassId} {dI : Nat → Nat → Nat} {cy : Nat → ClassId} {sq : Nat → Nat} {a0 : Nat} {fs : List Value} {Y : va_W} (C0 : k_cx p s m args c cX10_init 1 RX10 dC dI cy sq) (hin : meth.name = "<init>") (hA : ∀ q, H0.size ≤ q → A q) (hl : lv_has ls 1 [(0, .ref a0)]) (hlen : fs.length = 122) (hP : va_P (dC, dI) vwCl ((a0, .inr (10, fs)) :: Y) H) (hD : va_D A ((a0, .inr (10, fs)) :: Y)) (hS : va_S A H0 H locs) (h3 : cells + 1 ≤ R.cells) (h4 : slots + 5 ≤ R.slots) (kk : ∀ (q : Nat) (g : Nat → Int32) (fs1 : List Value) (Y1 : va_W) (H1 : Heap) (locs1 : List Loc), wa (lf_A g) [111, 102, 116, 101, 110] → fs1 = fs.set 87 (.ref q) → fs1.length = 122 → Y1 = Y ++ [(q, .inl (cy 2, 5, .inl g))] → va_P (dC, dI) vwCl ((a0, .inr (10, fs1)) :: Y1) H1 → va_D A ((a0, .inr (10, fs1)) :: Y1) → va_S A H0 H1 locs1 → W p l e R s m args below meth c H1 locs1 (cells + 1) (slots + 5) Q (F0 m 1159 ls [])) : W p l e R s m args below meth c H locs cells slots Q (F0 m 1127 ls []) := by
  have hx := C0.1
  have hb := C0.2.1
  refine lv_aload_n hx hb dk_dX10_init_1108_8.2.2.2.2.2.2.1 rfl (lv_at hl 0 rfl) ?_
  refine lv_iconst (v := 5) hx hb dk_dX10_init_1108_8.2.2.2.2.2.2.2.1 (by decide) ?_
  refine k_newa C0 2 (ty := .char) rfl (atype := .char) rfl wd161 hP hD hS hA (a0 := (5, .inl (fun _ => 0))) (fun _ => rfl) (by decide) (by decide) (Nat.le_of_ble_eq_true rfl) (cells + 1) (slots + 5) (Nat.le_refl _) (Nat.le_refl _) h3 h4 dk_dX10_init_1129.1 (fun q H hP hD hS => ?_)
  refine lv_dup hx hb dk_dX10_init_1129.2.1 rfl ?_
  refine lv_iconst (v := 0) hx hb dk_dX10_init_1129.2.2.1 (by decide) ?_
  refine lv_bipush (v := 111) hx hb dk_dX10_init_1129.2.2.2.1 (by decide) ?_
  refine k_castU C0 hP hD hS (k_in 0 5 (by decide)) dk_dX10_init_1129.2.2.2.2.1 (fun g3 H locs e3 hP hD hS => ?_)
  refine lv_dup hx hb dk_dX10_init_1129.2.2.2.2.2.1 rfl ?_
  refine lv_iconst (v := 1) hx hb dk_dX10_init_1129.2.2.2.2.2.2.1 (by decide) ?_
  refine lv_bipush (v := 102) hx hb dk_dX10_init_1129.2.2.2.2.2.2.2.1 (by decide) ?_
  refine k_castU C0 hP hD hS (k_in 1 5 (by decide)) dk_dX10_init_1129_8.1 (fun g7 H locs e7 hP hD hS => ?_)
  refine lv_dup hx hb dk_dX10_init_1129_8.2.1 rfl ?_
  refine lv_iconst (v := 2) hx hb dk_dX10_init_1129_8.2.2.1 (by decide) ?_
  refine lv_bipush (v := 116) hx hb dk_dX10_init_1129_8.2.2.2.1 (by decide) ?_
  refine k_castU C0 hP hD hS (k_in 2 5 (by decide)) dk_dX10_init_1129_8.2.2.2.2.1 (fun g11 H locs e11 hP hD hS => ?_)
  refine lv_dup hx hb dk_dX10_init_1129_8.2.2.2.2.2.1 rfl ?_
  refine lv_iconst (v := 3) hx hb dk_dX10_init_1129_8.2.2.2.2.2.2.1 (by decide) ?_
  refine lv_bipush (v := 101) hx hb dk_dX10_init_1129_8.2.2.2.2.2.2.2.1 (by decide) ?_
  refine k_castU C0 hP hD hS (k_in 3 5 (by decide)) dk_dX10_init_1150.1 (fun g15 H locs e15 hP hD hS => ?_)
  refine lv_dup hx hb dk_dX10_init_1150.2.1 rfl ?_
  refine lv_iconst (v := 4) hx hb dk_dX10_init_1150.2.2.1 (by decide) ?_
  refine lv_bipush (v := 110) hx hb dk_dX10_init_1150.2.2.2.1 (by decide) ?_
  refine k_castU C0 hP hD hS (k_in 4 5 (by decide)) dk_dX10_init_1150.2.2.2.2.1 (fun g19 H locs e19 hP hD hS => ?_)
  refine k_putF C0 hin fp_X10_195 hP hD hS 0 rfl rfl rfl (Nat.lt_of_lt_of_eq (by decide) hlen.symm) dk_dX10_init_1150.2.2.2.2.2.1 (fun H locs hP hD hS => ?_)
  have hg : wa (lf_A g19) [111, 102, 116, 101, 110] := by
    subst e19 e15 e11 e7 e3
    unfold wa
    decide +kernel
  exact kk q g19 _ _ H locs hg rfl (by rw [List.length_set]; exact hlen) rfl hP hD hS
set_option maxHeartbeats 4000000 in
theorem mi_88 {p : Program} {l : Launch} {e : Env} {R : Room} {s : State} {m : MethodId} {args : Array Value} {below : List Frame} {meth : Method} {c : Code} {H : Heap} {locs : List Loc} {cells slots : Nat} {Q : State → Prop} {ls : Array Slot} {A : Nat → Prop} {H0 : Heap} {dC : Nat → ClassId} {dI : Nat → Nat → Nat} {cy : Nat → ClassId} {sq : Nat → Nat} {a0 : Nat} {fs : List Value} {Y : va_W} (C0 : k_cx p s m args c cX10_init 1 RX10 dC dI cy sq) (hin : meth.name = "<init>") (hA : ∀ q, H0.size ≤ q → A q) (hl : lv_has ls 1 [(0, .ref a0)]) (hlen : fs.length = 122) (hP : va_P (dC, dI) vwCl ((a0, .inr (10, fs)) :: Y) H) (hD : va_D A ((a0, .inr (10, fs)) :: Y)) (hS : va_S A H0 H locs) (h3 : cells + 1 ≤ R.cells) (h4 : slots + 5 ≤ R.slots) (kk : ∀ (q : Nat) (g : Nat → Int32) (fs1 : List Value) (Y1 : va_W) (H1 : Heap) (locs1 : List Loc), wa (lf_A g) [116, 111, 116, 97, 108] → fs1 = fs.set 88 (.ref q) → fs1.length = 122 → Y1 = Y ++ [(q, .inl (cy 2, 5, .inl g))] → va_P (dC, dI) vwCl ((a0, .inr (10, fs1)) :: Y1) H1 → va_D A ((a0, .inr (10, fs1)) :: Y1) → va_S A H0 H1 locs1 → W p l e R s m args below meth c H1 locs1 (cells + 1) (slots + 5) Q (F0 m 1191 ls [])) : W p l e R s m args below meth c H locs cells slots Q (F0 m 1159 ls []) := by
  have hx := C0.1
  have hb := C0.2.1
  refine lv_aload_n hx hb dk_dX10_init_1150.2.2.2.2.2.2.1 rfl (lv_at hl 0 rfl) ?_
  refine lv_iconst (v := 5) hx hb dk_dX10_init_1150.2.2.2.2.2.2.2.1 (by decide) ?_
  refine k_newa C0 2 (ty := .char) rfl (atype := .char) rfl wd161 hP hD hS hA (a0 := (5, .inl (fun _ => 0))) (fun _ => rfl) (by decide) (by decide) (Nat.le_of_ble_eq_true rfl) (cells + 1) (slots + 5) (Nat.le_refl _) (Nat.le_refl _) h3 h4 dk_dX10_init_1150_8.1 (fun q H hP hD hS => ?_)
  refine lv_dup hx hb dk_dX10_init_1150_8.2.1 rfl ?_
  refine lv_iconst (v := 0) hx hb dk_dX10_init_1150_8.2.2.1 (by decide) ?_
  refine lv_bipush (v := 116) hx hb dk_dX10_init_1150_8.2.2.2.1 (by decide) ?_
  refine k_castU C0 hP hD hS (k_in 0 5 (by decide)) dk_dX10_init_1150_8.2.2.2.2.1 (fun g3 H locs e3 hP hD hS => ?_)
  refine lv_dup hx hb dk_dX10_init_1150_8.2.2.2.2.2.1 rfl ?_
  refine lv_iconst (v := 1) hx hb dk_dX10_init_1150_8.2.2.2.2.2.2.1 (by decide) ?_
  refine lv_bipush (v := 111) hx hb dk_dX10_init_1150_8.2.2.2.2.2.2.2.1 (by decide) ?_
  refine k_castU C0 hP hD hS (k_in 1 5 (by decide)) dk_dX10_init_1172.1 (fun g7 H locs e7 hP hD hS => ?_)
  refine lv_dup hx hb dk_dX10_init_1172.2.1 rfl ?_
  refine lv_iconst (v := 2) hx hb dk_dX10_init_1172.2.2.1 (by decide) ?_
  refine lv_bipush (v := 116) hx hb dk_dX10_init_1172.2.2.2.1 (by decide) ?_
  refine k_castU C0 hP hD hS (k_in 2 5 (by decide)) dk_dX10_init_1172.2.2.2.2.1 (fun g11 H locs e11 hP hD hS => ?_)
  refine lv_dup hx hb dk_dX10_init_1172.2.2.2.2.2.1 rfl ?_
  refine lv_iconst (v := 3) hx hb dk_dX10_init_1172.2.2.2.2.2.2.1 (by decide) ?_
  refine lv_bipush (v := 97) hx hb dk_dX10_init_1172.2.2.2.2.2.2.2.1 (by decide) ?_
  refine k_castU C0 hP hD hS (k_in 3 5 (by decide)) dk_dX10_init_1172_8.1 (fun g15 H locs e15 hP hD hS => ?_)
  refine lv_dup hx hb dk_dX10_init_1172_8.2.1 rfl ?_
  refine lv_iconst (v := 4) hx hb dk_dX10_init_1172_8.2.2.1 (by decide) ?_
  refine lv_bipush (v := 108) hx hb dk_dX10_init_1172_8.2.2.2.1 (by decide) ?_
  refine k_castU C0 hP hD hS (k_in 4 5 (by decide)) dk_dX10_init_1172_8.2.2.2.2.1 (fun g19 H locs e19 hP hD hS => ?_)
  refine k_putF C0 hin fp_X10_198 hP hD hS 0 rfl rfl rfl (Nat.lt_of_lt_of_eq (by decide) hlen.symm) dk_dX10_init_1172_8.2.2.2.2.2.1 (fun H locs hP hD hS => ?_)
  have hg : wa (lf_A g19) [116, 111, 116, 97, 108] := by
    subst e19 e15 e11 e7 e3
    unfold wa
    decide +kernel
  exact kk q g19 _ _ H locs hg rfl (by rw [List.length_set]; exact hlen) rfl hP hD hS
set_option maxHeartbeats 4000000 in
theorem mi_89 {p : Program} {l : Launch} {e : Env} {R : Room} {s : State} {m : MethodId} {args : Array Value} {below : List Frame} {meth : Method} {c : Code} {H : Heap} {locs : List Loc} {cells slots : Nat} {Q : State → Prop} {ls : Array Slot} {A : Nat → Prop} {H0 : Heap} {dC : Nat → ClassId} {dI : Nat → Nat → Nat} {cy : Nat → ClassId} {sq : Nat → Nat} {a0 : Nat} {fs : List Value} {Y : va_W} (C0 : k_cx p s m args c cX10_init 1 RX10 dC dI cy sq) (hin : meth.name = "<init>") (hA : ∀ q, H0.size ≤ q → A q) (hl : lv_has ls 1 [(0, .ref a0)]) (hlen : fs.length = 122) (hP : va_P (dC, dI) vwCl ((a0, .inr (10, fs)) :: Y) H) (hD : va_D A ((a0, .inr (10, fs)) :: Y)) (hS : va_S A H0 H locs) (h3 : cells + 1 ≤ R.cells) (h4 : slots + 4 ≤ R.slots) (kk : ∀ (q : Nat) (g : Nat → Int32) (fs1 : List Value) (Y1 : va_W) (H1 : Heap) (locs1 : List Loc), wa (lf_A g) [109, 111, 115, 116] → fs1 = fs.set 89 (.ref q) → fs1.length = 122 → Y1 = Y ++ [(q, .inl (cy 2, 4, .inl g))] → va_P (dC, dI) vwCl ((a0, .inr (10, fs1)) :: Y1) H1 → va_D A ((a0, .inr (10, fs1)) :: Y1) → va_S A H0 H1 locs1 → W p l e R s m args below meth c H1 locs1 (cells + 1) (slots + 4) Q (F0 m 1218 ls [])) : W p l e R s m args below meth c H locs cells slots Q (F0 m 1191 ls []) := by
  have hx := C0.1
  have hb := C0.2.1
  refine lv_aload_n hx hb dk_dX10_init_1172_8.2.2.2.2.2.2.1 rfl (lv_at hl 0 rfl) ?_
  refine lv_iconst (v := 4) hx hb dk_dX10_init_1172_8.2.2.2.2.2.2.2.1 (by decide) ?_
  refine k_newa C0 2 (ty := .char) rfl (atype := .char) rfl wd161 hP hD hS hA (a0 := (4, .inl (fun _ => 0))) (fun _ => rfl) (by decide) (by decide) (Nat.le_of_ble_eq_true rfl) (cells + 1) (slots + 4) (Nat.le_refl _) (Nat.le_refl _) h3 h4 dk_dX10_init_1193.1 (fun q H hP hD hS => ?_)
  refine lv_dup hx hb dk_dX10_init_1193.2.1 rfl ?_
  refine lv_iconst (v := 0) hx hb dk_dX10_init_1193.2.2.1 (by decide) ?_
  refine lv_bipush (v := 109) hx hb dk_dX10_init_1193.2.2.2.1 (by decide) ?_
  refine k_castU C0 hP hD hS (k_in 0 4 (by decide)) dk_dX10_init_1193.2.2.2.2.1 (fun g3 H locs e3 hP hD hS => ?_)
  refine lv_dup hx hb dk_dX10_init_1193.2.2.2.2.2.1 rfl ?_
  refine lv_iconst (v := 1) hx hb dk_dX10_init_1193.2.2.2.2.2.2.1 (by decide) ?_
  refine lv_bipush (v := 111) hx hb dk_dX10_init_1193.2.2.2.2.2.2.2.1 (by decide) ?_
  refine k_castU C0 hP hD hS (k_in 1 4 (by decide)) dk_dX10_init_1193_8.1 (fun g7 H locs e7 hP hD hS => ?_)
  refine lv_dup hx hb dk_dX10_init_1193_8.2.1 rfl ?_
  refine lv_iconst (v := 2) hx hb dk_dX10_init_1193_8.2.2.1 (by decide) ?_
  refine lv_bipush (v := 115) hx hb dk_dX10_init_1193_8.2.2.2.1 (by decide) ?_
  refine k_castU C0 hP hD hS (k_in 2 4 (by decide)) dk_dX10_init_1193_8.2.2.2.2.1 (fun g11 H locs e11 hP hD hS => ?_)
  refine lv_dup hx hb dk_dX10_init_1193_8.2.2.2.2.2.1 rfl ?_
  refine lv_iconst (v := 3) hx hb dk_dX10_init_1193_8.2.2.2.2.2.2.1 (by decide) ?_
  refine lv_bipush (v := 116) hx hb dk_dX10_init_1193_8.2.2.2.2.2.2.2.1 (by decide) ?_
  refine k_castU C0 hP hD hS (k_in 3 4 (by decide)) dk_dX10_init_1214.1 (fun g15 H locs e15 hP hD hS => ?_)
  refine k_putF C0 hin fp_X10_201 hP hD hS 0 rfl rfl rfl (Nat.lt_of_lt_of_eq (by decide) hlen.symm) dk_dX10_init_1214.2.1 (fun H locs hP hD hS => ?_)
  have hg : wa (lf_A g15) [109, 111, 115, 116] := by
    subst e15 e11 e7 e3
    unfold wa
    decide +kernel
  exact kk q g15 _ _ H locs hg rfl (by rw [List.length_set]; exact hlen) rfl hP hD hS
set_option maxHeartbeats 4000000 in
theorem mi_90 {p : Program} {l : Launch} {e : Env} {R : Room} {s : State} {m : MethodId} {args : Array Value} {below : List Frame} {meth : Method} {c : Code} {H : Heap} {locs : List Loc} {cells slots : Nat} {Q : State → Prop} {ls : Array Slot} {A : Nat → Prop} {H0 : Heap} {dC : Nat → ClassId} {dI : Nat → Nat → Nat} {cy : Nat → ClassId} {sq : Nat → Nat} {a0 : Nat} {fs : List Value} {Y : va_W} (C0 : k_cx p s m args c cX10_init 1 RX10 dC dI cy sq) (hin : meth.name = "<init>") (hA : ∀ q, H0.size ≤ q → A q) (hl : lv_has ls 1 [(0, .ref a0)]) (hlen : fs.length = 122) (hP : va_P (dC, dI) vwCl ((a0, .inr (10, fs)) :: Y) H) (hD : va_D A ((a0, .inr (10, fs)) :: Y)) (hS : va_S A H0 H locs) (h3 : cells + 1 ≤ R.cells) (h4 : slots + 5 ≤ R.slots) (kk : ∀ (q : Nat) (g : Nat → Int32) (fs1 : List Value) (Y1 : va_W) (H1 : Heap) (locs1 : List Loc), wa (lf_A g) [108, 101, 97, 115, 116] → fs1 = fs.set 90 (.ref q) → fs1.length = 122 → Y1 = Y ++ [(q, .inl (cy 2, 5, .inl g))] → va_P (dC, dI) vwCl ((a0, .inr (10, fs1)) :: Y1) H1 → va_D A ((a0, .inr (10, fs1)) :: Y1) → va_S A H0 H1 locs1 → W p l e R s m args below meth c H1 locs1 (cells + 1) (slots + 5) Q (F0 m 1250 ls [])) : W p l e R s m args below meth c H locs cells slots Q (F0 m 1218 ls []) := by
  have hx := C0.1
  have hb := C0.2.1
  refine lv_aload_n hx hb dk_dX10_init_1214.2.2.1 rfl (lv_at hl 0 rfl) ?_
  refine lv_iconst (v := 5) hx hb dk_dX10_init_1214.2.2.2.1 (by decide) ?_
  refine k_newa C0 2 (ty := .char) rfl (atype := .char) rfl wd161 hP hD hS hA (a0 := (5, .inl (fun _ => 0))) (fun _ => rfl) (by decide) (by decide) (Nat.le_of_ble_eq_true rfl) (cells + 1) (slots + 5) (Nat.le_refl _) (Nat.le_refl _) h3 h4 dk_dX10_init_1214.2.2.2.2.1 (fun q H hP hD hS => ?_)
  refine lv_dup hx hb dk_dX10_init_1214.2.2.2.2.2.1 rfl ?_
  refine lv_iconst (v := 0) hx hb dk_dX10_init_1214.2.2.2.2.2.2.1 (by decide) ?_
  refine lv_bipush (v := 108) hx hb dk_dX10_init_1214.2.2.2.2.2.2.2.1 (by decide) ?_
  refine k_castU C0 hP hD hS (k_in 0 5 (by decide)) dk_dX10_init_1214_8.1 (fun g3 H locs e3 hP hD hS => ?_)
  refine lv_dup hx hb dk_dX10_init_1214_8.2.1 rfl ?_
  refine lv_iconst (v := 1) hx hb dk_dX10_init_1214_8.2.2.1 (by decide) ?_
  refine lv_bipush (v := 101) hx hb dk_dX10_init_1214_8.2.2.2.1 (by decide) ?_
  refine k_castU C0 hP hD hS (k_in 1 5 (by decide)) dk_dX10_init_1214_8.2.2.2.2.1 (fun g7 H locs e7 hP hD hS => ?_)
  refine lv_dup hx hb dk_dX10_init_1214_8.2.2.2.2.2.1 rfl ?_
  refine lv_iconst (v := 2) hx hb dk_dX10_init_1214_8.2.2.2.2.2.2.1 (by decide) ?_
  refine lv_bipush (v := 97) hx hb dk_dX10_init_1214_8.2.2.2.2.2.2.2.1 (by decide) ?_
  refine k_castU C0 hP hD hS (k_in 2 5 (by decide)) dk_dX10_init_1236.1 (fun g11 H locs e11 hP hD hS => ?_)
  refine lv_dup hx hb dk_dX10_init_1236.2.1 rfl ?_
  refine lv_iconst (v := 3) hx hb dk_dX10_init_1236.2.2.1 (by decide) ?_
  refine lv_bipush (v := 115) hx hb dk_dX10_init_1236.2.2.2.1 (by decide) ?_
  refine k_castU C0 hP hD hS (k_in 3 5 (by decide)) dk_dX10_init_1236.2.2.2.2.1 (fun g15 H locs e15 hP hD hS => ?_)
  refine lv_dup hx hb dk_dX10_init_1236.2.2.2.2.2.1 rfl ?_
  refine lv_iconst (v := 4) hx hb dk_dX10_init_1236.2.2.2.2.2.2.1 (by decide) ?_
  refine lv_bipush (v := 116) hx hb dk_dX10_init_1236.2.2.2.2.2.2.2.1 (by decide) ?_
  refine k_castU C0 hP hD hS (k_in 4 5 (by decide)) dk_dX10_init_1236_8.1 (fun g19 H locs e19 hP hD hS => ?_)
  refine k_putF C0 hin fp_X10_204 hP hD hS 0 rfl rfl rfl (Nat.lt_of_lt_of_eq (by decide) hlen.symm) dk_dX10_init_1236_8.2.1 (fun H locs hP hD hS => ?_)
  have hg : wa (lf_A g19) [108, 101, 97, 115, 116] := by
    subst e19 e15 e11 e7 e3
    unfold wa
    decide +kernel
  exact kk q g19 _ _ H locs hg rfl (by rw [List.length_set]; exact hlen) rfl hP hD hS
set_option maxHeartbeats 4000000 in
theorem mi_91 {p : Program} {l : Launch} {e : Env} {R : Room} {s : State} {m : MethodId} {args : Array Value} {below : List Frame} {meth : Method} {c : Code} {H : Heap} {locs : List Loc} {cells slots : Nat} {Q : State → Prop} {ls : Array Slot} {A : Nat → Prop} {H0 : Heap} {dC : Nat → ClassId} {dI : Nat → Nat → Nat} {cy : Nat → ClassId} {sq : Nat → Nat} {a0 : Nat} {fs : List Value} {Y : va_W} (C0 : k_cx p s m args c cX10_init 1 RX10 dC dI cy sq) (hin : meth.name = "<init>") (hA : ∀ q, H0.size ≤ q → A q) (hl : lv_has ls 1 [(0, .ref a0)]) (hlen : fs.length = 122) (hP : va_P (dC, dI) vwCl ((a0, .inr (10, fs)) :: Y) H) (hD : va_D A ((a0, .inr (10, fs)) :: Y)) (hS : va_S A H0 H locs) (h3 : cells + 1 ≤ R.cells) (h4 : slots + 3 ≤ R.slots) (kk : ∀ (q : Nat) (g : Nat → Int32) (fs1 : List Value) (Y1 : va_W) (H1 : Heap) (locs1 : List Loc), wa (lf_A g) [110, 111, 116] → fs1 = fs.set 91 (.ref q) → fs1.length = 122 → Y1 = Y ++ [(q, .inl (cy 2, 3, .inl g))] → va_P (dC, dI) vwCl ((a0, .inr (10, fs1)) :: Y1) H1 → va_D A ((a0, .inr (10, fs1)) :: Y1) → va_S A H0 H1 locs1 → W p l e R s m args below meth c H1 locs1 (cells + 1) (slots + 3) Q (F0 m 1272 ls [])) : W p l e R s m args below meth c H locs cells slots Q (F0 m 1250 ls []) := by
  have hx := C0.1
  have hb := C0.2.1
  refine lv_aload_n hx hb dk_dX10_init_1236_8.2.2.1 rfl (lv_at hl 0 rfl) ?_
  refine lv_iconst (v := 3) hx hb dk_dX10_init_1236_8.2.2.2.1 (by decide) ?_
  refine k_newa C0 2 (ty := .char) rfl (atype := .char) rfl wd161 hP hD hS hA (a0 := (3, .inl (fun _ => 0))) (fun _ => rfl) (by decide) (by decide) (Nat.le_of_ble_eq_true rfl) (cells + 1) (slots + 3) (Nat.le_refl _) (Nat.le_refl _) h3 h4 dk_dX10_init_1236_8.2.2.2.2.1 (fun q H hP hD hS => ?_)
  refine lv_dup hx hb dk_dX10_init_1236_8.2.2.2.2.2.1 rfl ?_
  refine lv_iconst (v := 0) hx hb dk_dX10_init_1236_8.2.2.2.2.2.2.1 (by decide) ?_
  refine lv_bipush (v := 110) hx hb dk_dX10_init_1236_8.2.2.2.2.2.2.2.1 (by decide) ?_
  refine k_castU C0 hP hD hS (k_in 0 3 (by decide)) dk_dX10_init_1258.1 (fun g3 H locs e3 hP hD hS => ?_)
  refine lv_dup hx hb dk_dX10_init_1258.2.1 rfl ?_
  refine lv_iconst (v := 1) hx hb dk_dX10_init_1258.2.2.1 (by decide) ?_
  refine lv_bipush (v := 111) hx hb dk_dX10_init_1258.2.2.2.1 (by decide) ?_
  refine k_castU C0 hP hD hS (k_in 1 3 (by decide)) dk_dX10_init_1258.2.2.2.2.1 (fun g7 H locs e7 hP hD hS => ?_)
  refine lv_dup hx hb dk_dX10_init_1258.2.2.2.2.2.1 rfl ?_
  refine lv_iconst (v := 2) hx hb dk_dX10_init_1258.2.2.2.2.2.2.1 (by decide) ?_
  refine lv_bipush (v := 116) hx hb dk_dX10_init_1258.2.2.2.2.2.2.2.1 (by decide) ?_
  refine k_castU C0 hP hD hS (k_in 2 3 (by decide)) dk_dX10_init_1258_8.1 (fun g11 H locs e11 hP hD hS => ?_)
  refine k_putF C0 hin fp_X10_207 hP hD hS 0 rfl rfl rfl (Nat.lt_of_lt_of_eq (by decide) hlen.symm) dk_dX10_init_1258_8.2.1 (fun H locs hP hD hS => ?_)
  have hg : wa (lf_A g11) [110, 111, 116] := by
    subst e11 e7 e3
    unfold wa
    decide +kernel
  exact kk q g11 _ _ H locs hg rfl (by rw [List.length_set]; exact hlen) rfl hP hD hS
set_option maxHeartbeats 4000000 in
theorem mi_92 {p : Program} {l : Launch} {e : Env} {R : Room} {s : State} {m : MethodId} {args : Array Value} {below : List Frame} {meth : Method} {c : Code} {H : Heap} {locs : List Loc} {cells slots : Nat} {Q : State → Prop} {ls : Array Slot} {A : Nat → Prop} {H0 : Heap} {dC : Nat → ClassId} {dI : Nat → Nat → Nat} {cy : Nat → ClassId} {sq : Nat → Nat} {a0 : Nat} {fs : List Value} {Y : va_W} (C0 : k_cx p s m args c cX10_init 1 RX10 dC dI cy sq) (hin : meth.name = "<init>") (hA : ∀ q, H0.size ≤ q → A q) (hl : lv_has ls 1 [(0, .ref a0)]) (hlen : fs.length = 122) (hP : va_P (dC, dI) vwCl ((a0, .inr (10, fs)) :: Y) H) (hD : va_D A ((a0, .inr (10, fs)) :: Y)) (hS : va_S A H0 H locs) (h3 : cells + 1 ≤ R.cells) (h4 : slots + 3 ≤ R.slots) (kk : ∀ (q : Nat) (g : Nat → Int32) (fs1 : List Value) (Y1 : va_W) (H1 : Heap) (locs1 : List Loc), wa (lf_A g) [97, 110, 100] → fs1 = fs.set 92 (.ref q) → fs1.length = 122 → Y1 = Y ++ [(q, .inl (cy 2, 3, .inl g))] → va_P (dC, dI) vwCl ((a0, .inr (10, fs1)) :: Y1) H1 → va_D A ((a0, .inr (10, fs1)) :: Y1) → va_S A H0 H1 locs1 → W p l e R s m args below meth c H1 locs1 (cells + 1) (slots + 3) Q (F0 m 1294 ls [])) : W p l e R s m args below meth c H locs cells slots Q (F0 m 1272 ls []) := by
  have hx := C0.1
  have hb := C0.2.1
  refine lv_aload_n hx hb dk_dX10_init_1258_8.2.2.1 rfl (lv_at hl 0 rfl) ?_
  refine lv_iconst (v := 3) hx hb dk_dX10_init_1258_8.2.2.2.1 (by decide) ?_
  refine k_newa C0 2 (ty := .char) rfl (atype := .char) rfl wd161 hP hD hS hA (a0 := (3, .inl (fun _ => 0))) (fun _ => rfl) (by decide) (by decide) (Nat.le_of_ble_eq_true rfl) (cells + 1) (slots + 3) (Nat.le_refl _) (Nat.le_refl _) h3 h4 dk_dX10_init_1258_8.2.2.2.2.1 (fun q H hP hD hS => ?_)
  refine lv_dup hx hb dk_dX10_init_1258_8.2.2.2.2.2.1 rfl ?_
  refine lv_iconst (v := 0) hx hb dk_dX10_init_1258_8.2.2.2.2.2.2.1 (by decide) ?_
  refine lv_bipush (v := 97) hx hb dk_dX10_init_1258_8.2.2.2.2.2.2.2.1 (by decide) ?_
  refine k_castU C0 hP hD hS (k_in 0 3 (by decide)) dk_dX10_init_1280.1 (fun g3 H locs e3 hP hD hS => ?_)
  refine lv_dup hx hb dk_dX10_init_1280.2.1 rfl ?_
  refine lv_iconst (v := 1) hx hb dk_dX10_init_1280.2.2.1 (by decide) ?_
  refine lv_bipush (v := 110) hx hb dk_dX10_init_1280.2.2.2.1 (by decide) ?_
  refine k_castU C0 hP hD hS (k_in 1 3 (by decide)) dk_dX10_init_1280.2.2.2.2.1 (fun g7 H locs e7 hP hD hS => ?_)
  refine lv_dup hx hb dk_dX10_init_1280.2.2.2.2.2.1 rfl ?_
  refine lv_iconst (v := 2) hx hb dk_dX10_init_1280.2.2.2.2.2.2.1 (by decide) ?_
  refine lv_bipush (v := 100) hx hb dk_dX10_init_1280.2.2.2.2.2.2.2.1 (by decide) ?_
  refine k_castU C0 hP hD hS (k_in 2 3 (by decide)) dk_dX10_init_1280_8.1 (fun g11 H locs e11 hP hD hS => ?_)
  refine k_putF C0 hin fp_X10_210 hP hD hS 0 rfl rfl rfl (Nat.lt_of_lt_of_eq (by decide) hlen.symm) dk_dX10_init_1280_8.2.1 (fun H locs hP hD hS => ?_)
  have hg : wa (lf_A g11) [97, 110, 100] := by
    subst e11 e7 e3
    unfold wa
    decide +kernel
  exact kk q g11 _ _ H locs hg rfl (by rw [List.length_set]; exact hlen) rfl hP hD hS
set_option maxHeartbeats 4000000 in
theorem mi_93 {p : Program} {l : Launch} {e : Env} {R : Room} {s : State} {m : MethodId} {args : Array Value} {below : List Frame} {meth : Method} {c : Code} {H : Heap} {locs : List Loc} {cells slots : Nat} {Q : State → Prop} {ls : Array Slot} {A : Nat → Prop} {H0 : Heap} {dC : Nat → ClassId} {dI : Nat → Nat → Nat} {cy : Nat → ClassId} {sq : Nat → Nat} {a0 : Nat} {fs : List Value} {Y : va_W} (C0 : k_cx p s m args c cX10_init 1 RX10 dC dI cy sq) (hin : meth.name = "<init>") (hA : ∀ q, H0.size ≤ q → A q) (hl : lv_has ls 1 [(0, .ref a0)]) (hlen : fs.length = 122) (hP : va_P (dC, dI) vwCl ((a0, .inr (10, fs)) :: Y) H) (hD : va_D A ((a0, .inr (10, fs)) :: Y)) (hS : va_S A H0 H locs) (h3 : cells + 1 ≤ R.cells) (h4 : slots + 2 ≤ R.slots) (kk : ∀ (q : Nat) (g : Nat → Int32) (fs1 : List Value) (Y1 : va_W) (H1 : Heap) (locs1 : List Loc), wa (lf_A g) [111, 114] → fs1 = fs.set 93 (.ref q) → fs1.length = 122 → Y1 = Y ++ [(q, .inl (cy 2, 2, .inl g))] → va_P (dC, dI) vwCl ((a0, .inr (10, fs1)) :: Y1) H1 → va_D A ((a0, .inr (10, fs1)) :: Y1) → va_S A H0 H1 locs1 → W p l e R s m args below meth c H1 locs1 (cells + 1) (slots + 2) Q (F0 m 1311 ls [])) : W p l e R s m args below meth c H locs cells slots Q (F0 m 1294 ls []) := by
  have hx := C0.1
  have hb := C0.2.1
  refine lv_aload_n hx hb dk_dX10_init_1280_8.2.2.1 rfl (lv_at hl 0 rfl) ?_
  refine lv_iconst (v := 2) hx hb dk_dX10_init_1280_8.2.2.2.1 (by decide) ?_
  refine k_newa C0 2 (ty := .char) rfl (atype := .char) rfl wd161 hP hD hS hA (a0 := (2, .inl (fun _ => 0))) (fun _ => rfl) (by decide) (by decide) (Nat.le_of_ble_eq_true rfl) (cells + 1) (slots + 2) (Nat.le_refl _) (Nat.le_refl _) h3 h4 dk_dX10_init_1280_8.2.2.2.2.1 (fun q H hP hD hS => ?_)
  refine lv_dup hx hb dk_dX10_init_1280_8.2.2.2.2.2.1 rfl ?_
  refine lv_iconst (v := 0) hx hb dk_dX10_init_1280_8.2.2.2.2.2.2.1 (by decide) ?_
  refine lv_bipush (v := 111) hx hb dk_dX10_init_1280_8.2.2.2.2.2.2.2.1 (by decide) ?_
  refine k_castU C0 hP hD hS (k_in 0 2 (by decide)) dk_dX10_init_1302.1 (fun g3 H locs e3 hP hD hS => ?_)
  refine lv_dup hx hb dk_dX10_init_1302.2.1 rfl ?_
  refine lv_iconst (v := 1) hx hb dk_dX10_init_1302.2.2.1 (by decide) ?_
  refine lv_bipush (v := 114) hx hb dk_dX10_init_1302.2.2.2.1 (by decide) ?_
  refine k_castU C0 hP hD hS (k_in 1 2 (by decide)) dk_dX10_init_1302.2.2.2.2.1 (fun g7 H locs e7 hP hD hS => ?_)
  refine k_putF C0 hin fp_X10_213 hP hD hS 0 rfl rfl rfl (Nat.lt_of_lt_of_eq (by decide) hlen.symm) dk_dX10_init_1302.2.2.2.2.2.1 (fun H locs hP hD hS => ?_)
  have hg : wa (lf_A g7) [111, 114] := by
    subst e7 e3
    unfold wa
    decide +kernel
  exact kk q g7 _ _ H locs hg rfl (by rw [List.length_set]; exact hlen) rfl hP hD hS
set_option maxHeartbeats 4000000 in
theorem mi_94 {p : Program} {l : Launch} {e : Env} {R : Room} {s : State} {m : MethodId} {args : Array Value} {below : List Frame} {meth : Method} {c : Code} {H : Heap} {locs : List Loc} {cells slots : Nat} {Q : State → Prop} {ls : Array Slot} {A : Nat → Prop} {H0 : Heap} {dC : Nat → ClassId} {dI : Nat → Nat → Nat} {cy : Nat → ClassId} {sq : Nat → Nat} {a0 : Nat} {fs : List Value} {Y : va_W} (C0 : k_cx p s m args c cX10_init 1 RX10 dC dI cy sq) (hin : meth.name = "<init>") (hA : ∀ q, H0.size ≤ q → A q) (hl : lv_has ls 1 [(0, .ref a0)]) (hlen : fs.length = 122) (hP : va_P (dC, dI) vwCl ((a0, .inr (10, fs)) :: Y) H) (hD : va_D A ((a0, .inr (10, fs)) :: Y)) (hS : va_S A H0 H locs) (h3 : cells + 1 ≤ R.cells) (h4 : slots + 3 ≤ R.slots) (kk : ∀ (q : Nat) (g : Nat → Int32) (fs1 : List Value) (Y1 : va_W) (H1 : Heap) (locs1 : List Loc), wa (lf_A g) [97, 108, 108] → fs1 = fs.set 94 (.ref q) → fs1.length = 122 → Y1 = Y ++ [(q, .inl (cy 2, 3, .inl g))] → va_P (dC, dI) vwCl ((a0, .inr (10, fs1)) :: Y1) H1 → va_D A ((a0, .inr (10, fs1)) :: Y1) → va_S A H0 H1 locs1 → W p l e R s m args below meth c H1 locs1 (cells + 1) (slots + 3) Q (F0 m 1333 ls [])) : W p l e R s m args below meth c H locs cells slots Q (F0 m 1311 ls []) := by
  have hx := C0.1
  have hb := C0.2.1
  refine lv_aload_n hx hb dk_dX10_init_1302.2.2.2.2.2.2.1 rfl (lv_at hl 0 rfl) ?_
  refine lv_iconst (v := 3) hx hb dk_dX10_init_1302.2.2.2.2.2.2.2.1 (by decide) ?_
  refine k_newa C0 2 (ty := .char) rfl (atype := .char) rfl wd161 hP hD hS hA (a0 := (3, .inl (fun _ => 0))) (fun _ => rfl) (by decide) (by decide) (Nat.le_of_ble_eq_true rfl) (cells + 1) (slots + 3) (Nat.le_refl _) (Nat.le_refl _) h3 h4 dk_dX10_init_1302_8.1 (fun q H hP hD hS => ?_)
  refine lv_dup hx hb dk_dX10_init_1302_8.2.1 rfl ?_
  refine lv_iconst (v := 0) hx hb dk_dX10_init_1302_8.2.2.1 (by decide) ?_
  refine lv_bipush (v := 97) hx hb dk_dX10_init_1302_8.2.2.2.1 (by decide) ?_
  refine k_castU C0 hP hD hS (k_in 0 3 (by decide)) dk_dX10_init_1302_8.2.2.2.2.1 (fun g3 H locs e3 hP hD hS => ?_)
  refine lv_dup hx hb dk_dX10_init_1302_8.2.2.2.2.2.1 rfl ?_
  refine lv_iconst (v := 1) hx hb dk_dX10_init_1302_8.2.2.2.2.2.2.1 (by decide) ?_
  refine lv_bipush (v := 108) hx hb dk_dX10_init_1302_8.2.2.2.2.2.2.2.1 (by decide) ?_
  refine k_castU C0 hP hD hS (k_in 1 3 (by decide)) dk_dX10_init_1324.1 (fun g7 H locs e7 hP hD hS => ?_)
  refine lv_dup hx hb dk_dX10_init_1324.2.1 rfl ?_
  refine lv_iconst (v := 2) hx hb dk_dX10_init_1324.2.2.1 (by decide) ?_
  refine lv_bipush (v := 108) hx hb dk_dX10_init_1324.2.2.2.1 (by decide) ?_
  refine k_castU C0 hP hD hS (k_in 2 3 (by decide)) dk_dX10_init_1324.2.2.2.2.1 (fun g11 H locs e11 hP hD hS => ?_)
  refine k_putF C0 hin fp_X10_216 hP hD hS 0 rfl rfl rfl (Nat.lt_of_lt_of_eq (by decide) hlen.symm) dk_dX10_init_1324.2.2.2.2.2.1 (fun H locs hP hD hS => ?_)
  have hg : wa (lf_A g11) [97, 108, 108] := by
    subst e11 e7 e3
    unfold wa
    decide +kernel
  exact kk q g11 _ _ H locs hg rfl (by rw [List.length_set]; exact hlen) rfl hP hD hS
set_option maxHeartbeats 4000000 in
theorem mi_95 {p : Program} {l : Launch} {e : Env} {R : Room} {s : State} {m : MethodId} {args : Array Value} {below : List Frame} {meth : Method} {c : Code} {H : Heap} {locs : List Loc} {cells slots : Nat} {Q : State → Prop} {ls : Array Slot} {A : Nat → Prop} {H0 : Heap} {dC : Nat → ClassId} {dI : Nat → Nat → Nat} {cy : Nat → ClassId} {sq : Nat → Nat} {a0 : Nat} {fs : List Value} {Y : va_W} (C0 : k_cx p s m args c cX10_init 1 RX10 dC dI cy sq) (hin : meth.name = "<init>") (hA : ∀ q, H0.size ≤ q → A q) (hl : lv_has ls 1 [(0, .ref a0)]) (hlen : fs.length = 122) (hP : va_P (dC, dI) vwCl ((a0, .inr (10, fs)) :: Y) H) (hD : va_D A ((a0, .inr (10, fs)) :: Y)) (hS : va_S A H0 H locs) (h3 : cells + 1 ≤ R.cells) (h4 : slots + 3 ≤ R.slots) (kk : ∀ (q : Nat) (g : Nat → Int32) (fs1 : List Value) (Y1 : va_W) (H1 : Heap) (locs1 : List Loc), wa (lf_A g) [109, 105, 110] → fs1 = fs.set 95 (.ref q) → fs1.length = 122 → Y1 = Y ++ [(q, .inl (cy 2, 3, .inl g))] → va_P (dC, dI) vwCl ((a0, .inr (10, fs1)) :: Y1) H1 → va_D A ((a0, .inr (10, fs1)) :: Y1) → va_S A H0 H1 locs1 → W p l e R s m args below meth c H1 locs1 (cells + 1) (slots + 3) Q (F0 m 1355 ls [])) : W p l e R s m args below meth c H locs cells slots Q (F0 m 1333 ls []) := by
  have hx := C0.1
  have hb := C0.2.1
  refine lv_aload_n hx hb dk_dX10_init_1324.2.2.2.2.2.2.1 rfl (lv_at hl 0 rfl) ?_
  refine lv_iconst (v := 3) hx hb dk_dX10_init_1324.2.2.2.2.2.2.2.1 (by decide) ?_
  refine k_newa C0 2 (ty := .char) rfl (atype := .char) rfl wd161 hP hD hS hA (a0 := (3, .inl (fun _ => 0))) (fun _ => rfl) (by decide) (by decide) (Nat.le_of_ble_eq_true rfl) (cells + 1) (slots + 3) (Nat.le_refl _) (Nat.le_refl _) h3 h4 dk_dX10_init_1324_8.1 (fun q H hP hD hS => ?_)
  refine lv_dup hx hb dk_dX10_init_1324_8.2.1 rfl ?_
  refine lv_iconst (v := 0) hx hb dk_dX10_init_1324_8.2.2.1 (by decide) ?_
  refine lv_bipush (v := 109) hx hb dk_dX10_init_1324_8.2.2.2.1 (by decide) ?_
  refine k_castU C0 hP hD hS (k_in 0 3 (by decide)) dk_dX10_init_1324_8.2.2.2.2.1 (fun g3 H locs e3 hP hD hS => ?_)
  refine lv_dup hx hb dk_dX10_init_1324_8.2.2.2.2.2.1 rfl ?_
  refine lv_iconst (v := 1) hx hb dk_dX10_init_1324_8.2.2.2.2.2.2.1 (by decide) ?_
  refine lv_bipush (v := 105) hx hb dk_dX10_init_1324_8.2.2.2.2.2.2.2.1 (by decide) ?_
  refine k_castU C0 hP hD hS (k_in 1 3 (by decide)) dk_dX10_init_1346.1 (fun g7 H locs e7 hP hD hS => ?_)
  refine lv_dup hx hb dk_dX10_init_1346.2.1 rfl ?_
  refine lv_iconst (v := 2) hx hb dk_dX10_init_1346.2.2.1 (by decide) ?_
  refine lv_bipush (v := 110) hx hb dk_dX10_init_1346.2.2.2.1 (by decide) ?_
  refine k_castU C0 hP hD hS (k_in 2 3 (by decide)) dk_dX10_init_1346.2.2.2.2.1 (fun g11 H locs e11 hP hD hS => ?_)
  refine k_putF C0 hin fp_X10_219 hP hD hS 0 rfl rfl rfl (Nat.lt_of_lt_of_eq (by decide) hlen.symm) dk_dX10_init_1346.2.2.2.2.2.1 (fun H locs hP hD hS => ?_)
  have hg : wa (lf_A g11) [109, 105, 110] := by
    subst e11 e7 e3
    unfold wa
    decide +kernel
  exact kk q g11 _ _ H locs hg rfl (by rw [List.length_set]; exact hlen) rfl hP hD hS
set_option maxHeartbeats 4000000 in
theorem mi_96 {p : Program} {l : Launch} {e : Env} {R : Room} {s : State} {m : MethodId} {args : Array Value} {below : List Frame} {meth : Method} {c : Code} {H : Heap} {locs : List Loc} {cells slots : Nat} {Q : State → Prop} {ls : Array Slot} {A : Nat → Prop} {H0 : Heap} {dC : Nat → ClassId} {dI : Nat → Nat → Nat} {cy : Nat → ClassId} {sq : Nat → Nat} {a0 : Nat} {fs : List Value} {Y : va_W} (C0 : k_cx p s m args c cX10_init 1 RX10 dC dI cy sq) (hin : meth.name = "<init>") (hA : ∀ q, H0.size ≤ q → A q) (hl : lv_has ls 1 [(0, .ref a0)]) (hlen : fs.length = 122) (hP : va_P (dC, dI) vwCl ((a0, .inr (10, fs)) :: Y) H) (hD : va_D A ((a0, .inr (10, fs)) :: Y)) (hS : va_S A H0 H locs) (h3 : cells + 1 ≤ R.cells) (h4 : slots + 3 ≤ R.slots) (kk : ∀ (q : Nat) (g : Nat → Int32) (fs1 : List Value) (Y1 : va_W) (H1 : Heap) (locs1 : List Loc), wa (lf_A g) [109, 97, 120] → fs1 = fs.set 96 (.ref q) → fs1.length = 122 → Y1 = Y ++ [(q, .inl (cy 2, 3, .inl g))] → va_P (dC, dI) vwCl ((a0, .inr (10, fs1)) :: Y1) H1 → va_D A ((a0, .inr (10, fs1)) :: Y1) → va_S A H0 H1 locs1 → W p l e R s m args below meth c H1 locs1 (cells + 1) (slots + 3) Q (F0 m 1377 ls [])) : W p l e R s m args below meth c H locs cells slots Q (F0 m 1355 ls []) := by
  have hx := C0.1
  have hb := C0.2.1
  refine lv_aload_n hx hb dk_dX10_init_1346.2.2.2.2.2.2.1 rfl (lv_at hl 0 rfl) ?_
  refine lv_iconst (v := 3) hx hb dk_dX10_init_1346.2.2.2.2.2.2.2.1 (by decide) ?_
  refine k_newa C0 2 (ty := .char) rfl (atype := .char) rfl wd161 hP hD hS hA (a0 := (3, .inl (fun _ => 0))) (fun _ => rfl) (by decide) (by decide) (Nat.le_of_ble_eq_true rfl) (cells + 1) (slots + 3) (Nat.le_refl _) (Nat.le_refl _) h3 h4 dk_dX10_init_1346_8.1 (fun q H hP hD hS => ?_)
  refine lv_dup hx hb dk_dX10_init_1346_8.2.1 rfl ?_
  refine lv_iconst (v := 0) hx hb dk_dX10_init_1346_8.2.2.1 (by decide) ?_
  refine lv_bipush (v := 109) hx hb dk_dX10_init_1346_8.2.2.2.1 (by decide) ?_
  refine k_castU C0 hP hD hS (k_in 0 3 (by decide)) dk_dX10_init_1346_8.2.2.2.2.1 (fun g3 H locs e3 hP hD hS => ?_)
  refine lv_dup hx hb dk_dX10_init_1346_8.2.2.2.2.2.1 rfl ?_
  refine lv_iconst (v := 1) hx hb dk_dX10_init_1346_8.2.2.2.2.2.2.1 (by decide) ?_
  refine lv_bipush (v := 97) hx hb dk_dX10_init_1346_8.2.2.2.2.2.2.2.1 (by decide) ?_
  refine k_castU C0 hP hD hS (k_in 1 3 (by decide)) dk_dX10_init_1368.1 (fun g7 H locs e7 hP hD hS => ?_)
  refine lv_dup hx hb dk_dX10_init_1368.2.1 rfl ?_
  refine lv_iconst (v := 2) hx hb dk_dX10_init_1368.2.2.1 (by decide) ?_
  refine lv_bipush (v := 120) hx hb dk_dX10_init_1368.2.2.2.1 (by decide) ?_
  refine k_castU C0 hP hD hS (k_in 2 3 (by decide)) dk_dX10_init_1368.2.2.2.2.1 (fun g11 H locs e11 hP hD hS => ?_)
  refine k_putF C0 hin fp_X10_222 hP hD hS 0 rfl rfl rfl (Nat.lt_of_lt_of_eq (by decide) hlen.symm) dk_dX10_init_1368.2.2.2.2.2.1 (fun H locs hP hD hS => ?_)
  have hg : wa (lf_A g11) [109, 97, 120] := by
    subst e11 e7 e3
    unfold wa
    decide +kernel
  exact kk q g11 _ _ H locs hg rfl (by rw [List.length_set]; exact hlen) rfl hP hD hS
set_option maxHeartbeats 4000000 in
theorem mi_97 {p : Program} {l : Launch} {e : Env} {R : Room} {s : State} {m : MethodId} {args : Array Value} {below : List Frame} {meth : Method} {c : Code} {H : Heap} {locs : List Loc} {cells slots : Nat} {Q : State → Prop} {ls : Array Slot} {A : Nat → Prop} {H0 : Heap} {dC : Nat → ClassId} {dI : Nat → Nat → Nat} {cy : Nat → ClassId} {sq : Nat → Nat} {a0 : Nat} {fs : List Value} {Y : va_W} (C0 : k_cx p s m args c cX10_init 1 RX10 dC dI cy sq) (hin : meth.name = "<init>") (hA : ∀ q, H0.size ≤ q → A q) (hl : lv_has ls 1 [(0, .ref a0)]) (hlen : fs.length = 122) (hP : va_P (dC, dI) vwCl ((a0, .inr (10, fs)) :: Y) H) (hD : va_D A ((a0, .inr (10, fs)) :: Y)) (hS : va_S A H0 H locs) (h3 : cells + 1 ≤ R.cells) (h4 : slots + 6 ≤ R.slots) (kk : ∀ (q : Nat) (g : Nat → Int32) (fs1 : List Value) (Y1 : va_W) (H1 : Heap) (locs1 : List Loc), wa (lf_A g) [115, 101, 99, 111, 110, 100] → fs1 = fs.set 97 (.ref q) → fs1.length = 122 → Y1 = Y ++ [(q, .inl (cy 2, 6, .inl g))] → va_P (dC, dI) vwCl ((a0, .inr (10, fs1)) :: Y1) H1 → va_D A ((a0, .inr (10, fs1)) :: Y1) → va_S A H0 H1 locs1 → W p l e R s m args below meth c H1 locs1 (cells + 1) (slots + 6) Q (F0 m 1415 ls [])) : W p l e R s m args below meth c H locs cells slots Q (F0 m 1377 ls []) := by
  have hx := C0.1
  have hb := C0.2.1
  refine lv_aload_n hx hb dk_dX10_init_1368.2.2.2.2.2.2.1 rfl (lv_at hl 0 rfl) ?_
  refine lv_bipush (v := 6) hx hb dk_dX10_init_1368.2.2.2.2.2.2.2.1 (by decide) ?_
  refine k_newa C0 2 (ty := .char) rfl (atype := .char) rfl wd161 hP hD hS hA (a0 := (6, .inl (fun _ => 0))) (fun _ => rfl) (by decide) (by decide) (Nat.le_of_ble_eq_true rfl) (cells + 1) (slots + 6) (Nat.le_refl _) (Nat.le_refl _) h3 h4 dk_dX10_init_1368_8.1 (fun q H hP hD hS => ?_)
  refine lv_dup hx hb dk_dX10_init_1368_8.2.1 rfl ?_
  refine lv_iconst (v := 0) hx hb dk_dX10_init_1368_8.2.2.1 (by decide) ?_
  refine lv_bipush (v := 115) hx hb dk_dX10_init_1368_8.2.2.2.1 (by decide) ?_
  refine k_castU C0 hP hD hS (k_in 0 6 (by decide)) dk_dX10_init_1368_8.2.2.2.2.1 (fun g3 H locs e3 hP hD hS => ?_)
  refine lv_dup hx hb dk_dX10_init_1368_8.2.2.2.2.2.1 rfl ?_
  refine lv_iconst (v := 1) hx hb dk_dX10_init_1368_8.2.2.2.2.2.2.1 (by decide) ?_
  refine lv_bipush (v := 101) hx hb dk_dX10_init_1368_8.2.2.2.2.2.2.2.1 (by decide) ?_
  refine k_castU C0 hP hD hS (k_in 1 6 (by decide)) dk_dX10_init_1391.1 (fun g7 H locs e7 hP hD hS => ?_)
  refine lv_dup hx hb dk_dX10_init_1391.2.1 rfl ?_
  refine lv_iconst (v := 2) hx hb dk_dX10_init_1391.2.2.1 (by decide) ?_
  refine lv_bipush (v := 99) hx hb dk_dX10_init_1391.2.2.2.1 (by decide) ?_
  refine k_castU C0 hP hD hS (k_in 2 6 (by decide)) dk_dX10_init_1391.2.2.2.2.1 (fun g11 H locs e11 hP hD hS => ?_)
  refine lv_dup hx hb dk_dX10_init_1391.2.2.2.2.2.1 rfl ?_
  refine lv_iconst (v := 3) hx hb dk_dX10_init_1391.2.2.2.2.2.2.1 (by decide) ?_
  refine lv_bipush (v := 111) hx hb dk_dX10_init_1391.2.2.2.2.2.2.2.1 (by decide) ?_
  refine k_castU C0 hP hD hS (k_in 3 6 (by decide)) dk_dX10_init_1391_8.1 (fun g15 H locs e15 hP hD hS => ?_)
  refine lv_dup hx hb dk_dX10_init_1391_8.2.1 rfl ?_
  refine lv_iconst (v := 4) hx hb dk_dX10_init_1391_8.2.2.1 (by decide) ?_
  refine lv_bipush (v := 110) hx hb dk_dX10_init_1391_8.2.2.2.1 (by decide) ?_
  refine k_castU C0 hP hD hS (k_in 4 6 (by decide)) dk_dX10_init_1391_8.2.2.2.2.1 (fun g19 H locs e19 hP hD hS => ?_)
  refine lv_dup hx hb dk_dX10_init_1391_8.2.2.2.2.2.1 rfl ?_
  refine lv_iconst (v := 5) hx hb dk_dX10_init_1391_8.2.2.2.2.2.2.1 (by decide) ?_
  refine lv_bipush (v := 100) hx hb dk_dX10_init_1391_8.2.2.2.2.2.2.2.1 (by decide) ?_
  refine k_castU C0 hP hD hS (k_in 5 6 (by decide)) dk_dX10_init_1411.1 (fun g23 H locs e23 hP hD hS => ?_)
  refine k_putF C0 hin fp_X10_225 hP hD hS 0 rfl rfl rfl (Nat.lt_of_lt_of_eq (by decide) hlen.symm) dk_dX10_init_1411.2.1 (fun H locs hP hD hS => ?_)
  have hg : wa (lf_A g23) [115, 101, 99, 111, 110, 100] := by
    subst e23 e19 e15 e11 e7 e3
    unfold wa
    decide +kernel
  exact kk q g23 _ _ H locs hg rfl (by rw [List.length_set]; exact hlen) rfl hP hD hS
set_option maxHeartbeats 4000000 in
theorem mi_98 {p : Program} {l : Launch} {e : Env} {R : Room} {s : State} {m : MethodId} {args : Array Value} {below : List Frame} {meth : Method} {c : Code} {H : Heap} {locs : List Loc} {cells slots : Nat} {Q : State → Prop} {ls : Array Slot} {A : Nat → Prop} {H0 : Heap} {dC : Nat → ClassId} {dI : Nat → Nat → Nat} {cy : Nat → ClassId} {sq : Nat → Nat} {a0 : Nat} {fs : List Value} {Y : va_W} (C0 : k_cx p s m args c cX10_init 1 RX10 dC dI cy sq) (hin : meth.name = "<init>") (hA : ∀ q, H0.size ≤ q → A q) (hl : lv_has ls 1 [(0, .ref a0)]) (hlen : fs.length = 122) (hP : va_P (dC, dI) vwCl ((a0, .inr (10, fs)) :: Y) H) (hD : va_D A ((a0, .inr (10, fs)) :: Y)) (hS : va_S A H0 H locs) (h3 : cells + 1 ≤ R.cells) (h4 : slots + 3 ≤ R.slots) (kk : ∀ (q : Nat) (g : Nat → Int32) (fs1 : List Value) (Y1 : va_W) (H1 : Heap) (locs1 : List Loc), wa (lf_A g) [100, 97, 121] → fs1 = fs.set 98 (.ref q) → fs1.length = 122 → Y1 = Y ++ [(q, .inl (cy 2, 3, .inl g))] → va_P (dC, dI) vwCl ((a0, .inr (10, fs1)) :: Y1) H1 → va_D A ((a0, .inr (10, fs1)) :: Y1) → va_S A H0 H1 locs1 → W p l e R s m args below meth c H1 locs1 (cells + 1) (slots + 3) Q (F0 m 1437 ls [])) : W p l e R s m args below meth c H locs cells slots Q (F0 m 1415 ls []) := by
  have hx := C0.1
  have hb := C0.2.1
  refine lv_aload_n hx hb dk_dX10_init_1411.2.2.1 rfl (lv_at hl 0 rfl) ?_
  refine lv_iconst (v := 3) hx hb dk_dX10_init_1411.2.2.2.1 (by decide) ?_
  refine k_newa C0 2 (ty := .char) rfl (atype := .char) rfl wd161 hP hD hS hA (a0 := (3, .inl (fun _ => 0))) (fun _ => rfl) (by decide) (by decide) (Nat.le_of_ble_eq_true rfl) (cells + 1) (slots + 3) (Nat.le_refl _) (Nat.le_refl _) h3 h4 dk_dX10_init_1411.2.2.2.2.1 (fun q H hP hD hS => ?_)
  refine lv_dup hx hb dk_dX10_init_1411.2.2.2.2.2.1 rfl ?_
  refine lv_iconst (v := 0) hx hb dk_dX10_init_1411.2.2.2.2.2.2.1 (by decide) ?_
  refine lv_bipush (v := 100) hx hb dk_dX10_init_1411.2.2.2.2.2.2.2.1 (by decide) ?_
  refine k_castU C0 hP hD hS (k_in 0 3 (by decide)) dk_dX10_init_1411_8.1 (fun g3 H locs e3 hP hD hS => ?_)
  refine lv_dup hx hb dk_dX10_init_1411_8.2.1 rfl ?_
  refine lv_iconst (v := 1) hx hb dk_dX10_init_1411_8.2.2.1 (by decide) ?_
  refine lv_bipush (v := 97) hx hb dk_dX10_init_1411_8.2.2.2.1 (by decide) ?_
  refine k_castU C0 hP hD hS (k_in 1 3 (by decide)) dk_dX10_init_1411_8.2.2.2.2.1 (fun g7 H locs e7 hP hD hS => ?_)
  refine lv_dup hx hb dk_dX10_init_1411_8.2.2.2.2.2.1 rfl ?_
  refine lv_iconst (v := 2) hx hb dk_dX10_init_1411_8.2.2.2.2.2.2.1 (by decide) ?_
  refine lv_bipush (v := 121) hx hb dk_dX10_init_1411_8.2.2.2.2.2.2.2.1 (by decide) ?_
  refine k_castU C0 hP hD hS (k_in 2 3 (by decide)) dk_dX10_init_1433.1 (fun g11 H locs e11 hP hD hS => ?_)
  refine k_putF C0 hin fp_X10_228 hP hD hS 0 rfl rfl rfl (Nat.lt_of_lt_of_eq (by decide) hlen.symm) dk_dX10_init_1433.2.1 (fun H locs hP hD hS => ?_)
  have hg : wa (lf_A g11) [100, 97, 121] := by
    subst e11 e7 e3
    unfold wa
    decide +kernel
  exact kk q g11 _ _ H locs hg rfl (by rw [List.length_set]; exact hlen) rfl hP hD hS
set_option maxHeartbeats 4000000 in
theorem mi_99 {p : Program} {l : Launch} {e : Env} {R : Room} {s : State} {m : MethodId} {args : Array Value} {below : List Frame} {meth : Method} {c : Code} {H : Heap} {locs : List Loc} {cells slots : Nat} {Q : State → Prop} {ls : Array Slot} {A : Nat → Prop} {H0 : Heap} {dC : Nat → ClassId} {dI : Nat → Nat → Nat} {cy : Nat → ClassId} {sq : Nat → Nat} {a0 : Nat} {fs : List Value} {Y : va_W} (C0 : k_cx p s m args c cX10_init 1 RX10 dC dI cy sq) (hin : meth.name = "<init>") (hA : ∀ q, H0.size ≤ q → A q) (hl : lv_has ls 1 [(0, .ref a0)]) (hlen : fs.length = 122) (hP : va_P (dC, dI) vwCl ((a0, .inr (10, fs)) :: Y) H) (hD : va_D A ((a0, .inr (10, fs)) :: Y)) (hS : va_S A H0 H locs) (h3 : cells + 1 ≤ R.cells) (h4 : slots + 5 ≤ R.slots) (kk : ∀ (q : Nat) (g : Nat → Int32) (fs1 : List Value) (Y1 : va_W) (H1 : Heap) (locs1 : List Loc), wa (lf_A g) [112, 104, 97, 115, 101] → fs1 = fs.set 99 (.ref q) → fs1.length = 122 → Y1 = Y ++ [(q, .inl (cy 2, 5, .inl g))] → va_P (dC, dI) vwCl ((a0, .inr (10, fs1)) :: Y1) H1 → va_D A ((a0, .inr (10, fs1)) :: Y1) → va_S A H0 H1 locs1 → W p l e R s m args below meth c H1 locs1 (cells + 1) (slots + 5) Q (F0 m 1469 ls [])) : W p l e R s m args below meth c H locs cells slots Q (F0 m 1437 ls []) := by
  have hx := C0.1
  have hb := C0.2.1
  refine lv_aload_n hx hb dk_dX10_init_1433.2.2.1 rfl (lv_at hl 0 rfl) ?_
  refine lv_iconst (v := 5) hx hb dk_dX10_init_1433.2.2.2.1 (by decide) ?_
  refine k_newa C0 2 (ty := .char) rfl (atype := .char) rfl wd161 hP hD hS hA (a0 := (5, .inl (fun _ => 0))) (fun _ => rfl) (by decide) (by decide) (Nat.le_of_ble_eq_true rfl) (cells + 1) (slots + 5) (Nat.le_refl _) (Nat.le_refl _) h3 h4 dk_dX10_init_1433.2.2.2.2.1 (fun q H hP hD hS => ?_)
  refine lv_dup hx hb dk_dX10_init_1433.2.2.2.2.2.1 rfl ?_
  refine lv_iconst (v := 0) hx hb dk_dX10_init_1433.2.2.2.2.2.2.1 (by decide) ?_
  refine lv_bipush (v := 112) hx hb dk_dX10_init_1433.2.2.2.2.2.2.2.1 (by decide) ?_
  refine k_castU C0 hP hD hS (k_in 0 5 (by decide)) dk_dX10_init_1433_8.1 (fun g3 H locs e3 hP hD hS => ?_)
  refine lv_dup hx hb dk_dX10_init_1433_8.2.1 rfl ?_
  refine lv_iconst (v := 1) hx hb dk_dX10_init_1433_8.2.2.1 (by decide) ?_
  refine lv_bipush (v := 104) hx hb dk_dX10_init_1433_8.2.2.2.1 (by decide) ?_
  refine k_castU C0 hP hD hS (k_in 1 5 (by decide)) dk_dX10_init_1433_8.2.2.2.2.1 (fun g7 H locs e7 hP hD hS => ?_)
  refine lv_dup hx hb dk_dX10_init_1433_8.2.2.2.2.2.1 rfl ?_
  refine lv_iconst (v := 2) hx hb dk_dX10_init_1433_8.2.2.2.2.2.2.1 (by decide) ?_
  refine lv_bipush (v := 97) hx hb dk_dX10_init_1433_8.2.2.2.2.2.2.2.1 (by decide) ?_
  refine k_castU C0 hP hD hS (k_in 2 5 (by decide)) dk_dX10_init_1455.1 (fun g11 H locs e11 hP hD hS => ?_)
  refine lv_dup hx hb dk_dX10_init_1455.2.1 rfl ?_
  refine lv_iconst (v := 3) hx hb dk_dX10_init_1455.2.2.1 (by decide) ?_
  refine lv_bipush (v := 115) hx hb dk_dX10_init_1455.2.2.2.1 (by decide) ?_
  refine k_castU C0 hP hD hS (k_in 3 5 (by decide)) dk_dX10_init_1455.2.2.2.2.1 (fun g15 H locs e15 hP hD hS => ?_)
  refine lv_dup hx hb dk_dX10_init_1455.2.2.2.2.2.1 rfl ?_
  refine lv_iconst (v := 4) hx hb dk_dX10_init_1455.2.2.2.2.2.2.1 (by decide) ?_
  refine lv_bipush (v := 101) hx hb dk_dX10_init_1455.2.2.2.2.2.2.2.1 (by decide) ?_
  refine k_castU C0 hP hD hS (k_in 4 5 (by decide)) dk_dX10_init_1455_8.1 (fun g19 H locs e19 hP hD hS => ?_)
  refine k_putF C0 hin fp_X10_231 hP hD hS 0 rfl rfl rfl (Nat.lt_of_lt_of_eq (by decide) hlen.symm) dk_dX10_init_1455_8.2.1 (fun H locs hP hD hS => ?_)
  have hg : wa (lf_A g19) [112, 104, 97, 115, 101] := by
    subst e19 e15 e11 e7 e3
    unfold wa
    decide +kernel
  exact kk q g19 _ _ H locs hg rfl (by rw [List.length_set]; exact hlen) rfl hP hD hS
set_option maxHeartbeats 4000000 in
theorem mi_100 {p : Program} {l : Launch} {e : Env} {R : Room} {s : State} {m : MethodId} {args : Array Value} {below : List Frame} {meth : Method} {c : Code} {H : Heap} {locs : List Loc} {cells slots : Nat} {Q : State → Prop} {ls : Array Slot} {A : Nat → Prop} {H0 : Heap} {dC : Nat → ClassId} {dI : Nat → Nat → Nat} {cy : Nat → ClassId} {sq : Nat → Nat} {a0 : Nat} {fs : List Value} {Y : va_W} (C0 : k_cx p s m args c cX10_init 1 RX10 dC dI cy sq) (hin : meth.name = "<init>") (hA : ∀ q, H0.size ≤ q → A q) (hl : lv_has ls 1 [(0, .ref a0)]) (hlen : fs.length = 122) (hP : va_P (dC, dI) vwCl ((a0, .inr (10, fs)) :: Y) H) (hD : va_D A ((a0, .inr (10, fs)) :: Y)) (hS : va_S A H0 H locs) (h3 : cells + 1 ≤ R.cells) (h4 : slots + 6 ≤ R.slots) (kk : ∀ (q : Nat) (g : Nat → Int32) (fs1 : List Value) (Y1 : va_W) (H1 : Heap) (locs1 : List Loc), wa (lf_A g) [119, 97, 105, 116, 101, 100] → fs1 = fs.set 100 (.ref q) → fs1.length = 122 → Y1 = Y ++ [(q, .inl (cy 2, 6, .inl g))] → va_P (dC, dI) vwCl ((a0, .inr (10, fs1)) :: Y1) H1 → va_D A ((a0, .inr (10, fs1)) :: Y1) → va_S A H0 H1 locs1 → W p l e R s m args below meth c H1 locs1 (cells + 1) (slots + 6) Q (F0 m 1507 ls [])) : W p l e R s m args below meth c H locs cells slots Q (F0 m 1469 ls []) := by
  have hx := C0.1
  have hb := C0.2.1
  refine lv_aload_n hx hb dk_dX10_init_1455_8.2.2.1 rfl (lv_at hl 0 rfl) ?_
  refine lv_bipush (v := 6) hx hb dk_dX10_init_1455_8.2.2.2.1 (by decide) ?_
  refine k_newa C0 2 (ty := .char) rfl (atype := .char) rfl wd161 hP hD hS hA (a0 := (6, .inl (fun _ => 0))) (fun _ => rfl) (by decide) (by decide) (Nat.le_of_ble_eq_true rfl) (cells + 1) (slots + 6) (Nat.le_refl _) (Nat.le_refl _) h3 h4 dk_dX10_init_1455_8.2.2.2.2.1 (fun q H hP hD hS => ?_)
  refine lv_dup hx hb dk_dX10_init_1455_8.2.2.2.2.2.1 rfl ?_
  refine lv_iconst (v := 0) hx hb dk_dX10_init_1455_8.2.2.2.2.2.2.1 (by decide) ?_
  refine lv_bipush (v := 119) hx hb dk_dX10_init_1455_8.2.2.2.2.2.2.2.1 (by decide) ?_
  refine k_castU C0 hP hD hS (k_in 0 6 (by decide)) dk_dX10_init_1478.1 (fun g3 H locs e3 hP hD hS => ?_)
  refine lv_dup hx hb dk_dX10_init_1478.2.1 rfl ?_
  refine lv_iconst (v := 1) hx hb dk_dX10_init_1478.2.2.1 (by decide) ?_
  refine lv_bipush (v := 97) hx hb dk_dX10_init_1478.2.2.2.1 (by decide) ?_
  refine k_castU C0 hP hD hS (k_in 1 6 (by decide)) dk_dX10_init_1478.2.2.2.2.1 (fun g7 H locs e7 hP hD hS => ?_)
  refine lv_dup hx hb dk_dX10_init_1478.2.2.2.2.2.1 rfl ?_
  refine lv_iconst (v := 2) hx hb dk_dX10_init_1478.2.2.2.2.2.2.1 (by decide) ?_
  refine lv_bipush (v := 105) hx hb dk_dX10_init_1478.2.2.2.2.2.2.2.1 (by decide) ?_
  refine k_castU C0 hP hD hS (k_in 2 6 (by decide)) dk_dX10_init_1478_8.1 (fun g11 H locs e11 hP hD hS => ?_)
  refine lv_dup hx hb dk_dX10_init_1478_8.2.1 rfl ?_
  refine lv_iconst (v := 3) hx hb dk_dX10_init_1478_8.2.2.1 (by decide) ?_
  refine lv_bipush (v := 116) hx hb dk_dX10_init_1478_8.2.2.2.1 (by decide) ?_
  refine k_castU C0 hP hD hS (k_in 3 6 (by decide)) dk_dX10_init_1478_8.2.2.2.2.1 (fun g15 H locs e15 hP hD hS => ?_)
  refine lv_dup hx hb dk_dX10_init_1478_8.2.2.2.2.2.1 rfl ?_
  refine lv_iconst (v := 4) hx hb dk_dX10_init_1478_8.2.2.2.2.2.2.1 (by decide) ?_
  refine lv_bipush (v := 101) hx hb dk_dX10_init_1478_8.2.2.2.2.2.2.2.1 (by decide) ?_
  refine k_castU C0 hP hD hS (k_in 4 6 (by decide)) dk_dX10_init_1498.1 (fun g19 H locs e19 hP hD hS => ?_)
  refine lv_dup hx hb dk_dX10_init_1498.2.1 rfl ?_
  refine lv_iconst (v := 5) hx hb dk_dX10_init_1498.2.2.1 (by decide) ?_
  refine lv_bipush (v := 100) hx hb dk_dX10_init_1498.2.2.2.1 (by decide) ?_
  refine k_castU C0 hP hD hS (k_in 5 6 (by decide)) dk_dX10_init_1498.2.2.2.2.1 (fun g23 H locs e23 hP hD hS => ?_)
  refine k_putF C0 hin fp_X10_234 hP hD hS 0 rfl rfl rfl (Nat.lt_of_lt_of_eq (by decide) hlen.symm) dk_dX10_init_1498.2.2.2.2.2.1 (fun H locs hP hD hS => ?_)
  have hg : wa (lf_A g23) [119, 97, 105, 116, 101, 100] := by
    subst e23 e19 e15 e11 e7 e3
    unfold wa
    decide +kernel
  exact kk q g23 _ _ H locs hg rfl (by rw [List.length_set]; exact hlen) rfl hP hD hS
set_option maxHeartbeats 4000000 in
theorem mi_101 {p : Program} {l : Launch} {e : Env} {R : Room} {s : State} {m : MethodId} {args : Array Value} {below : List Frame} {meth : Method} {c : Code} {H : Heap} {locs : List Loc} {cells slots : Nat} {Q : State → Prop} {ls : Array Slot} {A : Nat → Prop} {H0 : Heap} {dC : Nat → ClassId} {dI : Nat → Nat → Nat} {cy : Nat → ClassId} {sq : Nat → Nat} {a0 : Nat} {fs : List Value} {Y : va_W} (C0 : k_cx p s m args c cX10_init 1 RX10 dC dI cy sq) (hin : meth.name = "<init>") (hA : ∀ q, H0.size ≤ q → A q) (hl : lv_has ls 1 [(0, .ref a0)]) (hlen : fs.length = 122) (hP : va_P (dC, dI) vwCl ((a0, .inr (10, fs)) :: Y) H) (hD : va_D A ((a0, .inr (10, fs)) :: Y)) (hS : va_S A H0 H locs) (h3 : cells + 1 ≤ R.cells) (h4 : slots + 4 ≤ R.slots) (kk : ∀ (q : Nat) (g : Nat → Int32) (fs1 : List Value) (Y1 : va_W) (H1 : Heap) (locs1 : List Loc), wa (lf_A g) [99, 97, 108, 109] → fs1 = fs.set 101 (.ref q) → fs1.length = 122 → Y1 = Y ++ [(q, .inl (cy 2, 4, .inl g))] → va_P (dC, dI) vwCl ((a0, .inr (10, fs1)) :: Y1) H1 → va_D A ((a0, .inr (10, fs1)) :: Y1) → va_S A H0 H1 locs1 → W p l e R s m args below meth c H1 locs1 (cells + 1) (slots + 4) Q (F0 m 1534 ls [])) : W p l e R s m args below meth c H locs cells slots Q (F0 m 1507 ls []) := by
  have hx := C0.1
  have hb := C0.2.1
  refine lv_aload_n hx hb dk_dX10_init_1498.2.2.2.2.2.2.1 rfl (lv_at hl 0 rfl) ?_
  refine lv_iconst (v := 4) hx hb dk_dX10_init_1498.2.2.2.2.2.2.2.1 (by decide) ?_
  refine k_newa C0 2 (ty := .char) rfl (atype := .char) rfl wd161 hP hD hS hA (a0 := (4, .inl (fun _ => 0))) (fun _ => rfl) (by decide) (by decide) (Nat.le_of_ble_eq_true rfl) (cells + 1) (slots + 4) (Nat.le_refl _) (Nat.le_refl _) h3 h4 dk_dX10_init_1498_8.1 (fun q H hP hD hS => ?_)
  refine lv_dup hx hb dk_dX10_init_1498_8.2.1 rfl ?_
  refine lv_iconst (v := 0) hx hb dk_dX10_init_1498_8.2.2.1 (by decide) ?_
  refine lv_bipush (v := 99) hx hb dk_dX10_init_1498_8.2.2.2.1 (by decide) ?_
  refine k_castU C0 hP hD hS (k_in 0 4 (by decide)) dk_dX10_init_1498_8.2.2.2.2.1 (fun g3 H locs e3 hP hD hS => ?_)
  refine lv_dup hx hb dk_dX10_init_1498_8.2.2.2.2.2.1 rfl ?_
  refine lv_iconst (v := 1) hx hb dk_dX10_init_1498_8.2.2.2.2.2.2.1 (by decide) ?_
  refine lv_bipush (v := 97) hx hb dk_dX10_init_1498_8.2.2.2.2.2.2.2.1 (by decide) ?_
  refine k_castU C0 hP hD hS (k_in 1 4 (by decide)) dk_dX10_init_1520.1 (fun g7 H locs e7 hP hD hS => ?_)
  refine lv_dup hx hb dk_dX10_init_1520.2.1 rfl ?_
  refine lv_iconst (v := 2) hx hb dk_dX10_init_1520.2.2.1 (by decide) ?_
  refine lv_bipush (v := 108) hx hb dk_dX10_init_1520.2.2.2.1 (by decide) ?_
  refine k_castU C0 hP hD hS (k_in 2 4 (by decide)) dk_dX10_init_1520.2.2.2.2.1 (fun g11 H locs e11 hP hD hS => ?_)
  refine lv_dup hx hb dk_dX10_init_1520.2.2.2.2.2.1 rfl ?_
  refine lv_iconst (v := 3) hx hb dk_dX10_init_1520.2.2.2.2.2.2.1 (by decide) ?_
  refine lv_bipush (v := 109) hx hb dk_dX10_init_1520.2.2.2.2.2.2.2.1 (by decide) ?_
  refine k_castU C0 hP hD hS (k_in 3 4 (by decide)) dk_dX10_init_1520_8.1 (fun g15 H locs e15 hP hD hS => ?_)
  refine k_putF C0 hin fp_X10_237 hP hD hS 0 rfl rfl rfl (Nat.lt_of_lt_of_eq (by decide) hlen.symm) dk_dX10_init_1520_8.2.1 (fun H locs hP hD hS => ?_)
  have hg : wa (lf_A g15) [99, 97, 108, 109] := by
    subst e15 e11 e7 e3
    unfold wa
    decide +kernel
  exact kk q g15 _ _ H locs hg rfl (by rw [List.length_set]; exact hlen) rfl hP hD hS
set_option maxHeartbeats 4000000 in
theorem mi_102 {p : Program} {l : Launch} {e : Env} {R : Room} {s : State} {m : MethodId} {args : Array Value} {below : List Frame} {meth : Method} {c : Code} {H : Heap} {locs : List Loc} {cells slots : Nat} {Q : State → Prop} {ls : Array Slot} {A : Nat → Prop} {H0 : Heap} {dC : Nat → ClassId} {dI : Nat → Nat → Nat} {cy : Nat → ClassId} {sq : Nat → Nat} {a0 : Nat} {fs : List Value} {Y : va_W} (C0 : k_cx p s m args c cX10_init 1 RX10 dC dI cy sq) (hin : meth.name = "<init>") (hA : ∀ q, H0.size ≤ q → A q) (hl : lv_has ls 1 [(0, .ref a0)]) (hlen : fs.length = 122) (hP : va_P (dC, dI) vwCl ((a0, .inr (10, fs)) :: Y) H) (hD : va_D A ((a0, .inr (10, fs)) :: Y)) (hS : va_S A H0 H locs) (h3 : cells + 1 ≤ R.cells) (h4 : slots + 4 ≤ R.slots) (kk : ∀ (q : Nat) (g : Nat → Int32) (fs1 : List Value) (Y1 : va_W) (H1 : Heap) (locs1 : List Loc), wa (lf_A g) [112, 97, 99, 101] → fs1 = fs.set 102 (.ref q) → fs1.length = 122 → Y1 = Y ++ [(q, .inl (cy 2, 4, .inl g))] → va_P (dC, dI) vwCl ((a0, .inr (10, fs1)) :: Y1) H1 → va_D A ((a0, .inr (10, fs1)) :: Y1) → va_S A H0 H1 locs1 → W p l e R s m args below meth c H1 locs1 (cells + 1) (slots + 4) Q (F0 m 1561 ls [])) : W p l e R s m args below meth c H locs cells slots Q (F0 m 1534 ls []) := by
  have hx := C0.1
  have hb := C0.2.1
  refine lv_aload_n hx hb dk_dX10_init_1520_8.2.2.1 rfl (lv_at hl 0 rfl) ?_
  refine lv_iconst (v := 4) hx hb dk_dX10_init_1520_8.2.2.2.1 (by decide) ?_
  refine k_newa C0 2 (ty := .char) rfl (atype := .char) rfl wd161 hP hD hS hA (a0 := (4, .inl (fun _ => 0))) (fun _ => rfl) (by decide) (by decide) (Nat.le_of_ble_eq_true rfl) (cells + 1) (slots + 4) (Nat.le_refl _) (Nat.le_refl _) h3 h4 dk_dX10_init_1520_8.2.2.2.2.1 (fun q H hP hD hS => ?_)
  refine lv_dup hx hb dk_dX10_init_1520_8.2.2.2.2.2.1 rfl ?_
  refine lv_iconst (v := 0) hx hb dk_dX10_init_1520_8.2.2.2.2.2.2.1 (by decide) ?_
  refine lv_bipush (v := 112) hx hb dk_dX10_init_1520_8.2.2.2.2.2.2.2.1 (by decide) ?_
  refine k_castU C0 hP hD hS (k_in 0 4 (by decide)) dk_dX10_init_1542.1 (fun g3 H locs e3 hP hD hS => ?_)
  refine lv_dup hx hb dk_dX10_init_1542.2.1 rfl ?_
  refine lv_iconst (v := 1) hx hb dk_dX10_init_1542.2.2.1 (by decide) ?_
  refine lv_bipush (v := 97) hx hb dk_dX10_init_1542.2.2.2.1 (by decide) ?_
  refine k_castU C0 hP hD hS (k_in 1 4 (by decide)) dk_dX10_init_1542.2.2.2.2.1 (fun g7 H locs e7 hP hD hS => ?_)
  refine lv_dup hx hb dk_dX10_init_1542.2.2.2.2.2.1 rfl ?_
  refine lv_iconst (v := 2) hx hb dk_dX10_init_1542.2.2.2.2.2.2.1 (by decide) ?_
  refine lv_bipush (v := 99) hx hb dk_dX10_init_1542.2.2.2.2.2.2.2.1 (by decide) ?_
  refine k_castU C0 hP hD hS (k_in 2 4 (by decide)) dk_dX10_init_1542_8.1 (fun g11 H locs e11 hP hD hS => ?_)
  refine lv_dup hx hb dk_dX10_init_1542_8.2.1 rfl ?_
  refine lv_iconst (v := 3) hx hb dk_dX10_init_1542_8.2.2.1 (by decide) ?_
  refine lv_bipush (v := 101) hx hb dk_dX10_init_1542_8.2.2.2.1 (by decide) ?_
  refine k_castU C0 hP hD hS (k_in 3 4 (by decide)) dk_dX10_init_1542_8.2.2.2.2.1 (fun g15 H locs e15 hP hD hS => ?_)
  refine k_putF C0 hin fp_X10_240 hP hD hS 0 rfl rfl rfl (Nat.lt_of_lt_of_eq (by decide) hlen.symm) dk_dX10_init_1542_8.2.2.2.2.2.1 (fun H locs hP hD hS => ?_)
  have hg : wa (lf_A g15) [112, 97, 99, 101] := by
    subst e15 e11 e7 e3
    unfold wa
    decide +kernel
  exact kk q g15 _ _ H locs hg rfl (by rw [List.length_set]; exact hlen) rfl hP hD hS
set_option maxHeartbeats 4000000 in
theorem mi_103 {p : Program} {l : Launch} {e : Env} {R : Room} {s : State} {m : MethodId} {args : Array Value} {below : List Frame} {meth : Method} {c : Code} {H : Heap} {locs : List Loc} {cells slots : Nat} {Q : State → Prop} {ls : Array Slot} {A : Nat → Prop} {H0 : Heap} {dC : Nat → ClassId} {dI : Nat → Nat → Nat} {cy : Nat → ClassId} {sq : Nat → Nat} {a0 : Nat} {fs : List Value} {Y : va_W} (C0 : k_cx p s m args c cX10_init 1 RX10 dC dI cy sq) (hin : meth.name = "<init>") (hA : ∀ q, H0.size ≤ q → A q) (hl : lv_has ls 1 [(0, .ref a0)]) (hlen : fs.length = 122) (hP : va_P (dC, dI) vwCl ((a0, .inr (10, fs)) :: Y) H) (hD : va_D A ((a0, .inr (10, fs)) :: Y)) (hS : va_S A H0 H locs) (h3 : cells + 1 ≤ R.cells) (h4 : slots + 6 ≤ R.slots) (kk : ∀ (q : Nat) (g : Nat → Int32) (fs1 : List Value) (Y1 : va_W) (H1 : Heap) (locs1 : List Loc), wa (lf_A g) [116, 114, 117, 115, 116, 115] → fs1 = fs.set 103 (.ref q) → fs1.length = 122 → Y1 = Y ++ [(q, .inl (cy 2, 6, .inl g))] → va_P (dC, dI) vwCl ((a0, .inr (10, fs1)) :: Y1) H1 → va_D A ((a0, .inr (10, fs1)) :: Y1) → va_S A H0 H1 locs1 → W p l e R s m args below meth c H1 locs1 (cells + 1) (slots + 6) Q (F0 m 1599 ls [])) : W p l e R s m args below meth c H locs cells slots Q (F0 m 1561 ls []) := by
  have hx := C0.1
  have hb := C0.2.1
  refine lv_aload_n hx hb dk_dX10_init_1542_8.2.2.2.2.2.2.1 rfl (lv_at hl 0 rfl) ?_
  refine lv_bipush (v := 6) hx hb dk_dX10_init_1542_8.2.2.2.2.2.2.2.1 (by decide) ?_
  refine k_newa C0 2 (ty := .char) rfl (atype := .char) rfl wd161 hP hD hS hA (a0 := (6, .inl (fun _ => 0))) (fun _ => rfl) (by decide) (by decide) (Nat.le_of_ble_eq_true rfl) (cells + 1) (slots + 6) (Nat.le_refl _) (Nat.le_refl _) h3 h4 dk_dX10_init_1564.1 (fun q H hP hD hS => ?_)
  refine lv_dup hx hb dk_dX10_init_1564.2.1 rfl ?_
  refine lv_iconst (v := 0) hx hb dk_dX10_init_1564.2.2.1 (by decide) ?_
  refine lv_bipush (v := 116) hx hb dk_dX10_init_1564.2.2.2.1 (by decide) ?_
  refine k_castU C0 hP hD hS (k_in 0 6 (by decide)) dk_dX10_init_1564.2.2.2.2.1 (fun g3 H locs e3 hP hD hS => ?_)
  refine lv_dup hx hb dk_dX10_init_1564.2.2.2.2.2.1 rfl ?_
  refine lv_iconst (v := 1) hx hb dk_dX10_init_1564.2.2.2.2.2.2.1 (by decide) ?_
  refine lv_bipush (v := 114) hx hb dk_dX10_init_1564.2.2.2.2.2.2.2.1 (by decide) ?_
  refine k_castU C0 hP hD hS (k_in 1 6 (by decide)) dk_dX10_init_1564_8.1 (fun g7 H locs e7 hP hD hS => ?_)
  refine lv_dup hx hb dk_dX10_init_1564_8.2.1 rfl ?_
  refine lv_iconst (v := 2) hx hb dk_dX10_init_1564_8.2.2.1 (by decide) ?_
  refine lv_bipush (v := 117) hx hb dk_dX10_init_1564_8.2.2.2.1 (by decide) ?_
  refine k_castU C0 hP hD hS (k_in 2 6 (by decide)) dk_dX10_init_1564_8.2.2.2.2.1 (fun g11 H locs e11 hP hD hS => ?_)
  refine lv_dup hx hb dk_dX10_init_1564_8.2.2.2.2.2.1 rfl ?_
  refine lv_iconst (v := 3) hx hb dk_dX10_init_1564_8.2.2.2.2.2.2.1 (by decide) ?_
  refine lv_bipush (v := 115) hx hb dk_dX10_init_1564_8.2.2.2.2.2.2.2.1 (by decide) ?_
  refine k_castU C0 hP hD hS (k_in 3 6 (by decide)) dk_dX10_init_1585.1 (fun g15 H locs e15 hP hD hS => ?_)
  refine lv_dup hx hb dk_dX10_init_1585.2.1 rfl ?_
  refine lv_iconst (v := 4) hx hb dk_dX10_init_1585.2.2.1 (by decide) ?_
  refine lv_bipush (v := 116) hx hb dk_dX10_init_1585.2.2.2.1 (by decide) ?_
  refine k_castU C0 hP hD hS (k_in 4 6 (by decide)) dk_dX10_init_1585.2.2.2.2.1 (fun g19 H locs e19 hP hD hS => ?_)
  refine lv_dup hx hb dk_dX10_init_1585.2.2.2.2.2.1 rfl ?_
  refine lv_iconst (v := 5) hx hb dk_dX10_init_1585.2.2.2.2.2.2.1 (by decide) ?_
  refine lv_bipush (v := 115) hx hb dk_dX10_init_1585.2.2.2.2.2.2.2.1 (by decide) ?_
  refine k_castU C0 hP hD hS (k_in 5 6 (by decide)) dk_dX10_init_1585_8.1 (fun g23 H locs e23 hP hD hS => ?_)
  refine k_putF C0 hin fp_X10_243 hP hD hS 0 rfl rfl rfl (Nat.lt_of_lt_of_eq (by decide) hlen.symm) dk_dX10_init_1585_8.2.1 (fun H locs hP hD hS => ?_)
  have hg : wa (lf_A g23) [116, 114, 117, 115, 116, 115] := by
    subst e23 e19 e15 e11 e7 e3
    unfold wa
    decide +kernel
  exact kk q g23 _ _ H locs hg rfl (by rw [List.length_set]; exact hlen) rfl hP hD hS
set_option maxHeartbeats 4000000 in
theorem mi_104 {p : Program} {l : Launch} {e : Env} {R : Room} {s : State} {m : MethodId} {args : Array Value} {below : List Frame} {meth : Method} {c : Code} {H : Heap} {locs : List Loc} {cells slots : Nat} {Q : State → Prop} {ls : Array Slot} {A : Nat → Prop} {H0 : Heap} {dC : Nat → ClassId} {dI : Nat → Nat → Nat} {cy : Nat → ClassId} {sq : Nat → Nat} {a0 : Nat} {fs : List Value} {Y : va_W} (C0 : k_cx p s m args c cX10_init 1 RX10 dC dI cy sq) (hin : meth.name = "<init>") (hA : ∀ q, H0.size ≤ q → A q) (hl : lv_has ls 1 [(0, .ref a0)]) (hlen : fs.length = 122) (hP : va_P (dC, dI) vwCl ((a0, .inr (10, fs)) :: Y) H) (hD : va_D A ((a0, .inr (10, fs)) :: Y)) (hS : va_S A H0 H locs) (h3 : cells + 1 ≤ R.cells) (h4 : slots + 3 ≤ R.slots) (kk : ∀ (q : Nat) (g : Nat → Int32) (fs1 : List Value) (Y1 : va_W) (H1 : Heap) (locs1 : List Loc), wa (lf_A g) [103, 97, 112] → fs1 = fs.set 104 (.ref q) → fs1.length = 122 → Y1 = Y ++ [(q, .inl (cy 2, 3, .inl g))] → va_P (dC, dI) vwCl ((a0, .inr (10, fs1)) :: Y1) H1 → va_D A ((a0, .inr (10, fs1)) :: Y1) → va_S A H0 H1 locs1 → W p l e R s m args below meth c H1 locs1 (cells + 1) (slots + 3) Q (F0 m 1621 ls [])) : W p l e R s m args below meth c H locs cells slots Q (F0 m 1599 ls []) := by
  have hx := C0.1
  have hb := C0.2.1
  refine lv_aload_n hx hb dk_dX10_init_1585_8.2.2.1 rfl (lv_at hl 0 rfl) ?_
  refine lv_iconst (v := 3) hx hb dk_dX10_init_1585_8.2.2.2.1 (by decide) ?_
  refine k_newa C0 2 (ty := .char) rfl (atype := .char) rfl wd161 hP hD hS hA (a0 := (3, .inl (fun _ => 0))) (fun _ => rfl) (by decide) (by decide) (Nat.le_of_ble_eq_true rfl) (cells + 1) (slots + 3) (Nat.le_refl _) (Nat.le_refl _) h3 h4 dk_dX10_init_1585_8.2.2.2.2.1 (fun q H hP hD hS => ?_)
  refine lv_dup hx hb dk_dX10_init_1585_8.2.2.2.2.2.1 rfl ?_
  refine lv_iconst (v := 0) hx hb dk_dX10_init_1585_8.2.2.2.2.2.2.1 (by decide) ?_
  refine lv_bipush (v := 103) hx hb dk_dX10_init_1585_8.2.2.2.2.2.2.2.1 (by decide) ?_
  refine k_castU C0 hP hD hS (k_in 0 3 (by decide)) dk_dX10_init_1607.1 (fun g3 H locs e3 hP hD hS => ?_)
  refine lv_dup hx hb dk_dX10_init_1607.2.1 rfl ?_
  refine lv_iconst (v := 1) hx hb dk_dX10_init_1607.2.2.1 (by decide) ?_
  refine lv_bipush (v := 97) hx hb dk_dX10_init_1607.2.2.2.1 (by decide) ?_
  refine k_castU C0 hP hD hS (k_in 1 3 (by decide)) dk_dX10_init_1607.2.2.2.2.1 (fun g7 H locs e7 hP hD hS => ?_)
  refine lv_dup hx hb dk_dX10_init_1607.2.2.2.2.2.1 rfl ?_
  refine lv_iconst (v := 2) hx hb dk_dX10_init_1607.2.2.2.2.2.2.1 (by decide) ?_
  refine lv_bipush (v := 112) hx hb dk_dX10_init_1607.2.2.2.2.2.2.2.1 (by decide) ?_
  refine k_castU C0 hP hD hS (k_in 2 3 (by decide)) dk_dX10_init_1607_8.1 (fun g11 H locs e11 hP hD hS => ?_)
  refine k_putF C0 hin fp_X10_246 hP hD hS 0 rfl rfl rfl (Nat.lt_of_lt_of_eq (by decide) hlen.symm) dk_dX10_init_1607_8.2.1 (fun H locs hP hD hS => ?_)
  have hg : wa (lf_A g11) [103, 97, 112] := by
    subst e11 e7 e3
    unfold wa
    decide +kernel
  exact kk q g11 _ _ H locs hg rfl (by rw [List.length_set]; exact hlen) rfl hP hD hS
set_option maxHeartbeats 4000000 in
theorem mi_105 {p : Program} {l : Launch} {e : Env} {R : Room} {s : State} {m : MethodId} {args : Array Value} {below : List Frame} {meth : Method} {c : Code} {H : Heap} {locs : List Loc} {cells slots : Nat} {Q : State → Prop} {ls : Array Slot} {A : Nat → Prop} {H0 : Heap} {dC : Nat → ClassId} {dI : Nat → Nat → Nat} {cy : Nat → ClassId} {sq : Nat → Nat} {a0 : Nat} {fs : List Value} {Y : va_W} (C0 : k_cx p s m args c cX10_init 1 RX10 dC dI cy sq) (hin : meth.name = "<init>") (hA : ∀ q, H0.size ≤ q → A q) (hl : lv_has ls 1 [(0, .ref a0)]) (hlen : fs.length = 122) (hP : va_P (dC, dI) vwCl ((a0, .inr (10, fs)) :: Y) H) (hD : va_D A ((a0, .inr (10, fs)) :: Y)) (hS : va_S A H0 H locs) (h3 : cells + 1 ≤ R.cells) (h4 : slots + 4 ≤ R.slots) (kk : ∀ (q : Nat) (g : Nat → Int32) (fs1 : List Value) (Y1 : va_W) (H1 : Heap) (locs1 : List Loc), wa (lf_A g) [114, 101, 100, 115] → fs1 = fs.set 105 (.ref q) → fs1.length = 122 → Y1 = Y ++ [(q, .inl (cy 2, 4, .inl g))] → va_P (dC, dI) vwCl ((a0, .inr (10, fs1)) :: Y1) H1 → va_D A ((a0, .inr (10, fs1)) :: Y1) → va_S A H0 H1 locs1 → W p l e R s m args below meth c H1 locs1 (cells + 1) (slots + 4) Q (F0 m 1648 ls [])) : W p l e R s m args below meth c H locs cells slots Q (F0 m 1621 ls []) := by
  have hx := C0.1
  have hb := C0.2.1
  refine lv_aload_n hx hb dk_dX10_init_1607_8.2.2.1 rfl (lv_at hl 0 rfl) ?_
  refine lv_iconst (v := 4) hx hb dk_dX10_init_1607_8.2.2.2.1 (by decide) ?_
  refine k_newa C0 2 (ty := .char) rfl (atype := .char) rfl wd161 hP hD hS hA (a0 := (4, .inl (fun _ => 0))) (fun _ => rfl) (by decide) (by decide) (Nat.le_of_ble_eq_true rfl) (cells + 1) (slots + 4) (Nat.le_refl _) (Nat.le_refl _) h3 h4 dk_dX10_init_1607_8.2.2.2.2.1 (fun q H hP hD hS => ?_)
  refine lv_dup hx hb dk_dX10_init_1607_8.2.2.2.2.2.1 rfl ?_
  refine lv_iconst (v := 0) hx hb dk_dX10_init_1607_8.2.2.2.2.2.2.1 (by decide) ?_
  refine lv_bipush (v := 114) hx hb dk_dX10_init_1607_8.2.2.2.2.2.2.2.1 (by decide) ?_
  refine k_castU C0 hP hD hS (k_in 0 4 (by decide)) dk_dX10_init_1629.1 (fun g3 H locs e3 hP hD hS => ?_)
  refine lv_dup hx hb dk_dX10_init_1629.2.1 rfl ?_
  refine lv_iconst (v := 1) hx hb dk_dX10_init_1629.2.2.1 (by decide) ?_
  refine lv_bipush (v := 101) hx hb dk_dX10_init_1629.2.2.2.1 (by decide) ?_
  refine k_castU C0 hP hD hS (k_in 1 4 (by decide)) dk_dX10_init_1629.2.2.2.2.1 (fun g7 H locs e7 hP hD hS => ?_)
  refine lv_dup hx hb dk_dX10_init_1629.2.2.2.2.2.1 rfl ?_
  refine lv_iconst (v := 2) hx hb dk_dX10_init_1629.2.2.2.2.2.2.1 (by decide) ?_
  refine lv_bipush (v := 100) hx hb dk_dX10_init_1629.2.2.2.2.2.2.2.1 (by decide) ?_
  refine k_castU C0 hP hD hS (k_in 2 4 (by decide)) dk_dX10_init_1629_8.1 (fun g11 H locs e11 hP hD hS => ?_)
  refine lv_dup hx hb dk_dX10_init_1629_8.2.1 rfl ?_
  refine lv_iconst (v := 3) hx hb dk_dX10_init_1629_8.2.2.1 (by decide) ?_
  refine lv_bipush (v := 115) hx hb dk_dX10_init_1629_8.2.2.2.1 (by decide) ?_
  refine k_castU C0 hP hD hS (k_in 3 4 (by decide)) dk_dX10_init_1629_8.2.2.2.2.1 (fun g15 H locs e15 hP hD hS => ?_)
  refine k_putF C0 hin fp_X10_249 hP hD hS 0 rfl rfl rfl (Nat.lt_of_lt_of_eq (by decide) hlen.symm) dk_dX10_init_1629_8.2.2.2.2.2.1 (fun H locs hP hD hS => ?_)
  have hg : wa (lf_A g15) [114, 101, 100, 115] := by
    subst e15 e11 e7 e3
    unfold wa
    decide +kernel
  exact kk q g15 _ _ H locs hg rfl (by rw [List.length_set]; exact hlen) rfl hP hD hS
set_option maxHeartbeats 4000000 in
theorem mi_106 {p : Program} {l : Launch} {e : Env} {R : Room} {s : State} {m : MethodId} {args : Array Value} {below : List Frame} {meth : Method} {c : Code} {H : Heap} {locs : List Loc} {cells slots : Nat} {Q : State → Prop} {ls : Array Slot} {A : Nat → Prop} {H0 : Heap} {dC : Nat → ClassId} {dI : Nat → Nat → Nat} {cy : Nat → ClassId} {sq : Nat → Nat} {a0 : Nat} {fs : List Value} {Y : va_W} (C0 : k_cx p s m args c cX10_init 1 RX10 dC dI cy sq) (hin : meth.name = "<init>") (hA : ∀ q, H0.size ≤ q → A q) (hl : lv_has ls 1 [(0, .ref a0)]) (hlen : fs.length = 122) (hP : va_P (dC, dI) vwCl ((a0, .inr (10, fs)) :: Y) H) (hD : va_D A ((a0, .inr (10, fs)) :: Y)) (hS : va_S A H0 H locs) (h3 : cells + 1 ≤ R.cells) (h4 : slots + 6 ≤ R.slots) (kk : ∀ (q : Nat) (g : Nat → Int32) (fs1 : List Value) (Y1 : va_W) (H1 : Heap) (locs1 : List Loc), wa (lf_A g) [110, 117, 109, 98, 101, 114] → fs1 = fs.set 106 (.ref q) → fs1.length = 122 → Y1 = Y ++ [(q, .inl (cy 2, 6, .inl g))] → va_P (dC, dI) vwCl ((a0, .inr (10, fs1)) :: Y1) H1 → va_D A ((a0, .inr (10, fs1)) :: Y1) → va_S A H0 H1 locs1 → W p l e R s m args below meth c H1 locs1 (cells + 1) (slots + 6) Q (F0 m 1686 ls [])) : W p l e R s m args below meth c H locs cells slots Q (F0 m 1648 ls []) := by
  have hx := C0.1
  have hb := C0.2.1
  refine lv_aload_n hx hb dk_dX10_init_1629_8.2.2.2.2.2.2.1 rfl (lv_at hl 0 rfl) ?_
  refine lv_bipush (v := 6) hx hb dk_dX10_init_1629_8.2.2.2.2.2.2.2.1 (by decide) ?_
  refine k_newa C0 2 (ty := .char) rfl (atype := .char) rfl wd161 hP hD hS hA (a0 := (6, .inl (fun _ => 0))) (fun _ => rfl) (by decide) (by decide) (Nat.le_of_ble_eq_true rfl) (cells + 1) (slots + 6) (Nat.le_refl _) (Nat.le_refl _) h3 h4 dk_dX10_init_1651.1 (fun q H hP hD hS => ?_)
  refine lv_dup hx hb dk_dX10_init_1651.2.1 rfl ?_
  refine lv_iconst (v := 0) hx hb dk_dX10_init_1651.2.2.1 (by decide) ?_
  refine lv_bipush (v := 110) hx hb dk_dX10_init_1651.2.2.2.1 (by decide) ?_
  refine k_castU C0 hP hD hS (k_in 0 6 (by decide)) dk_dX10_init_1651.2.2.2.2.1 (fun g3 H locs e3 hP hD hS => ?_)
  refine lv_dup hx hb dk_dX10_init_1651.2.2.2.2.2.1 rfl ?_
  refine lv_iconst (v := 1) hx hb dk_dX10_init_1651.2.2.2.2.2.2.1 (by decide) ?_
  refine lv_bipush (v := 117) hx hb dk_dX10_init_1651.2.2.2.2.2.2.2.1 (by decide) ?_
  refine k_castU C0 hP hD hS (k_in 1 6 (by decide)) dk_dX10_init_1651_8.1 (fun g7 H locs e7 hP hD hS => ?_)
  refine lv_dup hx hb dk_dX10_init_1651_8.2.1 rfl ?_
  refine lv_iconst (v := 2) hx hb dk_dX10_init_1651_8.2.2.1 (by decide) ?_
  refine lv_bipush (v := 109) hx hb dk_dX10_init_1651_8.2.2.2.1 (by decide) ?_
  refine k_castU C0 hP hD hS (k_in 2 6 (by decide)) dk_dX10_init_1651_8.2.2.2.2.1 (fun g11 H locs e11 hP hD hS => ?_)
  refine lv_dup hx hb dk_dX10_init_1651_8.2.2.2.2.2.1 rfl ?_
  refine lv_iconst (v := 3) hx hb dk_dX10_init_1651_8.2.2.2.2.2.2.1 (by decide) ?_
  refine lv_bipush (v := 98) hx hb dk_dX10_init_1651_8.2.2.2.2.2.2.2.1 (by decide) ?_
  refine k_castU C0 hP hD hS (k_in 3 6 (by decide)) dk_dX10_init_1672.1 (fun g15 H locs e15 hP hD hS => ?_)
  refine lv_dup hx hb dk_dX10_init_1672.2.1 rfl ?_
  refine lv_iconst (v := 4) hx hb dk_dX10_init_1672.2.2.1 (by decide) ?_
  refine lv_bipush (v := 101) hx hb dk_dX10_init_1672.2.2.2.1 (by decide) ?_
  refine k_castU C0 hP hD hS (k_in 4 6 (by decide)) dk_dX10_init_1672.2.2.2.2.1 (fun g19 H locs e19 hP hD hS => ?_)
  refine lv_dup hx hb dk_dX10_init_1672.2.2.2.2.2.1 rfl ?_
  refine lv_iconst (v := 5) hx hb dk_dX10_init_1672.2.2.2.2.2.2.1 (by decide) ?_
  refine lv_bipush (v := 114) hx hb dk_dX10_init_1672.2.2.2.2.2.2.2.1 (by decide) ?_
  refine k_castU C0 hP hD hS (k_in 5 6 (by decide)) dk_dX10_init_1672_8.1 (fun g23 H locs e23 hP hD hS => ?_)
  refine k_putF C0 hin fp_X10_252 hP hD hS 0 rfl rfl rfl (Nat.lt_of_lt_of_eq (by decide) hlen.symm) dk_dX10_init_1672_8.2.1 (fun H locs hP hD hS => ?_)
  have hg : wa (lf_A g23) [110, 117, 109, 98, 101, 114] := by
    subst e23 e19 e15 e11 e7 e3
    unfold wa
    decide +kernel
  exact kk q g23 _ _ H locs hg rfl (by rw [List.length_set]; exact hlen) rfl hP hD hS
set_option maxHeartbeats 4000000 in
theorem mi_107 {p : Program} {l : Launch} {e : Env} {R : Room} {s : State} {m : MethodId} {args : Array Value} {below : List Frame} {meth : Method} {c : Code} {H : Heap} {locs : List Loc} {cells slots : Nat} {Q : State → Prop} {ls : Array Slot} {A : Nat → Prop} {H0 : Heap} {dC : Nat → ClassId} {dI : Nat → Nat → Nat} {cy : Nat → ClassId} {sq : Nat → Nat} {a0 : Nat} {fs : List Value} {Y : va_W} (C0 : k_cx p s m args c cX10_init 1 RX10 dC dI cy sq) (hin : meth.name = "<init>") (hA : ∀ q, H0.size ≤ q → A q) (hl : lv_has ls 1 [(0, .ref a0)]) (hlen : fs.length = 122) (hP : va_P (dC, dI) vwCl ((a0, .inr (10, fs)) :: Y) H) (hD : va_D A ((a0, .inr (10, fs)) :: Y)) (hS : va_S A H0 H locs) (h3 : cells + 1 ≤ R.cells) (h4 : slots + 4 ≤ R.slots) (kk : ∀ (q : Nat) (g : Nat → Int32) (fs1 : List Value) (Y1 : va_W) (H1 : Heap) (locs1 : List Loc), wa (lf_A g) [119, 101, 110, 116] → fs1 = fs.set 107 (.ref q) → fs1.length = 122 → Y1 = Y ++ [(q, .inl (cy 2, 4, .inl g))] → va_P (dC, dI) vwCl ((a0, .inr (10, fs1)) :: Y1) H1 → va_D A ((a0, .inr (10, fs1)) :: Y1) → va_S A H0 H1 locs1 → W p l e R s m args below meth c H1 locs1 (cells + 1) (slots + 4) Q (F0 m 1713 ls [])) : W p l e R s m args below meth c H locs cells slots Q (F0 m 1686 ls []) := by
  have hx := C0.1
  have hb := C0.2.1
  refine lv_aload_n hx hb dk_dX10_init_1672_8.2.2.1 rfl (lv_at hl 0 rfl) ?_
  refine lv_iconst (v := 4) hx hb dk_dX10_init_1672_8.2.2.2.1 (by decide) ?_
  refine k_newa C0 2 (ty := .char) rfl (atype := .char) rfl wd161 hP hD hS hA (a0 := (4, .inl (fun _ => 0))) (fun _ => rfl) (by decide) (by decide) (Nat.le_of_ble_eq_true rfl) (cells + 1) (slots + 4) (Nat.le_refl _) (Nat.le_refl _) h3 h4 dk_dX10_init_1672_8.2.2.2.2.1 (fun q H hP hD hS => ?_)
  refine lv_dup hx hb dk_dX10_init_1672_8.2.2.2.2.2.1 rfl ?_
  refine lv_iconst (v := 0) hx hb dk_dX10_init_1672_8.2.2.2.2.2.2.1 (by decide) ?_
  refine lv_bipush (v := 119) hx hb dk_dX10_init_1672_8.2.2.2.2.2.2.2.1 (by decide) ?_
  refine k_castU C0 hP hD hS (k_in 0 4 (by decide)) dk_dX10_init_1694.1 (fun g3 H locs e3 hP hD hS => ?_)
  refine lv_dup hx hb dk_dX10_init_1694.2.1 rfl ?_
  refine lv_iconst (v := 1) hx hb dk_dX10_init_1694.2.2.1 (by decide) ?_
  refine lv_bipush (v := 101) hx hb dk_dX10_init_1694.2.2.2.1 (by decide) ?_
  refine k_castU C0 hP hD hS (k_in 1 4 (by decide)) dk_dX10_init_1694.2.2.2.2.1 (fun g7 H locs e7 hP hD hS => ?_)
  refine lv_dup hx hb dk_dX10_init_1694.2.2.2.2.2.1 rfl ?_
  refine lv_iconst (v := 2) hx hb dk_dX10_init_1694.2.2.2.2.2.2.1 (by decide) ?_
  refine lv_bipush (v := 110) hx hb dk_dX10_init_1694.2.2.2.2.2.2.2.1 (by decide) ?_
  refine k_castU C0 hP hD hS (k_in 2 4 (by decide)) dk_dX10_init_1694_8.1 (fun g11 H locs e11 hP hD hS => ?_)
  refine lv_dup hx hb dk_dX10_init_1694_8.2.1 rfl ?_
  refine lv_iconst (v := 3) hx hb dk_dX10_init_1694_8.2.2.1 (by decide) ?_
  refine lv_bipush (v := 116) hx hb dk_dX10_init_1694_8.2.2.2.1 (by decide) ?_
  refine k_castU C0 hP hD hS (k_in 3 4 (by decide)) dk_dX10_init_1694_8.2.2.2.2.1 (fun g15 H locs e15 hP hD hS => ?_)
  refine k_putF C0 hin fp_X10_255 hP hD hS 0 rfl rfl rfl (Nat.lt_of_lt_of_eq (by decide) hlen.symm) dk_dX10_init_1694_8.2.2.2.2.2.1 (fun H locs hP hD hS => ?_)
  have hg : wa (lf_A g15) [119, 101, 110, 116] := by
    subst e15 e11 e7 e3
    unfold wa
    decide +kernel
  exact kk q g15 _ _ H locs hg rfl (by rw [List.length_set]; exact hlen) rfl hP hD hS
set_option maxHeartbeats 4000000 in
theorem mi_108 {p : Program} {l : Launch} {e : Env} {R : Room} {s : State} {m : MethodId} {args : Array Value} {below : List Frame} {meth : Method} {c : Code} {H : Heap} {locs : List Loc} {cells slots : Nat} {Q : State → Prop} {ls : Array Slot} {A : Nat → Prop} {H0 : Heap} {dC : Nat → ClassId} {dI : Nat → Nat → Nat} {cy : Nat → ClassId} {sq : Nat → Nat} {a0 : Nat} {fs : List Value} {Y : va_W} (C0 : k_cx p s m args c cX10_init 1 RX10 dC dI cy sq) (hin : meth.name = "<init>") (hA : ∀ q, H0.size ≤ q → A q) (hl : lv_has ls 1 [(0, .ref a0)]) (hlen : fs.length = 122) (hP : va_P (dC, dI) vwCl ((a0, .inr (10, fs)) :: Y) H) (hD : va_D A ((a0, .inr (10, fs)) :: Y)) (hS : va_S A H0 H locs) (h3 : cells + 1 ≤ R.cells) (h4 : slots + 4 ≤ R.slots) (kk : ∀ (q : Nat) (g : Nat → Int32) (fs1 : List Value) (Y1 : va_W) (H1 : Heap) (locs1 : List Loc), wa (lf_A g) [104, 97, 114, 109] → fs1 = fs.set 108 (.ref q) → fs1.length = 122 → Y1 = Y ++ [(q, .inl (cy 2, 4, .inl g))] → va_P (dC, dI) vwCl ((a0, .inr (10, fs1)) :: Y1) H1 → va_D A ((a0, .inr (10, fs1)) :: Y1) → va_S A H0 H1 locs1 → W p l e R s m args below meth c H1 locs1 (cells + 1) (slots + 4) Q (F0 m 1740 ls [])) : W p l e R s m args below meth c H locs cells slots Q (F0 m 1713 ls []) := by
  have hx := C0.1
  have hb := C0.2.1
  refine lv_aload_n hx hb dk_dX10_init_1694_8.2.2.2.2.2.2.1 rfl (lv_at hl 0 rfl) ?_
  refine lv_iconst (v := 4) hx hb dk_dX10_init_1694_8.2.2.2.2.2.2.2.1 (by decide) ?_
  refine k_newa C0 2 (ty := .char) rfl (atype := .char) rfl wd161 hP hD hS hA (a0 := (4, .inl (fun _ => 0))) (fun _ => rfl) (by decide) (by decide) (Nat.le_of_ble_eq_true rfl) (cells + 1) (slots + 4) (Nat.le_refl _) (Nat.le_refl _) h3 h4 dk_dX10_init_1715.1 (fun q H hP hD hS => ?_)
  refine lv_dup hx hb dk_dX10_init_1715.2.1 rfl ?_
  refine lv_iconst (v := 0) hx hb dk_dX10_init_1715.2.2.1 (by decide) ?_
  refine lv_bipush (v := 104) hx hb dk_dX10_init_1715.2.2.2.1 (by decide) ?_
  refine k_castU C0 hP hD hS (k_in 0 4 (by decide)) dk_dX10_init_1715.2.2.2.2.1 (fun g3 H locs e3 hP hD hS => ?_)
  refine lv_dup hx hb dk_dX10_init_1715.2.2.2.2.2.1 rfl ?_
  refine lv_iconst (v := 1) hx hb dk_dX10_init_1715.2.2.2.2.2.2.1 (by decide) ?_
  refine lv_bipush (v := 97) hx hb dk_dX10_init_1715.2.2.2.2.2.2.2.1 (by decide) ?_
  refine k_castU C0 hP hD hS (k_in 1 4 (by decide)) dk_dX10_init_1715_8.1 (fun g7 H locs e7 hP hD hS => ?_)
  refine lv_dup hx hb dk_dX10_init_1715_8.2.1 rfl ?_
  refine lv_iconst (v := 2) hx hb dk_dX10_init_1715_8.2.2.1 (by decide) ?_
  refine lv_bipush (v := 114) hx hb dk_dX10_init_1715_8.2.2.2.1 (by decide) ?_
  refine k_castU C0 hP hD hS (k_in 2 4 (by decide)) dk_dX10_init_1715_8.2.2.2.2.1 (fun g11 H locs e11 hP hD hS => ?_)
  refine lv_dup hx hb dk_dX10_init_1715_8.2.2.2.2.2.1 rfl ?_
  refine lv_iconst (v := 3) hx hb dk_dX10_init_1715_8.2.2.2.2.2.2.1 (by decide) ?_
  refine lv_bipush (v := 109) hx hb dk_dX10_init_1715_8.2.2.2.2.2.2.2.1 (by decide) ?_
  refine k_castU C0 hP hD hS (k_in 3 4 (by decide)) dk_dX10_init_1736.1 (fun g15 H locs e15 hP hD hS => ?_)
  refine k_putF C0 hin fp_X10_258 hP hD hS 0 rfl rfl rfl (Nat.lt_of_lt_of_eq (by decide) hlen.symm) dk_dX10_init_1736.2.1 (fun H locs hP hD hS => ?_)
  have hg : wa (lf_A g15) [104, 97, 114, 109] := by
    subst e15 e11 e7 e3
    unfold wa
    decide +kernel
  exact kk q g15 _ _ H locs hg rfl (by rw [List.length_set]; exact hlen) rfl hP hD hS
set_option maxHeartbeats 4000000 in
theorem mi_109 {p : Program} {l : Launch} {e : Env} {R : Room} {s : State} {m : MethodId} {args : Array Value} {below : List Frame} {meth : Method} {c : Code} {H : Heap} {locs : List Loc} {cells slots : Nat} {Q : State → Prop} {ls : Array Slot} {A : Nat → Prop} {H0 : Heap} {dC : Nat → ClassId} {dI : Nat → Nat → Nat} {cy : Nat → ClassId} {sq : Nat → Nat} {a0 : Nat} {fs : List Value} {Y : va_W} (C0 : k_cx p s m args c cX10_init 1 RX10 dC dI cy sq) (hin : meth.name = "<init>") (hA : ∀ q, H0.size ≤ q → A q) (hl : lv_has ls 1 [(0, .ref a0)]) (hlen : fs.length = 122) (hP : va_P (dC, dI) vwCl ((a0, .inr (10, fs)) :: Y) H) (hD : va_D A ((a0, .inr (10, fs)) :: Y)) (hS : va_S A H0 H locs) (h3 : cells + 1 ≤ R.cells) (h4 : slots + 4 ≤ R.slots) (kk : ∀ (q : Nat) (g : Nat → Int32) (fs1 : List Value) (Y1 : va_W) (H1 : Heap) (locs1 : List Loc), wa (lf_A g) [107, 105, 110, 100] → fs1 = fs.set 109 (.ref q) → fs1.length = 122 → Y1 = Y ++ [(q, .inl (cy 2, 4, .inl g))] → va_P (dC, dI) vwCl ((a0, .inr (10, fs1)) :: Y1) H1 → va_D A ((a0, .inr (10, fs1)) :: Y1) → va_S A H0 H1 locs1 → W p l e R s m args below meth c H1 locs1 (cells + 1) (slots + 4) Q (F0 m 1767 ls [])) : W p l e R s m args below meth c H locs cells slots Q (F0 m 1740 ls []) := by
  have hx := C0.1
  have hb := C0.2.1
  refine lv_aload_n hx hb dk_dX10_init_1736.2.2.1 rfl (lv_at hl 0 rfl) ?_
  refine lv_iconst (v := 4) hx hb dk_dX10_init_1736.2.2.2.1 (by decide) ?_
  refine k_newa C0 2 (ty := .char) rfl (atype := .char) rfl wd161 hP hD hS hA (a0 := (4, .inl (fun _ => 0))) (fun _ => rfl) (by decide) (by decide) (Nat.le_of_ble_eq_true rfl) (cells + 1) (slots + 4) (Nat.le_refl _) (Nat.le_refl _) h3 h4 dk_dX10_init_1736.2.2.2.2.1 (fun q H hP hD hS => ?_)
  refine lv_dup hx hb dk_dX10_init_1736.2.2.2.2.2.1 rfl ?_
  refine lv_iconst (v := 0) hx hb dk_dX10_init_1736.2.2.2.2.2.2.1 (by decide) ?_
  refine lv_bipush (v := 107) hx hb dk_dX10_init_1736.2.2.2.2.2.2.2.1 (by decide) ?_
  refine k_castU C0 hP hD hS (k_in 0 4 (by decide)) dk_dX10_init_1736_8.1 (fun g3 H locs e3 hP hD hS => ?_)
  refine lv_dup hx hb dk_dX10_init_1736_8.2.1 rfl ?_
  refine lv_iconst (v := 1) hx hb dk_dX10_init_1736_8.2.2.1 (by decide) ?_
  refine lv_bipush (v := 105) hx hb dk_dX10_init_1736_8.2.2.2.1 (by decide) ?_
  refine k_castU C0 hP hD hS (k_in 1 4 (by decide)) dk_dX10_init_1736_8.2.2.2.2.1 (fun g7 H locs e7 hP hD hS => ?_)
  refine lv_dup hx hb dk_dX10_init_1736_8.2.2.2.2.2.1 rfl ?_
  refine lv_iconst (v := 2) hx hb dk_dX10_init_1736_8.2.2.2.2.2.2.1 (by decide) ?_
  refine lv_bipush (v := 110) hx hb dk_dX10_init_1736_8.2.2.2.2.2.2.2.1 (by decide) ?_
  refine k_castU C0 hP hD hS (k_in 2 4 (by decide)) dk_dX10_init_1758.1 (fun g11 H locs e11 hP hD hS => ?_)
  refine lv_dup hx hb dk_dX10_init_1758.2.1 rfl ?_
  refine lv_iconst (v := 3) hx hb dk_dX10_init_1758.2.2.1 (by decide) ?_
  refine lv_bipush (v := 100) hx hb dk_dX10_init_1758.2.2.2.1 (by decide) ?_
  refine k_castU C0 hP hD hS (k_in 3 4 (by decide)) dk_dX10_init_1758.2.2.2.2.1 (fun g15 H locs e15 hP hD hS => ?_)
  refine k_putF C0 hin fp_X10_261 hP hD hS 0 rfl rfl rfl (Nat.lt_of_lt_of_eq (by decide) hlen.symm) dk_dX10_init_1758.2.2.2.2.2.1 (fun H locs hP hD hS => ?_)
  have hg : wa (lf_A g15) [107, 105, 110, 100] := by
    subst e15 e11 e7 e3
    unfold wa
    decide +kernel
  exact kk q g15 _ _ H locs hg rfl (by rw [List.length_set]; exact hlen) rfl hP hD hS
set_option maxHeartbeats 4000000 in
theorem mi_110 {p : Program} {l : Launch} {e : Env} {R : Room} {s : State} {m : MethodId} {args : Array Value} {below : List Frame} {meth : Method} {c : Code} {H : Heap} {locs : List Loc} {cells slots : Nat} {Q : State → Prop} {ls : Array Slot} {A : Nat → Prop} {H0 : Heap} {dC : Nat → ClassId} {dI : Nat → Nat → Nat} {cy : Nat → ClassId} {sq : Nat → Nat} {a0 : Nat} {fs : List Value} {Y : va_W} (C0 : k_cx p s m args c cX10_init 1 RX10 dC dI cy sq) (hin : meth.name = "<init>") (hA : ∀ q, H0.size ≤ q → A q) (hl : lv_has ls 1 [(0, .ref a0)]) (hlen : fs.length = 122) (hP : va_P (dC, dI) vwCl ((a0, .inr (10, fs)) :: Y) H) (hD : va_D A ((a0, .inr (10, fs)) :: Y)) (hS : va_S A H0 H locs) (h3 : cells + 1 ≤ R.cells) (h4 : slots + 1700 ≤ R.slots) (kk : ∀ (q : Nat) (fs1 : List Value) (Y1 : va_W) (H1 : Heap) (locs1 : List Loc), fs1 = fs.set 110 (.ref q) → fs1.length = 122 → Y1 = Y ++ [(q, .inl (cy 0, 1700, .inl (fun _ => 0)))] → va_P (dC, dI) vwCl ((a0, .inr (10, fs1)) :: Y1) H1 → va_D A ((a0, .inr (10, fs1)) :: Y1) → va_S A H0 H1 locs1 → W p l e R s m args below meth c H1 locs1 (cells + 1) (slots + 1700) Q (F0 m 1776 ls [])) : W p l e R s m args below meth c H locs cells slots Q (F0 m 1767 ls []) := by
  have hx := C0.1
  have hb := C0.2.1
  refine lv_aload_n hx hb dk_dX10_init_1758.2.2.2.2.2.2.1 rfl (lv_at hl 0 rfl) ?_
  refine lv_sipush (v := 1700) hx hb dk_dX10_init_1758.2.2.2.2.2.2.2.1 (by decide) ?_
  refine k_newa C0 0 (ty := .int) rfl (atype := .int) rfl wd12 hP hD hS hA (a0 := (1700, .inl (fun _ => 0))) (fun _ => rfl) (by decide) (by decide) (Nat.le_of_ble_eq_true rfl) (cells + 1) (slots + 1700) (Nat.le_refl _) (Nat.le_refl _) h3 h4 dk_dX10_init_1758_8.1 (fun q H hP hD hS => ?_)
  refine k_putF C0 hin fp_X10_264 hP hD hS 0 rfl rfl rfl (Nat.lt_of_lt_of_eq (by decide) hlen.symm) dk_dX10_init_1758_8.2.1 (fun H locs hP hD hS => ?_)
  exact kk q _ _ H locs rfl (by rw [List.length_set]; exact hlen) rfl hP hD hS
set_option maxHeartbeats 4000000 in
theorem mi_112 {p : Program} {l : Launch} {e : Env} {R : Room} {s : State} {m : MethodId} {args : Array Value} {below : List Frame} {meth : Method} {c : Code} {H : Heap} {locs : List Loc} {cells slots : Nat} {Q : State → Prop} {ls : Array Slot} {A : Nat → Prop} {H0 : Heap} {dC : Nat → ClassId} {dI : Nat → Nat → Nat} {cy : Nat → ClassId} {sq : Nat → Nat} {a0 : Nat} {fs : List Value} {Y : va_W} (C0 : k_cx p s m args c cX10_init 1 RX10 dC dI cy sq) (hin : meth.name = "<init>") (hA : ∀ q, H0.size ≤ q → A q) (hl : lv_has ls 1 [(0, .ref a0)]) (hlen : fs.length = 122) (hP : va_P (dC, dI) vwCl ((a0, .inr (10, fs)) :: Y) H) (hD : va_D A ((a0, .inr (10, fs)) :: Y)) (hS : va_S A H0 H locs) (h3 : cells + 1 ≤ R.cells) (h4 : slots + 1700 ≤ R.slots) (kk : ∀ (q : Nat) (fs1 : List Value) (Y1 : va_W) (H1 : Heap) (locs1 : List Loc), fs1 = fs.set 112 (.ref q) → fs1.length = 122 → Y1 = Y ++ [(q, .inl (cy 0, 1700, .inl (fun _ => 0)))] → va_P (dC, dI) vwCl ((a0, .inr (10, fs1)) :: Y1) H1 → va_D A ((a0, .inr (10, fs1)) :: Y1) → va_S A H0 H1 locs1 → W p l e R s m args below meth c H1 locs1 (cells + 1) (slots + 1700) Q (F0 m 1785 ls [])) : W p l e R s m args below meth c H locs cells slots Q (F0 m 1776 ls []) := by
  have hx := C0.1
  have hb := C0.2.1
  refine lv_aload_n hx hb dk_dX10_init_1758_8.2.2.1 rfl (lv_at hl 0 rfl) ?_
  refine lv_sipush (v := 1700) hx hb dk_dX10_init_1758_8.2.2.2.1 (by decide) ?_
  refine k_newa C0 0 (ty := .int) rfl (atype := .int) rfl wd12 hP hD hS hA (a0 := (1700, .inl (fun _ => 0))) (fun _ => rfl) (by decide) (by decide) (Nat.le_of_ble_eq_true rfl) (cells + 1) (slots + 1700) (Nat.le_refl _) (Nat.le_refl _) h3 h4 dk_dX10_init_1758_8.2.2.2.2.1 (fun q H hP hD hS => ?_)
  refine k_putF C0 hin fp_X10_267 hP hD hS 0 rfl rfl rfl (Nat.lt_of_lt_of_eq (by decide) hlen.symm) dk_dX10_init_1758_8.2.2.2.2.2.1 (fun H locs hP hD hS => ?_)
  exact kk q _ _ H locs rfl (by rw [List.length_set]; exact hlen) rfl hP hD hS
set_option maxHeartbeats 4000000 in
theorem mi_116 {p : Program} {l : Launch} {e : Env} {R : Room} {s : State} {m : MethodId} {args : Array Value} {below : List Frame} {meth : Method} {c : Code} {H : Heap} {locs : List Loc} {cells slots : Nat} {Q : State → Prop} {ls : Array Slot} {A : Nat → Prop} {H0 : Heap} {dC : Nat → ClassId} {dI : Nat → Nat → Nat} {cy : Nat → ClassId} {sq : Nat → Nat} {a0 : Nat} {fs : List Value} {Y : va_W} (C0 : k_cx p s m args c cX10_init 1 RX10 dC dI cy sq) (hin : meth.name = "<init>") (hA : ∀ q, H0.size ≤ q → A q) (hl : lv_has ls 1 [(0, .ref a0)]) (hlen : fs.length = 122) (hP : va_P (dC, dI) vwCl ((a0, .inr (10, fs)) :: Y) H) (hD : va_D A ((a0, .inr (10, fs)) :: Y)) (hS : va_S A H0 H locs) (h3 : cells + 1 ≤ R.cells) (h4 : slots + 1700 ≤ R.slots) (kk : ∀ (q : Nat) (fs1 : List Value) (Y1 : va_W) (H1 : Heap) (locs1 : List Loc), fs1 = fs.set 116 (.ref q) → fs1.length = 122 → Y1 = Y ++ [(q, .inl (cy 1, 1700, .inr (.inl (fun _ => 0))))] → va_P (dC, dI) vwCl ((a0, .inr (10, fs1)) :: Y1) H1 → va_D A ((a0, .inr (10, fs1)) :: Y1) → va_S A H0 H1 locs1 → W p l e R s m args below meth c H1 locs1 (cells + 1) (slots + 1700) Q (F0 m 1794 ls [])) : W p l e R s m args below meth c H locs cells slots Q (F0 m 1785 ls []) := by
  have hx := C0.1
  have hb := C0.2.1
  refine lv_aload_n hx hb dk_dX10_init_1758_8.2.2.2.2.2.2.1 rfl (lv_at hl 0 rfl) ?_
  refine lv_sipush (v := 1700) hx hb dk_dX10_init_1758_8.2.2.2.2.2.2.2.1 (by decide) ?_
  refine k_newa C0 1 (ty := .long) rfl (atype := .long) rfl wd193 hP hD hS hA (a0 := (1700, .inr (.inl (fun _ => 0)))) (fun _ => rfl) (by decide) (by decide) (Nat.le_of_ble_eq_true rfl) (cells + 1) (slots + 1700) (Nat.le_refl _) (Nat.le_refl _) h3 h4 dk_dX10_init_1789.1 (fun q H hP hD hS => ?_)
  refine k_putF C0 hin fp_X10_270 hP hD hS 0 rfl rfl rfl (Nat.lt_of_lt_of_eq (by decide) hlen.symm) dk_dX10_init_1789.2.1 (fun H locs hP hD hS => ?_)
  exact kk q _ _ H locs rfl (by rw [List.length_set]; exact hlen) rfl hP hD hS
set_option maxHeartbeats 4000000 in
theorem mi_120 {p : Program} {l : Launch} {e : Env} {R : Room} {s : State} {m : MethodId} {args : Array Value} {below : List Frame} {meth : Method} {c : Code} {H : Heap} {locs : List Loc} {cells slots : Nat} {Q : State → Prop} {ls : Array Slot} {A : Nat → Prop} {H0 : Heap} {dC : Nat → ClassId} {dI : Nat → Nat → Nat} {cy : Nat → ClassId} {sq : Nat → Nat} {a0 : Nat} {fs : List Value} {Y : va_W} (C0 : k_cx p s m args c cX10_init 1 RX10 dC dI cy sq) (hin : meth.name = "<init>") (hA : ∀ q, H0.size ≤ q → A q) (hl : lv_has ls 1 [(0, .ref a0)]) (hlen : fs.length = 122) (hP : va_P (dC, dI) vwCl ((a0, .inr (10, fs)) :: Y) H) (hD : va_D A ((a0, .inr (10, fs)) :: Y)) (hS : va_S A H0 H locs) (h3 : cells + 1 ≤ R.cells) (h4 : slots + 11 ≤ R.slots) (kk : ∀ (q : Nat) (fs1 : List Value) (Y1 : va_W) (H1 : Heap) (locs1 : List Loc), fs1 = fs.set 120 (.ref q) → fs1.length = 122 → Y1 = Y ++ [(q, .inl (cy 0, 11, .inl (fun _ => 0)))] → va_P (dC, dI) vwCl ((a0, .inr (10, fs1)) :: Y1) H1 → va_D A ((a0, .inr (10, fs1)) :: Y1) → va_S A H0 H1 locs1 → W p l e R s m args below meth c H1 locs1 (cells + 1) (slots + 11) Q (F0 m 1802 ls [])) : W p l e R s m args below meth c H locs cells slots Q (F0 m 1794 ls []) := by
  have hx := C0.1
  have hb := C0.2.1
  refine lv_aload_n hx hb dk_dX10_init_1789.2.2.1 rfl (lv_at hl 0 rfl) ?_
  refine lv_bipush (v := 11) hx hb dk_dX10_init_1789.2.2.2.1 (by decide) ?_
  refine k_newa C0 0 (ty := .int) rfl (atype := .int) rfl wd12 hP hD hS hA (a0 := (11, .inl (fun _ => 0))) (fun _ => rfl) (by decide) (by decide) (Nat.le_of_ble_eq_true rfl) (cells + 1) (slots + 11) (Nat.le_refl _) (Nat.le_refl _) h3 h4 dk_dX10_init_1789.2.2.2.2.1 (fun q H hP hD hS => ?_)
  refine k_putF C0 hin fp_X10_273 hP hD hS 0 rfl rfl rfl (Nat.lt_of_lt_of_eq (by decide) hlen.symm) dk_dX10_init_1789.2.2.2.2.2.1 (fun H locs hP hD hS => ?_)
  exact kk q _ _ H locs rfl (by rw [List.length_set]; exact hlen) rfl hP hD hS
