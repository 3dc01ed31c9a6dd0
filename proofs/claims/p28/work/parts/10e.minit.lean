section MI
variable {p : Program} {l : Launch} {e : Env} {R : Room} {s : State} {m : MethodId} {args : Array Value} {below : List Frame} {meth : Method} {c : Code} {H : Heap} {locs : List Loc} {cells slots : Nat} {Q : State → Prop}
variable {cc : ByteArray} {pc : Nat} {ls : Array Slot} {rest : List Value} {A : Nat → Prop} {a : Nat} {H0 : Heap} {nL : Nat} {own : String} {dC : Nat → ClassId} {dI : Nat → Nat → Nat} {cy : Nat → ClassId} {sq : Nat → Nat}
/-- a store into the row made last, its contents as they become -/
theorem k_iastU (C0 : k_cx p s m args c cc nL own dC dI cy sq) {X : va_W} {n : Nat} {f : Nat → Int32} (hP : va_P (dC, dI) vwCl (X ++ [(a, .inl (cy 0, n, .inl f))]) H) (hD : va_D A (X ++ [(a, .inl (cy 0, n, .inl f))])) (hS : va_S A H0 H locs) {i x : Int32} (hin : vp_in i n) (hdg : decode cc pc = .ok (.iastore, 1))
    (kk : ∀ (g : Nat → Int32) (H1 : Heap) (locs1 : List Loc), g = upd f i.toNatClampNeg x → va_P (dC, dI) vwCl (X ++ [(a, .inl (cy 0, n, .inl g))]) H1 → va_D A (X ++ [(a, .inl (cy 0, n, .inl g))]) → va_S A H0 H1 locs1 → W p l e R s m args below meth c H1 locs1 cells slots Q (F0 m (pc + 1) ls rest)) : W p l e R s m args below meth c H locs cells slots Q (F0 m pc ls (.int x :: .int i :: .ref a :: rest)) := by
  refine va_iast (n := n) (f := f) (cA := cy 0) C0.1 C0.2.1 C0.2.2.2.2.2.1 hP hD hS X.length 0 (by simp) rfl hin hdg (fun H1 locs1 h1 h2 h3 => ?_)
  have e1 : ∀ u z : Nat × va_E, (X ++ [u]).set X.length z = X ++ [z] := fun u z => by simp
  rw [e1] at h1 h2
  exact kk _ H1 locs1 rfl h1 h2 h3
end MI
section MJ
variable {p : Program} {l : Launch} {e : Env} {R : Room} {s : State} {m : MethodId} {args : Array Value} {below : List Frame} {meth : Method} {c : Code} {H : Heap} {locs : List Loc} {cells slots : Nat} {Q : State → Prop}
variable {cc : ByteArray} {pc : Nat} {ls : Array Slot} {rest : List Value} {A : Nat → Prop} {a : Nat} {H0 : Heap} {nL : Nat} {own : String} {dC : Nat → ClassId} {dI : Nat → Nat → Nat} {cy : Nat → ClassId} {sq : Nat → Nat}
theorem k_castU (C0 : k_cx p s m args c cc nL own dC dI cy sq) {X : va_W} {n : Nat} {f : Nat → Int32} (hP : va_P (dC, dI) vwCl (X ++ [(a, .inl (cy 2, n, .inl f))]) H) (hD : va_D A (X ++ [(a, .inl (cy 2, n, .inl f))])) (hS : va_S A H0 H locs) {i x : Int32} (hin : vp_in i n) (hdg : decode cc pc = .ok (.castore, 1))
    (kk : ∀ (g : Nat → Int32) (H1 : Heap) (locs1 : List Loc), g = upd f i.toNatClampNeg (vp_nar .char x) → va_P (dC, dI) vwCl (X ++ [(a, .inl (cy 2, n, .inl g))]) H1 → va_D A (X ++ [(a, .inl (cy 2, n, .inl g))]) → va_S A H0 H1 locs1 → W p l e R s m args below meth c H1 locs1 cells slots Q (F0 m (pc + 1) ls rest)) : W p l e R s m args below meth c H locs cells slots Q (F0 m pc ls (.int x :: .int i :: .ref a :: rest)) := by
  refine va_cast (n := n) (f := f) (cA := cy 2) C0.1 C0.2.1 C0.2.2.2.2.2.1 hP hD hS X.length 2 (by simp) rfl hin hdg (fun H1 locs1 h1 h2 h3 => ?_)
  have e1 : ∀ u z : Nat × va_E, (X ++ [u]).set X.length z = X ++ [z] := fun u z => by simp
  rw [e1] at h1 h2
  exact kk _ H1 locs1 rfl h1 h2 h3
end MJ
set_option maxHeartbeats 4000000 in
theorem mi_0 {p : Program} {l : Launch} {e : Env} {R : Room} {s : State} {m : MethodId} {args : Array Value} {below : List Frame} {meth : Method} {c : Code} {H : Heap} {locs : List Loc} {cells slots : Nat} {Q : State → Prop} {ls : Array Slot} {A : Nat → Prop} {H0 : Heap} {dC : Nat → ClassId} {dI : Nat → Nat → Nat} {cy : Nat → ClassId} {sq : Nat → Nat} {a0 : Nat} {fs : List Value} {Y : va_W} (C0 : k_cx p s m args c cX10_init 1 RX10 dC dI cy sq) (hin : meth.name = "<init>") (hA : ∀ q, H0.size ≤ q → A q) (hl : lv_has ls 1 [(0, .ref a0)]) (hlen : fs.length = 122) (hP : va_P (dC, dI) vwCl ((a0, .inr (10, fs)) :: Y) H) (hD : va_D A ((a0, .inr (10, fs)) :: Y)) (hS : va_S A H0 H locs) (h3 : cells + 1 ≤ R.cells) (h4 : slots + 1600 ≤ R.slots) (kk : ∀ (q : Nat) (fs1 : List Value) (Y1 : va_W) (H1 : Heap) (locs1 : List Loc), fs1 = fs.set 0 (.ref q) → fs1.length = 122 → Y1 = Y ++ [(q, .inl (cy 0, 1600, .inl (fun _ => 0)))] → va_P (dC, dI) vwCl ((a0, .inr (10, fs1)) :: Y1) H1 → va_D A ((a0, .inr (10, fs1)) :: Y1) → va_S A H0 H1 locs1 → W p l e R s m args below meth c H1 locs1 (cells + 1) (slots + 1600) Q (F0 m 13 ls [])) : W p l e R s m args below meth c H locs cells slots Q (F0 m 4 ls []) := by
  have hx := C0.1
  have hb := C0.2.1
  refine lv_aload_n hx hb dX10_init_4 rfl (lv_at hl 0 rfl) ?_
  refine lv_sipush (v := 1600) hx hb dX10_init_5 (by decide) ?_
  refine k_newa C0 0 (ty := .int) rfl (atype := .int) rfl wd12 hP hD hS hA (a0 := (1600, .inl (fun _ => 0))) (fun _ => rfl) (by decide) (by decide) (Nat.le_of_ble_eq_true rfl) (cells + 1) (slots + 1600) (Nat.le_refl _) (Nat.le_refl _) h3 h4 dX10_init_8 (fun q H hP hD hS => ?_)
  refine k_putF C0 hin fp_X10_7 hP hD hS 0 rfl rfl rfl (Nat.lt_of_lt_of_eq (by decide) hlen.symm) dX10_init_10 (fun H locs hP hD hS => ?_)
  exact kk q _ _ H locs rfl (by rw [List.length_set]; exact hlen) rfl hP hD hS
set_option maxHeartbeats 4000000 in
theorem mi_8 {p : Program} {l : Launch} {e : Env} {R : Room} {s : State} {m : MethodId} {args : Array Value} {below : List Frame} {meth : Method} {c : Code} {H : Heap} {locs : List Loc} {cells slots : Nat} {Q : State → Prop} {ls : Array Slot} {A : Nat → Prop} {H0 : Heap} {dC : Nat → ClassId} {dI : Nat → Nat → Nat} {cy : Nat → ClassId} {sq : Nat → Nat} {a0 : Nat} {fs : List Value} {Y : va_W} (C0 : k_cx p s m args c cX10_init 1 RX10 dC dI cy sq) (hin : meth.name = "<init>") (hA : ∀ q, H0.size ≤ q → A q) (hl : lv_has ls 1 [(0, .ref a0)]) (hlen : fs.length = 122) (hP : va_P (dC, dI) vwCl ((a0, .inr (10, fs)) :: Y) H) (hD : va_D A ((a0, .inr (10, fs)) :: Y)) (hS : va_S A H0 H locs) (kk : ∀ (fs1 : List Value) (H1 : Heap) (locs1 : List Loc), fs1 = fs.set 8 (.int (-1)) → fs1.length = 122 → va_P (dC, dI) vwCl ((a0, .inr (10, fs1)) :: Y) H1 → va_D A ((a0, .inr (10, fs1)) :: Y) → va_S A H0 H1 locs1 → W p l e R s m args below meth c H1 locs1 cells slots Q (F0 m 18 ls [])) : W p l e R s m args below meth c H locs cells slots Q (F0 m 13 ls []) := by
  have hx := C0.1
  have hb := C0.2.1
  refine lv_aload_n hx hb dX10_init_13 rfl (lv_at hl 0 rfl) ?_
  refine lv_iconst (v := (-1)) hx hb dX10_init_14 (by decide) ?_
  refine k_put C0 fp_X10_13 hP hD hS 0 rfl rfl rfl (Nat.lt_of_lt_of_eq (by decide) hlen.symm) dX10_init_15 (fun H locs hP hD hS => ?_)
  exact kk _ H locs rfl (by rw [List.length_set]; exact hlen) hP hD hS
set_option maxHeartbeats 4000000 in
theorem mi_9 {p : Program} {l : Launch} {e : Env} {R : Room} {s : State} {m : MethodId} {args : Array Value} {below : List Frame} {meth : Method} {c : Code} {H : Heap} {locs : List Loc} {cells slots : Nat} {Q : State → Prop} {ls : Array Slot} {A : Nat → Prop} {H0 : Heap} {dC : Nat → ClassId} {dI : Nat → Nat → Nat} {cy : Nat → ClassId} {sq : Nat → Nat} {a0 : Nat} {fs : List Value} {Y : va_W} (C0 : k_cx p s m args c cX10_init 1 RX10 dC dI cy sq) (hin : meth.name = "<init>") (hA : ∀ q, H0.size ≤ q → A q) (hl : lv_has ls 1 [(0, .ref a0)]) (hlen : fs.length = 122) (hP : va_P (dC, dI) vwCl ((a0, .inr (10, fs)) :: Y) H) (hD : va_D A ((a0, .inr (10, fs)) :: Y)) (hS : va_S A H0 H locs) (h3 : cells + 1 ≤ R.cells) (h4 : slots + 6 ≤ R.slots) (kk : ∀ (q : Nat) (fs1 : List Value) (Y1 : va_W) (H1 : Heap) (locs1 : List Loc), fs1 = fs.set 9 (.ref q) → fs1.length = 122 → Y1 = Y ++ [(q, .inl (cy 0, 6, .inl (fun _ => 0)))] → va_P (dC, dI) vwCl ((a0, .inr (10, fs1)) :: Y1) H1 → va_D A ((a0, .inr (10, fs1)) :: Y1) → va_S A H0 H1 locs1 → W p l e R s m args below meth c H1 locs1 (cells + 1) (slots + 6) Q (F0 m 26 ls [])) : W p l e R s m args below meth c H locs cells slots Q (F0 m 18 ls []) := by
  have hx := C0.1
  have hb := C0.2.1
  refine lv_aload_n hx hb dX10_init_18 rfl (lv_at hl 0 rfl) ?_
  refine lv_bipush (v := 6) hx hb dX10_init_19 (by decide) ?_
  refine k_newa C0 0 (ty := .int) rfl (atype := .int) rfl wd12 hP hD hS hA (a0 := (6, .inl (fun _ => 0))) (fun _ => rfl) (by decide) (by decide) (Nat.le_of_ble_eq_true rfl) (cells + 1) (slots + 6) (Nat.le_refl _) (Nat.le_refl _) h3 h4 dX10_init_21 (fun q H hP hD hS => ?_)
  refine k_putF C0 hin fp_X10_17 hP hD hS 0 rfl rfl rfl (Nat.lt_of_lt_of_eq (by decide) hlen.symm) dX10_init_23 (fun H locs hP hD hS => ?_)
  exact kk q _ _ H locs rfl (by rw [List.length_set]; exact hlen) rfl hP hD hS
set_option maxHeartbeats 4000000 in
theorem mi_10 {p : Program} {l : Launch} {e : Env} {R : Room} {s : State} {m : MethodId} {args : Array Value} {below : List Frame} {meth : Method} {c : Code} {H : Heap} {locs : List Loc} {cells slots : Nat} {Q : State → Prop} {ls : Array Slot} {A : Nat → Prop} {H0 : Heap} {dC : Nat → ClassId} {dI : Nat → Nat → Nat} {cy : Nat → ClassId} {sq : Nat → Nat} {a0 : Nat} {fs : List Value} {Y : va_W} (C0 : k_cx p s m args c cX10_init 1 RX10 dC dI cy sq) (hin : meth.name = "<init>") (hA : ∀ q, H0.size ≤ q → A q) (hl : lv_has ls 1 [(0, .ref a0)]) (hlen : fs.length = 122) (hP : va_P (dC, dI) vwCl ((a0, .inr (10, fs)) :: Y) H) (hD : va_D A ((a0, .inr (10, fs)) :: Y)) (hS : va_S A H0 H locs) (h3 : cells + 1 ≤ R.cells) (h4 : slots + 5 ≤ R.slots) (kk : ∀ (q : Nat) (g : Nat → Int32) (fs1 : List Value) (Y1 : va_W) (H1 : Heap) (locs1 : List Loc), wa (lf_A g) [99, 121, 99, 108, 101] → fs1 = fs.set 10 (.ref q) → fs1.length = 122 → Y1 = Y ++ [(q, .inl (cy 2, 5, .inl g))] → va_P (dC, dI) vwCl ((a0, .inr (10, fs1)) :: Y1) H1 → va_D A ((a0, .inr (10, fs1)) :: Y1) → va_S A H0 H1 locs1 → W p l e R s m args below meth c H1 locs1 (cells + 1) (slots + 5) Q (F0 m 58 ls [])) : W p l e R s m args below meth c H locs cells slots Q (F0 m 26 ls []) := by
  have hx := C0.1
  have hb := C0.2.1
  refine lv_aload_n hx hb dX10_init_26 rfl (lv_at hl 0 rfl) ?_
  refine lv_iconst (v := 5) hx hb dX10_init_27 (by decide) ?_
  refine k_newa C0 2 (ty := .char) rfl (atype := .char) rfl wd161 hP hD hS hA (a0 := (5, .inl (fun _ => 0))) (fun _ => rfl) (by decide) (by decide) (Nat.le_of_ble_eq_true rfl) (cells + 1) (slots + 5) (Nat.le_refl _) (Nat.le_refl _) h3 h4 dX10_init_28 (fun q H hP hD hS => ?_)
  refine lv_dup hx hb dX10_init_30 rfl ?_
  refine lv_iconst (v := 0) hx hb dX10_init_31 (by decide) ?_
  refine lv_bipush (v := 99) hx hb dX10_init_32 (by decide) ?_
  refine k_castU C0 hP hD hS (k_in 0 5 (by decide)) dX10_init_34 (fun g3 H locs e3 hP hD hS => ?_)
  refine lv_dup hx hb dX10_init_35 rfl ?_
  refine lv_iconst (v := 1) hx hb dX10_init_36 (by decide) ?_
  refine lv_bipush (v := 121) hx hb dX10_init_37 (by decide) ?_
  refine k_castU C0 hP hD hS (k_in 1 5 (by decide)) dX10_init_39 (fun g7 H locs e7 hP hD hS => ?_)
  refine lv_dup hx hb dX10_init_40 rfl ?_
  refine lv_iconst (v := 2) hx hb dX10_init_41 (by decide) ?_
  refine lv_bipush (v := 99) hx hb dX10_init_42 (by decide) ?_
  refine k_castU C0 hP hD hS (k_in 2 5 (by decide)) dX10_init_44 (fun g11 H locs e11 hP hD hS => ?_)
  refine lv_dup hx hb dX10_init_45 rfl ?_
  refine lv_iconst (v := 3) hx hb dX10_init_46 (by decide) ?_
  refine lv_bipush (v := 108) hx hb dX10_init_47 (by decide) ?_
  refine k_castU C0 hP hD hS (k_in 3 5 (by decide)) dX10_init_49 (fun g15 H locs e15 hP hD hS => ?_)
  refine lv_dup hx hb dX10_init_50 rfl ?_
  refine lv_iconst (v := 4) hx hb dX10_init_51 (by decide) ?_
  refine lv_bipush (v := 101) hx hb dX10_init_52 (by decide) ?_
  refine k_castU C0 hP hD hS (k_in 4 5 (by decide)) dX10_init_54 (fun g19 H locs e19 hP hD hS => ?_)
  refine k_putF C0 hin fp_X10_20 hP hD hS 0 rfl rfl rfl (Nat.lt_of_lt_of_eq (by decide) hlen.symm) dX10_init_55 (fun H locs hP hD hS => ?_)
  have hg : wa (lf_A g19) [99, 121, 99, 108, 101] := by
    subst e19 e15 e11 e7 e3
    unfold wa
    decide +kernel
  exact kk q g19 _ _ H locs hg rfl (by rw [List.length_set]; exact hlen) rfl hP hD hS
set_option maxHeartbeats 4000000 in
theorem mi_11 {p : Program} {l : Launch} {e : Env} {R : Room} {s : State} {m : MethodId} {args : Array Value} {below : List Frame} {meth : Method} {c : Code} {H : Heap} {locs : List Loc} {cells slots : Nat} {Q : State → Prop} {ls : Array Slot} {A : Nat → Prop} {H0 : Heap} {dC : Nat → ClassId} {dI : Nat → Nat → Nat} {cy : Nat → ClassId} {sq : Nat → Nat} {a0 : Nat} {fs : List Value} {Y : va_W} (C0 : k_cx p s m args c cX10_init 1 RX10 dC dI cy sq) (hin : meth.name = "<init>") (hA : ∀ q, H0.size ≤ q → A q) (hl : lv_has ls 1 [(0, .ref a0)]) (hlen : fs.length = 122) (hP : va_P (dC, dI) vwCl ((a0, .inr (10, fs)) :: Y) H) (hD : va_D A ((a0, .inr (10, fs)) :: Y)) (hS : va_S A H0 H locs) (h3 : cells + 1 ≤ R.cells) (h4 : slots + 5 ≤ R.slots) (kk : ∀ (q : Nat) (g : Nat → Int32) (fs1 : List Value) (Y1 : va_W) (H1 : Heap) (locs1 : List Loc), wa (lf_A g) [103, 114, 101, 101, 110] → fs1 = fs.set 11 (.ref q) → fs1.length = 122 → Y1 = Y ++ [(q, .inl (cy 2, 5, .inl g))] → va_P (dC, dI) vwCl ((a0, .inr (10, fs1)) :: Y1) H1 → va_D A ((a0, .inr (10, fs1)) :: Y1) → va_S A H0 H1 locs1 → W p l e R s m args below meth c H1 locs1 (cells + 1) (slots + 5) Q (F0 m 90 ls [])) : W p l e R s m args below meth c H locs cells slots Q (F0 m 58 ls []) := by
  have hx := C0.1
  have hb := C0.2.1
  refine lv_aload_n hx hb dX10_init_58 rfl (lv_at hl 0 rfl) ?_
  refine lv_iconst (v := 5) hx hb dX10_init_59 (by decide) ?_
  refine k_newa C0 2 (ty := .char) rfl (atype := .char) rfl wd161 hP hD hS hA (a0 := (5, .inl (fun _ => 0))) (fun _ => rfl) (by decide) (by decide) (Nat.le_of_ble_eq_true rfl) (cells + 1) (slots + 5) (Nat.le_refl _) (Nat.le_refl _) h3 h4 dX10_init_60 (fun q H hP hD hS => ?_)
  refine lv_dup hx hb dX10_init_62 rfl ?_
  refine lv_iconst (v := 0) hx hb dX10_init_63 (by decide) ?_
  refine lv_bipush (v := 103) hx hb dX10_init_64 (by decide) ?_
  refine k_castU C0 hP hD hS (k_in 0 5 (by decide)) dX10_init_66 (fun g3 H locs e3 hP hD hS => ?_)
  refine lv_dup hx hb dX10_init_67 rfl ?_
  refine lv_iconst (v := 1) hx hb dX10_init_68 (by decide) ?_
  refine lv_bipush (v := 114) hx hb dX10_init_69 (by decide) ?_
  refine k_castU C0 hP hD hS (k_in 1 5 (by decide)) dX10_init_71 (fun g7 H locs e7 hP hD hS => ?_)
  refine lv_dup hx hb dX10_init_72 rfl ?_
  refine lv_iconst (v := 2) hx hb dX10_init_73 (by decide) ?_
  refine lv_bipush (v := 101) hx hb dX10_init_74 (by decide) ?_
  refine k_castU C0 hP hD hS (k_in 2 5 (by decide)) dX10_init_76 (fun g11 H locs e11 hP hD hS => ?_)
  refine lv_dup hx hb dX10_init_77 rfl ?_
  refine lv_iconst (v := 3) hx hb dX10_init_78 (by decide) ?_
  refine lv_bipush (v := 101) hx hb dX10_init_79 (by decide) ?_
  refine k_castU C0 hP hD hS (k_in 3 5 (by decide)) dX10_init_81 (fun g15 H locs e15 hP hD hS => ?_)
  refine lv_dup hx hb dX10_init_82 rfl ?_
  refine lv_iconst (v := 4) hx hb dX10_init_83 (by decide) ?_
  refine lv_bipush (v := 110) hx hb dX10_init_84 (by decide) ?_
  refine k_castU C0 hP hD hS (k_in 4 5 (by decide)) dX10_init_86 (fun g19 H locs e19 hP hD hS => ?_)
  refine k_putF C0 hin fp_X10_24 hP hD hS 0 rfl rfl rfl (Nat.lt_of_lt_of_eq (by decide) hlen.symm) dX10_init_87 (fun H locs hP hD hS => ?_)
  have hg : wa (lf_A g19) [103, 114, 101, 101, 110] := by
    subst e19 e15 e11 e7 e3
    unfold wa
    decide +kernel
  exact kk q g19 _ _ H locs hg rfl (by rw [List.length_set]; exact hlen) rfl hP hD hS
set_option maxHeartbeats 4000000 in
theorem mi_12 {p : Program} {l : Launch} {e : Env} {R : Room} {s : State} {m : MethodId} {args : Array Value} {below : List Frame} {meth : Method} {c : Code} {H : Heap} {locs : List Loc} {cells slots : Nat} {Q : State → Prop} {ls : Array Slot} {A : Nat → Prop} {H0 : Heap} {dC : Nat → ClassId} {dI : Nat → Nat → Nat} {cy : Nat → ClassId} {sq : Nat → Nat} {a0 : Nat} {fs : List Value} {Y : va_W} (C0 : k_cx p s m args c cX10_init 1 RX10 dC dI cy sq) (hin : meth.name = "<init>") (hA : ∀ q, H0.size ≤ q → A q) (hl : lv_has ls 1 [(0, .ref a0)]) (hlen : fs.length = 122) (hP : va_P (dC, dI) vwCl ((a0, .inr (10, fs)) :: Y) H) (hD : va_D A ((a0, .inr (10, fs)) :: Y)) (hS : va_S A H0 H locs) (h3 : cells + 1 ≤ R.cells) (h4 : slots + 4 ≤ R.slots) (kk : ∀ (q : Nat) (g : Nat → Int32) (fs1 : List Value) (Y1 : va_W) (H1 : Heap) (locs1 : List Loc), wa (lf_A g) [114, 117, 108, 101] → fs1 = fs.set 12 (.ref q) → fs1.length = 122 → Y1 = Y ++ [(q, .inl (cy 2, 4, .inl g))] → va_P (dC, dI) vwCl ((a0, .inr (10, fs1)) :: Y1) H1 → va_D A ((a0, .inr (10, fs1)) :: Y1) → va_S A H0 H1 locs1 → W p l e R s m args below meth c H1 locs1 (cells + 1) (slots + 4) Q (F0 m 117 ls [])) : W p l e R s m args below meth c H locs cells slots Q (F0 m 90 ls []) := by
  have hx := C0.1
  have hb := C0.2.1
  refine lv_aload_n hx hb dX10_init_90 rfl (lv_at hl 0 rfl) ?_
  refine lv_iconst (v := 4) hx hb dX10_init_91 (by decide) ?_
  refine k_newa C0 2 (ty := .char) rfl (atype := .char) rfl wd161 hP hD hS hA (a0 := (4, .inl (fun _ => 0))) (fun _ => rfl) (by decide) (by decide) (Nat.le_of_ble_eq_true rfl) (cells + 1) (slots + 4) (Nat.le_refl _) (Nat.le_refl _) h3 h4 dX10_init_92 (fun q H hP hD hS => ?_)
  refine lv_dup hx hb dX10_init_94 rfl ?_
  refine lv_iconst (v := 0) hx hb dX10_init_95 (by decide) ?_
  refine lv_bipush (v := 114) hx hb dX10_init_96 (by decide) ?_
  refine k_castU C0 hP hD hS (k_in 0 4 (by decide)) dX10_init_98 (fun g3 H locs e3 hP hD hS => ?_)
  refine lv_dup hx hb dX10_init_99 rfl ?_
  refine lv_iconst (v := 1) hx hb dX10_init_100 (by decide) ?_
  refine lv_bipush (v := 117) hx hb dX10_init_101 (by decide) ?_
  refine k_castU C0 hP hD hS (k_in 1 4 (by decide)) dX10_init_103 (fun g7 H locs e7 hP hD hS => ?_)
  refine lv_dup hx hb dX10_init_104 rfl ?_
  refine lv_iconst (v := 2) hx hb dX10_init_105 (by decide) ?_
  refine lv_bipush (v := 108) hx hb dX10_init_106 (by decide) ?_
  refine k_castU C0 hP hD hS (k_in 2 4 (by decide)) dX10_init_108 (fun g11 H locs e11 hP hD hS => ?_)
  refine lv_dup hx hb dX10_init_109 rfl ?_
  refine lv_iconst (v := 3) hx hb dX10_init_110 (by decide) ?_
  refine lv_bipush (v := 101) hx hb dX10_init_111 (by decide) ?_
  refine k_castU C0 hP hD hS (k_in 3 4 (by decide)) dX10_init_113 (fun g15 H locs e15 hP hD hS => ?_)
  refine k_putF C0 hin fp_X10_27 hP hD hS 0 rfl rfl rfl (Nat.lt_of_lt_of_eq (by decide) hlen.symm) dX10_init_114 (fun H locs hP hD hS => ?_)
  have hg : wa (lf_A g15) [114, 117, 108, 101] := by
    subst e15 e11 e7 e3
    unfold wa
    decide +kernel
  exact kk q g15 _ _ H locs hg rfl (by rw [List.length_set]; exact hlen) rfl hP hD hS
set_option maxHeartbeats 4000000 in
theorem mi_13 {p : Program} {l : Launch} {e : Env} {R : Room} {s : State} {m : MethodId} {args : Array Value} {below : List Frame} {meth : Method} {c : Code} {H : Heap} {locs : List Loc} {cells slots : Nat} {Q : State → Prop} {ls : Array Slot} {A : Nat → Prop} {H0 : Heap} {dC : Nat → ClassId} {dI : Nat → Nat → Nat} {cy : Nat → ClassId} {sq : Nat → Nat} {a0 : Nat} {fs : List Value} {Y : va_W} (C0 : k_cx p s m args c cX10_init 1 RX10 dC dI cy sq) (hin : meth.name = "<init>") (hA : ∀ q, H0.size ≤ q → A q) (hl : lv_has ls 1 [(0, .ref a0)]) (hlen : fs.length = 122) (hP : va_P (dC, dI) vwCl ((a0, .inr (10, fs)) :: Y) H) (hD : va_D A ((a0, .inr (10, fs)) :: Y)) (hS : va_S A H0 H locs) (h3 : cells + 1 ≤ R.cells) (h4 : slots + 5 ≤ R.slots) (kk : ∀ (q : Nat) (g : Nat → Int32) (fs1 : List Value) (Y1 : va_W) (H1 : Heap) (locs1 : List Loc), wa (lf_A g) [108, 101, 97, 115, 116] → fs1 = fs.set 13 (.ref q) → fs1.length = 122 → Y1 = Y ++ [(q, .inl (cy 2, 5, .inl g))] → va_P (dC, dI) vwCl ((a0, .inr (10, fs1)) :: Y1) H1 → va_D A ((a0, .inr (10, fs1)) :: Y1) → va_S A H0 H1 locs1 → W p l e R s m args below meth c H1 locs1 (cells + 1) (slots + 5) Q (F0 m 149 ls [])) : W p l e R s m args below meth c H locs cells slots Q (F0 m 117 ls []) := by
  have hx := C0.1
  have hb := C0.2.1
  refine lv_aload_n hx hb dX10_init_117 rfl (lv_at hl 0 rfl) ?_
  refine lv_iconst (v := 5) hx hb dX10_init_118 (by decide) ?_
  refine k_newa C0 2 (ty := .char) rfl (atype := .char) rfl wd161 hP hD hS hA (a0 := (5, .inl (fun _ => 0))) (fun _ => rfl) (by decide) (by decide) (Nat.le_of_ble_eq_true rfl) (cells + 1) (slots + 5) (Nat.le_refl _) (Nat.le_refl _) h3 h4 dX10_init_119 (fun q H hP hD hS => ?_)
  refine lv_dup hx hb dX10_init_121 rfl ?_
  refine lv_iconst (v := 0) hx hb dX10_init_122 (by decide) ?_
  refine lv_bipush (v := 108) hx hb dX10_init_123 (by decide) ?_
  refine k_castU C0 hP hD hS (k_in 0 5 (by decide)) dX10_init_125 (fun g3 H locs e3 hP hD hS => ?_)
  refine lv_dup hx hb dX10_init_126 rfl ?_
  refine lv_iconst (v := 1) hx hb dX10_init_127 (by decide) ?_
  refine lv_bipush (v := 101) hx hb dX10_init_128 (by decide) ?_
  refine k_castU C0 hP hD hS (k_in 1 5 (by decide)) dX10_init_130 (fun g7 H locs e7 hP hD hS => ?_)
  refine lv_dup hx hb dX10_init_131 rfl ?_
  refine lv_iconst (v := 2) hx hb dX10_init_132 (by decide) ?_
  refine lv_bipush (v := 97) hx hb dX10_init_133 (by decide) ?_
  refine k_castU C0 hP hD hS (k_in 2 5 (by decide)) dX10_init_135 (fun g11 H locs e11 hP hD hS => ?_)
  refine lv_dup hx hb dX10_init_136 rfl ?_
  refine lv_iconst (v := 3) hx hb dX10_init_137 (by decide) ?_
  refine lv_bipush (v := 115) hx hb dX10_init_138 (by decide) ?_
  refine k_castU C0 hP hD hS (k_in 3 5 (by decide)) dX10_init_140 (fun g15 H locs e15 hP hD hS => ?_)
  refine lv_dup hx hb dX10_init_141 rfl ?_
  refine lv_iconst (v := 4) hx hb dX10_init_142 (by decide) ?_
  refine lv_bipush (v := 116) hx hb dX10_init_143 (by decide) ?_
  refine k_castU C0 hP hD hS (k_in 4 5 (by decide)) dX10_init_145 (fun g19 H locs e19 hP hD hS => ?_)
  refine k_putF C0 hin fp_X10_30 hP hD hS 0 rfl rfl rfl (Nat.lt_of_lt_of_eq (by decide) hlen.symm) dX10_init_146 (fun H locs hP hD hS => ?_)
  have hg : wa (lf_A g19) [108, 101, 97, 115, 116] := by
    subst e19 e15 e11 e7 e3
    unfold wa
    decide +kernel
  exact kk q g19 _ _ H locs hg rfl (by rw [List.length_set]; exact hlen) rfl hP hD hS
set_option maxHeartbeats 4000000 in
theorem mi_14 {p : Program} {l : Launch} {e : Env} {R : Room} {s : State} {m : MethodId} {args : Array Value} {below : List Frame} {meth : Method} {c : Code} {H : Heap} {locs : List Loc} {cells slots : Nat} {Q : State → Prop} {ls : Array Slot} {A : Nat → Prop} {H0 : Heap} {dC : Nat → ClassId} {dI : Nat → Nat → Nat} {cy : Nat → ClassId} {sq : Nat → Nat} {a0 : Nat} {fs : List Value} {Y : va_W} (C0 : k_cx p s m args c cX10_init 1 RX10 dC dI cy sq) (hin : meth.name = "<init>") (hA : ∀ q, H0.size ≤ q → A q) (hl : lv_has ls 1 [(0, .ref a0)]) (hlen : fs.length = 122) (hP : va_P (dC, dI) vwCl ((a0, .inr (10, fs)) :: Y) H) (hD : va_D A ((a0, .inr (10, fs)) :: Y)) (hS : va_S A H0 H locs) (h3 : cells + 1 ≤ R.cells) (h4 : slots + 4 ≤ R.slots) (kk : ∀ (q : Nat) (g : Nat → Int32) (fs1 : List Value) (Y1 : va_W) (H1 : Heap) (locs1 : List Loc), wa (lf_A g) [107, 105, 110, 100] → fs1 = fs.set 14 (.ref q) → fs1.length = 122 → Y1 = Y ++ [(q, .inl (cy 2, 4, .inl g))] → va_P (dC, dI) vwCl ((a0, .inr (10, fs1)) :: Y1) H1 → va_D A ((a0, .inr (10, fs1)) :: Y1) → va_S A H0 H1 locs1 → W p l e R s m args below meth c H1 locs1 (cells + 1) (slots + 4) Q (F0 m 176 ls [])) : W p l e R s m args below meth c H locs cells slots Q (F0 m 149 ls []) := by
  have hx := C0.1
  have hb := C0.2.1
  refine lv_aload_n hx hb dX10_init_149 rfl (lv_at hl 0 rfl) ?_
  refine lv_iconst (v := 4) hx hb dX10_init_150 (by decide) ?_
  refine k_newa C0 2 (ty := .char) rfl (atype := .char) rfl wd161 hP hD hS hA (a0 := (4, .inl (fun _ => 0))) (fun _ => rfl) (by decide) (by decide) (Nat.le_of_ble_eq_true rfl) (cells + 1) (slots + 4) (Nat.le_refl _) (Nat.le_refl _) h3 h4 dX10_init_151 (fun q H hP hD hS => ?_)
  refine lv_dup hx hb dX10_init_153 rfl ?_
  refine lv_iconst (v := 0) hx hb dX10_init_154 (by decide) ?_
  refine lv_bipush (v := 107) hx hb dX10_init_155 (by decide) ?_
  refine k_castU C0 hP hD hS (k_in 0 4 (by decide)) dX10_init_157 (fun g3 H locs e3 hP hD hS => ?_)
  refine lv_dup hx hb dX10_init_158 rfl ?_
  refine lv_iconst (v := 1) hx hb dX10_init_159 (by decide) ?_
  refine lv_bipush (v := 105) hx hb dX10_init_160 (by decide) ?_
  refine k_castU C0 hP hD hS (k_in 1 4 (by decide)) dX10_init_162 (fun g7 H locs e7 hP hD hS => ?_)
  refine lv_dup hx hb dX10_init_163 rfl ?_
  refine lv_iconst (v := 2) hx hb dX10_init_164 (by decide) ?_
  refine lv_bipush (v := 110) hx hb dX10_init_165 (by decide) ?_
  refine k_castU C0 hP hD hS (k_in 2 4 (by decide)) dX10_init_167 (fun g11 H locs e11 hP hD hS => ?_)
  refine lv_dup hx hb dX10_init_168 rfl ?_
  refine lv_iconst (v := 3) hx hb dX10_init_169 (by decide) ?_
  refine lv_bipush (v := 100) hx hb dX10_init_170 (by decide) ?_
  refine k_castU C0 hP hD hS (k_in 3 4 (by decide)) dX10_init_172 (fun g15 H locs e15 hP hD hS => ?_)
  refine k_putF C0 hin fp_X10_33 hP hD hS 0 rfl rfl rfl (Nat.lt_of_lt_of_eq (by decide) hlen.symm) dX10_init_173 (fun H locs hP hD hS => ?_)
  have hg : wa (lf_A g15) [107, 105, 110, 100] := by
    subst e15 e11 e7 e3
    unfold wa
    decide +kernel
  exact kk q g15 _ _ H locs hg rfl (by rw [List.length_set]; exact hlen) rfl hP hD hS
set_option maxHeartbeats 4000000 in
theorem mi_15 {p : Program} {l : Launch} {e : Env} {R : Room} {s : State} {m : MethodId} {args : Array Value} {below : List Frame} {meth : Method} {c : Code} {H : Heap} {locs : List Loc} {cells slots : Nat} {Q : State → Prop} {ls : Array Slot} {A : Nat → Prop} {H0 : Heap} {dC : Nat → ClassId} {dI : Nat → Nat → Nat} {cy : Nat → ClassId} {sq : Nat → Nat} {a0 : Nat} {fs : List Value} {Y : va_W} (C0 : k_cx p s m args c cX10_init 1 RX10 dC dI cy sq) (hin : meth.name = "<init>") (hA : ∀ q, H0.size ≤ q → A q) (hl : lv_has ls 1 [(0, .ref a0)]) (hlen : fs.length = 122) (hP : va_P (dC, dI) vwCl ((a0, .inr (10, fs)) :: Y) H) (hD : va_D A ((a0, .inr (10, fs)) :: Y)) (hS : va_S A H0 H locs) (h3 : cells + 1 ≤ R.cells) (h4 : slots + 4 ≤ R.slots) (kk : ∀ (q : Nat) (g : Nat → Int32) (fs1 : List Value) (Y1 : va_W) (H1 : Heap) (locs1 : List Loc), wa (lf_A g) [99, 97, 108, 109] → fs1 = fs.set 15 (.ref q) → fs1.length = 122 → Y1 = Y ++ [(q, .inl (cy 2, 4, .inl g))] → va_P (dC, dI) vwCl ((a0, .inr (10, fs1)) :: Y1) H1 → va_D A ((a0, .inr (10, fs1)) :: Y1) → va_S A H0 H1 locs1 → W p l e R s m args below meth c H1 locs1 (cells + 1) (slots + 4) Q (F0 m 203 ls [])) : W p l e R s m args below meth c H locs cells slots Q (F0 m 176 ls []) := by
  have hx := C0.1
  have hb := C0.2.1
  refine lv_aload_n hx hb dX10_init_176 rfl (lv_at hl 0 rfl) ?_
  refine lv_iconst (v := 4) hx hb dX10_init_177 (by decide) ?_
  refine k_newa C0 2 (ty := .char) rfl (atype := .char) rfl wd161 hP hD hS hA (a0 := (4, .inl (fun _ => 0))) (fun _ => rfl) (by decide) (by decide) (Nat.le_of_ble_eq_true rfl) (cells + 1) (slots + 4) (Nat.le_refl _) (Nat.le_refl _) h3 h4 dX10_init_178 (fun q H hP hD hS => ?_)
  refine lv_dup hx hb dX10_init_180 rfl ?_
  refine lv_iconst (v := 0) hx hb dX10_init_181 (by decide) ?_
  refine lv_bipush (v := 99) hx hb dX10_init_182 (by decide) ?_
  refine k_castU C0 hP hD hS (k_in 0 4 (by decide)) dX10_init_184 (fun g3 H locs e3 hP hD hS => ?_)
  refine lv_dup hx hb dX10_init_185 rfl ?_
  refine lv_iconst (v := 1) hx hb dX10_init_186 (by decide) ?_
  refine lv_bipush (v := 97) hx hb dX10_init_187 (by decide) ?_
  refine k_castU C0 hP hD hS (k_in 1 4 (by decide)) dX10_init_189 (fun g7 H locs e7 hP hD hS => ?_)
  refine lv_dup hx hb dX10_init_190 rfl ?_
  refine lv_iconst (v := 2) hx hb dX10_init_191 (by decide) ?_
  refine lv_bipush (v := 108) hx hb dX10_init_192 (by decide) ?_
  refine k_castU C0 hP hD hS (k_in 2 4 (by decide)) dX10_init_194 (fun g11 H locs e11 hP hD hS => ?_)
  refine lv_dup hx hb dX10_init_195 rfl ?_
  refine lv_iconst (v := 3) hx hb dX10_init_196 (by decide) ?_
  refine lv_bipush (v := 109) hx hb dX10_init_197 (by decide) ?_
  refine k_castU C0 hP hD hS (k_in 3 4 (by decide)) dX10_init_199 (fun g15 H locs e15 hP hD hS => ?_)
  refine k_putF C0 hin fp_X10_36 hP hD hS 0 rfl rfl rfl (Nat.lt_of_lt_of_eq (by decide) hlen.symm) dX10_init_200 (fun H locs hP hD hS => ?_)
  have hg : wa (lf_A g15) [99, 97, 108, 109] := by
    subst e15 e11 e7 e3
    unfold wa
    decide +kernel
  exact kk q g15 _ _ H locs hg rfl (by rw [List.length_set]; exact hlen) rfl hP hD hS
set_option maxHeartbeats 4000000 in
theorem mi_16 {p : Program} {l : Launch} {e : Env} {R : Room} {s : State} {m : MethodId} {args : Array Value} {below : List Frame} {meth : Method} {c : Code} {H : Heap} {locs : List Loc} {cells slots : Nat} {Q : State → Prop} {ls : Array Slot} {A : Nat → Prop} {H0 : Heap} {dC : Nat → ClassId} {dI : Nat → Nat → Nat} {cy : Nat → ClassId} {sq : Nat → Nat} {a0 : Nat} {fs : List Value} {Y : va_W} (C0 : k_cx p s m args c cX10_init 1 RX10 dC dI cy sq) (hin : meth.name = "<init>") (hA : ∀ q, H0.size ≤ q → A q) (hl : lv_has ls 1 [(0, .ref a0)]) (hlen : fs.length = 122) (hP : va_P (dC, dI) vwCl ((a0, .inr (10, fs)) :: Y) H) (hD : va_D A ((a0, .inr (10, fs)) :: Y)) (hS : va_S A H0 H locs) (h3 : cells + 1 ≤ R.cells) (h4 : slots + 4 ≤ R.slots) (kk : ∀ (q : Nat) (g : Nat → Int32) (fs1 : List Value) (Y1 : va_W) (H1 : Heap) (locs1 : List Loc), wa (lf_A g) [112, 97, 99, 101] → fs1 = fs.set 16 (.ref q) → fs1.length = 122 → Y1 = Y ++ [(q, .inl (cy 2, 4, .inl g))] → va_P (dC, dI) vwCl ((a0, .inr (10, fs1)) :: Y1) H1 → va_D A ((a0, .inr (10, fs1)) :: Y1) → va_S A H0 H1 locs1 → W p l e R s m args below meth c H1 locs1 (cells + 1) (slots + 4) Q (F0 m 230 ls [])) : W p l e R s m args below meth c H locs cells slots Q (F0 m 203 ls []) := by
  have hx := C0.1
  have hb := C0.2.1
  refine lv_aload_n hx hb dX10_init_203 rfl (lv_at hl 0 rfl) ?_
  refine lv_iconst (v := 4) hx hb dX10_init_204 (by decide) ?_
  refine k_newa C0 2 (ty := .char) rfl (atype := .char) rfl wd161 hP hD hS hA (a0 := (4, .inl (fun _ => 0))) (fun _ => rfl) (by decide) (by decide) (Nat.le_of_ble_eq_true rfl) (cells + 1) (slots + 4) (Nat.le_refl _) (Nat.le_refl _) h3 h4 dX10_init_205 (fun q H hP hD hS => ?_)
  refine lv_dup hx hb dX10_init_207 rfl ?_
  refine lv_iconst (v := 0) hx hb dX10_init_208 (by decide) ?_
  refine lv_bipush (v := 112) hx hb dX10_init_209 (by decide) ?_
  refine k_castU C0 hP hD hS (k_in 0 4 (by decide)) dX10_init_211 (fun g3 H locs e3 hP hD hS => ?_)
  refine lv_dup hx hb dX10_init_212 rfl ?_
  refine lv_iconst (v := 1) hx hb dX10_init_213 (by decide) ?_
  refine lv_bipush (v := 97) hx hb dX10_init_214 (by decide) ?_
  refine k_castU C0 hP hD hS (k_in 1 4 (by decide)) dX10_init_216 (fun g7 H locs e7 hP hD hS => ?_)
  refine lv_dup hx hb dX10_init_217 rfl ?_
  refine lv_iconst (v := 2) hx hb dX10_init_218 (by decide) ?_
  refine lv_bipush (v := 99) hx hb dX10_init_219 (by decide) ?_
  refine k_castU C0 hP hD hS (k_in 2 4 (by decide)) dX10_init_221 (fun g11 H locs e11 hP hD hS => ?_)
  refine lv_dup hx hb dX10_init_222 rfl ?_
  refine lv_iconst (v := 3) hx hb dX10_init_223 (by decide) ?_
  refine lv_bipush (v := 101) hx hb dX10_init_224 (by decide) ?_
  refine k_castU C0 hP hD hS (k_in 3 4 (by decide)) dX10_init_226 (fun g15 H locs e15 hP hD hS => ?_)
  refine k_putF C0 hin fp_X10_39 hP hD hS 0 rfl rfl rfl (Nat.lt_of_lt_of_eq (by decide) hlen.symm) dX10_init_227 (fun H locs hP hD hS => ?_)
  have hg : wa (lf_A g15) [112, 97, 99, 101] := by
    subst e15 e11 e7 e3
    unfold wa
    decide +kernel
  exact kk q g15 _ _ H locs hg rfl (by rw [List.length_set]; exact hlen) rfl hP hD hS
set_option maxHeartbeats 4000000 in
theorem mi_17 {p : Program} {l : Launch} {e : Env} {R : Room} {s : State} {m : MethodId} {args : Array Value} {below : List Frame} {meth : Method} {c : Code} {H : Heap} {locs : List Loc} {cells slots : Nat} {Q : State → Prop} {ls : Array Slot} {A : Nat → Prop} {H0 : Heap} {dC : Nat → ClassId} {dI : Nat → Nat → Nat} {cy : Nat → ClassId} {sq : Nat → Nat} {a0 : Nat} {fs : List Value} {Y : va_W} (C0 : k_cx p s m args c cX10_init 1 RX10 dC dI cy sq) (hin : meth.name = "<init>") (hA : ∀ q, H0.size ≤ q → A q) (hl : lv_has ls 1 [(0, .ref a0)]) (hlen : fs.length = 122) (hP : va_P (dC, dI) vwCl ((a0, .inr (10, fs)) :: Y) H) (hD : va_D A ((a0, .inr (10, fs)) :: Y)) (hS : va_S A H0 H locs) (h3 : cells + 1 ≤ R.cells) (h4 : slots + 6 ≤ R.slots) (kk : ∀ (q : Nat) (g : Nat → Int32) (fs1 : List Value) (Y1 : va_W) (H1 : Heap) (locs1 : List Loc), wa (lf_A g) [116, 114, 117, 115, 116, 115] → fs1 = fs.set 17 (.ref q) → fs1.length = 122 → Y1 = Y ++ [(q, .inl (cy 2, 6, .inl g))] → va_P (dC, dI) vwCl ((a0, .inr (10, fs1)) :: Y1) H1 → va_D A ((a0, .inr (10, fs1)) :: Y1) → va_S A H0 H1 locs1 → W p l e R s m args below meth c H1 locs1 (cells + 1) (slots + 6) Q (F0 m 268 ls [])) : W p l e R s m args below meth c H locs cells slots Q (F0 m 230 ls []) := by
  have hx := C0.1
  have hb := C0.2.1
  refine lv_aload_n hx hb dX10_init_230 rfl (lv_at hl 0 rfl) ?_
  refine lv_bipush (v := 6) hx hb dX10_init_231 (by decide) ?_
  refine k_newa C0 2 (ty := .char) rfl (atype := .char) rfl wd161 hP hD hS hA (a0 := (6, .inl (fun _ => 0))) (fun _ => rfl) (by decide) (by decide) (Nat.le_of_ble_eq_true rfl) (cells + 1) (slots + 6) (Nat.le_refl _) (Nat.le_refl _) h3 h4 dX10_init_233 (fun q H hP hD hS => ?_)
  refine lv_dup hx hb dX10_init_235 rfl ?_
  refine lv_iconst (v := 0) hx hb dX10_init_236 (by decide) ?_
  refine lv_bipush (v := 116) hx hb dX10_init_237 (by decide) ?_
  refine k_castU C0 hP hD hS (k_in 0 6 (by decide)) dX10_init_239 (fun g3 H locs e3 hP hD hS => ?_)
  refine lv_dup hx hb dX10_init_240 rfl ?_
  refine lv_iconst (v := 1) hx hb dX10_init_241 (by decide) ?_
  refine lv_bipush (v := 114) hx hb dX10_init_242 (by decide) ?_
  refine k_castU C0 hP hD hS (k_in 1 6 (by decide)) dX10_init_244 (fun g7 H locs e7 hP hD hS => ?_)
  refine lv_dup hx hb dX10_init_245 rfl ?_
  refine lv_iconst (v := 2) hx hb dX10_init_246 (by decide) ?_
  refine lv_bipush (v := 117) hx hb dX10_init_247 (by decide) ?_
  refine k_castU C0 hP hD hS (k_in 2 6 (by decide)) dX10_init_249 (fun g11 H locs e11 hP hD hS => ?_)
  refine lv_dup hx hb dX10_init_250 rfl ?_
  refine lv_iconst (v := 3) hx hb dX10_init_251 (by decide) ?_
  refine lv_bipush (v := 115) hx hb dX10_init_252 (by decide) ?_
  refine k_castU C0 hP hD hS (k_in 3 6 (by decide)) dX10_init_254 (fun g15 H locs e15 hP hD hS => ?_)
  refine lv_dup hx hb dX10_init_255 rfl ?_
  refine lv_iconst (v := 4) hx hb dX10_init_256 (by decide) ?_
  refine lv_bipush (v := 116) hx hb dX10_init_257 (by decide) ?_
  refine k_castU C0 hP hD hS (k_in 4 6 (by decide)) dX10_init_259 (fun g19 H locs e19 hP hD hS => ?_)
  refine lv_dup hx hb dX10_init_260 rfl ?_
  refine lv_iconst (v := 5) hx hb dX10_init_261 (by decide) ?_
  refine lv_bipush (v := 115) hx hb dX10_init_262 (by decide) ?_
  refine k_castU C0 hP hD hS (k_in 5 6 (by decide)) dX10_init_264 (fun g23 H locs e23 hP hD hS => ?_)
  refine k_putF C0 hin fp_X10_42 hP hD hS 0 rfl rfl rfl (Nat.lt_of_lt_of_eq (by decide) hlen.symm) dX10_init_265 (fun H locs hP hD hS => ?_)
  have hg : wa (lf_A g23) [116, 114, 117, 115, 116, 115] := by
    subst e23 e19 e15 e11 e7 e3
    unfold wa
    decide +kernel
  exact kk q g23 _ _ H locs hg rfl (by rw [List.length_set]; exact hlen) rfl hP hD hS
set_option maxHeartbeats 4000000 in
theorem mi_18 {p : Program} {l : Launch} {e : Env} {R : Room} {s : State} {m : MethodId} {args : Array Value} {below : List Frame} {meth : Method} {c : Code} {H : Heap} {locs : List Loc} {cells slots : Nat} {Q : State → Prop} {ls : Array Slot} {A : Nat → Prop} {H0 : Heap} {dC : Nat → ClassId} {dI : Nat → Nat → Nat} {cy : Nat → ClassId} {sq : Nat → Nat} {a0 : Nat} {fs : List Value} {Y : va_W} (C0 : k_cx p s m args c cX10_init 1 RX10 dC dI cy sq) (hin : meth.name = "<init>") (hA : ∀ q, H0.size ≤ q → A q) (hl : lv_has ls 1 [(0, .ref a0)]) (hlen : fs.length = 122) (hP : va_P (dC, dI) vwCl ((a0, .inr (10, fs)) :: Y) H) (hD : va_D A ((a0, .inr (10, fs)) :: Y)) (hS : va_S A H0 H locs) (h3 : cells + 1 ≤ R.cells) (h4 : slots + 5 ≤ R.slots) (kk : ∀ (q : Nat) (g : Nat → Int32) (fs1 : List Value) (Y1 : va_W) (H1 : Heap) (locs1 : List Loc), wa (lf_A g) [99, 111, 109, 101, 115] → fs1 = fs.set 18 (.ref q) → fs1.length = 122 → Y1 = Y ++ [(q, .inl (cy 2, 5, .inl g))] → va_P (dC, dI) vwCl ((a0, .inr (10, fs1)) :: Y1) H1 → va_D A ((a0, .inr (10, fs1)) :: Y1) → va_S A H0 H1 locs1 → W p l e R s m args below meth c H1 locs1 (cells + 1) (slots + 5) Q (F0 m 300 ls [])) : W p l e R s m args below meth c H locs cells slots Q (F0 m 268 ls []) := by
  have hx := C0.1
  have hb := C0.2.1
  refine lv_aload_n hx hb dX10_init_268 rfl (lv_at hl 0 rfl) ?_
  refine lv_iconst (v := 5) hx hb dX10_init_269 (by decide) ?_
  refine k_newa C0 2 (ty := .char) rfl (atype := .char) rfl wd161 hP hD hS hA (a0 := (5, .inl (fun _ => 0))) (fun _ => rfl) (by decide) (by decide) (Nat.le_of_ble_eq_true rfl) (cells + 1) (slots + 5) (Nat.le_refl _) (Nat.le_refl _) h3 h4 dX10_init_270 (fun q H hP hD hS => ?_)
  refine lv_dup hx hb dX10_init_272 rfl ?_
  refine lv_iconst (v := 0) hx hb dX10_init_273 (by decide) ?_
  refine lv_bipush (v := 99) hx hb dX10_init_274 (by decide) ?_
  refine k_castU C0 hP hD hS (k_in 0 5 (by decide)) dX10_init_276 (fun g3 H locs e3 hP hD hS => ?_)
  refine lv_dup hx hb dX10_init_277 rfl ?_
  refine lv_iconst (v := 1) hx hb dX10_init_278 (by decide) ?_
  refine lv_bipush (v := 111) hx hb dX10_init_279 (by decide) ?_
  refine k_castU C0 hP hD hS (k_in 1 5 (by decide)) dX10_init_281 (fun g7 H locs e7 hP hD hS => ?_)
  refine lv_dup hx hb dX10_init_282 rfl ?_
  refine lv_iconst (v := 2) hx hb dX10_init_283 (by decide) ?_
  refine lv_bipush (v := 109) hx hb dX10_init_284 (by decide) ?_
  refine k_castU C0 hP hD hS (k_in 2 5 (by decide)) dX10_init_286 (fun g11 H locs e11 hP hD hS => ?_)
  refine lv_dup hx hb dX10_init_287 rfl ?_
  refine lv_iconst (v := 3) hx hb dX10_init_288 (by decide) ?_
  refine lv_bipush (v := 101) hx hb dX10_init_289 (by decide) ?_
  refine k_castU C0 hP hD hS (k_in 3 5 (by decide)) dX10_init_291 (fun g15 H locs e15 hP hD hS => ?_)
  refine lv_dup hx hb dX10_init_292 rfl ?_
  refine lv_iconst (v := 4) hx hb dX10_init_293 (by decide) ?_
  refine lv_bipush (v := 115) hx hb dX10_init_294 (by decide) ?_
  refine k_castU C0 hP hD hS (k_in 4 5 (by decide)) dX10_init_296 (fun g19 H locs e19 hP hD hS => ?_)
  refine k_putF C0 hin fp_X10_45 hP hD hS 0 rfl rfl rfl (Nat.lt_of_lt_of_eq (by decide) hlen.symm) dX10_init_297 (fun H locs hP hD hS => ?_)
  have hg : wa (lf_A g19) [99, 111, 109, 101, 115] := by
    subst e19 e15 e11 e7 e3
    unfold wa
    decide +kernel
  exact kk q g19 _ _ H locs hg rfl (by rw [List.length_set]; exact hlen) rfl hP hD hS
set_option maxHeartbeats 4000000 in
theorem mi_19 {p : Program} {l : Launch} {e : Env} {R : Room} {s : State} {m : MethodId} {args : Array Value} {below : List Frame} {meth : Method} {c : Code} {H : Heap} {locs : List Loc} {cells slots : Nat} {Q : State → Prop} {ls : Array Slot} {A : Nat → Prop} {H0 : Heap} {dC : Nat → ClassId} {dI : Nat → Nat → Nat} {cy : Nat → ClassId} {sq : Nat → Nat} {a0 : Nat} {fs : List Value} {Y : va_W} (C0 : k_cx p s m args c cX10_init 1 RX10 dC dI cy sq) (hin : meth.name = "<init>") (hA : ∀ q, H0.size ≤ q → A q) (hl : lv_has ls 1 [(0, .ref a0)]) (hlen : fs.length = 122) (hP : va_P (dC, dI) vwCl ((a0, .inr (10, fs)) :: Y) H) (hD : va_D A ((a0, .inr (10, fs)) :: Y)) (hS : va_S A H0 H locs) (h3 : cells + 1 ≤ R.cells) (h4 : slots + 2 ≤ R.slots) (kk : ∀ (q : Nat) (g : Nat → Int32) (fs1 : List Value) (Y1 : va_W) (H1 : Heap) (locs1 : List Loc), wa (lf_A g) [105, 115] → fs1 = fs.set 19 (.ref q) → fs1.length = 122 → Y1 = Y ++ [(q, .inl (cy 2, 2, .inl g))] → va_P (dC, dI) vwCl ((a0, .inr (10, fs1)) :: Y1) H1 → va_D A ((a0, .inr (10, fs1)) :: Y1) → va_S A H0 H1 locs1 → W p l e R s m args below meth c H1 locs1 (cells + 1) (slots + 2) Q (F0 m 317 ls [])) : W p l e R s m args below meth c H locs cells slots Q (F0 m 300 ls []) := by
  have hx := C0.1
  have hb := C0.2.1
  refine lv_aload_n hx hb dX10_init_300 rfl (lv_at hl 0 rfl) ?_
  refine lv_iconst (v := 2) hx hb dX10_init_301 (by decide) ?_
  refine k_newa C0 2 (ty := .char) rfl (atype := .char) rfl wd161 hP hD hS hA (a0 := (2, .inl (fun _ => 0))) (fun _ => rfl) (by decide) (by decide) (Nat.le_of_ble_eq_true rfl) (cells + 1) (slots + 2) (Nat.le_refl _) (Nat.le_refl _) h3 h4 dX10_init_302 (fun q H hP hD hS => ?_)
  refine lv_dup hx hb dX10_init_304 rfl ?_
  refine lv_iconst (v := 0) hx hb dX10_init_305 (by decide) ?_
  refine lv_bipush (v := 105) hx hb dX10_init_306 (by decide) ?_
  refine k_castU C0 hP hD hS (k_in 0 2 (by decide)) dX10_init_308 (fun g3 H locs e3 hP hD hS => ?_)
  refine lv_dup hx hb dX10_init_309 rfl ?_
  refine lv_iconst (v := 1) hx hb dX10_init_310 (by decide) ?_
  refine lv_bipush (v := 115) hx hb dX10_init_311 (by decide) ?_
  refine k_castU C0 hP hD hS (k_in 1 2 (by decide)) dX10_init_313 (fun g7 H locs e7 hP hD hS => ?_)
  refine k_putF C0 hin fp_X10_48 hP hD hS 0 rfl rfl rfl (Nat.lt_of_lt_of_eq (by decide) hlen.symm) dX10_init_314 (fun H locs hP hD hS => ?_)
  have hg : wa (lf_A g7) [105, 115] := by
    subst e7 e3
    unfold wa
    decide +kernel
  exact kk q g7 _ _ H locs hg rfl (by rw [List.length_set]; exact hlen) rfl hP hD hS
set_option maxHeartbeats 4000000 in
theorem mi_20 {p : Program} {l : Launch} {e : Env} {R : Room} {s : State} {m : MethodId} {args : Array Value} {below : List Frame} {meth : Method} {c : Code} {H : Heap} {locs : List Loc} {cells slots : Nat} {Q : State → Prop} {ls : Array Slot} {A : Nat → Prop} {H0 : Heap} {dC : Nat → ClassId} {dI : Nat → Nat → Nat} {cy : Nat → ClassId} {sq : Nat → Nat} {a0 : Nat} {fs : List Value} {Y : va_W} (C0 : k_cx p s m args c cX10_init 1 RX10 dC dI cy sq) (hin : meth.name = "<init>") (hA : ∀ q, H0.size ≤ q → A q) (hl : lv_has ls 1 [(0, .ref a0)]) (hlen : fs.length = 122) (hP : va_P (dC, dI) vwCl ((a0, .inr (10, fs)) :: Y) H) (hD : va_D A ((a0, .inr (10, fs)) :: Y)) (hS : va_S A H0 H locs) (h3 : cells + 1 ≤ R.cells) (h4 : slots + 2 ≤ R.slots) (kk : ∀ (q : Nat) (g : Nat → Int32) (fs1 : List Value) (Y1 : va_W) (H1 : Heap) (locs1 : List Loc), wa (lf_A g) [97, 116] → fs1 = fs.set 20 (.ref q) → fs1.length = 122 → Y1 = Y ++ [(q, .inl (cy 2, 2, .inl g))] → va_P (dC, dI) vwCl ((a0, .inr (10, fs1)) :: Y1) H1 → va_D A ((a0, .inr (10, fs1)) :: Y1) → va_S A H0 H1 locs1 → W p l e R s m args below meth c H1 locs1 (cells + 1) (slots + 2) Q (F0 m 334 ls [])) : W p l e R s m args below meth c H locs cells slots Q (F0 m 317 ls []) := by
  have hx := C0.1
  have hb := C0.2.1
  refine lv_aload_n hx hb dX10_init_317 rfl (lv_at hl 0 rfl) ?_
  refine lv_iconst (v := 2) hx hb dX10_init_318 (by decide) ?_
  refine k_newa C0 2 (ty := .char) rfl (atype := .char) rfl wd161 hP hD hS hA (a0 := (2, .inl (fun _ => 0))) (fun _ => rfl) (by decide) (by decide) (Nat.le_of_ble_eq_true rfl) (cells + 1) (slots + 2) (Nat.le_refl _) (Nat.le_refl _) h3 h4 dX10_init_319 (fun q H hP hD hS => ?_)
  refine lv_dup hx hb dX10_init_321 rfl ?_
  refine lv_iconst (v := 0) hx hb dX10_init_322 (by decide) ?_
  refine lv_bipush (v := 97) hx hb dX10_init_323 (by decide) ?_
  refine k_castU C0 hP hD hS (k_in 0 2 (by decide)) dX10_init_325 (fun g3 H locs e3 hP hD hS => ?_)
  refine lv_dup hx hb dX10_init_326 rfl ?_
  refine lv_iconst (v := 1) hx hb dX10_init_327 (by decide) ?_
  refine lv_bipush (v := 116) hx hb dX10_init_328 (by decide) ?_
  refine k_castU C0 hP hD hS (k_in 1 2 (by decide)) dX10_init_330 (fun g7 H locs e7 hP hD hS => ?_)
  refine k_putF C0 hin fp_X10_51 hP hD hS 0 rfl rfl rfl (Nat.lt_of_lt_of_eq (by decide) hlen.symm) dX10_init_331 (fun H locs hP hD hS => ?_)
  have hg : wa (lf_A g7) [97, 116] := by
    subst e7 e3
    unfold wa
    decide +kernel
  exact kk q g7 _ _ H locs hg rfl (by rw [List.length_set]; exact hlen) rfl hP hD hS
set_option maxHeartbeats 4000000 in
theorem mi_21 {p : Program} {l : Launch} {e : Env} {R : Room} {s : State} {m : MethodId} {args : Array Value} {below : List Frame} {meth : Method} {c : Code} {H : Heap} {locs : List Loc} {cells slots : Nat} {Q : State → Prop} {ls : Array Slot} {A : Nat → Prop} {H0 : Heap} {dC : Nat → ClassId} {dI : Nat → Nat → Nat} {cy : Nat → ClassId} {sq : Nat → Nat} {a0 : Nat} {fs : List Value} {Y : va_W} (C0 : k_cx p s m args c cX10_init 1 RX10 dC dI cy sq) (hin : meth.name = "<init>") (hA : ∀ q, H0.size ≤ q → A q) (hl : lv_has ls 1 [(0, .ref a0)]) (hlen : fs.length = 122) (hP : va_P (dC, dI) vwCl ((a0, .inr (10, fs)) :: Y) H) (hD : va_D A ((a0, .inr (10, fs)) :: Y)) (hS : va_S A H0 H locs) (h3 : cells + 1 ≤ R.cells) (h4 : slots + 3 ≤ R.slots) (kk : ∀ (q : Nat) (g : Nat → Int32) (fs1 : List Value) (Y1 : va_W) (H1 : Heap) (locs1 : List Loc), wa (lf_A g) [99, 97, 114] → fs1 = fs.set 21 (.ref q) → fs1.length = 122 → Y1 = Y ++ [(q, .inl (cy 2, 3, .inl g))] → va_P (dC, dI) vwCl ((a0, .inr (10, fs1)) :: Y1) H1 → va_D A ((a0, .inr (10, fs1)) :: Y1) → va_S A H0 H1 locs1 → W p l e R s m args below meth c H1 locs1 (cells + 1) (slots + 3) Q (F0 m 356 ls [])) : W p l e R s m args below meth c H locs cells slots Q (F0 m 334 ls []) := by
  have hx := C0.1
  have hb := C0.2.1
  refine lv_aload_n hx hb dX10_init_334 rfl (lv_at hl 0 rfl) ?_
  refine lv_iconst (v := 3) hx hb dX10_init_335 (by decide) ?_
  refine k_newa C0 2 (ty := .char) rfl (atype := .char) rfl wd161 hP hD hS hA (a0 := (3, .inl (fun _ => 0))) (fun _ => rfl) (by decide) (by decide) (Nat.le_of_ble_eq_true rfl) (cells + 1) (slots + 3) (Nat.le_refl _) (Nat.le_refl _) h3 h4 dX10_init_336 (fun q H hP hD hS => ?_)
  refine lv_dup hx hb dX10_init_338 rfl ?_
  refine lv_iconst (v := 0) hx hb dX10_init_339 (by decide) ?_
  refine lv_bipush (v := 99) hx hb dX10_init_340 (by decide) ?_
  refine k_castU C0 hP hD hS (k_in 0 3 (by decide)) dX10_init_342 (fun g3 H locs e3 hP hD hS => ?_)
  refine lv_dup hx hb dX10_init_343 rfl ?_
  refine lv_iconst (v := 1) hx hb dX10_init_344 (by decide) ?_
  refine lv_bipush (v := 97) hx hb dX10_init_345 (by decide) ?_
  refine k_castU C0 hP hD hS (k_in 1 3 (by decide)) dX10_init_347 (fun g7 H locs e7 hP hD hS => ?_)
  refine lv_dup hx hb dX10_init_348 rfl ?_
  refine lv_iconst (v := 2) hx hb dX10_init_349 (by decide) ?_
  refine lv_bipush (v := 114) hx hb dX10_init_350 (by decide) ?_
  refine k_castU C0 hP hD hS (k_in 2 3 (by decide)) dX10_init_352 (fun g11 H locs e11 hP hD hS => ?_)
  refine k_putF C0 hin fp_X10_54 hP hD hS 0 rfl rfl rfl (Nat.lt_of_lt_of_eq (by decide) hlen.symm) dX10_init_353 (fun H locs hP hD hS => ?_)
  have hg : wa (lf_A g11) [99, 97, 114] := by
    subst e11 e7 e3
    unfold wa
    decide +kernel
  exact kk q g11 _ _ H locs hg rfl (by rw [List.length_set]; exact hlen) rfl hP hD hS
set_option maxHeartbeats 4000000 in
theorem mi_22 {p : Program} {l : Launch} {e : Env} {R : Room} {s : State} {m : MethodId} {args : Array Value} {below : List Frame} {meth : Method} {c : Code} {H : Heap} {locs : List Loc} {cells slots : Nat} {Q : State → Prop} {ls : Array Slot} {A : Nat → Prop} {H0 : Heap} {dC : Nat → ClassId} {dI : Nat → Nat → Nat} {cy : Nat → ClassId} {sq : Nat → Nat} {a0 : Nat} {fs : List Value} {Y : va_W} (C0 : k_cx p s m args c cX10_init 1 RX10 dC dI cy sq) (hin : meth.name = "<init>") (hA : ∀ q, H0.size ≤ q → A q) (hl : lv_has ls 1 [(0, .ref a0)]) (hlen : fs.length = 122) (hP : va_P (dC, dI) vwCl ((a0, .inr (10, fs)) :: Y) H) (hD : va_D A ((a0, .inr (10, fs)) :: Y)) (hS : va_S A H0 H locs) (h3 : cells + 1 ≤ R.cells) (h4 : slots + 3 ≤ R.slots) (kk : ∀ (q : Nat) (g : Nat → Int32) (fs1 : List Value) (Y1 : va_W) (H1 : Heap) (locs1 : List Loc), wa (lf_A g) [114, 101, 100] → fs1 = fs.set 22 (.ref q) → fs1.length = 122 → Y1 = Y ++ [(q, .inl (cy 2, 3, .inl g))] → va_P (dC, dI) vwCl ((a0, .inr (10, fs1)) :: Y1) H1 → va_D A ((a0, .inr (10, fs1)) :: Y1) → va_S A H0 H1 locs1 → W p l e R s m args below meth c H1 locs1 (cells + 1) (slots + 3) Q (F0 m 378 ls [])) : W p l e R s m args below meth c H locs cells slots Q (F0 m 356 ls []) := by
  have hx := C0.1
  have hb := C0.2.1
  refine lv_aload_n hx hb dX10_init_356 rfl (lv_at hl 0 rfl) ?_
  refine lv_iconst (v := 3) hx hb dX10_init_357 (by decide) ?_
  refine k_newa C0 2 (ty := .char) rfl (atype := .char) rfl wd161 hP hD hS hA (a0 := (3, .inl (fun _ => 0))) (fun _ => rfl) (by decide) (by decide) (Nat.le_of_ble_eq_true rfl) (cells + 1) (slots + 3) (Nat.le_refl _) (Nat.le_refl _) h3 h4 dX10_init_358 (fun q H hP hD hS => ?_)
  refine lv_dup hx hb dX10_init_360 rfl ?_
  refine lv_iconst (v := 0) hx hb dX10_init_361 (by decide) ?_
  refine lv_bipush (v := 114) hx hb dX10_init_362 (by decide) ?_
  refine k_castU C0 hP hD hS (k_in 0 3 (by decide)) dX10_init_364 (fun g3 H locs e3 hP hD hS => ?_)
  refine lv_dup hx hb dX10_init_365 rfl ?_
  refine lv_iconst (v := 1) hx hb dX10_init_366 (by decide) ?_
  refine lv_bipush (v := 101) hx hb dX10_init_367 (by decide) ?_
  refine k_castU C0 hP hD hS (k_in 1 3 (by decide)) dX10_init_369 (fun g7 H locs e7 hP hD hS => ?_)
  refine lv_dup hx hb dX10_init_370 rfl ?_
  refine lv_iconst (v := 2) hx hb dX10_init_371 (by decide) ?_
  refine lv_bipush (v := 100) hx hb dX10_init_372 (by decide) ?_
  refine k_castU C0 hP hD hS (k_in 2 3 (by decide)) dX10_init_374 (fun g11 H locs e11 hP hD hS => ?_)
  refine k_putF C0 hin fp_X10_57 hP hD hS 0 rfl rfl rfl (Nat.lt_of_lt_of_eq (by decide) hlen.symm) dX10_init_375 (fun H locs hP hD hS => ?_)
  have hg : wa (lf_A g11) [114, 101, 100] := by
    subst e11 e7 e3
    unfold wa
    decide +kernel
  exact kk q g11 _ _ H locs hg rfl (by rw [List.length_set]; exact hlen) rfl hP hD hS
set_option maxHeartbeats 4000000 in
theorem mi_23 {p : Program} {l : Launch} {e : Env} {R : Room} {s : State} {m : MethodId} {args : Array Value} {below : List Frame} {meth : Method} {c : Code} {H : Heap} {locs : List Loc} {cells slots : Nat} {Q : State → Prop} {ls : Array Slot} {A : Nat → Prop} {H0 : Heap} {dC : Nat → ClassId} {dI : Nat → Nat → Nat} {cy : Nat → ClassId} {sq : Nat → Nat} {a0 : Nat} {fs : List Value} {Y : va_W} (C0 : k_cx p s m args c cX10_init 1 RX10 dC dI cy sq) (hin : meth.name = "<init>") (hA : ∀ q, H0.size ≤ q → A q) (hl : lv_has ls 1 [(0, .ref a0)]) (hlen : fs.length = 122) (hP : va_P (dC, dI) vwCl ((a0, .inr (10, fs)) :: Y) H) (hD : va_D A ((a0, .inr (10, fs)) :: Y)) (hS : va_S A H0 H locs) (h3 : cells + 1 ≤ R.cells) (h4 : slots + 6 ≤ R.slots) (kk : ∀ (q : Nat) (g : Nat → Int32) (fs1 : List Value) (Y1 : va_W) (H1 : Heap) (locs1 : List Loc), wa (lf_A g) [108, 101, 97, 114, 110, 115] → fs1 = fs.set 23 (.ref q) → fs1.length = 122 → Y1 = Y ++ [(q, .inl (cy 2, 6, .inl g))] → va_P (dC, dI) vwCl ((a0, .inr (10, fs1)) :: Y1) H1 → va_D A ((a0, .inr (10, fs1)) :: Y1) → va_S A H0 H1 locs1 → W p l e R s m args below meth c H1 locs1 (cells + 1) (slots + 6) Q (F0 m 416 ls [])) : W p l e R s m args below meth c H locs cells slots Q (F0 m 378 ls []) := by
  have hx := C0.1
  have hb := C0.2.1
  refine lv_aload_n hx hb dX10_init_378 rfl (lv_at hl 0 rfl) ?_
  refine lv_bipush (v := 6) hx hb dX10_init_379 (by decide) ?_
  refine k_newa C0 2 (ty := .char) rfl (atype := .char) rfl wd161 hP hD hS hA (a0 := (6, .inl (fun _ => 0))) (fun _ => rfl) (by decide) (by decide) (Nat.le_of_ble_eq_true rfl) (cells + 1) (slots + 6) (Nat.le_refl _) (Nat.le_refl _) h3 h4 dX10_init_381 (fun q H hP hD hS => ?_)
  refine lv_dup hx hb dX10_init_383 rfl ?_
  refine lv_iconst (v := 0) hx hb dX10_init_384 (by decide) ?_
  refine lv_bipush (v := 108) hx hb dX10_init_385 (by decide) ?_
  refine k_castU C0 hP hD hS (k_in 0 6 (by decide)) dX10_init_387 (fun g3 H locs e3 hP hD hS => ?_)
  refine lv_dup hx hb dX10_init_388 rfl ?_
  refine lv_iconst (v := 1) hx hb dX10_init_389 (by decide) ?_
  refine lv_bipush (v := 101) hx hb dX10_init_390 (by decide) ?_
  refine k_castU C0 hP hD hS (k_in 1 6 (by decide)) dX10_init_392 (fun g7 H locs e7 hP hD hS => ?_)
  refine lv_dup hx hb dX10_init_393 rfl ?_
  refine lv_iconst (v := 2) hx hb dX10_init_394 (by decide) ?_
  refine lv_bipush (v := 97) hx hb dX10_init_395 (by decide) ?_
  refine k_castU C0 hP hD hS (k_in 2 6 (by decide)) dX10_init_397 (fun g11 H locs e11 hP hD hS => ?_)
  refine lv_dup hx hb dX10_init_398 rfl ?_
  refine lv_iconst (v := 3) hx hb dX10_init_399 (by decide) ?_
  refine lv_bipush (v := 114) hx hb dX10_init_400 (by decide) ?_
  refine k_castU C0 hP hD hS (k_in 3 6 (by decide)) dX10_init_402 (fun g15 H locs e15 hP hD hS => ?_)
  refine lv_dup hx hb dX10_init_403 rfl ?_
  refine lv_iconst (v := 4) hx hb dX10_init_404 (by decide) ?_
  refine lv_bipush (v := 110) hx hb dX10_init_405 (by decide) ?_
  refine k_castU C0 hP hD hS (k_in 4 6 (by decide)) dX10_init_407 (fun g19 H locs e19 hP hD hS => ?_)
  refine lv_dup hx hb dX10_init_408 rfl ?_
  refine lv_iconst (v := 5) hx hb dX10_init_409 (by decide) ?_
  refine lv_bipush (v := 115) hx hb dX10_init_410 (by decide) ?_
  refine k_castU C0 hP hD hS (k_in 5 6 (by decide)) dX10_init_412 (fun g23 H locs e23 hP hD hS => ?_)
  refine k_putF C0 hin fp_X10_60 hP hD hS 0 rfl rfl rfl (Nat.lt_of_lt_of_eq (by decide) hlen.symm) dX10_init_413 (fun H locs hP hD hS => ?_)
  have hg : wa (lf_A g23) [108, 101, 97, 114, 110, 115] := by
    subst e23 e19 e15 e11 e7 e3
    unfold wa
    decide +kernel
  exact kk q g23 _ _ H locs hg rfl (by rw [List.length_set]; exact hlen) rfl hP hD hS
set_option maxHeartbeats 4000000 in
theorem mi_24 {p : Program} {l : Launch} {e : Env} {R : Room} {s : State} {m : MethodId} {args : Array Value} {below : List Frame} {meth : Method} {c : Code} {H : Heap} {locs : List Loc} {cells slots : Nat} {Q : State → Prop} {ls : Array Slot} {A : Nat → Prop} {H0 : Heap} {dC : Nat → ClassId} {dI : Nat → Nat → Nat} {cy : Nat → ClassId} {sq : Nat → Nat} {a0 : Nat} {fs : List Value} {Y : va_W} (C0 : k_cx p s m args c cX10_init 1 RX10 dC dI cy sq) (hin : meth.name = "<init>") (hA : ∀ q, H0.size ≤ q → A q) (hl : lv_has ls 1 [(0, .ref a0)]) (hlen : fs.length = 122) (hP : va_P (dC, dI) vwCl ((a0, .inr (10, fs)) :: Y) H) (hD : va_D A ((a0, .inr (10, fs)) :: Y)) (hS : va_S A H0 H locs) (h3 : cells + 1 ≤ R.cells) (h4 : slots + 4 ≤ R.slots) (kk : ∀ (q : Nat) (g : Nat → Int32) (fs1 : List Value) (Y1 : va_W) (H1 : Heap) (locs1 : List Loc), wa (lf_A g) [97, 119, 97, 121] → fs1 = fs.set 24 (.ref q) → fs1.length = 122 → Y1 = Y ++ [(q, .inl (cy 2, 4, .inl g))] → va_P (dC, dI) vwCl ((a0, .inr (10, fs1)) :: Y1) H1 → va_D A ((a0, .inr (10, fs1)) :: Y1) → va_S A H0 H1 locs1 → W p l e R s m args below meth c H1 locs1 (cells + 1) (slots + 4) Q (F0 m 443 ls [])) : W p l e R s m args below meth c H locs cells slots Q (F0 m 416 ls []) := by
  have hx := C0.1
  have hb := C0.2.1
  refine lv_aload_n hx hb dX10_init_416 rfl (lv_at hl 0 rfl) ?_
  refine lv_iconst (v := 4) hx hb dX10_init_417 (by decide) ?_
  refine k_newa C0 2 (ty := .char) rfl (atype := .char) rfl wd161 hP hD hS hA (a0 := (4, .inl (fun _ => 0))) (fun _ => rfl) (by decide) (by decide) (Nat.le_of_ble_eq_true rfl) (cells + 1) (slots + 4) (Nat.le_refl _) (Nat.le_refl _) h3 h4 dX10_init_418 (fun q H hP hD hS => ?_)
  refine lv_dup hx hb dX10_init_420 rfl ?_
  refine lv_iconst (v := 0) hx hb dX10_init_421 (by decide) ?_
  refine lv_bipush (v := 97) hx hb dX10_init_422 (by decide) ?_
  refine k_castU C0 hP hD hS (k_in 0 4 (by decide)) dX10_init_424 (fun g3 H locs e3 hP hD hS => ?_)
  refine lv_dup hx hb dX10_init_425 rfl ?_
  refine lv_iconst (v := 1) hx hb dX10_init_426 (by decide) ?_
  refine lv_bipush (v := 119) hx hb dX10_init_427 (by decide) ?_
  refine k_castU C0 hP hD hS (k_in 1 4 (by decide)) dX10_init_429 (fun g7 H locs e7 hP hD hS => ?_)
  refine lv_dup hx hb dX10_init_430 rfl ?_
  refine lv_iconst (v := 2) hx hb dX10_init_431 (by decide) ?_
  refine lv_bipush (v := 97) hx hb dX10_init_432 (by decide) ?_
  refine k_castU C0 hP hD hS (k_in 2 4 (by decide)) dX10_init_434 (fun g11 H locs e11 hP hD hS => ?_)
  refine lv_dup hx hb dX10_init_435 rfl ?_
  refine lv_iconst (v := 3) hx hb dX10_init_436 (by decide) ?_
  refine lv_bipush (v := 121) hx hb dX10_init_437 (by decide) ?_
  refine k_castU C0 hP hD hS (k_in 3 4 (by decide)) dX10_init_439 (fun g15 H locs e15 hP hD hS => ?_)
  refine k_putF C0 hin fp_X10_63 hP hD hS 0 rfl rfl rfl (Nat.lt_of_lt_of_eq (by decide) hlen.symm) dX10_init_440 (fun H locs hP hD hS => ?_)
  have hg : wa (lf_A g15) [97, 119, 97, 121] := by
    subst e15 e11 e7 e3
    unfold wa
    decide +kernel
  exact kk q g15 _ _ H locs hg rfl (by rw [List.length_set]; exact hlen) rfl hP hD hS
set_option maxHeartbeats 4000000 in
theorem mi_25 {p : Program} {l : Launch} {e : Env} {R : Room} {s : State} {m : MethodId} {args : Array Value} {below : List Frame} {meth : Method} {c : Code} {H : Heap} {locs : List Loc} {cells slots : Nat} {Q : State → Prop} {ls : Array Slot} {A : Nat → Prop} {H0 : Heap} {dC : Nat → ClassId} {dI : Nat → Nat → Nat} {cy : Nat → ClassId} {sq : Nat → Nat} {a0 : Nat} {fs : List Value} {Y : va_W} (C0 : k_cx p s m args c cX10_init 1 RX10 dC dI cy sq) (hin : meth.name = "<init>") (hA : ∀ q, H0.size ≤ q → A q) (hl : lv_has ls 1 [(0, .ref a0)]) (hlen : fs.length = 122) (hP : va_P (dC, dI) vwCl ((a0, .inr (10, fs)) :: Y) H) (hD : va_D A ((a0, .inr (10, fs)) :: Y)) (hS : va_S A H0 H locs) (h3 : cells + 1 ≤ R.cells) (h4 : slots + 6 ≤ R.slots) (kk : ∀ (q : Nat) (g : Nat → Int32) (fs1 : List Value) (Y1 : va_W) (H1 : Heap) (locs1 : List Loc), wa (lf_A g) [115, 101, 99, 111, 110, 100] → fs1 = fs.set 25 (.ref q) → fs1.length = 122 → Y1 = Y ++ [(q, .inl (cy 2, 6, .inl g))] → va_P (dC, dI) vwCl ((a0, .inr (10, fs1)) :: Y1) H1 → va_D A ((a0, .inr (10, fs1)) :: Y1) → va_S A H0 H1 locs1 → W p l e R s m args below meth c H1 locs1 (cells + 1) (slots + 6) Q (F0 m 481 ls [])) : W p l e R s m args below meth c H locs cells slots Q (F0 m 443 ls []) := by
  have hx := C0.1
  have hb := C0.2.1
  refine lv_aload_n hx hb dX10_init_443 rfl (lv_at hl 0 rfl) ?_
  refine lv_bipush (v := 6) hx hb dX10_init_444 (by decide) ?_
  refine k_newa C0 2 (ty := .char) rfl (atype := .char) rfl wd161 hP hD hS hA (a0 := (6, .inl (fun _ => 0))) (fun _ => rfl) (by decide) (by decide) (Nat.le_of_ble_eq_true rfl) (cells + 1) (slots + 6) (Nat.le_refl _) (Nat.le_refl _) h3 h4 dX10_init_446 (fun q H hP hD hS => ?_)
  refine lv_dup hx hb dX10_init_448 rfl ?_
  refine lv_iconst (v := 0) hx hb dX10_init_449 (by decide) ?_
  refine lv_bipush (v := 115) hx hb dX10_init_450 (by decide) ?_
  refine k_castU C0 hP hD hS (k_in 0 6 (by decide)) dX10_init_452 (fun g3 H locs e3 hP hD hS => ?_)
  refine lv_dup hx hb dX10_init_453 rfl ?_
  refine lv_iconst (v := 1) hx hb dX10_init_454 (by decide) ?_
  refine lv_bipush (v := 101) hx hb dX10_init_455 (by decide) ?_
  refine k_castU C0 hP hD hS (k_in 1 6 (by decide)) dX10_init_457 (fun g7 H locs e7 hP hD hS => ?_)
  refine lv_dup hx hb dX10_init_458 rfl ?_
  refine lv_iconst (v := 2) hx hb dX10_init_459 (by decide) ?_
  refine lv_bipush (v := 99) hx hb dX10_init_460 (by decide) ?_
  refine k_castU C0 hP hD hS (k_in 2 6 (by decide)) dX10_init_462 (fun g11 H locs e11 hP hD hS => ?_)
  refine lv_dup hx hb dX10_init_463 rfl ?_
  refine lv_iconst (v := 3) hx hb dX10_init_464 (by decide) ?_
  refine lv_bipush (v := 111) hx hb dX10_init_465 (by decide) ?_
  refine k_castU C0 hP hD hS (k_in 3 6 (by decide)) dX10_init_467 (fun g15 H locs e15 hP hD hS => ?_)
  refine lv_dup hx hb dX10_init_468 rfl ?_
  refine lv_iconst (v := 4) hx hb dX10_init_469 (by decide) ?_
  refine lv_bipush (v := 110) hx hb dX10_init_470 (by decide) ?_
  refine k_castU C0 hP hD hS (k_in 4 6 (by decide)) dX10_init_472 (fun g19 H locs e19 hP hD hS => ?_)
  refine lv_dup hx hb dX10_init_473 rfl ?_
  refine lv_iconst (v := 5) hx hb dX10_init_474 (by decide) ?_
  refine lv_bipush (v := 100) hx hb dX10_init_475 (by decide) ?_
  refine k_castU C0 hP hD hS (k_in 5 6 (by decide)) dX10_init_477 (fun g23 H locs e23 hP hD hS => ?_)
  refine k_putF C0 hin fp_X10_66 hP hD hS 0 rfl rfl rfl (Nat.lt_of_lt_of_eq (by decide) hlen.symm) dX10_init_478 (fun H locs hP hD hS => ?_)
  have hg : wa (lf_A g23) [115, 101, 99, 111, 110, 100] := by
    subst e23 e19 e15 e11 e7 e3
    unfold wa
    decide +kernel
  exact kk q g23 _ _ H locs hg rfl (by rw [List.length_set]; exact hlen) rfl hP hD hS
set_option maxHeartbeats 4000000 in
theorem mi_26 {p : Program} {l : Launch} {e : Env} {R : Room} {s : State} {m : MethodId} {args : Array Value} {below : List Frame} {meth : Method} {c : Code} {H : Heap} {locs : List Loc} {cells slots : Nat} {Q : State → Prop} {ls : Array Slot} {A : Nat → Prop} {H0 : Heap} {dC : Nat → ClassId} {dI : Nat → Nat → Nat} {cy : Nat → ClassId} {sq : Nat → Nat} {a0 : Nat} {fs : List Value} {Y : va_W} (C0 : k_cx p s m args c cX10_init 1 RX10 dC dI cy sq) (hin : meth.name = "<init>") (hA : ∀ q, H0.size ≤ q → A q) (hl : lv_has ls 1 [(0, .ref a0)]) (hlen : fs.length = 122) (hP : va_P (dC, dI) vwCl ((a0, .inr (10, fs)) :: Y) H) (hD : va_D A ((a0, .inr (10, fs)) :: Y)) (hS : va_S A H0 H locs) (h3 : cells + 1 ≤ R.cells) (h4 : slots + 3 ≤ R.slots) (kk : ∀ (q : Nat) (g : Nat → Int32) (fs1 : List Value) (Y1 : va_W) (H1 : Heap) (locs1 : List Loc), wa (lf_A g) [100, 97, 121] → fs1 = fs.set 26 (.ref q) → fs1.length = 122 → Y1 = Y ++ [(q, .inl (cy 2, 3, .inl g))] → va_P (dC, dI) vwCl ((a0, .inr (10, fs1)) :: Y1) H1 → va_D A ((a0, .inr (10, fs1)) :: Y1) → va_S A H0 H1 locs1 → W p l e R s m args below meth c H1 locs1 (cells + 1) (slots + 3) Q (F0 m 503 ls [])) : W p l e R s m args below meth c H locs cells slots Q (F0 m 481 ls []) := by
  have hx := C0.1
  have hb := C0.2.1
  refine lv_aload_n hx hb dX10_init_481 rfl (lv_at hl 0 rfl) ?_
  refine lv_iconst (v := 3) hx hb dX10_init_482 (by decide) ?_
  refine k_newa C0 2 (ty := .char) rfl (atype := .char) rfl wd161 hP hD hS hA (a0 := (3, .inl (fun _ => 0))) (fun _ => rfl) (by decide) (by decide) (Nat.le_of_ble_eq_true rfl) (cells + 1) (slots + 3) (Nat.le_refl _) (Nat.le_refl _) h3 h4 dX10_init_483 (fun q H hP hD hS => ?_)
  refine lv_dup hx hb dX10_init_485 rfl ?_
  refine lv_iconst (v := 0) hx hb dX10_init_486 (by decide) ?_
  refine lv_bipush (v := 100) hx hb dX10_init_487 (by decide) ?_
  refine k_castU C0 hP hD hS (k_in 0 3 (by decide)) dX10_init_489 (fun g3 H locs e3 hP hD hS => ?_)
  refine lv_dup hx hb dX10_init_490 rfl ?_
  refine lv_iconst (v := 1) hx hb dX10_init_491 (by decide) ?_
  refine lv_bipush (v := 97) hx hb dX10_init_492 (by decide) ?_
  refine k_castU C0 hP hD hS (k_in 1 3 (by decide)) dX10_init_494 (fun g7 H locs e7 hP hD hS => ?_)
  refine lv_dup hx hb dX10_init_495 rfl ?_
  refine lv_iconst (v := 2) hx hb dX10_init_496 (by decide) ?_
  refine lv_bipush (v := 121) hx hb dX10_init_497 (by decide) ?_
  refine k_castU C0 hP hD hS (k_in 2 3 (by decide)) dX10_init_499 (fun g11 H locs e11 hP hD hS => ?_)
  refine k_putF C0 hin fp_X10_69 hP hD hS 0 rfl rfl rfl (Nat.lt_of_lt_of_eq (by decide) hlen.symm) dX10_init_500 (fun H locs hP hD hS => ?_)
  have hg : wa (lf_A g11) [100, 97, 121] := by
    subst e11 e7 e3
    unfold wa
    decide +kernel
  exact kk q g11 _ _ H locs hg rfl (by rw [List.length_set]; exact hlen) rfl hP hD hS
set_option maxHeartbeats 4000000 in
theorem mi_27 {p : Program} {l : Launch} {e : Env} {R : Room} {s : State} {m : MethodId} {args : Array Value} {below : List Frame} {meth : Method} {c : Code} {H : Heap} {locs : List Loc} {cells slots : Nat} {Q : State → Prop} {ls : Array Slot} {A : Nat → Prop} {H0 : Heap} {dC : Nat → ClassId} {dI : Nat → Nat → Nat} {cy : Nat → ClassId} {sq : Nat → Nat} {a0 : Nat} {fs : List Value} {Y : va_W} (C0 : k_cx p s m args c cX10_init 1 RX10 dC dI cy sq) (hin : meth.name = "<init>") (hA : ∀ q, H0.size ≤ q → A q) (hl : lv_has ls 1 [(0, .ref a0)]) (hlen : fs.length = 122) (hP : va_P (dC, dI) vwCl ((a0, .inr (10, fs)) :: Y) H) (hD : va_D A ((a0, .inr (10, fs)) :: Y)) (hS : va_S A H0 H locs) (h3 : cells + 1 ≤ R.cells) (h4 : slots + 5 ≤ R.slots) (kk : ∀ (q : Nat) (g : Nat → Int32) (fs1 : List Value) (Y1 : va_W) (H1 : Heap) (locs1 : List Loc), wa (lf_A g) [112, 104, 97, 115, 101] → fs1 = fs.set 27 (.ref q) → fs1.length = 122 → Y1 = Y ++ [(q, .inl (cy 2, 5, .inl g))] → va_P (dC, dI) vwCl ((a0, .inr (10, fs1)) :: Y1) H1 → va_D A ((a0, .inr (10, fs1)) :: Y1) → va_S A H0 H1 locs1 → W p l e R s m args below meth c H1 locs1 (cells + 1) (slots + 5) Q (F0 m 535 ls [])) : W p l e R s m args below meth c H locs cells slots Q (F0 m 503 ls []) := by
  have hx := C0.1
  have hb := C0.2.1
  refine lv_aload_n hx hb dX10_init_503 rfl (lv_at hl 0 rfl) ?_
  refine lv_iconst (v := 5) hx hb dX10_init_504 (by decide) ?_
  refine k_newa C0 2 (ty := .char) rfl (atype := .char) rfl wd161 hP hD hS hA (a0 := (5, .inl (fun _ => 0))) (fun _ => rfl) (by decide) (by decide) (Nat.le_of_ble_eq_true rfl) (cells + 1) (slots + 5) (Nat.le_refl _) (Nat.le_refl _) h3 h4 dX10_init_505 (fun q H hP hD hS => ?_)
  refine lv_dup hx hb dX10_init_507 rfl ?_
  refine lv_iconst (v := 0) hx hb dX10_init_508 (by decide) ?_
  refine lv_bipush (v := 112) hx hb dX10_init_509 (by decide) ?_
  refine k_castU C0 hP hD hS (k_in 0 5 (by decide)) dX10_init_511 (fun g3 H locs e3 hP hD hS => ?_)
  refine lv_dup hx hb dX10_init_512 rfl ?_
  refine lv_iconst (v := 1) hx hb dX10_init_513 (by decide) ?_
  refine lv_bipush (v := 104) hx hb dX10_init_514 (by decide) ?_
  refine k_castU C0 hP hD hS (k_in 1 5 (by decide)) dX10_init_516 (fun g7 H locs e7 hP hD hS => ?_)
  refine lv_dup hx hb dX10_init_517 rfl ?_
  refine lv_iconst (v := 2) hx hb dX10_init_518 (by decide) ?_
  refine lv_bipush (v := 97) hx hb dX10_init_519 (by decide) ?_
  refine k_castU C0 hP hD hS (k_in 2 5 (by decide)) dX10_init_521 (fun g11 H locs e11 hP hD hS => ?_)
  refine lv_dup hx hb dX10_init_522 rfl ?_
  refine lv_iconst (v := 3) hx hb dX10_init_523 (by decide) ?_
  refine lv_bipush (v := 115) hx hb dX10_init_524 (by decide) ?_
  refine k_castU C0 hP hD hS (k_in 3 5 (by decide)) dX10_init_526 (fun g15 H locs e15 hP hD hS => ?_)
  refine lv_dup hx hb dX10_init_527 rfl ?_
  refine lv_iconst (v := 4) hx hb dX10_init_528 (by decide) ?_
  refine lv_bipush (v := 101) hx hb dX10_init_529 (by decide) ?_
  refine k_castU C0 hP hD hS (k_in 4 5 (by decide)) dX10_init_531 (fun g19 H locs e19 hP hD hS => ?_)
  refine k_putF C0 hin fp_X10_72 hP hD hS 0 rfl rfl rfl (Nat.lt_of_lt_of_eq (by decide) hlen.symm) dX10_init_532 (fun H locs hP hD hS => ?_)
  have hg : wa (lf_A g19) [112, 104, 97, 115, 101] := by
    subst e19 e15 e11 e7 e3
    unfold wa
    decide +kernel
  exact kk q g19 _ _ H locs hg rfl (by rw [List.length_set]; exact hlen) rfl hP hD hS
set_option maxHeartbeats 4000000 in
theorem mi_28 {p : Program} {l : Launch} {e : Env} {R : Room} {s : State} {m : MethodId} {args : Array Value} {below : List Frame} {meth : Method} {c : Code} {H : Heap} {locs : List Loc} {cells slots : Nat} {Q : State → Prop} {ls : Array Slot} {A : Nat → Prop} {H0 : Heap} {dC : Nat → ClassId} {dI : Nat → Nat → Nat} {cy : Nat → ClassId} {sq : Nat → Nat} {a0 : Nat} {fs : List Value} {Y : va_W} (C0 : k_cx p s m args c cX10_init 1 RX10 dC dI cy sq) (hin : meth.name = "<init>") (hA : ∀ q, H0.size ≤ q → A q) (hl : lv_has ls 1 [(0, .ref a0)]) (hlen : fs.length = 122) (hP : va_P (dC, dI) vwCl ((a0, .inr (10, fs)) :: Y) H) (hD : va_D A ((a0, .inr (10, fs)) :: Y)) (hS : va_S A H0 H locs) (h3 : cells + 1 ≤ R.cells) (h4 : slots + 6 ≤ R.slots) (kk : ∀ (q : Nat) (g : Nat → Int32) (fs1 : List Value) (Y1 : va_W) (H1 : Heap) (locs1 : List Loc), wa (lf_A g) [119, 97, 105, 116, 101, 100] → fs1 = fs.set 28 (.ref q) → fs1.length = 122 → Y1 = Y ++ [(q, .inl (cy 2, 6, .inl g))] → va_P (dC, dI) vwCl ((a0, .inr (10, fs1)) :: Y1) H1 → va_D A ((a0, .inr (10, fs1)) :: Y1) → va_S A H0 H1 locs1 → W p l e R s m args below meth c H1 locs1 (cells + 1) (slots + 6) Q (F0 m 573 ls [])) : W p l e R s m args below meth c H locs cells slots Q (F0 m 535 ls []) := by
  have hx := C0.1
  have hb := C0.2.1
  refine lv_aload_n hx hb dX10_init_535 rfl (lv_at hl 0 rfl) ?_
  refine lv_bipush (v := 6) hx hb dX10_init_536 (by decide) ?_
  refine k_newa C0 2 (ty := .char) rfl (atype := .char) rfl wd161 hP hD hS hA (a0 := (6, .inl (fun _ => 0))) (fun _ => rfl) (by decide) (by decide) (Nat.le_of_ble_eq_true rfl) (cells + 1) (slots + 6) (Nat.le_refl _) (Nat.le_refl _) h3 h4 dX10_init_538 (fun q H hP hD hS => ?_)
  refine lv_dup hx hb dX10_init_540 rfl ?_
  refine lv_iconst (v := 0) hx hb dX10_init_541 (by decide) ?_
  refine lv_bipush (v := 119) hx hb dX10_init_542 (by decide) ?_
  refine k_castU C0 hP hD hS (k_in 0 6 (by decide)) dX10_init_544 (fun g3 H locs e3 hP hD hS => ?_)
  refine lv_dup hx hb dX10_init_545 rfl ?_
  refine lv_iconst (v := 1) hx hb dX10_init_546 (by decide) ?_
  refine lv_bipush (v := 97) hx hb dX10_init_547 (by decide) ?_
  refine k_castU C0 hP hD hS (k_in 1 6 (by decide)) dX10_init_549 (fun g7 H locs e7 hP hD hS => ?_)
  refine lv_dup hx hb dX10_init_550 rfl ?_
  refine lv_iconst (v := 2) hx hb dX10_init_551 (by decide) ?_
  refine lv_bipush (v := 105) hx hb dX10_init_552 (by decide) ?_
  refine k_castU C0 hP hD hS (k_in 2 6 (by decide)) dX10_init_554 (fun g11 H locs e11 hP hD hS => ?_)
  refine lv_dup hx hb dX10_init_555 rfl ?_
  refine lv_iconst (v := 3) hx hb dX10_init_556 (by decide) ?_
  refine lv_bipush (v := 116) hx hb dX10_init_557 (by decide) ?_
  refine k_castU C0 hP hD hS (k_in 3 6 (by decide)) dX10_init_559 (fun g15 H locs e15 hP hD hS => ?_)
  refine lv_dup hx hb dX10_init_560 rfl ?_
  refine lv_iconst (v := 4) hx hb dX10_init_561 (by decide) ?_
  refine lv_bipush (v := 101) hx hb dX10_init_562 (by decide) ?_
  refine k_castU C0 hP hD hS (k_in 4 6 (by decide)) dX10_init_564 (fun g19 H locs e19 hP hD hS => ?_)
  refine lv_dup hx hb dX10_init_565 rfl ?_
  refine lv_iconst (v := 5) hx hb dX10_init_566 (by decide) ?_
  refine lv_bipush (v := 100) hx hb dX10_init_567 (by decide) ?_
  refine k_castU C0 hP hD hS (k_in 5 6 (by decide)) dX10_init_569 (fun g23 H locs e23 hP hD hS => ?_)
  refine k_putF C0 hin fp_X10_75 hP hD hS 0 rfl rfl rfl (Nat.lt_of_lt_of_eq (by decide) hlen.symm) dX10_init_570 (fun H locs hP hD hS => ?_)
  have hg : wa (lf_A g23) [119, 97, 105, 116, 101, 100] := by
    subst e23 e19 e15 e11 e7 e3
    unfold wa
    decide +kernel
  exact kk q g23 _ _ H locs hg rfl (by rw [List.length_set]; exact hlen) rfl hP hD hS
set_option maxHeartbeats 4000000 in
theorem mi_29 {p : Program} {l : Launch} {e : Env} {R : Room} {s : State} {m : MethodId} {args : Array Value} {below : List Frame} {meth : Method} {c : Code} {H : Heap} {locs : List Loc} {cells slots : Nat} {Q : State → Prop} {ls : Array Slot} {A : Nat → Prop} {H0 : Heap} {dC : Nat → ClassId} {dI : Nat → Nat → Nat} {cy : Nat → ClassId} {sq : Nat → Nat} {a0 : Nat} {fs : List Value} {Y : va_W} (C0 : k_cx p s m args c cX10_init 1 RX10 dC dI cy sq) (hin : meth.name = "<init>") (hA : ∀ q, H0.size ≤ q → A q) (hl : lv_has ls 1 [(0, .ref a0)]) (hlen : fs.length = 122) (hP : va_P (dC, dI) vwCl ((a0, .inr (10, fs)) :: Y) H) (hD : va_D A ((a0, .inr (10, fs)) :: Y)) (hS : va_S A H0 H locs) (h3 : cells + 1 ≤ R.cells) (h4 : slots + 3 ≤ R.slots) (kk : ∀ (q : Nat) (g : Nat → Int32) (fs1 : List Value) (Y1 : va_W) (H1 : Heap) (locs1 : List Loc), wa (lf_A g) [103, 97, 112] → fs1 = fs.set 29 (.ref q) → fs1.length = 122 → Y1 = Y ++ [(q, .inl (cy 2, 3, .inl g))] → va_P (dC, dI) vwCl ((a0, .inr (10, fs1)) :: Y1) H1 → va_D A ((a0, .inr (10, fs1)) :: Y1) → va_S A H0 H1 locs1 → W p l e R s m args below meth c H1 locs1 (cells + 1) (slots + 3) Q (F0 m 595 ls [])) : W p l e R s m args below meth c H locs cells slots Q (F0 m 573 ls []) := by
  have hx := C0.1
  have hb := C0.2.1
  refine lv_aload_n hx hb dX10_init_573 rfl (lv_at hl 0 rfl) ?_
  refine lv_iconst (v := 3) hx hb dX10_init_574 (by decide) ?_
  refine k_newa C0 2 (ty := .char) rfl (atype := .char) rfl wd161 hP hD hS hA (a0 := (3, .inl (fun _ => 0))) (fun _ => rfl) (by decide) (by decide) (Nat.le_of_ble_eq_true rfl) (cells + 1) (slots + 3) (Nat.le_refl _) (Nat.le_refl _) h3 h4 dX10_init_575 (fun q H hP hD hS => ?_)
  refine lv_dup hx hb dX10_init_577 rfl ?_
  refine lv_iconst (v := 0) hx hb dX10_init_578 (by decide) ?_
  refine lv_bipush (v := 103) hx hb dX10_init_579 (by decide) ?_
  refine k_castU C0 hP hD hS (k_in 0 3 (by decide)) dX10_init_581 (fun g3 H locs e3 hP hD hS => ?_)
  refine lv_dup hx hb dX10_init_582 rfl ?_
  refine lv_iconst (v := 1) hx hb dX10_init_583 (by decide) ?_
  refine lv_bipush (v := 97) hx hb dX10_init_584 (by decide) ?_
  refine k_castU C0 hP hD hS (k_in 1 3 (by decide)) dX10_init_586 (fun g7 H locs e7 hP hD hS => ?_)
  refine lv_dup hx hb dX10_init_587 rfl ?_
  refine lv_iconst (v := 2) hx hb dX10_init_588 (by decide) ?_
  refine lv_bipush (v := 112) hx hb dX10_init_589 (by decide) ?_
  refine k_castU C0 hP hD hS (k_in 2 3 (by decide)) dX10_init_591 (fun g11 H locs e11 hP hD hS => ?_)
  refine k_putF C0 hin fp_X10_78 hP hD hS 0 rfl rfl rfl (Nat.lt_of_lt_of_eq (by decide) hlen.symm) dX10_init_592 (fun H locs hP hD hS => ?_)
  have hg : wa (lf_A g11) [103, 97, 112] := by
    subst e11 e7 e3
    unfold wa
    decide +kernel
  exact kk q g11 _ _ H locs hg rfl (by rw [List.length_set]; exact hlen) rfl hP hD hS
set_option maxHeartbeats 4000000 in
theorem mi_30 {p : Program} {l : Launch} {e : Env} {R : Room} {s : State} {m : MethodId} {args : Array Value} {below : List Frame} {meth : Method} {c : Code} {H : Heap} {locs : List Loc} {cells slots : Nat} {Q : State → Prop} {ls : Array Slot} {A : Nat → Prop} {H0 : Heap} {dC : Nat → ClassId} {dI : Nat → Nat → Nat} {cy : Nat → ClassId} {sq : Nat → Nat} {a0 : Nat} {fs : List Value} {Y : va_W} (C0 : k_cx p s m args c cX10_init 1 RX10 dC dI cy sq) (hin : meth.name = "<init>") (hA : ∀ q, H0.size ≤ q → A q) (hl : lv_has ls 1 [(0, .ref a0)]) (hlen : fs.length = 122) (hP : va_P (dC, dI) vwCl ((a0, .inr (10, fs)) :: Y) H) (hD : va_D A ((a0, .inr (10, fs)) :: Y)) (hS : va_S A H0 H locs) (h3 : cells + 1 ≤ R.cells) (h4 : slots + 4 ≤ R.slots) (kk : ∀ (q : Nat) (g : Nat → Int32) (fs1 : List Value) (Y1 : va_W) (H1 : Heap) (locs1 : List Loc), wa (lf_A g) [114, 101, 100, 115] → fs1 = fs.set 30 (.ref q) → fs1.length = 122 → Y1 = Y ++ [(q, .inl (cy 2, 4, .inl g))] → va_P (dC, dI) vwCl ((a0, .inr (10, fs1)) :: Y1) H1 → va_D A ((a0, .inr (10, fs1)) :: Y1) → va_S A H0 H1 locs1 → W p l e R s m args below meth c H1 locs1 (cells + 1) (slots + 4) Q (F0 m 622 ls [])) : W p l e R s m args below meth c H locs cells slots Q (F0 m 595 ls []) := by
  have hx := C0.1
  have hb := C0.2.1
  refine lv_aload_n hx hb dX10_init_595 rfl (lv_at hl 0 rfl) ?_
  refine lv_iconst (v := 4) hx hb dX10_init_596 (by decide) ?_
  refine k_newa C0 2 (ty := .char) rfl (atype := .char) rfl wd161 hP hD hS hA (a0 := (4, .inl (fun _ => 0))) (fun _ => rfl) (by decide) (by decide) (Nat.le_of_ble_eq_true rfl) (cells + 1) (slots + 4) (Nat.le_refl _) (Nat.le_refl _) h3 h4 dX10_init_597 (fun q H hP hD hS => ?_)
  refine lv_dup hx hb dX10_init_599 rfl ?_
  refine lv_iconst (v := 0) hx hb dX10_init_600 (by decide) ?_
  refine lv_bipush (v := 114) hx hb dX10_init_601 (by decide) ?_
  refine k_castU C0 hP hD hS (k_in 0 4 (by decide)) dX10_init_603 (fun g3 H locs e3 hP hD hS => ?_)
  refine lv_dup hx hb dX10_init_604 rfl ?_
  refine lv_iconst (v := 1) hx hb dX10_init_605 (by decide) ?_
  refine lv_bipush (v := 101) hx hb dX10_init_606 (by decide) ?_
  refine k_castU C0 hP hD hS (k_in 1 4 (by decide)) dX10_init_608 (fun g7 H locs e7 hP hD hS => ?_)
  refine lv_dup hx hb dX10_init_609 rfl ?_
  refine lv_iconst (v := 2) hx hb dX10_init_610 (by decide) ?_
  refine lv_bipush (v := 100) hx hb dX10_init_611 (by decide) ?_
  refine k_castU C0 hP hD hS (k_in 2 4 (by decide)) dX10_init_613 (fun g11 H locs e11 hP hD hS => ?_)
  refine lv_dup hx hb dX10_init_614 rfl ?_
  refine lv_iconst (v := 3) hx hb dX10_init_615 (by decide) ?_
  refine lv_bipush (v := 115) hx hb dX10_init_616 (by decide) ?_
  refine k_castU C0 hP hD hS (k_in 3 4 (by decide)) dX10_init_618 (fun g15 H locs e15 hP hD hS => ?_)
  refine k_putF C0 hin fp_X10_81 hP hD hS 0 rfl rfl rfl (Nat.lt_of_lt_of_eq (by decide) hlen.symm) dX10_init_619 (fun H locs hP hD hS => ?_)
  have hg : wa (lf_A g15) [114, 101, 100, 115] := by
    subst e15 e11 e7 e3
    unfold wa
    decide +kernel
  exact kk q g15 _ _ H locs hg rfl (by rw [List.length_set]; exact hlen) rfl hP hD hS
set_option maxHeartbeats 4000000 in
theorem mi_31 {p : Program} {l : Launch} {e : Env} {R : Room} {s : State} {m : MethodId} {args : Array Value} {below : List Frame} {meth : Method} {c : Code} {H : Heap} {locs : List Loc} {cells slots : Nat} {Q : State → Prop} {ls : Array Slot} {A : Nat → Prop} {H0 : Heap} {dC : Nat → ClassId} {dI : Nat → Nat → Nat} {cy : Nat → ClassId} {sq : Nat → Nat} {a0 : Nat} {fs : List Value} {Y : va_W} (C0 : k_cx p s m args c cX10_init 1 RX10 dC dI cy sq) (hin : meth.name = "<init>") (hA : ∀ q, H0.size ≤ q → A q) (hl : lv_has ls 1 [(0, .ref a0)]) (hlen : fs.length = 122) (hP : va_P (dC, dI) vwCl ((a0, .inr (10, fs)) :: Y) H) (hD : va_D A ((a0, .inr (10, fs)) :: Y)) (hS : va_S A H0 H locs) (h3 : cells + 1 ≤ R.cells) (h4 : slots + 6 ≤ R.slots) (kk : ∀ (q : Nat) (g : Nat → Int32) (fs1 : List Value) (Y1 : va_W) (H1 : Heap) (locs1 : List Loc), wa (lf_A g) [110, 117, 109, 98, 101, 114] → fs1 = fs.set 31 (.ref q) → fs1.length = 122 → Y1 = Y ++ [(q, .inl (cy 2, 6, .inl g))] → va_P (dC, dI) vwCl ((a0, .inr (10, fs1)) :: Y1) H1 → va_D A ((a0, .inr (10, fs1)) :: Y1) → va_S A H0 H1 locs1 → W p l e R s m args below meth c H1 locs1 (cells + 1) (slots + 6) Q (F0 m 660 ls [])) : W p l e R s m args below meth c H locs cells slots Q (F0 m 622 ls []) := by
  have hx := C0.1
  have hb := C0.2.1
  refine lv_aload_n hx hb dX10_init_622 rfl (lv_at hl 0 rfl) ?_
  refine lv_bipush (v := 6) hx hb dX10_init_623 (by decide) ?_
  refine k_newa C0 2 (ty := .char) rfl (atype := .char) rfl wd161 hP hD hS hA (a0 := (6, .inl (fun _ => 0))) (fun _ => rfl) (by decide) (by decide) (Nat.le_of_ble_eq_true rfl) (cells + 1) (slots + 6) (Nat.le_refl _) (Nat.le_refl _) h3 h4 dX10_init_625 (fun q H hP hD hS => ?_)
  refine lv_dup hx hb dX10_init_627 rfl ?_
  refine lv_iconst (v := 0) hx hb dX10_init_628 (by decide) ?_
  refine lv_bipush (v := 110) hx hb dX10_init_629 (by decide) ?_
  refine k_castU C0 hP hD hS (k_in 0 6 (by decide)) dX10_init_631 (fun g3 H locs e3 hP hD hS => ?_)
  refine lv_dup hx hb dX10_init_632 rfl ?_
  refine lv_iconst (v := 1) hx hb dX10_init_633 (by decide) ?_
  refine lv_bipush (v := 117) hx hb dX10_init_634 (by decide) ?_
  refine k_castU C0 hP hD hS (k_in 1 6 (by decide)) dX10_init_636 (fun g7 H locs e7 hP hD hS => ?_)
  refine lv_dup hx hb dX10_init_637 rfl ?_
  refine lv_iconst (v := 2) hx hb dX10_init_638 (by decide) ?_
  refine lv_bipush (v := 109) hx hb dX10_init_639 (by decide) ?_
  refine k_castU C0 hP hD hS (k_in 2 6 (by decide)) dX10_init_641 (fun g11 H locs e11 hP hD hS => ?_)
  refine lv_dup hx hb dX10_init_642 rfl ?_
  refine lv_iconst (v := 3) hx hb dX10_init_643 (by decide) ?_
  refine lv_bipush (v := 98) hx hb dX10_init_644 (by decide) ?_
  refine k_castU C0 hP hD hS (k_in 3 6 (by decide)) dX10_init_646 (fun g15 H locs e15 hP hD hS => ?_)
  refine lv_dup hx hb dX10_init_647 rfl ?_
  refine lv_iconst (v := 4) hx hb dX10_init_648 (by decide) ?_
  refine lv_bipush (v := 101) hx hb dX10_init_649 (by decide) ?_
  refine k_castU C0 hP hD hS (k_in 4 6 (by decide)) dX10_init_651 (fun g19 H locs e19 hP hD hS => ?_)
  refine lv_dup hx hb dX10_init_652 rfl ?_
  refine lv_iconst (v := 5) hx hb dX10_init_653 (by decide) ?_
  refine lv_bipush (v := 114) hx hb dX10_init_654 (by decide) ?_
  refine k_castU C0 hP hD hS (k_in 5 6 (by decide)) dX10_init_656 (fun g23 H locs e23 hP hD hS => ?_)
  refine k_putF C0 hin fp_X10_84 hP hD hS 0 rfl rfl rfl (Nat.lt_of_lt_of_eq (by decide) hlen.symm) dX10_init_657 (fun H locs hP hD hS => ?_)
  have hg : wa (lf_A g23) [110, 117, 109, 98, 101, 114] := by
    subst e23 e19 e15 e11 e7 e3
    unfold wa
    decide +kernel
  exact kk q g23 _ _ H locs hg rfl (by rw [List.length_set]; exact hlen) rfl hP hD hS
set_option maxHeartbeats 4000000 in
theorem mi_32 {p : Program} {l : Launch} {e : Env} {R : Room} {s : State} {m : MethodId} {args : Array Value} {below : List Frame} {meth : Method} {c : Code} {H : Heap} {locs : List Loc} {cells slots : Nat} {Q : State → Prop} {ls : Array Slot} {A : Nat → Prop} {H0 : Heap} {dC : Nat → ClassId} {dI : Nat → Nat → Nat} {cy : Nat → ClassId} {sq : Nat → Nat} {a0 : Nat} {fs : List Value} {Y : va_W} (C0 : k_cx p s m args c cX10_init 1 RX10 dC dI cy sq) (hin : meth.name = "<init>") (hA : ∀ q, H0.size ≤ q → A q) (hl : lv_has ls 1 [(0, .ref a0)]) (hlen : fs.length = 122) (hP : va_P (dC, dI) vwCl ((a0, .inr (10, fs)) :: Y) H) (hD : va_D A ((a0, .inr (10, fs)) :: Y)) (hS : va_S A H0 H locs) (h3 : cells + 1 ≤ R.cells) (h4 : slots + 4 ≤ R.slots) (kk : ∀ (q : Nat) (g : Nat → Int32) (fs1 : List Value) (Y1 : va_W) (H1 : Heap) (locs1 : List Loc), wa (lf_A g) [119, 101, 110, 116] → fs1 = fs.set 32 (.ref q) → fs1.length = 122 → Y1 = Y ++ [(q, .inl (cy 2, 4, .inl g))] → va_P (dC, dI) vwCl ((a0, .inr (10, fs1)) :: Y1) H1 → va_D A ((a0, .inr (10, fs1)) :: Y1) → va_S A H0 H1 locs1 → W p l e R s m args below meth c H1 locs1 (cells + 1) (slots + 4) Q (F0 m 687 ls [])) : W p l e R s m args below meth c H locs cells slots Q (F0 m 660 ls []) := by
  have hx := C0.1
  have hb := C0.2.1
  refine lv_aload_n hx hb dX10_init_660 rfl (lv_at hl 0 rfl) ?_
  refine lv_iconst (v := 4) hx hb dX10_init_661 (by decide) ?_
  refine k_newa C0 2 (ty := .char) rfl (atype := .char) rfl wd161 hP hD hS hA (a0 := (4, .inl (fun _ => 0))) (fun _ => rfl) (by decide) (by decide) (Nat.le_of_ble_eq_true rfl) (cells + 1) (slots + 4) (Nat.le_refl _) (Nat.le_refl _) h3 h4 dX10_init_662 (fun q H hP hD hS => ?_)
  refine lv_dup hx hb dX10_init_664 rfl ?_
  refine lv_iconst (v := 0) hx hb dX10_init_665 (by decide) ?_
  refine lv_bipush (v := 119) hx hb dX10_init_666 (by decide) ?_
  refine k_castU C0 hP hD hS (k_in 0 4 (by decide)) dX10_init_668 (fun g3 H locs e3 hP hD hS => ?_)
  refine lv_dup hx hb dX10_init_669 rfl ?_
  refine lv_iconst (v := 1) hx hb dX10_init_670 (by decide) ?_
  refine lv_bipush (v := 101) hx hb dX10_init_671 (by decide) ?_
  refine k_castU C0 hP hD hS (k_in 1 4 (by decide)) dX10_init_673 (fun g7 H locs e7 hP hD hS => ?_)
  refine lv_dup hx hb dX10_init_674 rfl ?_
  refine lv_iconst (v := 2) hx hb dX10_init_675 (by decide) ?_
  refine lv_bipush (v := 110) hx hb dX10_init_676 (by decide) ?_
  refine k_castU C0 hP hD hS (k_in 2 4 (by decide)) dX10_init_678 (fun g11 H locs e11 hP hD hS => ?_)
  refine lv_dup hx hb dX10_init_679 rfl ?_
  refine lv_iconst (v := 3) hx hb dX10_init_680 (by decide) ?_
  refine lv_bipush (v := 116) hx hb dX10_init_681 (by decide) ?_
  refine k_castU C0 hP hD hS (k_in 3 4 (by decide)) dX10_init_683 (fun g15 H locs e15 hP hD hS => ?_)
  refine k_putF C0 hin fp_X10_87 hP hD hS 0 rfl rfl rfl (Nat.lt_of_lt_of_eq (by decide) hlen.symm) dX10_init_684 (fun H locs hP hD hS => ?_)
  have hg : wa (lf_A g15) [119, 101, 110, 116] := by
    subst e15 e11 e7 e3
    unfold wa
    decide +kernel
  exact kk q g15 _ _ H locs hg rfl (by rw [List.length_set]; exact hlen) rfl hP hD hS
set_option maxHeartbeats 4000000 in
theorem mi_33 {p : Program} {l : Launch} {e : Env} {R : Room} {s : State} {m : MethodId} {args : Array Value} {below : List Frame} {meth : Method} {c : Code} {H : Heap} {locs : List Loc} {cells slots : Nat} {Q : State → Prop} {ls : Array Slot} {A : Nat → Prop} {H0 : Heap} {dC : Nat → ClassId} {dI : Nat → Nat → Nat} {cy : Nat → ClassId} {sq : Nat → Nat} {a0 : Nat} {fs : List Value} {Y : va_W} (C0 : k_cx p s m args c cX10_init 1 RX10 dC dI cy sq) (hin : meth.name = "<init>") (hA : ∀ q, H0.size ≤ q → A q) (hl : lv_has ls 1 [(0, .ref a0)]) (hlen : fs.length = 122) (hP : va_P (dC, dI) vwCl ((a0, .inr (10, fs)) :: Y) H) (hD : va_D A ((a0, .inr (10, fs)) :: Y)) (hS : va_S A H0 H locs) (h3 : cells + 1 ≤ R.cells) (h4 : slots + 4 ≤ R.slots) (kk : ∀ (q : Nat) (g : Nat → Int32) (fs1 : List Value) (Y1 : va_W) (H1 : Heap) (locs1 : List Loc), wa (lf_A g) [104, 97, 114, 109] → fs1 = fs.set 33 (.ref q) → fs1.length = 122 → Y1 = Y ++ [(q, .inl (cy 2, 4, .inl g))] → va_P (dC, dI) vwCl ((a0, .inr (10, fs1)) :: Y1) H1 → va_D A ((a0, .inr (10, fs1)) :: Y1) → va_S A H0 H1 locs1 → W p l e R s m args below meth c H1 locs1 (cells + 1) (slots + 4) Q (F0 m 714 ls [])) : W p l e R s m args below meth c H locs cells slots Q (F0 m 687 ls []) := by
  have hx := C0.1
  have hb := C0.2.1
  refine lv_aload_n hx hb dX10_init_687 rfl (lv_at hl 0 rfl) ?_
  refine lv_iconst (v := 4) hx hb dX10_init_688 (by decide) ?_
  refine k_newa C0 2 (ty := .char) rfl (atype := .char) rfl wd161 hP hD hS hA (a0 := (4, .inl (fun _ => 0))) (fun _ => rfl) (by decide) (by decide) (Nat.le_of_ble_eq_true rfl) (cells + 1) (slots + 4) (Nat.le_refl _) (Nat.le_refl _) h3 h4 dX10_init_689 (fun q H hP hD hS => ?_)
  refine lv_dup hx hb dX10_init_691 rfl ?_
  refine lv_iconst (v := 0) hx hb dX10_init_692 (by decide) ?_
  refine lv_bipush (v := 104) hx hb dX10_init_693 (by decide) ?_
  refine k_castU C0 hP hD hS (k_in 0 4 (by decide)) dX10_init_695 (fun g3 H locs e3 hP hD hS => ?_)
  refine lv_dup hx hb dX10_init_696 rfl ?_
  refine lv_iconst (v := 1) hx hb dX10_init_697 (by decide) ?_
  refine lv_bipush (v := 97) hx hb dX10_init_698 (by decide) ?_
  refine k_castU C0 hP hD hS (k_in 1 4 (by decide)) dX10_init_700 (fun g7 H locs e7 hP hD hS => ?_)
  refine lv_dup hx hb dX10_init_701 rfl ?_
  refine lv_iconst (v := 2) hx hb dX10_init_702 (by decide) ?_
  refine lv_bipush (v := 114) hx hb dX10_init_703 (by decide) ?_
  refine k_castU C0 hP hD hS (k_in 2 4 (by decide)) dX10_init_705 (fun g11 H locs e11 hP hD hS => ?_)
  refine lv_dup hx hb dX10_init_706 rfl ?_
  refine lv_iconst (v := 3) hx hb dX10_init_707 (by decide) ?_
  refine lv_bipush (v := 109) hx hb dX10_init_708 (by decide) ?_
  refine k_castU C0 hP hD hS (k_in 3 4 (by decide)) dX10_init_710 (fun g15 H locs e15 hP hD hS => ?_)
  refine k_putF C0 hin fp_X10_90 hP hD hS 0 rfl rfl rfl (Nat.lt_of_lt_of_eq (by decide) hlen.symm) dX10_init_711 (fun H locs hP hD hS => ?_)
  have hg : wa (lf_A g15) [104, 97, 114, 109] := by
    subst e15 e11 e7 e3
    unfold wa
    decide +kernel
  exact kk q g15 _ _ H locs hg rfl (by rw [List.length_set]; exact hlen) rfl hP hD hS
set_option maxHeartbeats 4000000 in
theorem mi_34 {p : Program} {l : Launch} {e : Env} {R : Room} {s : State} {m : MethodId} {args : Array Value} {below : List Frame} {meth : Method} {c : Code} {H : Heap} {locs : List Loc} {cells slots : Nat} {Q : State → Prop} {ls : Array Slot} {A : Nat → Prop} {H0 : Heap} {dC : Nat → ClassId} {dI : Nat → Nat → Nat} {cy : Nat → ClassId} {sq : Nat → Nat} {a0 : Nat} {fs : List Value} {Y : va_W} (C0 : k_cx p s m args c cX10_init 1 RX10 dC dI cy sq) (hin : meth.name = "<init>") (hA : ∀ q, H0.size ≤ q → A q) (hl : lv_has ls 1 [(0, .ref a0)]) (hlen : fs.length = 122) (hP : va_P (dC, dI) vwCl ((a0, .inr (10, fs)) :: Y) H) (hD : va_D A ((a0, .inr (10, fs)) :: Y)) (hS : va_S A H0 H locs) (h3 : cells + 1 ≤ R.cells) (h4 : slots + 2 ≤ R.slots) (kk : ∀ (q : Nat) (g : Nat → Int32) (fs1 : List Value) (Y1 : va_W) (H1 : Heap) (locs1 : List Loc), wa (lf_A g) [111, 114] → fs1 = fs.set 34 (.ref q) → fs1.length = 122 → Y1 = Y ++ [(q, .inl (cy 2, 2, .inl g))] → va_P (dC, dI) vwCl ((a0, .inr (10, fs1)) :: Y1) H1 → va_D A ((a0, .inr (10, fs1)) :: Y1) → va_S A H0 H1 locs1 → W p l e R s m args below meth c H1 locs1 (cells + 1) (slots + 2) Q (F0 m 731 ls [])) : W p l e R s m args below meth c H locs cells slots Q (F0 m 714 ls []) := by
  have hx := C0.1
  have hb := C0.2.1
  refine lv_aload_n hx hb dX10_init_714 rfl (lv_at hl 0 rfl) ?_
  refine lv_iconst (v := 2) hx hb dX10_init_715 (by decide) ?_
  refine k_newa C0 2 (ty := .char) rfl (atype := .char) rfl wd161 hP hD hS hA (a0 := (2, .inl (fun _ => 0))) (fun _ => rfl) (by decide) (by decide) (Nat.le_of_ble_eq_true rfl) (cells + 1) (slots + 2) (Nat.le_refl _) (Nat.le_refl _) h3 h4 dX10_init_716 (fun q H hP hD hS => ?_)
  refine lv_dup hx hb dX10_init_718 rfl ?_
  refine lv_iconst (v := 0) hx hb dX10_init_719 (by decide) ?_
  refine lv_bipush (v := 111) hx hb dX10_init_720 (by decide) ?_
  refine k_castU C0 hP hD hS (k_in 0 2 (by decide)) dX10_init_722 (fun g3 H locs e3 hP hD hS => ?_)
  refine lv_dup hx hb dX10_init_723 rfl ?_
  refine lv_iconst (v := 1) hx hb dX10_init_724 (by decide) ?_
  refine lv_bipush (v := 114) hx hb dX10_init_725 (by decide) ?_
  refine k_castU C0 hP hD hS (k_in 1 2 (by decide)) dX10_init_727 (fun g7 H locs e7 hP hD hS => ?_)
  refine k_putF C0 hin fp_X10_93 hP hD hS 0 rfl rfl rfl (Nat.lt_of_lt_of_eq (by decide) hlen.symm) dX10_init_728 (fun H locs hP hD hS => ?_)
  have hg : wa (lf_A g7) [111, 114] := by
    subst e7 e3
    unfold wa
    decide +kernel
  exact kk q g7 _ _ H locs hg rfl (by rw [List.length_set]; exact hlen) rfl hP hD hS
set_option maxHeartbeats 4000000 in
theorem mi_35 {p : Program} {l : Launch} {e : Env} {R : Room} {s : State} {m : MethodId} {args : Array Value} {below : List Frame} {meth : Method} {c : Code} {H : Heap} {locs : List Loc} {cells slots : Nat} {Q : State → Prop} {ls : Array Slot} {A : Nat → Prop} {H0 : Heap} {dC : Nat → ClassId} {dI : Nat → Nat → Nat} {cy : Nat → ClassId} {sq : Nat → Nat} {a0 : Nat} {fs : List Value} {Y : va_W} (C0 : k_cx p s m args c cX10_init 1 RX10 dC dI cy sq) (hin : meth.name = "<init>") (hA : ∀ q, H0.size ≤ q → A q) (hl : lv_has ls 1 [(0, .ref a0)]) (hlen : fs.length = 122) (hP : va_P (dC, dI) vwCl ((a0, .inr (10, fs)) :: Y) H) (hD : va_D A ((a0, .inr (10, fs)) :: Y)) (hS : va_S A H0 H locs) (h3 : cells + 1 ≤ R.cells) (h4 : slots + 3 ≤ R.slots) (kk : ∀ (q : Nat) (g : Nat → Int32) (fs1 : List Value) (Y1 : va_W) (H1 : Heap) (locs1 : List Loc), wa (lf_A g) [97, 110, 100] → fs1 = fs.set 35 (.ref q) → fs1.length = 122 → Y1 = Y ++ [(q, .inl (cy 2, 3, .inl g))] → va_P (dC, dI) vwCl ((a0, .inr (10, fs1)) :: Y1) H1 → va_D A ((a0, .inr (10, fs1)) :: Y1) → va_S A H0 H1 locs1 → W p l e R s m args below meth c H1 locs1 (cells + 1) (slots + 3) Q (F0 m 753 ls [])) : W p l e R s m args below meth c H locs cells slots Q (F0 m 731 ls []) := by
  have hx := C0.1
  have hb := C0.2.1
  refine lv_aload_n hx hb dX10_init_731 rfl (lv_at hl 0 rfl) ?_
  refine lv_iconst (v := 3) hx hb dX10_init_732 (by decide) ?_
  refine k_newa C0 2 (ty := .char) rfl (atype := .char) rfl wd161 hP hD hS hA (a0 := (3, .inl (fun _ => 0))) (fun _ => rfl) (by decide) (by decide) (Nat.le_of_ble_eq_true rfl) (cells + 1) (slots + 3) (Nat.le_refl _) (Nat.le_refl _) h3 h4 dX10_init_733 (fun q H hP hD hS => ?_)
  refine lv_dup hx hb dX10_init_735 rfl ?_
  refine lv_iconst (v := 0) hx hb dX10_init_736 (by decide) ?_
  refine lv_bipush (v := 97) hx hb dX10_init_737 (by decide) ?_
  refine k_castU C0 hP hD hS (k_in 0 3 (by decide)) dX10_init_739 (fun g3 H locs e3 hP hD hS => ?_)
  refine lv_dup hx hb dX10_init_740 rfl ?_
  refine lv_iconst (v := 1) hx hb dX10_init_741 (by decide) ?_
  refine lv_bipush (v := 110) hx hb dX10_init_742 (by decide) ?_
  refine k_castU C0 hP hD hS (k_in 1 3 (by decide)) dX10_init_744 (fun g7 H locs e7 hP hD hS => ?_)
  refine lv_dup hx hb dX10_init_745 rfl ?_
  refine lv_iconst (v := 2) hx hb dX10_init_746 (by decide) ?_
  refine lv_bipush (v := 100) hx hb dX10_init_747 (by decide) ?_
  refine k_castU C0 hP hD hS (k_in 2 3 (by decide)) dX10_init_749 (fun g11 H locs e11 hP hD hS => ?_)
  refine k_putF C0 hin fp_X10_96 hP hD hS 0 rfl rfl rfl (Nat.lt_of_lt_of_eq (by decide) hlen.symm) dX10_init_750 (fun H locs hP hD hS => ?_)
  have hg : wa (lf_A g11) [97, 110, 100] := by
    subst e11 e7 e3
    unfold wa
    decide +kernel
  exact kk q g11 _ _ H locs hg rfl (by rw [List.length_set]; exact hlen) rfl hP hD hS
set_option maxHeartbeats 4000000 in
theorem mi_36 {p : Program} {l : Launch} {e : Env} {R : Room} {s : State} {m : MethodId} {args : Array Value} {below : List Frame} {meth : Method} {c : Code} {H : Heap} {locs : List Loc} {cells slots : Nat} {Q : State → Prop} {ls : Array Slot} {A : Nat → Prop} {H0 : Heap} {dC : Nat → ClassId} {dI : Nat → Nat → Nat} {cy : Nat → ClassId} {sq : Nat → Nat} {a0 : Nat} {fs : List Value} {Y : va_W} (C0 : k_cx p s m args c cX10_init 1 RX10 dC dI cy sq) (hin : meth.name = "<init>") (hA : ∀ q, H0.size ≤ q → A q) (hl : lv_has ls 1 [(0, .ref a0)]) (hlen : fs.length = 122) (hP : va_P (dC, dI) vwCl ((a0, .inr (10, fs)) :: Y) H) (hD : va_D A ((a0, .inr (10, fs)) :: Y)) (hS : va_S A H0 H locs) (h3 : cells + 1 ≤ R.cells) (h4 : slots + 3 ≤ R.slots) (kk : ∀ (q : Nat) (g : Nat → Int32) (fs1 : List Value) (Y1 : va_W) (H1 : Heap) (locs1 : List Loc), wa (lf_A g) [110, 111, 116] → fs1 = fs.set 36 (.ref q) → fs1.length = 122 → Y1 = Y ++ [(q, .inl (cy 2, 3, .inl g))] → va_P (dC, dI) vwCl ((a0, .inr (10, fs1)) :: Y1) H1 → va_D A ((a0, .inr (10, fs1)) :: Y1) → va_S A H0 H1 locs1 → W p l e R s m args below meth c H1 locs1 (cells + 1) (slots + 3) Q (F0 m 775 ls [])) : W p l e R s m args below meth c H locs cells slots Q (F0 m 753 ls []) := by
  have hx := C0.1
  have hb := C0.2.1
  refine lv_aload_n hx hb dX10_init_753 rfl (lv_at hl 0 rfl) ?_
  refine lv_iconst (v := 3) hx hb dX10_init_754 (by decide) ?_
  refine k_newa C0 2 (ty := .char) rfl (atype := .char) rfl wd161 hP hD hS hA (a0 := (3, .inl (fun _ => 0))) (fun _ => rfl) (by decide) (by decide) (Nat.le_of_ble_eq_true rfl) (cells + 1) (slots + 3) (Nat.le_refl _) (Nat.le_refl _) h3 h4 dX10_init_755 (fun q H hP hD hS => ?_)
  refine lv_dup hx hb dX10_init_757 rfl ?_
  refine lv_iconst (v := 0) hx hb dX10_init_758 (by decide) ?_
  refine lv_bipush (v := 110) hx hb dX10_init_759 (by decide) ?_
  refine k_castU C0 hP hD hS (k_in 0 3 (by decide)) dX10_init_761 (fun g3 H locs e3 hP hD hS => ?_)
  refine lv_dup hx hb dX10_init_762 rfl ?_
  refine lv_iconst (v := 1) hx hb dX10_init_763 (by decide) ?_
  refine lv_bipush (v := 111) hx hb dX10_init_764 (by decide) ?_
  refine k_castU C0 hP hD hS (k_in 1 3 (by decide)) dX10_init_766 (fun g7 H locs e7 hP hD hS => ?_)
  refine lv_dup hx hb dX10_init_767 rfl ?_
  refine lv_iconst (v := 2) hx hb dX10_init_768 (by decide) ?_
  refine lv_bipush (v := 116) hx hb dX10_init_769 (by decide) ?_
  refine k_castU C0 hP hD hS (k_in 2 3 (by decide)) dX10_init_771 (fun g11 H locs e11 hP hD hS => ?_)
  refine k_putF C0 hin fp_X10_99 hP hD hS 0 rfl rfl rfl (Nat.lt_of_lt_of_eq (by decide) hlen.symm) dX10_init_772 (fun H locs hP hD hS => ?_)
  have hg : wa (lf_A g11) [110, 111, 116] := by
    subst e11 e7 e3
    unfold wa
    decide +kernel
  exact kk q g11 _ _ H locs hg rfl (by rw [List.length_set]; exact hlen) rfl hP hD hS
set_option maxHeartbeats 4000000 in
theorem mi_37 {p : Program} {l : Launch} {e : Env} {R : Room} {s : State} {m : MethodId} {args : Array Value} {below : List Frame} {meth : Method} {c : Code} {H : Heap} {locs : List Loc} {cells slots : Nat} {Q : State → Prop} {ls : Array Slot} {A : Nat → Prop} {H0 : Heap} {dC : Nat → ClassId} {dI : Nat → Nat → Nat} {cy : Nat → ClassId} {sq : Nat → Nat} {a0 : Nat} {fs : List Value} {Y : va_W} (C0 : k_cx p s m args c cX10_init 1 RX10 dC dI cy sq) (hin : meth.name = "<init>") (hA : ∀ q, H0.size ≤ q → A q) (hl : lv_has ls 1 [(0, .ref a0)]) (hlen : fs.length = 122) (hP : va_P (dC, dI) vwCl ((a0, .inr (10, fs)) :: Y) H) (hD : va_D A ((a0, .inr (10, fs)) :: Y)) (hS : va_S A H0 H locs) (h3 : cells + 1 ≤ R.cells) (h4 : slots + 3 ≤ R.slots) (kk : ∀ (q : Nat) (g : Nat → Int32) (fs1 : List Value) (Y1 : va_W) (H1 : Heap) (locs1 : List Loc), wa (lf_A g) [97, 108, 108] → fs1 = fs.set 37 (.ref q) → fs1.length = 122 → Y1 = Y ++ [(q, .inl (cy 2, 3, .inl g))] → va_P (dC, dI) vwCl ((a0, .inr (10, fs1)) :: Y1) H1 → va_D A ((a0, .inr (10, fs1)) :: Y1) → va_S A H0 H1 locs1 → W p l e R s m args below meth c H1 locs1 (cells + 1) (slots + 3) Q (F0 m 797 ls [])) : W p l e R s m args below meth c H locs cells slots Q (F0 m 775 ls []) := by
  have hx := C0.1
  have hb := C0.2.1
  refine lv_aload_n hx hb dX10_init_775 rfl (lv_at hl 0 rfl) ?_
  refine lv_iconst (v := 3) hx hb dX10_init_776 (by decide) ?_
  refine k_newa C0 2 (ty := .char) rfl (atype := .char) rfl wd161 hP hD hS hA (a0 := (3, .inl (fun _ => 0))) (fun _ => rfl) (by decide) (by decide) (Nat.le_of_ble_eq_true rfl) (cells + 1) (slots + 3) (Nat.le_refl _) (Nat.le_refl _) h3 h4 dX10_init_777 (fun q H hP hD hS => ?_)
  refine lv_dup hx hb dX10_init_779 rfl ?_
  refine lv_iconst (v := 0) hx hb dX10_init_780 (by decide) ?_
  refine lv_bipush (v := 97) hx hb dX10_init_781 (by decide) ?_
  refine k_castU C0 hP hD hS (k_in 0 3 (by decide)) dX10_init_783 (fun g3 H locs e3 hP hD hS => ?_)
  refine lv_dup hx hb dX10_init_784 rfl ?_
  refine lv_iconst (v := 1) hx hb dX10_init_785 (by decide) ?_
  refine lv_bipush (v := 108) hx hb dX10_init_786 (by decide) ?_
  refine k_castU C0 hP hD hS (k_in 1 3 (by decide)) dX10_init_788 (fun g7 H locs e7 hP hD hS => ?_)
  refine lv_dup hx hb dX10_init_789 rfl ?_
  refine lv_iconst (v := 2) hx hb dX10_init_790 (by decide) ?_
  refine lv_bipush (v := 108) hx hb dX10_init_791 (by decide) ?_
  refine k_castU C0 hP hD hS (k_in 2 3 (by decide)) dX10_init_793 (fun g11 H locs e11 hP hD hS => ?_)
  refine k_putF C0 hin fp_X10_102 hP hD hS 0 rfl rfl rfl (Nat.lt_of_lt_of_eq (by decide) hlen.symm) dX10_init_794 (fun H locs hP hD hS => ?_)
  have hg : wa (lf_A g11) [97, 108, 108] := by
    subst e11 e7 e3
    unfold wa
    decide +kernel
  exact kk q g11 _ _ H locs hg rfl (by rw [List.length_set]; exact hlen) rfl hP hD hS
set_option maxHeartbeats 4000000 in
theorem mi_38 {p : Program} {l : Launch} {e : Env} {R : Room} {s : State} {m : MethodId} {args : Array Value} {below : List Frame} {meth : Method} {c : Code} {H : Heap} {locs : List Loc} {cells slots : Nat} {Q : State → Prop} {ls : Array Slot} {A : Nat → Prop} {H0 : Heap} {dC : Nat → ClassId} {dI : Nat → Nat → Nat} {cy : Nat → ClassId} {sq : Nat → Nat} {a0 : Nat} {fs : List Value} {Y : va_W} (C0 : k_cx p s m args c cX10_init 1 RX10 dC dI cy sq) (hin : meth.name = "<init>") (hA : ∀ q, H0.size ≤ q → A q) (hl : lv_has ls 1 [(0, .ref a0)]) (hlen : fs.length = 122) (hP : va_P (dC, dI) vwCl ((a0, .inr (10, fs)) :: Y) H) (hD : va_D A ((a0, .inr (10, fs)) :: Y)) (hS : va_S A H0 H locs) (h3 : cells + 1 ≤ R.cells) (h4 : slots + 3 ≤ R.slots) (kk : ∀ (q : Nat) (g : Nat → Int32) (fs1 : List Value) (Y1 : va_W) (H1 : Heap) (locs1 : List Loc), wa (lf_A g) [109, 105, 110] → fs1 = fs.set 38 (.ref q) → fs1.length = 122 → Y1 = Y ++ [(q, .inl (cy 2, 3, .inl g))] → va_P (dC, dI) vwCl ((a0, .inr (10, fs1)) :: Y1) H1 → va_D A ((a0, .inr (10, fs1)) :: Y1) → va_S A H0 H1 locs1 → W p l e R s m args below meth c H1 locs1 (cells + 1) (slots + 3) Q (F0 m 819 ls [])) : W p l e R s m args below meth c H locs cells slots Q (F0 m 797 ls []) := by
  have hx := C0.1
  have hb := C0.2.1
  refine lv_aload_n hx hb dX10_init_797 rfl (lv_at hl 0 rfl) ?_
  refine lv_iconst (v := 3) hx hb dX10_init_798 (by decide) ?_
  refine k_newa C0 2 (ty := .char) rfl (atype := .char) rfl wd161 hP hD hS hA (a0 := (3, .inl (fun _ => 0))) (fun _ => rfl) (by decide) (by decide) (Nat.le_of_ble_eq_true rfl) (cells + 1) (slots + 3) (Nat.le_refl _) (Nat.le_refl _) h3 h4 dX10_init_799 (fun q H hP hD hS => ?_)
  refine lv_dup hx hb dX10_init_801 rfl ?_
  refine lv_iconst (v := 0) hx hb dX10_init_802 (by decide) ?_
  refine lv_bipush (v := 109) hx hb dX10_init_803 (by decide) ?_
  refine k_castU C0 hP hD hS (k_in 0 3 (by decide)) dX10_init_805 (fun g3 H locs e3 hP hD hS => ?_)
  refine lv_dup hx hb dX10_init_806 rfl ?_
  refine lv_iconst (v := 1) hx hb dX10_init_807 (by decide) ?_
  refine lv_bipush (v := 105) hx hb dX10_init_808 (by decide) ?_
  refine k_castU C0 hP hD hS (k_in 1 3 (by decide)) dX10_init_810 (fun g7 H locs e7 hP hD hS => ?_)
  refine lv_dup hx hb dX10_init_811 rfl ?_
  refine lv_iconst (v := 2) hx hb dX10_init_812 (by decide) ?_
  refine lv_bipush (v := 110) hx hb dX10_init_813 (by decide) ?_
  refine k_castU C0 hP hD hS (k_in 2 3 (by decide)) dX10_init_815 (fun g11 H locs e11 hP hD hS => ?_)
  refine k_putF C0 hin fp_X10_105 hP hD hS 0 rfl rfl rfl (Nat.lt_of_lt_of_eq (by decide) hlen.symm) dX10_init_816 (fun H locs hP hD hS => ?_)
  have hg : wa (lf_A g11) [109, 105, 110] := by
    subst e11 e7 e3
    unfold wa
    decide +kernel
  exact kk q g11 _ _ H locs hg rfl (by rw [List.length_set]; exact hlen) rfl hP hD hS
set_option maxHeartbeats 4000000 in
theorem mi_39 {p : Program} {l : Launch} {e : Env} {R : Room} {s : State} {m : MethodId} {args : Array Value} {below : List Frame} {meth : Method} {c : Code} {H : Heap} {locs : List Loc} {cells slots : Nat} {Q : State → Prop} {ls : Array Slot} {A : Nat → Prop} {H0 : Heap} {dC : Nat → ClassId} {dI : Nat → Nat → Nat} {cy : Nat → ClassId} {sq : Nat → Nat} {a0 : Nat} {fs : List Value} {Y : va_W} (C0 : k_cx p s m args c cX10_init 1 RX10 dC dI cy sq) (hin : meth.name = "<init>") (hA : ∀ q, H0.size ≤ q → A q) (hl : lv_has ls 1 [(0, .ref a0)]) (hlen : fs.length = 122) (hP : va_P (dC, dI) vwCl ((a0, .inr (10, fs)) :: Y) H) (hD : va_D A ((a0, .inr (10, fs)) :: Y)) (hS : va_S A H0 H locs) (h3 : cells + 1 ≤ R.cells) (h4 : slots + 3 ≤ R.slots) (kk : ∀ (q : Nat) (g : Nat → Int32) (fs1 : List Value) (Y1 : va_W) (H1 : Heap) (locs1 : List Loc), wa (lf_A g) [109, 97, 120] → fs1 = fs.set 39 (.ref q) → fs1.length = 122 → Y1 = Y ++ [(q, .inl (cy 2, 3, .inl g))] → va_P (dC, dI) vwCl ((a0, .inr (10, fs1)) :: Y1) H1 → va_D A ((a0, .inr (10, fs1)) :: Y1) → va_S A H0 H1 locs1 → W p l e R s m args below meth c H1 locs1 (cells + 1) (slots + 3) Q (F0 m 841 ls [])) : W p l e R s m args below meth c H locs cells slots Q (F0 m 819 ls []) := by
  have hx := C0.1
  have hb := C0.2.1
  refine lv_aload_n hx hb dX10_init_819 rfl (lv_at hl 0 rfl) ?_
  refine lv_iconst (v := 3) hx hb dX10_init_820 (by decide) ?_
  refine k_newa C0 2 (ty := .char) rfl (atype := .char) rfl wd161 hP hD hS hA (a0 := (3, .inl (fun _ => 0))) (fun _ => rfl) (by decide) (by decide) (Nat.le_of_ble_eq_true rfl) (cells + 1) (slots + 3) (Nat.le_refl _) (Nat.le_refl _) h3 h4 dX10_init_821 (fun q H hP hD hS => ?_)
  refine lv_dup hx hb dX10_init_823 rfl ?_
  refine lv_iconst (v := 0) hx hb dX10_init_824 (by decide) ?_
  refine lv_bipush (v := 109) hx hb dX10_init_825 (by decide) ?_
  refine k_castU C0 hP hD hS (k_in 0 3 (by decide)) dX10_init_827 (fun g3 H locs e3 hP hD hS => ?_)
  refine lv_dup hx hb dX10_init_828 rfl ?_
  refine lv_iconst (v := 1) hx hb dX10_init_829 (by decide) ?_
  refine lv_bipush (v := 97) hx hb dX10_init_830 (by decide) ?_
  refine k_castU C0 hP hD hS (k_in 1 3 (by decide)) dX10_init_832 (fun g7 H locs e7 hP hD hS => ?_)
  refine lv_dup hx hb dX10_init_833 rfl ?_
  refine lv_iconst (v := 2) hx hb dX10_init_834 (by decide) ?_
  refine lv_bipush (v := 120) hx hb dX10_init_835 (by decide) ?_
  refine k_castU C0 hP hD hS (k_in 2 3 (by decide)) dX10_init_837 (fun g11 H locs e11 hP hD hS => ?_)
  refine k_putF C0 hin fp_X10_108 hP hD hS 0 rfl rfl rfl (Nat.lt_of_lt_of_eq (by decide) hlen.symm) dX10_init_838 (fun H locs hP hD hS => ?_)
  have hg : wa (lf_A g11) [109, 97, 120] := by
    subst e11 e7 e3
    unfold wa
    decide +kernel
  exact kk q g11 _ _ H locs hg rfl (by rw [List.length_set]; exact hlen) rfl hP hD hS
set_option maxHeartbeats 4000000 in
theorem mi_41 {p : Program} {l : Launch} {e : Env} {R : Room} {s : State} {m : MethodId} {args : Array Value} {below : List Frame} {meth : Method} {c : Code} {H : Heap} {locs : List Loc} {cells slots : Nat} {Q : State → Prop} {ls : Array Slot} {A : Nat → Prop} {H0 : Heap} {dC : Nat → ClassId} {dI : Nat → Nat → Nat} {cy : Nat → ClassId} {sq : Nat → Nat} {a0 : Nat} {fs : List Value} {Y : va_W} (C0 : k_cx p s m args c cX10_init 1 RX10 dC dI cy sq) (hin : meth.name = "<init>") (hA : ∀ q, H0.size ≤ q → A q) (hl : lv_has ls 1 [(0, .ref a0)]) (hlen : fs.length = 122) (hP : va_P (dC, dI) vwCl ((a0, .inr (10, fs)) :: Y) H) (hD : va_D A ((a0, .inr (10, fs)) :: Y)) (hS : va_S A H0 H locs) (h3 : cells + 1 ≤ R.cells) (h4 : slots + 4 ≤ R.slots) (kk : ∀ (q : Nat) (fs1 : List Value) (Y1 : va_W) (H1 : Heap) (locs1 : List Loc), fs1 = fs.set 41 (.ref q) → fs1.length = 122 → Y1 = Y ++ [(q, .inl (cy 0, 4, .inl (fun _ => 0)))] → va_P (dC, dI) vwCl ((a0, .inr (10, fs1)) :: Y1) H1 → va_D A ((a0, .inr (10, fs1)) :: Y1) → va_S A H0 H1 locs1 → W p l e R s m args below meth c H1 locs1 (cells + 1) (slots + 4) Q (F0 m 848 ls [])) : W p l e R s m args below meth c H locs cells slots Q (F0 m 841 ls []) := by
  have hx := C0.1
  have hb := C0.2.1
  refine lv_aload_n hx hb dX10_init_841 rfl (lv_at hl 0 rfl) ?_
  refine lv_iconst (v := 4) hx hb dX10_init_842 (by decide) ?_
  refine k_newa C0 0 (ty := .int) rfl (atype := .int) rfl wd12 hP hD hS hA (a0 := (4, .inl (fun _ => 0))) (fun _ => rfl) (by decide) (by decide) (Nat.le_of_ble_eq_true rfl) (cells + 1) (slots + 4) (Nat.le_refl _) (Nat.le_refl _) h3 h4 dX10_init_843 (fun q H hP hD hS => ?_)
  refine k_putF C0 hin fp_X10_111 hP hD hS 0 rfl rfl rfl (Nat.lt_of_lt_of_eq (by decide) hlen.symm) dX10_init_845 (fun H locs hP hD hS => ?_)
  exact kk q _ _ H locs rfl (by rw [List.length_set]; exact hlen) rfl hP hD hS
set_option maxHeartbeats 4000000 in
theorem mi_42 {p : Program} {l : Launch} {e : Env} {R : Room} {s : State} {m : MethodId} {args : Array Value} {below : List Frame} {meth : Method} {c : Code} {H : Heap} {locs : List Loc} {cells slots : Nat} {Q : State → Prop} {ls : Array Slot} {A : Nat → Prop} {H0 : Heap} {dC : Nat → ClassId} {dI : Nat → Nat → Nat} {cy : Nat → ClassId} {sq : Nat → Nat} {a0 : Nat} {fs : List Value} {Y : va_W} (C0 : k_cx p s m args c cX10_init 1 RX10 dC dI cy sq) (hin : meth.name = "<init>") (hA : ∀ q, H0.size ≤ q → A q) (hl : lv_has ls 1 [(0, .ref a0)]) (hlen : fs.length = 122) (hP : va_P (dC, dI) vwCl ((a0, .inr (10, fs)) :: Y) H) (hD : va_D A ((a0, .inr (10, fs)) :: Y)) (hS : va_S A H0 H locs) (h3 : cells + 1 ≤ R.cells) (h4 : slots + 48 ≤ R.slots) (kk : ∀ (q : Nat) (fs1 : List Value) (Y1 : va_W) (H1 : Heap) (locs1 : List Loc), fs1 = fs.set 42 (.ref q) → fs1.length = 122 → Y1 = Y ++ [(q, .inl (cy 1, 48, .inr (.inl (fun _ => 0))))] → va_P (dC, dI) vwCl ((a0, .inr (10, fs1)) :: Y1) H1 → va_D A ((a0, .inr (10, fs1)) :: Y1) → va_S A H0 H1 locs1 → W p l e R s m args below meth c H1 locs1 (cells + 1) (slots + 48) Q (F0 m 856 ls [])) : W p l e R s m args below meth c H locs cells slots Q (F0 m 848 ls []) := by
  have hx := C0.1
  have hb := C0.2.1
  refine lv_aload_n hx hb dX10_init_848 rfl (lv_at hl 0 rfl) ?_
  refine lv_bipush (v := 48) hx hb dX10_init_849 (by decide) ?_
  refine k_newa C0 1 (ty := .long) rfl (atype := .long) rfl wd193 hP hD hS hA (a0 := (48, .inr (.inl (fun _ => 0)))) (fun _ => rfl) (by decide) (by decide) (Nat.le_of_ble_eq_true rfl) (cells + 1) (slots + 48) (Nat.le_refl _) (Nat.le_refl _) h3 h4 dX10_init_851 (fun q H hP hD hS => ?_)
  refine k_putF C0 hin fp_X10_114 hP hD hS 0 rfl rfl rfl (Nat.lt_of_lt_of_eq (by decide) hlen.symm) dX10_init_853 (fun H locs hP hD hS => ?_)
  exact kk q _ _ H locs rfl (by rw [List.length_set]; exact hlen) rfl hP hD hS
set_option maxHeartbeats 4000000 in
theorem mi_43 {p : Program} {l : Launch} {e : Env} {R : Room} {s : State} {m : MethodId} {args : Array Value} {below : List Frame} {meth : Method} {c : Code} {H : Heap} {locs : List Loc} {cells slots : Nat} {Q : State → Prop} {ls : Array Slot} {A : Nat → Prop} {H0 : Heap} {dC : Nat → ClassId} {dI : Nat → Nat → Nat} {cy : Nat → ClassId} {sq : Nat → Nat} {a0 : Nat} {fs : List Value} {Y : va_W} (C0 : k_cx p s m args c cX10_init 1 RX10 dC dI cy sq) (hin : meth.name = "<init>") (hA : ∀ q, H0.size ≤ q → A q) (hl : lv_has ls 1 [(0, .ref a0)]) (hlen : fs.length = 122) (hP : va_P (dC, dI) vwCl ((a0, .inr (10, fs)) :: Y) H) (hD : va_D A ((a0, .inr (10, fs)) :: Y)) (hS : va_S A H0 H locs) (h3 : cells + 1 ≤ R.cells) (h4 : slots + 8 ≤ R.slots) (kk : ∀ (q : Nat) (fs1 : List Value) (Y1 : va_W) (H1 : Heap) (locs1 : List Loc), fs1 = fs.set 43 (.ref q) → fs1.length = 122 → Y1 = Y ++ [(q, .inl (cy 0, 8, .inl (fun _ => 0)))] → va_P (dC, dI) vwCl ((a0, .inr (10, fs1)) :: Y1) H1 → va_D A ((a0, .inr (10, fs1)) :: Y1) → va_S A H0 H1 locs1 → W p l e R s m args below meth c H1 locs1 (cells + 1) (slots + 8) Q (F0 m 864 ls [])) : W p l e R s m args below meth c H locs cells slots Q (F0 m 856 ls []) := by
  have hx := C0.1
  have hb := C0.2.1
  refine lv_aload_n hx hb dX10_init_856 rfl (lv_at hl 0 rfl) ?_
  refine lv_bipush (v := 8) hx hb dX10_init_857 (by decide) ?_
  refine k_newa C0 0 (ty := .int) rfl (atype := .int) rfl wd12 hP hD hS hA (a0 := (8, .inl (fun _ => 0))) (fun _ => rfl) (by decide) (by decide) (Nat.le_of_ble_eq_true rfl) (cells + 1) (slots + 8) (Nat.le_refl _) (Nat.le_refl _) h3 h4 dX10_init_859 (fun q H hP hD hS => ?_)
  refine k_putF C0 hin fp_X10_118 hP hD hS 0 rfl rfl rfl (Nat.lt_of_lt_of_eq (by decide) hlen.symm) dX10_init_861 (fun H locs hP hD hS => ?_)
  exact kk q _ _ H locs rfl (by rw [List.length_set]; exact hlen) rfl hP hD hS
set_option maxHeartbeats 4000000 in
theorem mi_44 {p : Program} {l : Launch} {e : Env} {R : Room} {s : State} {m : MethodId} {args : Array Value} {below : List Frame} {meth : Method} {c : Code} {H : Heap} {locs : List Loc} {cells slots : Nat} {Q : State → Prop} {ls : Array Slot} {A : Nat → Prop} {H0 : Heap} {dC : Nat → ClassId} {dI : Nat → Nat → Nat} {cy : Nat → ClassId} {sq : Nat → Nat} {a0 : Nat} {fs : List Value} {Y : va_W} (C0 : k_cx p s m args c cX10_init 1 RX10 dC dI cy sq) (hin : meth.name = "<init>") (hA : ∀ q, H0.size ≤ q → A q) (hl : lv_has ls 1 [(0, .ref a0)]) (hlen : fs.length = 122) (hP : va_P (dC, dI) vwCl ((a0, .inr (10, fs)) :: Y) H) (hD : va_D A ((a0, .inr (10, fs)) :: Y)) (hS : va_S A H0 H locs) (h3 : cells + 1 ≤ R.cells) (h4 : slots + 24 ≤ R.slots) (kk : ∀ (q : Nat) (fs1 : List Value) (Y1 : va_W) (H1 : Heap) (locs1 : List Loc), fs1 = fs.set 44 (.ref q) → fs1.length = 122 → Y1 = Y ++ [(q, .inl (cy 0, 24, .inl (fun _ => 0)))] → va_P (dC, dI) vwCl ((a0, .inr (10, fs1)) :: Y1) H1 → va_D A ((a0, .inr (10, fs1)) :: Y1) → va_S A H0 H1 locs1 → W p l e R s m args below meth c H1 locs1 (cells + 1) (slots + 24) Q (F0 m 872 ls [])) : W p l e R s m args below meth c H locs cells slots Q (F0 m 864 ls []) := by
  have hx := C0.1
  have hb := C0.2.1
  refine lv_aload_n hx hb dX10_init_864 rfl (lv_at hl 0 rfl) ?_
  refine lv_bipush (v := 24) hx hb dX10_init_865 (by decide) ?_
  refine k_newa C0 0 (ty := .int) rfl (atype := .int) rfl wd12 hP hD hS hA (a0 := (24, .inl (fun _ => 0))) (fun _ => rfl) (by decide) (by decide) (Nat.le_of_ble_eq_true rfl) (cells + 1) (slots + 24) (Nat.le_refl _) (Nat.le_refl _) h3 h4 dX10_init_867 (fun q H hP hD hS => ?_)
  refine k_putF C0 hin fp_X10_121 hP hD hS 0 rfl rfl rfl (Nat.lt_of_lt_of_eq (by decide) hlen.symm) dX10_init_869 (fun H locs hP hD hS => ?_)
  exact kk q _ _ H locs rfl (by rw [List.length_set]; exact hlen) rfl hP hD hS
set_option maxHeartbeats 4000000 in
theorem mi_45 {p : Program} {l : Launch} {e : Env} {R : Room} {s : State} {m : MethodId} {args : Array Value} {below : List Frame} {meth : Method} {c : Code} {H : Heap} {locs : List Loc} {cells slots : Nat} {Q : State → Prop} {ls : Array Slot} {A : Nat → Prop} {H0 : Heap} {dC : Nat → ClassId} {dI : Nat → Nat → Nat} {cy : Nat → ClassId} {sq : Nat → Nat} {a0 : Nat} {fs : List Value} {Y : va_W} (C0 : k_cx p s m args c cX10_init 1 RX10 dC dI cy sq) (hin : meth.name = "<init>") (hA : ∀ q, H0.size ≤ q → A q) (hl : lv_has ls 1 [(0, .ref a0)]) (hlen : fs.length = 122) (hP : va_P (dC, dI) vwCl ((a0, .inr (10, fs)) :: Y) H) (hD : va_D A ((a0, .inr (10, fs)) :: Y)) (hS : va_S A H0 H locs) (h3 : cells + 1 ≤ R.cells) (h4 : slots + 6 ≤ R.slots) (kk : ∀ (q : Nat) (fs1 : List Value) (Y1 : va_W) (H1 : Heap) (locs1 : List Loc), fs1 = fs.set 45 (.ref q) → fs1.length = 122 → Y1 = Y ++ [(q, .inl (cy 0, 6, .inl (fun _ => 0)))] → va_P (dC, dI) vwCl ((a0, .inr (10, fs1)) :: Y1) H1 → va_D A ((a0, .inr (10, fs1)) :: Y1) → va_S A H0 H1 locs1 → W p l e R s m args below meth c H1 locs1 (cells + 1) (slots + 6) Q (F0 m 880 ls [])) : W p l e R s m args below meth c H locs cells slots Q (F0 m 872 ls []) := by
  have hx := C0.1
  have hb := C0.2.1
  refine lv_aload_n hx hb dX10_init_872 rfl (lv_at hl 0 rfl) ?_
  refine lv_bipush (v := 6) hx hb dX10_init_873 (by decide) ?_
  refine k_newa C0 0 (ty := .int) rfl (atype := .int) rfl wd12 hP hD hS hA (a0 := (6, .inl (fun _ => 0))) (fun _ => rfl) (by decide) (by decide) (Nat.le_of_ble_eq_true rfl) (cells + 1) (slots + 6) (Nat.le_refl _) (Nat.le_refl _) h3 h4 dX10_init_875 (fun q H hP hD hS => ?_)
  refine k_putF C0 hin fp_X10_124 hP hD hS 0 rfl rfl rfl (Nat.lt_of_lt_of_eq (by decide) hlen.symm) dX10_init_877 (fun H locs hP hD hS => ?_)
  exact kk q _ _ H locs rfl (by rw [List.length_set]; exact hlen) rfl hP hD hS
set_option maxHeartbeats 4000000 in
theorem mi_46 {p : Program} {l : Launch} {e : Env} {R : Room} {s : State} {m : MethodId} {args : Array Value} {below : List Frame} {meth : Method} {c : Code} {H : Heap} {locs : List Loc} {cells slots : Nat} {Q : State → Prop} {ls : Array Slot} {A : Nat → Prop} {H0 : Heap} {dC : Nat → ClassId} {dI : Nat → Nat → Nat} {cy : Nat → ClassId} {sq : Nat → Nat} {a0 : Nat} {fs : List Value} {Y : va_W} (C0 : k_cx p s m args c cX10_init 1 RX10 dC dI cy sq) (hin : meth.name = "<init>") (hA : ∀ q, H0.size ≤ q → A q) (hl : lv_has ls 1 [(0, .ref a0)]) (hlen : fs.length = 122) (hP : va_P (dC, dI) vwCl ((a0, .inr (10, fs)) :: Y) H) (hD : va_D A ((a0, .inr (10, fs)) :: Y)) (hS : va_S A H0 H locs) (h3 : cells + 1 ≤ R.cells) (h4 : slots + 48 ≤ R.slots) (kk : ∀ (q : Nat) (fs1 : List Value) (Y1 : va_W) (H1 : Heap) (locs1 : List Loc), fs1 = fs.set 46 (.ref q) → fs1.length = 122 → Y1 = Y ++ [(q, .inl (cy 0, 48, .inl (fun _ => 0)))] → va_P (dC, dI) vwCl ((a0, .inr (10, fs1)) :: Y1) H1 → va_D A ((a0, .inr (10, fs1)) :: Y1) → va_S A H0 H1 locs1 → W p l e R s m args below meth c H1 locs1 (cells + 1) (slots + 48) Q (F0 m 888 ls [])) : W p l e R s m args below meth c H locs cells slots Q (F0 m 880 ls []) := by
  have hx := C0.1
  have hb := C0.2.1
  refine lv_aload_n hx hb dX10_init_880 rfl (lv_at hl 0 rfl) ?_
  refine lv_bipush (v := 48) hx hb dX10_init_881 (by decide) ?_
  refine k_newa C0 0 (ty := .int) rfl (atype := .int) rfl wd12 hP hD hS hA (a0 := (48, .inl (fun _ => 0))) (fun _ => rfl) (by decide) (by decide) (Nat.le_of_ble_eq_true rfl) (cells + 1) (slots + 48) (Nat.le_refl _) (Nat.le_refl _) h3 h4 dX10_init_883 (fun q H hP hD hS => ?_)
  refine k_putF C0 hin fp_X10_127 hP hD hS 0 rfl rfl rfl (Nat.lt_of_lt_of_eq (by decide) hlen.symm) dX10_init_885 (fun H locs hP hD hS => ?_)
  exact kk q _ _ H locs rfl (by rw [List.length_set]; exact hlen) rfl hP hD hS
set_option maxHeartbeats 4000000 in
theorem mi_49 {p : Program} {l : Launch} {e : Env} {R : Room} {s : State} {m : MethodId} {args : Array Value} {below : List Frame} {meth : Method} {c : Code} {H : Heap} {locs : List Loc} {cells slots : Nat} {Q : State → Prop} {ls : Array Slot} {A : Nat → Prop} {H0 : Heap} {dC : Nat → ClassId} {dI : Nat → Nat → Nat} {cy : Nat → ClassId} {sq : Nat → Nat} {a0 : Nat} {fs : List Value} {Y : va_W} (C0 : k_cx p s m args c cX10_init 1 RX10 dC dI cy sq) (hin : meth.name = "<init>") (hA : ∀ q, H0.size ≤ q → A q) (hl : lv_has ls 1 [(0, .ref a0)]) (hlen : fs.length = 122) (hP : va_P (dC, dI) vwCl ((a0, .inr (10, fs)) :: Y) H) (hD : va_D A ((a0, .inr (10, fs)) :: Y)) (hS : va_S A H0 H locs) (h3 : cells + 1 ≤ R.cells) (h4 : slots + 6 ≤ R.slots) (kk : ∀ (q : Nat) (g : Nat → Int32) (fs1 : List Value) (Y1 : va_W) (H1 : Heap) (locs1 : List Loc), (∀ k, k < 6 → g k = -1) → fs1 = fs.set 49 (.ref q) → fs1.length = 122 → Y1 = Y ++ [(q, .inl (cy 0, 6, .inl g))] → va_P (dC, dI) vwCl ((a0, .inr (10, fs1)) :: Y1) H1 → va_D A ((a0, .inr (10, fs1)) :: Y1) → va_S A H0 H1 locs1 → W p l e R s m args below meth c H1 locs1 (cells + 1) (slots + 6) Q (F0 m 920 ls [])) : W p l e R s m args below meth c H locs cells slots Q (F0 m 888 ls []) := by
  have hx := C0.1
  have hb := C0.2.1
  refine lv_aload_n hx hb dX10_init_888 rfl (lv_at hl 0 rfl) ?_
  refine lv_bipush (v := 6) hx hb dX10_init_889 (by decide) ?_
  refine k_newa C0 0 (ty := .int) rfl (atype := .int) rfl wd12 hP hD hS hA (a0 := (6, .inl (fun _ => 0))) (fun _ => rfl) (by decide) (by decide) (Nat.le_of_ble_eq_true rfl) (cells + 1) (slots + 6) (Nat.le_refl _) (Nat.le_refl _) h3 h4 dX10_init_891 (fun q H hP hD hS => ?_)
  refine lv_dup hx hb dX10_init_893 rfl ?_
  refine lv_iconst (v := 0) hx hb dX10_init_894 (by decide) ?_
  refine lv_iconst (v := (-1)) hx hb dX10_init_895 (by decide) ?_
  refine k_iastU C0 hP hD hS (k_in 0 6 (by decide)) dX10_init_896 (fun g3 H locs e3 hP hD hS => ?_)
  refine lv_dup hx hb dX10_init_897 rfl ?_
  refine lv_iconst (v := 1) hx hb dX10_init_898 (by decide) ?_
  refine lv_iconst (v := (-1)) hx hb dX10_init_899 (by decide) ?_
  refine k_iastU C0 hP hD hS (k_in 1 6 (by decide)) dX10_init_900 (fun g7 H locs e7 hP hD hS => ?_)
  refine lv_dup hx hb dX10_init_901 rfl ?_
  refine lv_iconst (v := 2) hx hb dX10_init_902 (by decide) ?_
  refine lv_iconst (v := (-1)) hx hb dX10_init_903 (by decide) ?_
  refine k_iastU C0 hP hD hS (k_in 2 6 (by decide)) dX10_init_904 (fun g11 H locs e11 hP hD hS => ?_)
  refine lv_dup hx hb dX10_init_905 rfl ?_
  refine lv_iconst (v := 3) hx hb dX10_init_906 (by decide) ?_
  refine lv_iconst (v := (-1)) hx hb dX10_init_907 (by decide) ?_
  refine k_iastU C0 hP hD hS (k_in 3 6 (by decide)) dX10_init_908 (fun g15 H locs e15 hP hD hS => ?_)
  refine lv_dup hx hb dX10_init_909 rfl ?_
  refine lv_iconst (v := 4) hx hb dX10_init_910 (by decide) ?_
  refine lv_iconst (v := (-1)) hx hb dX10_init_911 (by decide) ?_
  refine k_iastU C0 hP hD hS (k_in 4 6 (by decide)) dX10_init_912 (fun g19 H locs e19 hP hD hS => ?_)
  refine lv_dup hx hb dX10_init_913 rfl ?_
  refine lv_iconst (v := 5) hx hb dX10_init_914 (by decide) ?_
  refine lv_iconst (v := (-1)) hx hb dX10_init_915 (by decide) ?_
  refine k_iastU C0 hP hD hS (k_in 5 6 (by decide)) dX10_init_916 (fun g23 H locs e23 hP hD hS => ?_)
  refine k_putF C0 hin fp_X10_130 hP hD hS 0 rfl rfl rfl (Nat.lt_of_lt_of_eq (by decide) hlen.symm) dX10_init_917 (fun H locs hP hD hS => ?_)
  have hg : ∀ k, k < 6 → g23 k = -1 := by
    subst e23 e19 e15 e11 e7 e3
    decide +kernel
  exact kk q g23 _ _ H locs hg rfl (by rw [List.length_set]; exact hlen) rfl hP hD hS
set_option maxHeartbeats 4000000 in
theorem mi_50 {p : Program} {l : Launch} {e : Env} {R : Room} {s : State} {m : MethodId} {args : Array Value} {below : List Frame} {meth : Method} {c : Code} {H : Heap} {locs : List Loc} {cells slots : Nat} {Q : State → Prop} {ls : Array Slot} {A : Nat → Prop} {H0 : Heap} {dC : Nat → ClassId} {dI : Nat → Nat → Nat} {cy : Nat → ClassId} {sq : Nat → Nat} {a0 : Nat} {fs : List Value} {Y : va_W} (C0 : k_cx p s m args c cX10_init 1 RX10 dC dI cy sq) (hin : meth.name = "<init>") (hA : ∀ q, H0.size ≤ q → A q) (hl : lv_has ls 1 [(0, .ref a0)]) (hlen : fs.length = 122) (hP : va_P (dC, dI) vwCl ((a0, .inr (10, fs)) :: Y) H) (hD : va_D A ((a0, .inr (10, fs)) :: Y)) (hS : va_S A H0 H locs) (h3 : cells + 1 ≤ R.cells) (h4 : slots + 6 ≤ R.slots) (kk : ∀ (q : Nat) (fs1 : List Value) (Y1 : va_W) (H1 : Heap) (locs1 : List Loc), fs1 = fs.set 50 (.ref q) → fs1.length = 122 → Y1 = Y ++ [(q, .inl (cy 0, 6, .inl (fun _ => 0)))] → va_P (dC, dI) vwCl ((a0, .inr (10, fs1)) :: Y1) H1 → va_D A ((a0, .inr (10, fs1)) :: Y1) → va_S A H0 H1 locs1 → W p l e R s m args below meth c H1 locs1 (cells + 1) (slots + 6) Q (F0 m 928 ls [])) : W p l e R s m args below meth c H locs cells slots Q (F0 m 920 ls []) := by
  have hx := C0.1
  have hb := C0.2.1
  refine lv_aload_n hx hb dX10_init_920 rfl (lv_at hl 0 rfl) ?_
  refine lv_bipush (v := 6) hx hb dX10_init_921 (by decide) ?_
  refine k_newa C0 0 (ty := .int) rfl (atype := .int) rfl wd12 hP hD hS hA (a0 := (6, .inl (fun _ => 0))) (fun _ => rfl) (by decide) (by decide) (Nat.le_of_ble_eq_true rfl) (cells + 1) (slots + 6) (Nat.le_refl _) (Nat.le_refl _) h3 h4 dX10_init_923 (fun q H hP hD hS => ?_)
  refine k_putF C0 hin fp_X10_133 hP hD hS 0 rfl rfl rfl (Nat.lt_of_lt_of_eq (by decide) hlen.symm) dX10_init_925 (fun H locs hP hD hS => ?_)
  exact kk q _ _ H locs rfl (by rw [List.length_set]; exact hlen) rfl hP hD hS
set_option maxHeartbeats 4000000 in
theorem mi_51 {p : Program} {l : Launch} {e : Env} {R : Room} {s : State} {m : MethodId} {args : Array Value} {below : List Frame} {meth : Method} {c : Code} {H : Heap} {locs : List Loc} {cells slots : Nat} {Q : State → Prop} {ls : Array Slot} {A : Nat → Prop} {H0 : Heap} {dC : Nat → ClassId} {dI : Nat → Nat → Nat} {cy : Nat → ClassId} {sq : Nat → Nat} {a0 : Nat} {fs : List Value} {Y : va_W} (C0 : k_cx p s m args c cX10_init 1 RX10 dC dI cy sq) (hin : meth.name = "<init>") (hA : ∀ q, H0.size ≤ q → A q) (hl : lv_has ls 1 [(0, .ref a0)]) (hlen : fs.length = 122) (hP : va_P (dC, dI) vwCl ((a0, .inr (10, fs)) :: Y) H) (hD : va_D A ((a0, .inr (10, fs)) :: Y)) (hS : va_S A H0 H locs) (h3 : cells + 1 ≤ R.cells) (h4 : slots + 3200 ≤ R.slots) (kk : ∀ (q : Nat) (fs1 : List Value) (Y1 : va_W) (H1 : Heap) (locs1 : List Loc), fs1 = fs.set 51 (.ref q) → fs1.length = 122 → Y1 = Y ++ [(q, .inl (cy 0, 3200, .inl (fun _ => 0)))] → va_P (dC, dI) vwCl ((a0, .inr (10, fs1)) :: Y1) H1 → va_D A ((a0, .inr (10, fs1)) :: Y1) → va_S A H0 H1 locs1 → W p l e R s m args below meth c H1 locs1 (cells + 1) (slots + 3200) Q (F0 m 937 ls [])) : W p l e R s m args below meth c H locs cells slots Q (F0 m 928 ls []) := by
  have hx := C0.1
  have hb := C0.2.1
  refine lv_aload_n hx hb dX10_init_928 rfl (lv_at hl 0 rfl) ?_
  refine lv_sipush (v := 3200) hx hb dX10_init_929 (by decide) ?_
  refine k_newa C0 0 (ty := .int) rfl (atype := .int) rfl wd12 hP hD hS hA (a0 := (3200, .inl (fun _ => 0))) (fun _ => rfl) (by decide) (by decide) (Nat.le_of_ble_eq_true rfl) (cells + 1) (slots + 3200) (Nat.le_refl _) (Nat.le_refl _) h3 h4 dX10_init_932 (fun q H hP hD hS => ?_)
  refine k_putF C0 hin fp_X10_136 hP hD hS 0 rfl rfl rfl (Nat.lt_of_lt_of_eq (by decide) hlen.symm) dX10_init_934 (fun H locs hP hD hS => ?_)
  exact kk q _ _ H locs rfl (by rw [List.length_set]; exact hlen) rfl hP hD hS
set_option maxHeartbeats 4000000 in
theorem mi_56 {p : Program} {l : Launch} {e : Env} {R : Room} {s : State} {m : MethodId} {args : Array Value} {below : List Frame} {meth : Method} {c : Code} {H : Heap} {locs : List Loc} {cells slots : Nat} {Q : State → Prop} {ls : Array Slot} {A : Nat → Prop} {H0 : Heap} {dC : Nat → ClassId} {dI : Nat → Nat → Nat} {cy : Nat → ClassId} {sq : Nat → Nat} {a0 : Nat} {fs : List Value} {Y : va_W} (C0 : k_cx p s m args c cX10_init 1 RX10 dC dI cy sq) (hin : meth.name = "<init>") (hA : ∀ q, H0.size ≤ q → A q) (hl : lv_has ls 1 [(0, .ref a0)]) (hlen : fs.length = 122) (hP : va_P (dC, dI) vwCl ((a0, .inr (10, fs)) :: Y) H) (hD : va_D A ((a0, .inr (10, fs)) :: Y)) (hS : va_S A H0 H locs) (h3 : cells + 1 ≤ R.cells) (h4 : slots + 9 ≤ R.slots) (kk : ∀ (q : Nat) (fs1 : List Value) (Y1 : va_W) (H1 : Heap) (locs1 : List Loc), fs1 = fs.set 56 (.ref q) → fs1.length = 122 → Y1 = Y ++ [(q, .inl (cy 0, 9, .inl (fun _ => 0)))] → va_P (dC, dI) vwCl ((a0, .inr (10, fs1)) :: Y1) H1 → va_D A ((a0, .inr (10, fs1)) :: Y1) → va_S A H0 H1 locs1 → W p l e R s m args below meth c H1 locs1 (cells + 1) (slots + 9) Q (F0 m 945 ls [])) : W p l e R s m args below meth c H locs cells slots Q (F0 m 937 ls []) := by
  have hx := C0.1
  have hb := C0.2.1
  refine lv_aload_n hx hb dX10_init_937 rfl (lv_at hl 0 rfl) ?_
  refine lv_bipush (v := 9) hx hb dX10_init_938 (by decide) ?_
  refine k_newa C0 0 (ty := .int) rfl (atype := .int) rfl wd12 hP hD hS hA (a0 := (9, .inl (fun _ => 0))) (fun _ => rfl) (by decide) (by decide) (Nat.le_of_ble_eq_true rfl) (cells + 1) (slots + 9) (Nat.le_refl _) (Nat.le_refl _) h3 h4 dX10_init_940 (fun q H hP hD hS => ?_)
  refine k_putF C0 hin fp_X10_139 hP hD hS 0 rfl rfl rfl (Nat.lt_of_lt_of_eq (by decide) hlen.symm) dX10_init_942 (fun H locs hP hD hS => ?_)
  exact kk q _ _ H locs rfl (by rw [List.length_set]; exact hlen) rfl hP hD hS
set_option maxHeartbeats 4000000 in
theorem mi_57 {p : Program} {l : Launch} {e : Env} {R : Room} {s : State} {m : MethodId} {args : Array Value} {below : List Frame} {meth : Method} {c : Code} {H : Heap} {locs : List Loc} {cells slots : Nat} {Q : State → Prop} {ls : Array Slot} {A : Nat → Prop} {H0 : Heap} {dC : Nat → ClassId} {dI : Nat → Nat → Nat} {cy : Nat → ClassId} {sq : Nat → Nat} {a0 : Nat} {fs : List Value} {Y : va_W} (C0 : k_cx p s m args c cX10_init 1 RX10 dC dI cy sq) (hin : meth.name = "<init>") (hA : ∀ q, H0.size ≤ q → A q) (hl : lv_has ls 1 [(0, .ref a0)]) (hlen : fs.length = 122) (hP : va_P (dC, dI) vwCl ((a0, .inr (10, fs)) :: Y) H) (hD : va_D A ((a0, .inr (10, fs)) :: Y)) (hS : va_S A H0 H locs) (h3 : cells + 1 ≤ R.cells) (h4 : slots + 9 ≤ R.slots) (kk : ∀ (q : Nat) (fs1 : List Value) (Y1 : va_W) (H1 : Heap) (locs1 : List Loc), fs1 = fs.set 57 (.ref q) → fs1.length = 122 → Y1 = Y ++ [(q, .inl (cy 0, 9, .inl (fun _ => 0)))] → va_P (dC, dI) vwCl ((a0, .inr (10, fs1)) :: Y1) H1 → va_D A ((a0, .inr (10, fs1)) :: Y1) → va_S A H0 H1 locs1 → W p l e R s m args below meth c H1 locs1 (cells + 1) (slots + 9) Q (F0 m 953 ls [])) : W p l e R s m args below meth c H locs cells slots Q (F0 m 945 ls []) := by
  have hx := C0.1
  have hb := C0.2.1
  refine lv_aload_n hx hb dX10_init_945 rfl (lv_at hl 0 rfl) ?_
  refine lv_bipush (v := 9) hx hb dX10_init_946 (by decide) ?_
  refine k_newa C0 0 (ty := .int) rfl (atype := .int) rfl wd12 hP hD hS hA (a0 := (9, .inl (fun _ => 0))) (fun _ => rfl) (by decide) (by decide) (Nat.le_of_ble_eq_true rfl) (cells + 1) (slots + 9) (Nat.le_refl _) (Nat.le_refl _) h3 h4 dX10_init_948 (fun q H hP hD hS => ?_)
  refine k_putF C0 hin fp_X10_142 hP hD hS 0 rfl rfl rfl (Nat.lt_of_lt_of_eq (by decide) hlen.symm) dX10_init_950 (fun H locs hP hD hS => ?_)
  exact kk q _ _ H locs rfl (by rw [List.length_set]; exact hlen) rfl hP hD hS
set_option maxHeartbeats 4000000 in
theorem mi_60 {p : Program} {l : Launch} {e : Env} {R : Room} {s : State} {m : MethodId} {args : Array Value} {below : List Frame} {meth : Method} {c : Code} {H : Heap} {locs : List Loc} {cells slots : Nat} {Q : State → Prop} {ls : Array Slot} {A : Nat → Prop} {H0 : Heap} {dC : Nat → ClassId} {dI : Nat → Nat → Nat} {cy : Nat → ClassId} {sq : Nat → Nat} {a0 : Nat} {fs : List Value} {Y : va_W} (C0 : k_cx p s m args c cX10_init 1 RX10 dC dI cy sq) (hin : meth.name = "<init>") (hA : ∀ q, H0.size ≤ q → A q) (hl : lv_has ls 1 [(0, .ref a0)]) (hlen : fs.length = 122) (hP : va_P (dC, dI) vwCl ((a0, .inr (10, fs)) :: Y) H) (hD : va_D A ((a0, .inr (10, fs)) :: Y)) (hS : va_S A H0 H locs) (h3 : cells + 1 ≤ R.cells) (h4 : slots + 320 ≤ R.slots) (kk : ∀ (q : Nat) (fs1 : List Value) (Y1 : va_W) (H1 : Heap) (locs1 : List Loc), fs1 = fs.set 60 (.ref q) → fs1.length = 122 → Y1 = Y ++ [(q, .inl (cy 3, 320, .inl (fun _ => 0)))] → va_P (dC, dI) vwCl ((a0, .inr (10, fs1)) :: Y1) H1 → va_D A ((a0, .inr (10, fs1)) :: Y1) → va_S A H0 H1 locs1 → W p l e R s m args below meth c H1 locs1 (cells + 1) (slots + 320) Q (F0 m 962 ls [])) : W p l e R s m args below meth c H locs cells slots Q (F0 m 953 ls []) := by
  have hx := C0.1
  have hb := C0.2.1
  refine lv_aload_n hx hb dX10_init_953 rfl (lv_at hl 0 rfl) ?_
  refine lv_sipush (v := 320) hx hb dX10_init_954 (by decide) ?_
  refine k_newa C0 3 (ty := .boolean) rfl (atype := .boolean) rfl wd204 hP hD hS hA (a0 := (320, .inl (fun _ => 0))) (fun _ => rfl) (by decide) (by decide) (Nat.le_of_ble_eq_true rfl) (cells + 1) (slots + 320) (Nat.le_refl _) (Nat.le_refl _) h3 h4 dX10_init_957 (fun q H hP hD hS => ?_)
  refine k_putF C0 hin fp_X10_145 hP hD hS 0 rfl rfl rfl (Nat.lt_of_lt_of_eq (by decide) hlen.symm) dX10_init_959 (fun H locs hP hD hS => ?_)
  exact kk q _ _ H locs rfl (by rw [List.length_set]; exact hlen) rfl hP hD hS
set_option maxHeartbeats 4000000 in
theorem mi_61 {p : Program} {l : Launch} {e : Env} {R : Room} {s : State} {m : MethodId} {args : Array Value} {below : List Frame} {meth : Method} {c : Code} {H : Heap} {locs : List Loc} {cells slots : Nat} {Q : State → Prop} {ls : Array Slot} {A : Nat → Prop} {H0 : Heap} {dC : Nat → ClassId} {dI : Nat → Nat → Nat} {cy : Nat → ClassId} {sq : Nat → Nat} {a0 : Nat} {fs : List Value} {Y : va_W} (C0 : k_cx p s m args c cX10_init 1 RX10 dC dI cy sq) (hin : meth.name = "<init>") (hA : ∀ q, H0.size ≤ q → A q) (hl : lv_has ls 1 [(0, .ref a0)]) (hlen : fs.length = 122) (hP : va_P (dC, dI) vwCl ((a0, .inr (10, fs)) :: Y) H) (hD : va_D A ((a0, .inr (10, fs)) :: Y)) (hS : va_S A H0 H locs) (h3 : cells + 1 ≤ R.cells) (h4 : slots + 300 ≤ R.slots) (kk : ∀ (q : Nat) (fs1 : List Value) (Y1 : va_W) (H1 : Heap) (locs1 : List Loc), fs1 = fs.set 61 (.ref q) → fs1.length = 122 → Y1 = Y ++ [(q, .inl (cy 0, 300, .inl (fun _ => 0)))] → va_P (dC, dI) vwCl ((a0, .inr (10, fs1)) :: Y1) H1 → va_D A ((a0, .inr (10, fs1)) :: Y1) → va_S A H0 H1 locs1 → W p l e R s m args below meth c H1 locs1 (cells + 1) (slots + 300) Q (F0 m 971 ls [])) : W p l e R s m args below meth c H locs cells slots Q (F0 m 962 ls []) := by
  have hx := C0.1
  have hb := C0.2.1
  refine lv_aload_n hx hb dX10_init_962 rfl (lv_at hl 0 rfl) ?_
  refine lv_sipush (v := 300) hx hb dX10_init_963 (by decide) ?_
  refine k_newa C0 0 (ty := .int) rfl (atype := .int) rfl wd12 hP hD hS hA (a0 := (300, .inl (fun _ => 0))) (fun _ => rfl) (by decide) (by decide) (Nat.le_of_ble_eq_true rfl) (cells + 1) (slots + 300) (Nat.le_refl _) (Nat.le_refl _) h3 h4 dX10_init_966 (fun q H hP hD hS => ?_)
  refine k_putF C0 hin fp_X10_149 hP hD hS 0 rfl rfl rfl (Nat.lt_of_lt_of_eq (by decide) hlen.symm) dX10_init_968 (fun H locs hP hD hS => ?_)
  exact kk q _ _ H locs rfl (by rw [List.length_set]; exact hlen) rfl hP hD hS
set_option maxHeartbeats 4000000 in
theorem mi_62 {p : Program} {l : Launch} {e : Env} {R : Room} {s : State} {m : MethodId} {args : Array Value} {below : List Frame} {meth : Method} {c : Code} {H : Heap} {locs : List Loc} {cells slots : Nat} {Q : State → Prop} {ls : Array Slot} {A : Nat → Prop} {H0 : Heap} {dC : Nat → ClassId} {dI : Nat → Nat → Nat} {cy : Nat → ClassId} {sq : Nat → Nat} {a0 : Nat} {fs : List Value} {Y : va_W} (C0 : k_cx p s m args c cX10_init 1 RX10 dC dI cy sq) (hin : meth.name = "<init>") (hA : ∀ q, H0.size ≤ q → A q) (hl : lv_has ls 1 [(0, .ref a0)]) (hlen : fs.length = 122) (hP : va_P (dC, dI) vwCl ((a0, .inr (10, fs)) :: Y) H) (hD : va_D A ((a0, .inr (10, fs)) :: Y)) (hS : va_S A H0 H locs) (h3 : cells + 1 ≤ R.cells) (h4 : slots + 300 ≤ R.slots) (kk : ∀ (q : Nat) (fs1 : List Value) (Y1 : va_W) (H1 : Heap) (locs1 : List Loc), fs1 = fs.set 62 (.ref q) → fs1.length = 122 → Y1 = Y ++ [(q, .inl (cy 3, 300, .inl (fun _ => 0)))] → va_P (dC, dI) vwCl ((a0, .inr (10, fs1)) :: Y1) H1 → va_D A ((a0, .inr (10, fs1)) :: Y1) → va_S A H0 H1 locs1 → W p l e R s m args below meth c H1 locs1 (cells + 1) (slots + 300) Q (F0 m 980 ls [])) : W p l e R s m args below meth c H locs cells slots Q (F0 m 971 ls []) := by
  have hx := C0.1
  have hb := C0.2.1
  refine lv_aload_n hx hb dX10_init_971 rfl (lv_at hl 0 rfl) ?_
  refine lv_sipush (v := 300) hx hb dX10_init_972 (by decide) ?_
  refine k_newa C0 3 (ty := .boolean) rfl (atype := .boolean) rfl wd204 hP hD hS hA (a0 := (300, .inl (fun _ => 0))) (fun _ => rfl) (by decide) (by decide) (Nat.le_of_ble_eq_true rfl) (cells + 1) (slots + 300) (Nat.le_refl _) (Nat.le_refl _) h3 h4 dX10_init_975 (fun q H hP hD hS => ?_)
  refine k_putF C0 hin fp_X10_152 hP hD hS 0 rfl rfl rfl (Nat.lt_of_lt_of_eq (by decide) hlen.symm) dX10_init_977 (fun H locs hP hD hS => ?_)
  exact kk q _ _ H locs rfl (by rw [List.length_set]; exact hlen) rfl hP hD hS
set_option maxHeartbeats 4000000 in
theorem mi_63 {p : Program} {l : Launch} {e : Env} {R : Room} {s : State} {m : MethodId} {args : Array Value} {below : List Frame} {meth : Method} {c : Code} {H : Heap} {locs : List Loc} {cells slots : Nat} {Q : State → Prop} {ls : Array Slot} {A : Nat → Prop} {H0 : Heap} {dC : Nat → ClassId} {dI : Nat → Nat → Nat} {cy : Nat → ClassId} {sq : Nat → Nat} {a0 : Nat} {fs : List Value} {Y : va_W} (C0 : k_cx p s m args c cX10_init 1 RX10 dC dI cy sq) (hin : meth.name = "<init>") (hA : ∀ q, H0.size ≤ q → A q) (hl : lv_has ls 1 [(0, .ref a0)]) (hlen : fs.length = 122) (hP : va_P (dC, dI) vwCl ((a0, .inr (10, fs)) :: Y) H) (hD : va_D A ((a0, .inr (10, fs)) :: Y)) (hS : va_S A H0 H locs) (h3 : cells + 1 ≤ R.cells) (h4 : slots + 12 ≤ R.slots) (kk : ∀ (q : Nat) (fs1 : List Value) (Y1 : va_W) (H1 : Heap) (locs1 : List Loc), fs1 = fs.set 63 (.ref q) → fs1.length = 122 → Y1 = Y ++ [(q, .inl (cy 3, 12, .inl (fun _ => 0)))] → va_P (dC, dI) vwCl ((a0, .inr (10, fs1)) :: Y1) H1 → va_D A ((a0, .inr (10, fs1)) :: Y1) → va_S A H0 H1 locs1 → W p l e R s m args below meth c H1 locs1 (cells + 1) (slots + 12) Q (F0 m 988 ls [])) : W p l e R s m args below meth c H locs cells slots Q (F0 m 980 ls []) := by
  have hx := C0.1
  have hb := C0.2.1
  refine lv_aload_n hx hb dX10_init_980 rfl (lv_at hl 0 rfl) ?_
  refine lv_bipush (v := 12) hx hb dX10_init_981 (by decide) ?_
  refine k_newa C0 3 (ty := .boolean) rfl (atype := .boolean) rfl wd204 hP hD hS hA (a0 := (12, .inl (fun _ => 0))) (fun _ => rfl) (by decide) (by decide) (Nat.le_of_ble_eq_true rfl) (cells + 1) (slots + 12) (Nat.le_refl _) (Nat.le_refl _) h3 h4 dX10_init_983 (fun q H hP hD hS => ?_)
  refine k_putF C0 hin fp_X10_155 hP hD hS 0 rfl rfl rfl (Nat.lt_of_lt_of_eq (by decide) hlen.symm) dX10_init_985 (fun H locs hP hD hS => ?_)
  exact kk q _ _ H locs rfl (by rw [List.length_set]; exact hlen) rfl hP hD hS
set_option maxHeartbeats 4000000 in
theorem mi_64 {p : Program} {l : Launch} {e : Env} {R : Room} {s : State} {m : MethodId} {args : Array Value} {below : List Frame} {meth : Method} {c : Code} {H : Heap} {locs : List Loc} {cells slots : Nat} {Q : State → Prop} {ls : Array Slot} {A : Nat → Prop} {H0 : Heap} {dC : Nat → ClassId} {dI : Nat → Nat → Nat} {cy : Nat → ClassId} {sq : Nat → Nat} {a0 : Nat} {fs : List Value} {Y : va_W} (C0 : k_cx p s m args c cX10_init 1 RX10 dC dI cy sq) (hin : meth.name = "<init>") (hA : ∀ q, H0.size ≤ q → A q) (hl : lv_has ls 1 [(0, .ref a0)]) (hlen : fs.length = 122) (hP : va_P (dC, dI) vwCl ((a0, .inr (10, fs)) :: Y) H) (hD : va_D A ((a0, .inr (10, fs)) :: Y)) (hS : va_S A H0 H locs) (h3 : cells + 1 ≤ R.cells) (h4 : slots + 12 ≤ R.slots) (kk : ∀ (q : Nat) (fs1 : List Value) (Y1 : va_W) (H1 : Heap) (locs1 : List Loc), fs1 = fs.set 64 (.ref q) → fs1.length = 122 → Y1 = Y ++ [(q, .inl (cy 0, 12, .inl (fun _ => 0)))] → va_P (dC, dI) vwCl ((a0, .inr (10, fs1)) :: Y1) H1 → va_D A ((a0, .inr (10, fs1)) :: Y1) → va_S A H0 H1 locs1 → W p l e R s m args below meth c H1 locs1 (cells + 1) (slots + 12) Q (F0 m 996 ls [])) : W p l e R s m args below meth c H locs cells slots Q (F0 m 988 ls []) := by
  have hx := C0.1
  have hb := C0.2.1
  refine lv_aload_n hx hb dX10_init_988 rfl (lv_at hl 0 rfl) ?_
  refine lv_bipush (v := 12) hx hb dX10_init_989 (by decide) ?_
  refine k_newa C0 0 (ty := .int) rfl (atype := .int) rfl wd12 hP hD hS hA (a0 := (12, .inl (fun _ => 0))) (fun _ => rfl) (by decide) (by decide) (Nat.le_of_ble_eq_true rfl) (cells + 1) (slots + 12) (Nat.le_refl _) (Nat.le_refl _) h3 h4 dX10_init_991 (fun q H hP hD hS => ?_)
  refine k_putF C0 hin fp_X10_158 hP hD hS 0 rfl rfl rfl (Nat.lt_of_lt_of_eq (by decide) hlen.symm) dX10_init_993 (fun H locs hP hD hS => ?_)
  exact kk q _ _ H locs rfl (by rw [List.length_set]; exact hlen) rfl hP hD hS
set_option maxHeartbeats 4000000 in
theorem mi_65 {p : Program} {l : Launch} {e : Env} {R : Room} {s : State} {m : MethodId} {args : Array Value} {below : List Frame} {meth : Method} {c : Code} {H : Heap} {locs : List Loc} {cells slots : Nat} {Q : State → Prop} {ls : Array Slot} {A : Nat → Prop} {H0 : Heap} {dC : Nat → ClassId} {dI : Nat → Nat → Nat} {cy : Nat → ClassId} {sq : Nat → Nat} {a0 : Nat} {fs : List Value} {Y : va_W} (C0 : k_cx p s m args c cX10_init 1 RX10 dC dI cy sq) (hin : meth.name = "<init>") (hA : ∀ q, H0.size ≤ q → A q) (hl : lv_has ls 1 [(0, .ref a0)]) (hlen : fs.length = 122) (hP : va_P (dC, dI) vwCl ((a0, .inr (10, fs)) :: Y) H) (hD : va_D A ((a0, .inr (10, fs)) :: Y)) (hS : va_S A H0 H locs) (h3 : cells + 1 ≤ R.cells) (h4 : slots + 12 ≤ R.slots) (kk : ∀ (q : Nat) (fs1 : List Value) (Y1 : va_W) (H1 : Heap) (locs1 : List Loc), fs1 = fs.set 65 (.ref q) → fs1.length = 122 → Y1 = Y ++ [(q, .inl (cy 0, 12, .inl (fun _ => 0)))] → va_P (dC, dI) vwCl ((a0, .inr (10, fs1)) :: Y1) H1 → va_D A ((a0, .inr (10, fs1)) :: Y1) → va_S A H0 H1 locs1 → W p l e R s m args below meth c H1 locs1 (cells + 1) (slots + 12) Q (F0 m 1004 ls [])) : W p l e R s m args below meth c H locs cells slots Q (F0 m 996 ls []) := by
  have hx := C0.1
  have hb := C0.2.1
  refine lv_aload_n hx hb dX10_init_996 rfl (lv_at hl 0 rfl) ?_
  refine lv_bipush (v := 12) hx hb dX10_init_997 (by decide) ?_
  refine k_newa C0 0 (ty := .int) rfl (atype := .int) rfl wd12 hP hD hS hA (a0 := (12, .inl (fun _ => 0))) (fun _ => rfl) (by decide) (by decide) (Nat.le_of_ble_eq_true rfl) (cells + 1) (slots + 12) (Nat.le_refl _) (Nat.le_refl _) h3 h4 dX10_init_999 (fun q H hP hD hS => ?_)
  refine k_putF C0 hin fp_X10_161 hP hD hS 0 rfl rfl rfl (Nat.lt_of_lt_of_eq (by decide) hlen.symm) dX10_init_1001 (fun H locs hP hD hS => ?_)
  exact kk q _ _ H locs rfl (by rw [List.length_set]; exact hlen) rfl hP hD hS
set_option maxHeartbeats 4000000 in
theorem mi_66 {p : Program} {l : Launch} {e : Env} {R : Room} {s : State} {m : MethodId} {args : Array Value} {below : List Frame} {meth : Method} {c : Code} {H : Heap} {locs : List Loc} {cells slots : Nat} {Q : State → Prop} {ls : Array Slot} {A : Nat → Prop} {H0 : Heap} {dC : Nat → ClassId} {dI : Nat → Nat → Nat} {cy : Nat → ClassId} {sq : Nat → Nat} {a0 : Nat} {fs : List Value} {Y : va_W} (C0 : k_cx p s m args c cX10_init 1 RX10 dC dI cy sq) (hin : meth.name = "<init>") (hA : ∀ q, H0.size ≤ q → A q) (hl : lv_has ls 1 [(0, .ref a0)]) (hlen : fs.length = 122) (hP : va_P (dC, dI) vwCl ((a0, .inr (10, fs)) :: Y) H) (hD : va_D A ((a0, .inr (10, fs)) :: Y)) (hS : va_S A H0 H locs) (h3 : cells + 1 ≤ R.cells) (h4 : slots + 12 ≤ R.slots) (kk : ∀ (q : Nat) (fs1 : List Value) (Y1 : va_W) (H1 : Heap) (locs1 : List Loc), fs1 = fs.set 66 (.ref q) → fs1.length = 122 → Y1 = Y ++ [(q, .inl (cy 3, 12, .inl (fun _ => 0)))] → va_P (dC, dI) vwCl ((a0, .inr (10, fs1)) :: Y1) H1 → va_D A ((a0, .inr (10, fs1)) :: Y1) → va_S A H0 H1 locs1 → W p l e R s m args below meth c H1 locs1 (cells + 1) (slots + 12) Q (F0 m 1012 ls [])) : W p l e R s m args below meth c H locs cells slots Q (F0 m 1004 ls []) := by
  have hx := C0.1
  have hb := C0.2.1
  refine lv_aload_n hx hb dX10_init_1004 rfl (lv_at hl 0 rfl) ?_
  refine lv_bipush (v := 12) hx hb dX10_init_1005 (by decide) ?_
  refine k_newa C0 3 (ty := .boolean) rfl (atype := .boolean) rfl wd204 hP hD hS hA (a0 := (12, .inl (fun _ => 0))) (fun _ => rfl) (by decide) (by decide) (Nat.le_of_ble_eq_true rfl) (cells + 1) (slots + 12) (Nat.le_refl _) (Nat.le_refl _) h3 h4 dX10_init_1007 (fun q H hP hD hS => ?_)
  refine k_putF C0 hin fp_X10_164 hP hD hS 0 rfl rfl rfl (Nat.lt_of_lt_of_eq (by decide) hlen.symm) dX10_init_1009 (fun H locs hP hD hS => ?_)
  exact kk q _ _ H locs rfl (by rw [List.length_set]; exact hlen) rfl hP hD hS
set_option maxHeartbeats 4000000 in
theorem mi_67 {p : Program} {l : Launch} {e : Env} {R : Room} {s : State} {m : MethodId} {args : Array Value} {below : List Frame} {meth : Method} {c : Code} {H : Heap} {locs : List Loc} {cells slots : Nat} {Q : State → Prop} {ls : Array Slot} {A : Nat → Prop} {H0 : Heap} {dC : Nat → ClassId} {dI : Nat → Nat → Nat} {cy : Nat → ClassId} {sq : Nat → Nat} {a0 : Nat} {fs : List Value} {Y : va_W} (C0 : k_cx p s m args c cX10_init 1 RX10 dC dI cy sq) (hin : meth.name = "<init>") (hA : ∀ q, H0.size ≤ q → A q) (hl : lv_has ls 1 [(0, .ref a0)]) (hlen : fs.length = 122) (hP : va_P (dC, dI) vwCl ((a0, .inr (10, fs)) :: Y) H) (hD : va_D A ((a0, .inr (10, fs)) :: Y)) (hS : va_S A H0 H locs) (h3 : cells + 1 ≤ R.cells) (h4 : slots + 12 ≤ R.slots) (kk : ∀ (q : Nat) (fs1 : List Value) (Y1 : va_W) (H1 : Heap) (locs1 : List Loc), fs1 = fs.set 67 (.ref q) → fs1.length = 122 → Y1 = Y ++ [(q, .inl (cy 3, 12, .inl (fun _ => 0)))] → va_P (dC, dI) vwCl ((a0, .inr (10, fs1)) :: Y1) H1 → va_D A ((a0, .inr (10, fs1)) :: Y1) → va_S A H0 H1 locs1 → W p l e R s m args below meth c H1 locs1 (cells + 1) (slots + 12) Q (F0 m 1020 ls [])) : W p l e R s m args below meth c H locs cells slots Q (F0 m 1012 ls []) := by
  have hx := C0.1
  have hb := C0.2.1
  refine lv_aload_n hx hb dX10_init_1012 rfl (lv_at hl 0 rfl) ?_
  refine lv_bipush (v := 12) hx hb dX10_init_1013 (by decide) ?_
  refine k_newa C0 3 (ty := .boolean) rfl (atype := .boolean) rfl wd204 hP hD hS hA (a0 := (12, .inl (fun _ => 0))) (fun _ => rfl) (by decide) (by decide) (Nat.le_of_ble_eq_true rfl) (cells + 1) (slots + 12) (Nat.le_refl _) (Nat.le_refl _) h3 h4 dX10_init_1015 (fun q H hP hD hS => ?_)
  refine k_putF C0 hin fp_X10_167 hP hD hS 0 rfl rfl rfl (Nat.lt_of_lt_of_eq (by decide) hlen.symm) dX10_init_1017 (fun H locs hP hD hS => ?_)
  exact kk q _ _ H locs rfl (by rw [List.length_set]; exact hlen) rfl hP hD hS
set_option maxHeartbeats 4000000 in
theorem mi_68 {p : Program} {l : Launch} {e : Env} {R : Room} {s : State} {m : MethodId} {args : Array Value} {below : List Frame} {meth : Method} {c : Code} {H : Heap} {locs : List Loc} {cells slots : Nat} {Q : State → Prop} {ls : Array Slot} {A : Nat → Prop} {H0 : Heap} {dC : Nat → ClassId} {dI : Nat → Nat → Nat} {cy : Nat → ClassId} {sq : Nat → Nat} {a0 : Nat} {fs : List Value} {Y : va_W} (C0 : k_cx p s m args c cX10_init 1 RX10 dC dI cy sq) (hin : meth.name = "<init>") (hA : ∀ q, H0.size ≤ q → A q) (hl : lv_has ls 1 [(0, .ref a0)]) (hlen : fs.length = 122) (hP : va_P (dC, dI) vwCl ((a0, .inr (10, fs)) :: Y) H) (hD : va_D A ((a0, .inr (10, fs)) :: Y)) (hS : va_S A H0 H locs) (h3 : cells + 1 ≤ R.cells) (h4 : slots + 12 ≤ R.slots) (kk : ∀ (q : Nat) (fs1 : List Value) (Y1 : va_W) (H1 : Heap) (locs1 : List Loc), fs1 = fs.set 68 (.ref q) → fs1.length = 122 → Y1 = Y ++ [(q, .inl (cy 3, 12, .inl (fun _ => 0)))] → va_P (dC, dI) vwCl ((a0, .inr (10, fs1)) :: Y1) H1 → va_D A ((a0, .inr (10, fs1)) :: Y1) → va_S A H0 H1 locs1 → W p l e R s m args below meth c H1 locs1 (cells + 1) (slots + 12) Q (F0 m 1028 ls [])) : W p l e R s m args below meth c H locs cells slots Q (F0 m 1020 ls []) := by
  have hx := C0.1
  have hb := C0.2.1
  refine lv_aload_n hx hb dX10_init_1020 rfl (lv_at hl 0 rfl) ?_
  refine lv_bipush (v := 12) hx hb dX10_init_1021 (by decide) ?_
  refine k_newa C0 3 (ty := .boolean) rfl (atype := .boolean) rfl wd204 hP hD hS hA (a0 := (12, .inl (fun _ => 0))) (fun _ => rfl) (by decide) (by decide) (Nat.le_of_ble_eq_true rfl) (cells + 1) (slots + 12) (Nat.le_refl _) (Nat.le_refl _) h3 h4 dX10_init_1023 (fun q H hP hD hS => ?_)
  refine k_putF C0 hin fp_X10_170 hP hD hS 0 rfl rfl rfl (Nat.lt_of_lt_of_eq (by decide) hlen.symm) dX10_init_1025 (fun H locs hP hD hS => ?_)
  exact kk q _ _ H locs rfl (by rw [List.length_set]; exact hlen) rfl hP hD hS
set_option maxHeartbeats 4000000 in
theorem mi_69 {p : Program} {l : Launch} {e : Env} {R : Room} {s : State} {m : MethodId} {args : Array Value} {below : List Frame} {meth : Method} {c : Code} {H : Heap} {locs : List Loc} {cells slots : Nat} {Q : State → Prop} {ls : Array Slot} {A : Nat → Prop} {H0 : Heap} {dC : Nat → ClassId} {dI : Nat → Nat → Nat} {cy : Nat → ClassId} {sq : Nat → Nat} {a0 : Nat} {fs : List Value} {Y : va_W} (C0 : k_cx p s m args c cX10_init 1 RX10 dC dI cy sq) (hin : meth.name = "<init>") (hA : ∀ q, H0.size ≤ q → A q) (hl : lv_has ls 1 [(0, .ref a0)]) (hlen : fs.length = 122) (hP : va_P (dC, dI) vwCl ((a0, .inr (10, fs)) :: Y) H) (hD : va_D A ((a0, .inr (10, fs)) :: Y)) (hS : va_S A H0 H locs) (h3 : cells + 1 ≤ R.cells) (h4 : slots + 300 ≤ R.slots) (kk : ∀ (q : Nat) (fs1 : List Value) (Y1 : va_W) (H1 : Heap) (locs1 : List Loc), fs1 = fs.set 69 (.ref q) → fs1.length = 122 → Y1 = Y ++ [(q, .inl (cy 3, 300, .inl (fun _ => 0)))] → va_P (dC, dI) vwCl ((a0, .inr (10, fs1)) :: Y1) H1 → va_D A ((a0, .inr (10, fs1)) :: Y1) → va_S A H0 H1 locs1 → W p l e R s m args below meth c H1 locs1 (cells + 1) (slots + 300) Q (F0 m 1037 ls [])) : W p l e R s m args below meth c H locs cells slots Q (F0 m 1028 ls []) := by
  have hx := C0.1
  have hb := C0.2.1
  refine lv_aload_n hx hb dX10_init_1028 rfl (lv_at hl 0 rfl) ?_
  refine lv_sipush (v := 300) hx hb dX10_init_1029 (by decide) ?_
  refine k_newa C0 3 (ty := .boolean) rfl (atype := .boolean) rfl wd204 hP hD hS hA (a0 := (300, .inl (fun _ => 0))) (fun _ => rfl) (by decide) (by decide) (Nat.le_of_ble_eq_true rfl) (cells + 1) (slots + 300) (Nat.le_refl _) (Nat.le_refl _) h3 h4 dX10_init_1032 (fun q H hP hD hS => ?_)
  refine k_putF C0 hin fp_X10_173 hP hD hS 0 rfl rfl rfl (Nat.lt_of_lt_of_eq (by decide) hlen.symm) dX10_init_1034 (fun H locs hP hD hS => ?_)
  exact kk q _ _ H locs rfl (by rw [List.length_set]; exact hlen) rfl hP hD hS
set_option maxHeartbeats 4000000 in
theorem mi_76 {p : Program} {l : Launch} {e : Env} {R : Room} {s : State} {m : MethodId} {args : Array Value} {below : List Frame} {meth : Method} {c : Code} {H : Heap} {locs : List Loc} {cells slots : Nat} {Q : State → Prop} {ls : Array Slot} {A : Nat → Prop} {H0 : Heap} {dC : Nat → ClassId} {dI : Nat → Nat → Nat} {cy : Nat → ClassId} {sq : Nat → Nat} {a0 : Nat} {fs : List Value} {Y : va_W} (C0 : k_cx p s m args c cX10_init 1 RX10 dC dI cy sq) (hin : meth.name = "<init>") (hA : ∀ q, H0.size ≤ q → A q) (hl : lv_has ls 1 [(0, .ref a0)]) (hlen : fs.length = 122) (hP : va_P (dC, dI) vwCl ((a0, .inr (10, fs)) :: Y) H) (hD : va_D A ((a0, .inr (10, fs)) :: Y)) (hS : va_S A H0 H locs) (h3 : cells + 1 ≤ R.cells) (h4 : slots + 32 ≤ R.slots) (kk : ∀ (q : Nat) (fs1 : List Value) (Y1 : va_W) (H1 : Heap) (locs1 : List Loc), fs1 = fs.set 76 (.ref q) → fs1.length = 122 → Y1 = Y ++ [(q, .inl (cy 0, 32, .inl (fun _ => 0)))] → va_P (dC, dI) vwCl ((a0, .inr (10, fs1)) :: Y1) H1 → va_D A ((a0, .inr (10, fs1)) :: Y1) → va_S A H0 H1 locs1 → W p l e R s m args below meth c H1 locs1 (cells + 1) (slots + 32) Q (F0 m 1045 ls [])) : W p l e R s m args below meth c H locs cells slots Q (F0 m 1037 ls []) := by
  have hx := C0.1
  have hb := C0.2.1
  refine lv_aload_n hx hb dX10_init_1037 rfl (lv_at hl 0 rfl) ?_
  refine lv_bipush (v := 32) hx hb dX10_init_1038 (by decide) ?_
  refine k_newa C0 0 (ty := .int) rfl (atype := .int) rfl wd12 hP hD hS hA (a0 := (32, .inl (fun _ => 0))) (fun _ => rfl) (by decide) (by decide) (Nat.le_of_ble_eq_true rfl) (cells + 1) (slots + 32) (Nat.le_refl _) (Nat.le_refl _) h3 h4 dX10_init_1040 (fun q H hP hD hS => ?_)
  refine k_putF C0 hin fp_X10_176 hP hD hS 0 rfl rfl rfl (Nat.lt_of_lt_of_eq (by decide) hlen.symm) dX10_init_1042 (fun H locs hP hD hS => ?_)
  exact kk q _ _ H locs rfl (by rw [List.length_set]; exact hlen) rfl hP hD hS
set_option maxHeartbeats 4000000 in
theorem mi_77 {p : Program} {l : Launch} {e : Env} {R : Room} {s : State} {m : MethodId} {args : Array Value} {below : List Frame} {meth : Method} {c : Code} {H : Heap} {locs : List Loc} {cells slots : Nat} {Q : State → Prop} {ls : Array Slot} {A : Nat → Prop} {H0 : Heap} {dC : Nat → ClassId} {dI : Nat → Nat → Nat} {cy : Nat → ClassId} {sq : Nat → Nat} {a0 : Nat} {fs : List Value} {Y : va_W} (C0 : k_cx p s m args c cX10_init 1 RX10 dC dI cy sq) (hin : meth.name = "<init>") (hA : ∀ q, H0.size ≤ q → A q) (hl : lv_has ls 1 [(0, .ref a0)]) (hlen : fs.length = 122) (hP : va_P (dC, dI) vwCl ((a0, .inr (10, fs)) :: Y) H) (hD : va_D A ((a0, .inr (10, fs)) :: Y)) (hS : va_S A H0 H locs) (h3 : cells + 1 ≤ R.cells) (h4 : slots + 720 ≤ R.slots) (kk : ∀ (q : Nat) (fs1 : List Value) (Y1 : va_W) (H1 : Heap) (locs1 : List Loc), fs1 = fs.set 77 (.ref q) → fs1.length = 122 → Y1 = Y ++ [(q, .inl (cy 0, 720, .inl (fun _ => 0)))] → va_P (dC, dI) vwCl ((a0, .inr (10, fs1)) :: Y1) H1 → va_D A ((a0, .inr (10, fs1)) :: Y1) → va_S A H0 H1 locs1 → W p l e R s m args below meth c H1 locs1 (cells + 1) (slots + 720) Q (F0 m 1054 ls [])) : W p l e R s m args below meth c H locs cells slots Q (F0 m 1045 ls []) := by
  have hx := C0.1
  have hb := C0.2.1
  refine lv_aload_n hx hb dX10_init_1045 rfl (lv_at hl 0 rfl) ?_
  refine lv_sipush (v := 720) hx hb dX10_init_1046 (by decide) ?_
  refine k_newa C0 0 (ty := .int) rfl (atype := .int) rfl wd12 hP hD hS hA (a0 := (720, .inl (fun _ => 0))) (fun _ => rfl) (by decide) (by decide) (Nat.le_of_ble_eq_true rfl) (cells + 1) (slots + 720) (Nat.le_refl _) (Nat.le_refl _) h3 h4 dX10_init_1049 (fun q H hP hD hS => ?_)
  refine k_putF C0 hin fp_X10_179 hP hD hS 0 rfl rfl rfl (Nat.lt_of_lt_of_eq (by decide) hlen.symm) dX10_init_1051 (fun H locs hP hD hS => ?_)
  exact kk q _ _ H locs rfl (by rw [List.length_set]; exact hlen) rfl hP hD hS
set_option maxHeartbeats 4000000 in
theorem mi_81 {p : Program} {l : Launch} {e : Env} {R : Room} {s : State} {m : MethodId} {args : Array Value} {below : List Frame} {meth : Method} {c : Code} {H : Heap} {locs : List Loc} {cells slots : Nat} {Q : State → Prop} {ls : Array Slot} {A : Nat → Prop} {H0 : Heap} {dC : Nat → ClassId} {dI : Nat → Nat → Nat} {cy : Nat → ClassId} {sq : Nat → Nat} {a0 : Nat} {fs : List Value} {Y : va_W} (C0 : k_cx p s m args c cX10_init 1 RX10 dC dI cy sq) (hin : meth.name = "<init>") (hA : ∀ q, H0.size ≤ q → A q) (hl : lv_has ls 1 [(0, .ref a0)]) (hlen : fs.length = 122) (hP : va_P (dC, dI) vwCl ((a0, .inr (10, fs)) :: Y) H) (hD : va_D A ((a0, .inr (10, fs)) :: Y)) (hS : va_S A H0 H locs) (h3 : cells + 1 ≤ R.cells) (h4 : slots + 180 ≤ R.slots) (kk : ∀ (q : Nat) (fs1 : List Value) (Y1 : va_W) (H1 : Heap) (locs1 : List Loc), fs1 = fs.set 81 (.ref q) → fs1.length = 122 → Y1 = Y ++ [(q, .inl (cy 0, 180, .inl (fun _ => 0)))] → va_P (dC, dI) vwCl ((a0, .inr (10, fs1)) :: Y1) H1 → va_D A ((a0, .inr (10, fs1)) :: Y1) → va_S A H0 H1 locs1 → W p l e R s m args below meth c H1 locs1 (cells + 1) (slots + 180) Q (F0 m 1063 ls [])) : W p l e R s m args below meth c H locs cells slots Q (F0 m 1054 ls []) := by
  have hx := C0.1
  have hb := C0.2.1
  refine lv_aload_n hx hb dX10_init_1054 rfl (lv_at hl 0 rfl) ?_
  refine lv_sipush (v := 180) hx hb dX10_init_1055 (by decide) ?_
  refine k_newa C0 0 (ty := .int) rfl (atype := .int) rfl wd12 hP hD hS hA (a0 := (180, .inl (fun _ => 0))) (fun _ => rfl) (by decide) (by decide) (Nat.le_of_ble_eq_true rfl) (cells + 1) (slots + 180) (Nat.le_refl _) (Nat.le_refl _) h3 h4 dX10_init_1058 (fun q H hP hD hS => ?_)
  refine k_putF C0 hin fp_X10_182 hP hD hS 0 rfl rfl rfl (Nat.lt_of_lt_of_eq (by decide) hlen.symm) dX10_init_1060 (fun H locs hP hD hS => ?_)
  exact kk q _ _ H locs rfl (by rw [List.length_set]; exact hlen) rfl hP hD hS
set_option maxHeartbeats 4000000 in
theorem mi_84 {p : Program} {l : Launch} {e : Env} {R : Room} {s : State} {m : MethodId} {args : Array Value} {below : List Frame} {meth : Method} {c : Code} {H : Heap} {locs : List Loc} {cells slots : Nat} {Q : State → Prop} {ls : Array Slot} {A : Nat → Prop} {H0 : Heap} {dC : Nat → ClassId} {dI : Nat → Nat → Nat} {cy : Nat → ClassId} {sq : Nat → Nat} {a0 : Nat} {fs : List Value} {Y : va_W} (C0 : k_cx p s m args c cX10_init 1 RX10 dC dI cy sq) (hin : meth.name = "<init>") (hA : ∀ q, H0.size ≤ q → A q) (hl : lv_has ls 1 [(0, .ref a0)]) (hlen : fs.length = 122) (hP : va_P (dC, dI) vwCl ((a0, .inr (10, fs)) :: Y) H) (hD : va_D A ((a0, .inr (10, fs)) :: Y)) (hS : va_S A H0 H locs) (kk : ∀ (fs1 : List Value) (H1 : Heap) (locs1 : List Loc), fs1 = fs.set 84 (.long 1) → fs1.length = 122 → va_P (dC, dI) vwCl ((a0, .inr (10, fs1)) :: Y) H1 → va_D A ((a0, .inr (10, fs1)) :: Y) → va_S A H0 H1 locs1 → W p l e R s m args below meth c H1 locs1 cells slots Q (F0 m 1068 ls [])) : W p l e R s m args below meth c H locs cells slots Q (F0 m 1063 ls []) := by
  have hx := C0.1
  have hb := C0.2.1
  refine lv_aload_n hx hb dX10_init_1063 rfl (lv_at hl 0 rfl) ?_
  refine lv_lconst (v := 1) hx hb dX10_init_1064 (by decide) ?_
  refine k_put C0 fp_X10_185 hP hD hS 0 rfl rfl rfl (Nat.lt_of_lt_of_eq (by decide) hlen.symm) dX10_init_1065 (fun H locs hP hD hS => ?_)
  exact kk _ H locs rfl (by rw [List.length_set]; exact hlen) hP hD hS
set_option maxHeartbeats 4000000 in
theorem mi_85 {p : Program} {l : Launch} {e : Env} {R : Room} {s : State} {m : MethodId} {args : Array Value} {below : List Frame} {meth : Method} {c : Code} {H : Heap} {locs : List Loc} {cells slots : Nat} {Q : State → Prop} {ls : Array Slot} {A : Nat → Prop} {H0 : Heap} {dC : Nat → ClassId} {dI : Nat → Nat → Nat} {cy : Nat → ClassId} {sq : Nat → Nat} {a0 : Nat} {fs : List Value} {Y : va_W} (C0 : k_cx p s m args c cX10_init 1 RX10 dC dI cy sq) (hin : meth.name = "<init>") (hA : ∀ q, H0.size ≤ q → A q) (hl : lv_has ls 1 [(0, .ref a0)]) (hlen : fs.length = 122) (hP : va_P (dC, dI) vwCl ((a0, .inr (10, fs)) :: Y) H) (hD : va_D A ((a0, .inr (10, fs)) :: Y)) (hS : va_S A H0 H locs) (h3 : cells + 1 ≤ R.cells) (h4 : slots + 5 ≤ R.slots) (kk : ∀ (q : Nat) (g : Nat → Int32) (fs1 : List Value) (Y1 : va_W) (H1 : Heap) (locs1 : List Loc), wa (lf_A g) [102, 105, 114, 115, 116] → fs1 = fs.set 85 (.ref q) → fs1.length = 122 → Y1 = Y ++ [(q, .inl (cy 2, 5, .inl g))] → va_P (dC, dI) vwCl ((a0, .inr (10, fs1)) :: Y1) H1 → va_D A ((a0, .inr (10, fs1)) :: Y1) → va_S A H0 H1 locs1 → W p l e R s m args below meth c H1 locs1 (cells + 1) (slots + 5) Q (F0 m 1100 ls [])) : W p l e R s m args below meth c H locs cells slots Q (F0 m 1068 ls []) := by
  have hx := C0.1
  have hb := C0.2.1
  refine lv_aload_n hx hb dX10_init_1068 rfl (lv_at hl 0 rfl) ?_
  refine lv_iconst (v := 5) hx hb dX10_init_1069 (by decide) ?_
  refine k_newa C0 2 (ty := .char) rfl (atype := .char) rfl wd161 hP hD hS hA (a0 := (5, .inl (fun _ => 0))) (fun _ => rfl) (by decide) (by decide) (Nat.le_of_ble_eq_true rfl) (cells + 1) (slots + 5) (Nat.le_refl _) (Nat.le_refl _) h3 h4 dX10_init_1070 (fun q H hP hD hS => ?_)
  refine lv_dup hx hb dX10_init_1072 rfl ?_
  refine lv_iconst (v := 0) hx hb dX10_init_1073 (by decide) ?_
  refine lv_bipush (v := 102) hx hb dX10_init_1074 (by decide) ?_
  refine k_castU C0 hP hD hS (k_in 0 5 (by decide)) dX10_init_1076 (fun g3 H locs e3 hP hD hS => ?_)
  refine lv_dup hx hb dX10_init_1077 rfl ?_
  refine lv_iconst (v := 1) hx hb dX10_init_1078 (by decide) ?_
  refine lv_bipush (v := 105) hx hb dX10_init_1079 (by decide) ?_
  refine k_castU C0 hP hD hS (k_in 1 5 (by decide)) dX10_init_1081 (fun g7 H locs e7 hP hD hS => ?_)
  refine lv_dup hx hb dX10_init_1082 rfl ?_
  refine lv_iconst (v := 2) hx hb dX10_init_1083 (by decide) ?_
  refine lv_bipush (v := 114) hx hb dX10_init_1084 (by decide) ?_
  refine k_castU C0 hP hD hS (k_in 2 5 (by decide)) dX10_init_1086 (fun g11 H locs e11 hP hD hS => ?_)
  refine lv_dup hx hb dX10_init_1087 rfl ?_
  refine lv_iconst (v := 3) hx hb dX10_init_1088 (by decide) ?_
  refine lv_bipush (v := 115) hx hb dX10_init_1089 (by decide) ?_
  refine k_castU C0 hP hD hS (k_in 3 5 (by decide)) dX10_init_1091 (fun g15 H locs e15 hP hD hS => ?_)
  refine lv_dup hx hb dX10_init_1092 rfl ?_
  refine lv_iconst (v := 4) hx hb dX10_init_1093 (by decide) ?_
  refine lv_bipush (v := 116) hx hb dX10_init_1094 (by decide) ?_
  refine k_castU C0 hP hD hS (k_in 4 5 (by decide)) dX10_init_1096 (fun g19 H locs e19 hP hD hS => ?_)
  refine k_putF C0 hin fp_X10_189 hP hD hS 0 rfl rfl rfl (Nat.lt_of_lt_of_eq (by decide) hlen.symm) dX10_init_1097 (fun H locs hP hD hS => ?_)
  have hg : wa (lf_A g19) [102, 105, 114, 115, 116] := by
    subst e19 e15 e11 e7 e3
    unfold wa
    decide +kernel
  exact kk q g19 _ _ H locs hg rfl (by rw [List.length_set]; exact hlen) rfl hP hD hS
set_option maxHeartbeats 4000000 in
theorem mi_86 {p : Program} {l : Launch} {e : Env} {R : Room} {s : State} {m : MethodId} {args : Array Value} {below : List Frame} {meth : Method} {c : Code} {H : Heap} {locs : List Loc} {cells slots : Nat} {Q : State → Prop} {ls : Array Slot} {A : Nat → Prop} {H0 : Heap} {dC : Nat → ClassId} {dI : Nat → Nat → Nat} {cy : Nat → ClassId} {sq : Nat → Nat} {a0 : Nat} {fs : List Value} {Y : va_W} (C0 : k_cx p s m args c cX10_init 1 RX10 dC dI cy sq) (hin : meth.name = "<init>") (hA : ∀ q, H0.size ≤ q → A q) (hl : lv_has ls 1 [(0, .ref a0)]) (hlen : fs.length = 122) (hP : va_P (dC, dI) vwCl ((a0, .inr (10, fs)) :: Y) H) (hD : va_D A ((a0, .inr (10, fs)) :: Y)) (hS : va_S A H0 H locs) (h3 : cells + 1 ≤ R.cells) (h4 : slots + 4 ≤ R.slots) (kk : ∀ (q : Nat) (g : Nat → Int32) (fs1 : List Value) (Y1 : va_W) (H1 : Heap) (locs1 : List Loc), wa (lf_A g) [108, 97, 115, 116] → fs1 = fs.set 86 (.ref q) → fs1.length = 122 → Y1 = Y ++ [(q, .inl (cy 2, 4, .inl g))] → va_P (dC, dI) vwCl ((a0, .inr (10, fs1)) :: Y1) H1 → va_D A ((a0, .inr (10, fs1)) :: Y1) → va_S A H0 H1 locs1 → W p l e R s m args below meth c H1 locs1 (cells + 1) (slots + 4) Q (F0 m 1127 ls [])) : W p l e R s m args below meth c H locs cells slots Q (F0 m 1100 ls []) := by
  have hx := C0.1
  have hb := C0.2.1
  refine lv_aload_n hx hb dX10_init_1100 rfl (lv_at hl 0 rfl) ?_
  refine lv_iconst (v := 4) hx hb dX10_init_1101 (by decide) ?_
  refine k_newa C0 2 (ty := .char) rfl (atype := .char) rfl wd161 hP hD hS hA (a0 := (4, .inl (fun _ => 0))) (fun _ => rfl) (by decide) (by decide) (Nat.le_of_ble_eq_true rfl) (cells + 1) (slots + 4) (Nat.le_refl _) (Nat.le_refl _) h3 h4 dX10_init_1102 (fun q H hP hD hS => ?_)
  refine lv_dup hx hb dX10_init_1104 rfl ?_
  refine lv_iconst (v := 0) hx hb dX10_init_1105 (by decide) ?_
  refine lv_bipush (v := 108) hx hb dX10_init_1106 (by decide) ?_
  refine k_castU C0 hP hD hS (k_in 0 4 (by decide)) dX10_init_1108 (fun g3 H locs e3 hP hD hS => ?_)
  refine lv_dup hx hb dX10_init_1109 rfl ?_
  refine lv_iconst (v := 1) hx hb dX10_init_1110 (by decide) ?_
  refine lv_bipush (v := 97) hx hb dX10_init_1111 (by decide) ?_
  refine k_castU C0 hP hD hS (k_in 1 4 (by decide)) dX10_init_1113 (fun g7 H locs e7 hP hD hS => ?_)
  refine lv_dup hx hb dX10_init_1114 rfl ?_
  refine lv_iconst (v := 2) hx hb dX10_init_1115 (by decide) ?_
  refine lv_bipush (v := 115) hx hb dX10_init_1116 (by decide) ?_
  refine k_castU C0 hP hD hS (k_in 2 4 (by decide)) dX10_init_1118 (fun g11 H locs e11 hP hD hS => ?_)
  refine lv_dup hx hb dX10_init_1119 rfl ?_
  refine lv_iconst (v := 3) hx hb dX10_init_1120 (by decide) ?_
  refine lv_bipush (v := 116) hx hb dX10_init_1121 (by decide) ?_
  refine k_castU C0 hP hD hS (k_in 3 4 (by decide)) dX10_init_1123 (fun g15 H locs e15 hP hD hS => ?_)
  refine k_putF C0 hin fp_X10_192 hP hD hS 0 rfl rfl rfl (Nat.lt_of_lt_of_eq (by decide) hlen.symm) dX10_init_1124 (fun H locs hP hD hS => ?_)
  have hg : wa (lf_A g15) [108, 97, 115, 116] := by
    subst e15 e11 e7 e3
    unfold wa
    decide +kernel
  exact kk q g15 _ _ H locs hg rfl (by rw [List.length_set]; exact hlen) rfl hP hD hS
set_option maxHeartbeats 4000000 in
theorem mi_87 {p : Program} {l : Launch} {e : Env} {R : Room} {s : State} {m : MethodId} {args : Array Value} {below : List Frame} {meth : Method} {c : Code} {H : Heap} {locs : List Loc} {cells slots : Nat} {Q : State → Prop} {ls : Array Slot} {A : Nat → Prop} {H0 : Heap} {dC : Nat → ClassId} {dI : Nat → Nat → Nat} {cy : Nat → ClassId} {sq : Nat → Nat} {a0 : Nat} {fs : List Value} {Y : va_W} (C0 : k_cx p s m args c cX10_init 1 RX10 dC dI cy sq) (hin : meth.name = "<init>") (hA : ∀ q, H0.size ≤ q → A q) (hl : lv_has ls 1 [(0, .ref a0)]) (hlen : fs.length = 122) (hP : va_P (dC, dI) vwCl ((a0, .inr (10, fs)) :: Y) H) (hD : va_D A ((a0, .inr (10, fs)) :: Y)) (hS : va_S A H0 H locs) (h3 : cells + 1 ≤ R.cells) (h4 : slots + 5 ≤ R.slots) (kk : ∀ (q : Nat) (g : Nat → Int32) (fs1 : List Value) (Y1 : va_W) (H1 : Heap) (locs1 : List Loc), wa (lf_A g) [111, 102, 116, 101, 110] → fs1 = fs.set 87 (.ref q) → fs1.length = 122 → Y1 = Y ++ [(q, .inl (cy 2, 5, .inl g))] → va_P (dC, dI) vwCl ((a0, .inr (10, fs1)) :: Y1) H1 → va_D A ((a0, .inr (10, fs1)) :: Y1) → va_S A H0 H1 locs1 → W p l e R s m args below meth c H1 locs1 (cells + 1) (slots + 5) Q (F0 m 1159 ls [])) : W p l e R s m args below meth c H locs cells slots Q (F0 m 1127 ls []) := by
  have hx := C0.1
  have hb := C0.2.1
  refine lv_aload_n hx hb dX10_init_1127 rfl (lv_at hl 0 rfl) ?_
  refine lv_iconst (v := 5) hx hb dX10_init_1128 (by decide) ?_
  refine k_newa C0 2 (ty := .char) rfl (atype := .char) rfl wd161 hP hD hS hA (a0 := (5, .inl (fun _ => 0))) (fun _ => rfl) (by decide) (by decide) (Nat.le_of_ble_eq_true rfl) (cells + 1) (slots + 5) (Nat.le_refl _) (Nat.le_refl _) h3 h4 dX10_init_1129 (fun q H hP hD hS => ?_)
  refine lv_dup hx hb dX10_init_1131 rfl ?_
  refine lv_iconst (v := 0) hx hb dX10_init_1132 (by decide) ?_
  refine lv_bipush (v := 111) hx hb dX10_init_1133 (by decide) ?_
  refine k_castU C0 hP hD hS (k_in 0 5 (by decide)) dX10_init_1135 (fun g3 H locs e3 hP hD hS => ?_)
  refine lv_dup hx hb dX10_init_1136 rfl ?_
  refine lv_iconst (v := 1) hx hb dX10_init_1137 (by decide) ?_
  refine lv_bipush (v := 102) hx hb dX10_init_1138 (by decide) ?_
  refine k_castU C0 hP hD hS (k_in 1 5 (by decide)) dX10_init_1140 (fun g7 H locs e7 hP hD hS => ?_)
  refine lv_dup hx hb dX10_init_1141 rfl ?_
  refine lv_iconst (v := 2) hx hb dX10_init_1142 (by decide) ?_
  refine lv_bipush (v := 116) hx hb dX10_init_1143 (by decide) ?_
  refine k_castU C0 hP hD hS (k_in 2 5 (by decide)) dX10_init_1145 (fun g11 H locs e11 hP hD hS => ?_)
  refine lv_dup hx hb dX10_init_1146 rfl ?_
  refine lv_iconst (v := 3) hx hb dX10_init_1147 (by decide) ?_
  refine lv_bipush (v := 101) hx hb dX10_init_1148 (by decide) ?_
  refine k_castU C0 hP hD hS (k_in 3 5 (by decide)) dX10_init_1150 (fun g15 H locs e15 hP hD hS => ?_)
  refine lv_dup hx hb dX10_init_1151 rfl ?_
  refine lv_iconst (v := 4) hx hb dX10_init_1152 (by decide) ?_
  refine lv_bipush (v := 110) hx hb dX10_init_1153 (by decide) ?_
  refine k_castU C0 hP hD hS (k_in 4 5 (by decide)) dX10_init_1155 (fun g19 H locs e19 hP hD hS => ?_)
  refine k_putF C0 hin fp_X10_195 hP hD hS 0 rfl rfl rfl (Nat.lt_of_lt_of_eq (by decide) hlen.symm) dX10_init_1156 (fun H locs hP hD hS => ?_)
  have hg : wa (lf_A g19) [111, 102, 116, 101, 110] := by
    subst e19 e15 e11 e7 e3
    unfold wa
    decide +kernel
  exact kk q g19 _ _ H locs hg rfl (by rw [List.length_set]; exact hlen) rfl hP hD hS
set_option maxHeartbeats 4000000 in
theorem mi_88 {p : Program} {l : Launch} {e : Env} {R : Room} {s : State} {m : MethodId} {args : Array Value} {below : List Frame} {meth : Method} {c : Code} {H : Heap} {locs : List Loc} {cells slots : Nat} {Q : State → Prop} {ls : Array Slot} {A : Nat → Prop} {H0 : Heap} {dC : Nat → ClassId} {dI : Nat → Nat → Nat} {cy : Nat → ClassId} {sq : Nat → Nat} {a0 : Nat} {fs : List Value} {Y : va_W} (C0 : k_cx p s m args c cX10_init 1 RX10 dC dI cy sq) (hin : meth.name = "<init>") (hA : ∀ q, H0.size ≤ q → A q) (hl : lv_has ls 1 [(0, .ref a0)]) (hlen : fs.length = 122) (hP : va_P (dC, dI) vwCl ((a0, .inr (10, fs)) :: Y) H) (hD : va_D A ((a0, .inr (10, fs)) :: Y)) (hS : va_S A H0 H locs) (h3 : cells + 1 ≤ R.cells) (h4 : slots + 5 ≤ R.slots) (kk : ∀ (q : Nat) (g : Nat → Int32) (fs1 : List Value) (Y1 : va_W) (H1 : Heap) (locs1 : List Loc), wa (lf_A g) [116, 111, 116, 97, 108] → fs1 = fs.set 88 (.ref q) → fs1.length = 122 → Y1 = Y ++ [(q, .inl (cy 2, 5, .inl g))] → va_P (dC, dI) vwCl ((a0, .inr (10, fs1)) :: Y1) H1 → va_D A ((a0, .inr (10, fs1)) :: Y1) → va_S A H0 H1 locs1 → W p l e R s m args below meth c H1 locs1 (cells + 1) (slots + 5) Q (F0 m 1191 ls [])) : W p l e R s m args below meth c H locs cells slots Q (F0 m 1159 ls []) := by
  have hx := C0.1
  have hb := C0.2.1
  refine lv_aload_n hx hb dX10_init_1159 rfl (lv_at hl 0 rfl) ?_
  refine lv_iconst (v := 5) hx hb dX10_init_1160 (by decide) ?_
  refine k_newa C0 2 (ty := .char) rfl (atype := .char) rfl wd161 hP hD hS hA (a0 := (5, .inl (fun _ => 0))) (fun _ => rfl) (by decide) (by decide) (Nat.le_of_ble_eq_true rfl) (cells + 1) (slots + 5) (Nat.le_refl _) (Nat.le_refl _) h3 h4 dX10_init_1161 (fun q H hP hD hS => ?_)
  refine lv_dup hx hb dX10_init_1163 rfl ?_
  refine lv_iconst (v := 0) hx hb dX10_init_1164 (by decide) ?_
  refine lv_bipush (v := 116) hx hb dX10_init_1165 (by decide) ?_
  refine k_castU C0 hP hD hS (k_in 0 5 (by decide)) dX10_init_1167 (fun g3 H locs e3 hP hD hS => ?_)
  refine lv_dup hx hb dX10_init_1168 rfl ?_
  refine lv_iconst (v := 1) hx hb dX10_init_1169 (by decide) ?_
  refine lv_bipush (v := 111) hx hb dX10_init_1170 (by decide) ?_
  refine k_castU C0 hP hD hS (k_in 1 5 (by decide)) dX10_init_1172 (fun g7 H locs e7 hP hD hS => ?_)
  refine lv_dup hx hb dX10_init_1173 rfl ?_
  refine lv_iconst (v := 2) hx hb dX10_init_1174 (by decide) ?_
  refine lv_bipush (v := 116) hx hb dX10_init_1175 (by decide) ?_
  refine k_castU C0 hP hD hS (k_in 2 5 (by decide)) dX10_init_1177 (fun g11 H locs e11 hP hD hS => ?_)
  refine lv_dup hx hb dX10_init_1178 rfl ?_
  refine lv_iconst (v := 3) hx hb dX10_init_1179 (by decide) ?_
  refine lv_bipush (v := 97) hx hb dX10_init_1180 (by decide) ?_
  refine k_castU C0 hP hD hS (k_in 3 5 (by decide)) dX10_init_1182 (fun g15 H locs e15 hP hD hS => ?_)
  refine lv_dup hx hb dX10_init_1183 rfl ?_
  refine lv_iconst (v := 4) hx hb dX10_init_1184 (by decide) ?_
  refine lv_bipush (v := 108) hx hb dX10_init_1185 (by decide) ?_
  refine k_castU C0 hP hD hS (k_in 4 5 (by decide)) dX10_init_1187 (fun g19 H locs e19 hP hD hS => ?_)
  refine k_putF C0 hin fp_X10_198 hP hD hS 0 rfl rfl rfl (Nat.lt_of_lt_of_eq (by decide) hlen.symm) dX10_init_1188 (fun H locs hP hD hS => ?_)
  have hg : wa (lf_A g19) [116, 111, 116, 97, 108] := by
    subst e19 e15 e11 e7 e3
    unfold wa
    decide +kernel
  exact kk q g19 _ _ H locs hg rfl (by rw [List.length_set]; exact hlen) rfl hP hD hS
set_option maxHeartbeats 4000000 in
theorem mi_89 {p : Program} {l : Launch} {e : Env} {R : Room} {s : State} {m : MethodId} {args : Array Value} {below : List Frame} {meth : Method} {c : Code} {H : Heap} {locs : List Loc} {cells slots : Nat} {Q : State → Prop} {ls : Array Slot} {A : Nat → Prop} {H0 : Heap} {dC : Nat → ClassId} {dI : Nat → Nat → Nat} {cy : Nat → ClassId} {sq : Nat → Nat} {a0 : Nat} {fs : List Value} {Y : va_W} (C0 : k_cx p s m args c cX10_init 1 RX10 dC dI cy sq) (hin : meth.name = "<init>") (hA : ∀ q, H0.size ≤ q → A q) (hl : lv_has ls 1 [(0, .ref a0)]) (hlen : fs.length = 122) (hP : va_P (dC, dI) vwCl ((a0, .inr (10, fs)) :: Y) H) (hD : va_D A ((a0, .inr (10, fs)) :: Y)) (hS : va_S A H0 H locs) (h3 : cells + 1 ≤ R.cells) (h4 : slots + 4 ≤ R.slots) (kk : ∀ (q : Nat) (g : Nat → Int32) (fs1 : List Value) (Y1 : va_W) (H1 : Heap) (locs1 : List Loc), wa (lf_A g) [109, 111, 115, 116] → fs1 = fs.set 89 (.ref q) → fs1.length = 122 → Y1 = Y ++ [(q, .inl (cy 2, 4, .inl g))] → va_P (dC, dI) vwCl ((a0, .inr (10, fs1)) :: Y1) H1 → va_D A ((a0, .inr (10, fs1)) :: Y1) → va_S A H0 H1 locs1 → W p l e R s m args below meth c H1 locs1 (cells + 1) (slots + 4) Q (F0 m 1218 ls [])) : W p l e R s m args below meth c H locs cells slots Q (F0 m 1191 ls []) := by
  have hx := C0.1
  have hb := C0.2.1
  refine lv_aload_n hx hb dX10_init_1191 rfl (lv_at hl 0 rfl) ?_
  refine lv_iconst (v := 4) hx hb dX10_init_1192 (by decide) ?_
  refine k_newa C0 2 (ty := .char) rfl (atype := .char) rfl wd161 hP hD hS hA (a0 := (4, .inl (fun _ => 0))) (fun _ => rfl) (by decide) (by decide) (Nat.le_of_ble_eq_true rfl) (cells + 1) (slots + 4) (Nat.le_refl _) (Nat.le_refl _) h3 h4 dX10_init_1193 (fun q H hP hD hS => ?_)
  refine lv_dup hx hb dX10_init_1195 rfl ?_
  refine lv_iconst (v := 0) hx hb dX10_init_1196 (by decide) ?_
  refine lv_bipush (v := 109) hx hb dX10_init_1197 (by decide) ?_
  refine k_castU C0 hP hD hS (k_in 0 4 (by decide)) dX10_init_1199 (fun g3 H locs e3 hP hD hS => ?_)
  refine lv_dup hx hb dX10_init_1200 rfl ?_
  refine lv_iconst (v := 1) hx hb dX10_init_1201 (by decide) ?_
  refine lv_bipush (v := 111) hx hb dX10_init_1202 (by decide) ?_
  refine k_castU C0 hP hD hS (k_in 1 4 (by decide)) dX10_init_1204 (fun g7 H locs e7 hP hD hS => ?_)
  refine lv_dup hx hb dX10_init_1205 rfl ?_
  refine lv_iconst (v := 2) hx hb dX10_init_1206 (by decide) ?_
  refine lv_bipush (v := 115) hx hb dX10_init_1207 (by decide) ?_
  refine k_castU C0 hP hD hS (k_in 2 4 (by decide)) dX10_init_1209 (fun g11 H locs e11 hP hD hS => ?_)
  refine lv_dup hx hb dX10_init_1210 rfl ?_
  refine lv_iconst (v := 3) hx hb dX10_init_1211 (by decide) ?_
  refine lv_bipush (v := 116) hx hb dX10_init_1212 (by decide) ?_
  refine k_castU C0 hP hD hS (k_in 3 4 (by decide)) dX10_init_1214 (fun g15 H locs e15 hP hD hS => ?_)
  refine k_putF C0 hin fp_X10_201 hP hD hS 0 rfl rfl rfl (Nat.lt_of_lt_of_eq (by decide) hlen.symm) dX10_init_1215 (fun H locs hP hD hS => ?_)
  have hg : wa (lf_A g15) [109, 111, 115, 116] := by
    subst e15 e11 e7 e3
    unfold wa
    decide +kernel
  exact kk q g15 _ _ H locs hg rfl (by rw [List.length_set]; exact hlen) rfl hP hD hS
set_option maxHeartbeats 4000000 in
theorem mi_90 {p : Program} {l : Launch} {e : Env} {R : Room} {s : State} {m : MethodId} {args : Array Value} {below : List Frame} {meth : Method} {c : Code} {H : Heap} {locs : List Loc} {cells slots : Nat} {Q : State → Prop} {ls : Array Slot} {A : Nat → Prop} {H0 : Heap} {dC : Nat → ClassId} {dI : Nat → Nat → Nat} {cy : Nat → ClassId} {sq : Nat → Nat} {a0 : Nat} {fs : List Value} {Y : va_W} (C0 : k_cx p s m args c cX10_init 1 RX10 dC dI cy sq) (hin : meth.name = "<init>") (hA : ∀ q, H0.size ≤ q → A q) (hl : lv_has ls 1 [(0, .ref a0)]) (hlen : fs.length = 122) (hP : va_P (dC, dI) vwCl ((a0, .inr (10, fs)) :: Y) H) (hD : va_D A ((a0, .inr (10, fs)) :: Y)) (hS : va_S A H0 H locs) (h3 : cells + 1 ≤ R.cells) (h4 : slots + 5 ≤ R.slots) (kk : ∀ (q : Nat) (g : Nat → Int32) (fs1 : List Value) (Y1 : va_W) (H1 : Heap) (locs1 : List Loc), wa (lf_A g) [108, 101, 97, 115, 116] → fs1 = fs.set 90 (.ref q) → fs1.length = 122 → Y1 = Y ++ [(q, .inl (cy 2, 5, .inl g))] → va_P (dC, dI) vwCl ((a0, .inr (10, fs1)) :: Y1) H1 → va_D A ((a0, .inr (10, fs1)) :: Y1) → va_S A H0 H1 locs1 → W p l e R s m args below meth c H1 locs1 (cells + 1) (slots + 5) Q (F0 m 1250 ls [])) : W p l e R s m args below meth c H locs cells slots Q (F0 m 1218 ls []) := by
  have hx := C0.1
  have hb := C0.2.1
  refine lv_aload_n hx hb dX10_init_1218 rfl (lv_at hl 0 rfl) ?_
  refine lv_iconst (v := 5) hx hb dX10_init_1219 (by decide) ?_
  refine k_newa C0 2 (ty := .char) rfl (atype := .char) rfl wd161 hP hD hS hA (a0 := (5, .inl (fun _ => 0))) (fun _ => rfl) (by decide) (by decide) (Nat.le_of_ble_eq_true rfl) (cells + 1) (slots + 5) (Nat.le_refl _) (Nat.le_refl _) h3 h4 dX10_init_1220 (fun q H hP hD hS => ?_)
  refine lv_dup hx hb dX10_init_1222 rfl ?_
  refine lv_iconst (v := 0) hx hb dX10_init_1223 (by decide) ?_
  refine lv_bipush (v := 108) hx hb dX10_init_1224 (by decide) ?_
  refine k_castU C0 hP hD hS (k_in 0 5 (by decide)) dX10_init_1226 (fun g3 H locs e3 hP hD hS => ?_)
  refine lv_dup hx hb dX10_init_1227 rfl ?_
  refine lv_iconst (v := 1) hx hb dX10_init_1228 (by decide) ?_
  refine lv_bipush (v := 101) hx hb dX10_init_1229 (by decide) ?_
  refine k_castU C0 hP hD hS (k_in 1 5 (by decide)) dX10_init_1231 (fun g7 H locs e7 hP hD hS => ?_)
  refine lv_dup hx hb dX10_init_1232 rfl ?_
  refine lv_iconst (v := 2) hx hb dX10_init_1233 (by decide) ?_
  refine lv_bipush (v := 97) hx hb dX10_init_1234 (by decide) ?_
  refine k_castU C0 hP hD hS (k_in 2 5 (by decide)) dX10_init_1236 (fun g11 H locs e11 hP hD hS => ?_)
  refine lv_dup hx hb dX10_init_1237 rfl ?_
  refine lv_iconst (v := 3) hx hb dX10_init_1238 (by decide) ?_
  refine lv_bipush (v := 115) hx hb dX10_init_1239 (by decide) ?_
  refine k_castU C0 hP hD hS (k_in 3 5 (by decide)) dX10_init_1241 (fun g15 H locs e15 hP hD hS => ?_)
  refine lv_dup hx hb dX10_init_1242 rfl ?_
  refine lv_iconst (v := 4) hx hb dX10_init_1243 (by decide) ?_
  refine lv_bipush (v := 116) hx hb dX10_init_1244 (by decide) ?_
  refine k_castU C0 hP hD hS (k_in 4 5 (by decide)) dX10_init_1246 (fun g19 H locs e19 hP hD hS => ?_)
  refine k_putF C0 hin fp_X10_204 hP hD hS 0 rfl rfl rfl (Nat.lt_of_lt_of_eq (by decide) hlen.symm) dX10_init_1247 (fun H locs hP hD hS => ?_)
  have hg : wa (lf_A g19) [108, 101, 97, 115, 116] := by
    subst e19 e15 e11 e7 e3
    unfold wa
    decide +kernel
  exact kk q g19 _ _ H locs hg rfl (by rw [List.length_set]; exact hlen) rfl hP hD hS
set_option maxHeartbeats 4000000 in
theorem mi_91 {p : Program} {l : Launch} {e : Env} {R : Room} {s : State} {m : MethodId} {args : Array Value} {below : List Frame} {meth : Method} {c : Code} {H : Heap} {locs : List Loc} {cells slots : Nat} {Q : State → Prop} {ls : Array Slot} {A : Nat → Prop} {H0 : Heap} {dC : Nat → ClassId} {dI : Nat → Nat → Nat} {cy : Nat → ClassId} {sq : Nat → Nat} {a0 : Nat} {fs : List Value} {Y : va_W} (C0 : k_cx p s m args c cX10_init 1 RX10 dC dI cy sq) (hin : meth.name = "<init>") (hA : ∀ q, H0.size ≤ q → A q) (hl : lv_has ls 1 [(0, .ref a0)]) (hlen : fs.length = 122) (hP : va_P (dC, dI) vwCl ((a0, .inr (10, fs)) :: Y) H) (hD : va_D A ((a0, .inr (10, fs)) :: Y)) (hS : va_S A H0 H locs) (h3 : cells + 1 ≤ R.cells) (h4 : slots + 3 ≤ R.slots) (kk : ∀ (q : Nat) (g : Nat → Int32) (fs1 : List Value) (Y1 : va_W) (H1 : Heap) (locs1 : List Loc), wa (lf_A g) [110, 111, 116] → fs1 = fs.set 91 (.ref q) → fs1.length = 122 → Y1 = Y ++ [(q, .inl (cy 2, 3, .inl g))] → va_P (dC, dI) vwCl ((a0, .inr (10, fs1)) :: Y1) H1 → va_D A ((a0, .inr (10, fs1)) :: Y1) → va_S A H0 H1 locs1 → W p l e R s m args below meth c H1 locs1 (cells + 1) (slots + 3) Q (F0 m 1272 ls [])) : W p l e R s m args below meth c H locs cells slots Q (F0 m 1250 ls []) := by
  have hx := C0.1
  have hb := C0.2.1
  refine lv_aload_n hx hb dX10_init_1250 rfl (lv_at hl 0 rfl) ?_
  refine lv_iconst (v := 3) hx hb dX10_init_1251 (by decide) ?_
  refine k_newa C0 2 (ty := .char) rfl (atype := .char) rfl wd161 hP hD hS hA (a0 := (3, .inl (fun _ => 0))) (fun _ => rfl) (by decide) (by decide) (Nat.le_of_ble_eq_true rfl) (cells + 1) (slots + 3) (Nat.le_refl _) (Nat.le_refl _) h3 h4 dX10_init_1252 (fun q H hP hD hS => ?_)
  refine lv_dup hx hb dX10_init_1254 rfl ?_
  refine lv_iconst (v := 0) hx hb dX10_init_1255 (by decide) ?_
  refine lv_bipush (v := 110) hx hb dX10_init_1256 (by decide) ?_
  refine k_castU C0 hP hD hS (k_in 0 3 (by decide)) dX10_init_1258 (fun g3 H locs e3 hP hD hS => ?_)
  refine lv_dup hx hb dX10_init_1259 rfl ?_
  refine lv_iconst (v := 1) hx hb dX10_init_1260 (by decide) ?_
  refine lv_bipush (v := 111) hx hb dX10_init_1261 (by decide) ?_
  refine k_castU C0 hP hD hS (k_in 1 3 (by decide)) dX10_init_1263 (fun g7 H locs e7 hP hD hS => ?_)
  refine lv_dup hx hb dX10_init_1264 rfl ?_
  refine lv_iconst (v := 2) hx hb dX10_init_1265 (by decide) ?_
  refine lv_bipush (v := 116) hx hb dX10_init_1266 (by decide) ?_
  refine k_castU C0 hP hD hS (k_in 2 3 (by decide)) dX10_init_1268 (fun g11 H locs e11 hP hD hS => ?_)
  refine k_putF C0 hin fp_X10_207 hP hD hS 0 rfl rfl rfl (Nat.lt_of_lt_of_eq (by decide) hlen.symm) dX10_init_1269 (fun H locs hP hD hS => ?_)
  have hg : wa (lf_A g11) [110, 111, 116] := by
    subst e11 e7 e3
    unfold wa
    decide +kernel
  exact kk q g11 _ _ H locs hg rfl (by rw [List.length_set]; exact hlen) rfl hP hD hS
set_option maxHeartbeats 4000000 in
theorem mi_92 {p : Program} {l : Launch} {e : Env} {R : Room} {s : State} {m : MethodId} {args : Array Value} {below : List Frame} {meth : Method} {c : Code} {H : Heap} {locs : List Loc} {cells slots : Nat} {Q : State → Prop} {ls : Array Slot} {A : Nat → Prop} {H0 : Heap} {dC : Nat → ClassId} {dI : Nat → Nat → Nat} {cy : Nat → ClassId} {sq : Nat → Nat} {a0 : Nat} {fs : List Value} {Y : va_W} (C0 : k_cx p s m args c cX10_init 1 RX10 dC dI cy sq) (hin : meth.name = "<init>") (hA : ∀ q, H0.size ≤ q → A q) (hl : lv_has ls 1 [(0, .ref a0)]) (hlen : fs.length = 122) (hP : va_P (dC, dI) vwCl ((a0, .inr (10, fs)) :: Y) H) (hD : va_D A ((a0, .inr (10, fs)) :: Y)) (hS : va_S A H0 H locs) (h3 : cells + 1 ≤ R.cells) (h4 : slots + 3 ≤ R.slots) (kk : ∀ (q : Nat) (g : Nat → Int32) (fs1 : List Value) (Y1 : va_W) (H1 : Heap) (locs1 : List Loc), wa (lf_A g) [97, 110, 100] → fs1 = fs.set 92 (.ref q) → fs1.length = 122 → Y1 = Y ++ [(q, .inl (cy 2, 3, .inl g))] → va_P (dC, dI) vwCl ((a0, .inr (10, fs1)) :: Y1) H1 → va_D A ((a0, .inr (10, fs1)) :: Y1) → va_S A H0 H1 locs1 → W p l e R s m args below meth c H1 locs1 (cells + 1) (slots + 3) Q (F0 m 1294 ls [])) : W p l e R s m args below meth c H locs cells slots Q (F0 m 1272 ls []) := by
  have hx := C0.1
  have hb := C0.2.1
  refine lv_aload_n hx hb dX10_init_1272 rfl (lv_at hl 0 rfl) ?_
  refine lv_iconst (v := 3) hx hb dX10_init_1273 (by decide) ?_
  refine k_newa C0 2 (ty := .char) rfl (atype := .char) rfl wd161 hP hD hS hA (a0 := (3, .inl (fun _ => 0))) (fun _ => rfl) (by decide) (by decide) (Nat.le_of_ble_eq_true rfl) (cells + 1) (slots + 3) (Nat.le_refl _) (Nat.le_refl _) h3 h4 dX10_init_1274 (fun q H hP hD hS => ?_)
  refine lv_dup hx hb dX10_init_1276 rfl ?_
  refine lv_iconst (v := 0) hx hb dX10_init_1277 (by decide) ?_
  refine lv_bipush (v := 97) hx hb dX10_init_1278 (by decide) ?_
  refine k_castU C0 hP hD hS (k_in 0 3 (by decide)) dX10_init_1280 (fun g3 H locs e3 hP hD hS => ?_)
  refine lv_dup hx hb dX10_init_1281 rfl ?_
  refine lv_iconst (v := 1) hx hb dX10_init_1282 (by decide) ?_
  refine lv_bipush (v := 110) hx hb dX10_init_1283 (by decide) ?_
  refine k_castU C0 hP hD hS (k_in 1 3 (by decide)) dX10_init_1285 (fun g7 H locs e7 hP hD hS => ?_)
  refine lv_dup hx hb dX10_init_1286 rfl ?_
  refine lv_iconst (v := 2) hx hb dX10_init_1287 (by decide) ?_
  refine lv_bipush (v := 100) hx hb dX10_init_1288 (by decide) ?_
  refine k_castU C0 hP hD hS (k_in 2 3 (by decide)) dX10_init_1290 (fun g11 H locs e11 hP hD hS => ?_)
  refine k_putF C0 hin fp_X10_210 hP hD hS 0 rfl rfl rfl (Nat.lt_of_lt_of_eq (by decide) hlen.symm) dX10_init_1291 (fun H locs hP hD hS => ?_)
  have hg : wa (lf_A g11) [97, 110, 100] := by
    subst e11 e7 e3
    unfold wa
    decide +kernel
  exact kk q g11 _ _ H locs hg rfl (by rw [List.length_set]; exact hlen) rfl hP hD hS
set_option maxHeartbeats 4000000 in
theorem mi_93 {p : Program} {l : Launch} {e : Env} {R : Room} {s : State} {m : MethodId} {args : Array Value} {below : List Frame} {meth : Method} {c : Code} {H : Heap} {locs : List Loc} {cells slots : Nat} {Q : State → Prop} {ls : Array Slot} {A : Nat → Prop} {H0 : Heap} {dC : Nat → ClassId} {dI : Nat → Nat → Nat} {cy : Nat → ClassId} {sq : Nat → Nat} {a0 : Nat} {fs : List Value} {Y : va_W} (C0 : k_cx p s m args c cX10_init 1 RX10 dC dI cy sq) (hin : meth.name = "<init>") (hA : ∀ q, H0.size ≤ q → A q) (hl : lv_has ls 1 [(0, .ref a0)]) (hlen : fs.length = 122) (hP : va_P (dC, dI) vwCl ((a0, .inr (10, fs)) :: Y) H) (hD : va_D A ((a0, .inr (10, fs)) :: Y)) (hS : va_S A H0 H locs) (h3 : cells + 1 ≤ R.cells) (h4 : slots + 2 ≤ R.slots) (kk : ∀ (q : Nat) (g : Nat → Int32) (fs1 : List Value) (Y1 : va_W) (H1 : Heap) (locs1 : List Loc), wa (lf_A g) [111, 114] → fs1 = fs.set 93 (.ref q) → fs1.length = 122 → Y1 = Y ++ [(q, .inl (cy 2, 2, .inl g))] → va_P (dC, dI) vwCl ((a0, .inr (10, fs1)) :: Y1) H1 → va_D A ((a0, .inr (10, fs1)) :: Y1) → va_S A H0 H1 locs1 → W p l e R s m args below meth c H1 locs1 (cells + 1) (slots + 2) Q (F0 m 1311 ls [])) : W p l e R s m args below meth c H locs cells slots Q (F0 m 1294 ls []) := by
  have hx := C0.1
  have hb := C0.2.1
  refine lv_aload_n hx hb dX10_init_1294 rfl (lv_at hl 0 rfl) ?_
  refine lv_iconst (v := 2) hx hb dX10_init_1295 (by decide) ?_
  refine k_newa C0 2 (ty := .char) rfl (atype := .char) rfl wd161 hP hD hS hA (a0 := (2, .inl (fun _ => 0))) (fun _ => rfl) (by decide) (by decide) (Nat.le_of_ble_eq_true rfl) (cells + 1) (slots + 2) (Nat.le_refl _) (Nat.le_refl _) h3 h4 dX10_init_1296 (fun q H hP hD hS => ?_)
  refine lv_dup hx hb dX10_init_1298 rfl ?_
  refine lv_iconst (v := 0) hx hb dX10_init_1299 (by decide) ?_
  refine lv_bipush (v := 111) hx hb dX10_init_1300 (by decide) ?_
  refine k_castU C0 hP hD hS (k_in 0 2 (by decide)) dX10_init_1302 (fun g3 H locs e3 hP hD hS => ?_)
  refine lv_dup hx hb dX10_init_1303 rfl ?_
  refine lv_iconst (v := 1) hx hb dX10_init_1304 (by decide) ?_
  refine lv_bipush (v := 114) hx hb dX10_init_1305 (by decide) ?_
  refine k_castU C0 hP hD hS (k_in 1 2 (by decide)) dX10_init_1307 (fun g7 H locs e7 hP hD hS => ?_)
  refine k_putF C0 hin fp_X10_213 hP hD hS 0 rfl rfl rfl (Nat.lt_of_lt_of_eq (by decide) hlen.symm) dX10_init_1308 (fun H locs hP hD hS => ?_)
  have hg : wa (lf_A g7) [111, 114] := by
    subst e7 e3
    unfold wa
    decide +kernel
  exact kk q g7 _ _ H locs hg rfl (by rw [List.length_set]; exact hlen) rfl hP hD hS
set_option maxHeartbeats 4000000 in
theorem mi_94 {p : Program} {l : Launch} {e : Env} {R : Room} {s : State} {m : MethodId} {args : Array Value} {below : List Frame} {meth : Method} {c : Code} {H : Heap} {locs : List Loc} {cells slots : Nat} {Q : State → Prop} {ls : Array Slot} {A : Nat → Prop} {H0 : Heap} {dC : Nat → ClassId} {dI : Nat → Nat → Nat} {cy : Nat → ClassId} {sq : Nat → Nat} {a0 : Nat} {fs : List Value} {Y : va_W} (C0 : k_cx p s m args c cX10_init 1 RX10 dC dI cy sq) (hin : meth.name = "<init>") (hA : ∀ q, H0.size ≤ q → A q) (hl : lv_has ls 1 [(0, .ref a0)]) (hlen : fs.length = 122) (hP : va_P (dC, dI) vwCl ((a0, .inr (10, fs)) :: Y) H) (hD : va_D A ((a0, .inr (10, fs)) :: Y)) (hS : va_S A H0 H locs) (h3 : cells + 1 ≤ R.cells) (h4 : slots + 3 ≤ R.slots) (kk : ∀ (q : Nat) (g : Nat → Int32) (fs1 : List Value) (Y1 : va_W) (H1 : Heap) (locs1 : List Loc), wa (lf_A g) [97, 108, 108] → fs1 = fs.set 94 (.ref q) → fs1.length = 122 → Y1 = Y ++ [(q, .inl (cy 2, 3, .inl g))] → va_P (dC, dI) vwCl ((a0, .inr (10, fs1)) :: Y1) H1 → va_D A ((a0, .inr (10, fs1)) :: Y1) → va_S A H0 H1 locs1 → W p l e R s m args below meth c H1 locs1 (cells + 1) (slots + 3) Q (F0 m 1333 ls [])) : W p l e R s m args below meth c H locs cells slots Q (F0 m 1311 ls []) := by
  have hx := C0.1
  have hb := C0.2.1
  refine lv_aload_n hx hb dX10_init_1311 rfl (lv_at hl 0 rfl) ?_
  refine lv_iconst (v := 3) hx hb dX10_init_1312 (by decide) ?_
  refine k_newa C0 2 (ty := .char) rfl (atype := .char) rfl wd161 hP hD hS hA (a0 := (3, .inl (fun _ => 0))) (fun _ => rfl) (by decide) (by decide) (Nat.le_of_ble_eq_true rfl) (cells + 1) (slots + 3) (Nat.le_refl _) (Nat.le_refl _) h3 h4 dX10_init_1313 (fun q H hP hD hS => ?_)
  refine lv_dup hx hb dX10_init_1315 rfl ?_
  refine lv_iconst (v := 0) hx hb dX10_init_1316 (by decide) ?_
  refine lv_bipush (v := 97) hx hb dX10_init_1317 (by decide) ?_
  refine k_castU C0 hP hD hS (k_in 0 3 (by decide)) dX10_init_1319 (fun g3 H locs e3 hP hD hS => ?_)
  refine lv_dup hx hb dX10_init_1320 rfl ?_
  refine lv_iconst (v := 1) hx hb dX10_init_1321 (by decide) ?_
  refine lv_bipush (v := 108) hx hb dX10_init_1322 (by decide) ?_
  refine k_castU C0 hP hD hS (k_in 1 3 (by decide)) dX10_init_1324 (fun g7 H locs e7 hP hD hS => ?_)
  refine lv_dup hx hb dX10_init_1325 rfl ?_
  refine lv_iconst (v := 2) hx hb dX10_init_1326 (by decide) ?_
  refine lv_bipush (v := 108) hx hb dX10_init_1327 (by decide) ?_
  refine k_castU C0 hP hD hS (k_in 2 3 (by decide)) dX10_init_1329 (fun g11 H locs e11 hP hD hS => ?_)
  refine k_putF C0 hin fp_X10_216 hP hD hS 0 rfl rfl rfl (Nat.lt_of_lt_of_eq (by decide) hlen.symm) dX10_init_1330 (fun H locs hP hD hS => ?_)
  have hg : wa (lf_A g11) [97, 108, 108] := by
    subst e11 e7 e3
    unfold wa
    decide +kernel
  exact kk q g11 _ _ H locs hg rfl (by rw [List.length_set]; exact hlen) rfl hP hD hS
set_option maxHeartbeats 4000000 in
theorem mi_95 {p : Program} {l : Launch} {e : Env} {R : Room} {s : State} {m : MethodId} {args : Array Value} {below : List Frame} {meth : Method} {c : Code} {H : Heap} {locs : List Loc} {cells slots : Nat} {Q : State → Prop} {ls : Array Slot} {A : Nat → Prop} {H0 : Heap} {dC : Nat → ClassId} {dI : Nat → Nat → Nat} {cy : Nat → ClassId} {sq : Nat → Nat} {a0 : Nat} {fs : List Value} {Y : va_W} (C0 : k_cx p s m args c cX10_init 1 RX10 dC dI cy sq) (hin : meth.name = "<init>") (hA : ∀ q, H0.size ≤ q → A q) (hl : lv_has ls 1 [(0, .ref a0)]) (hlen : fs.length = 122) (hP : va_P (dC, dI) vwCl ((a0, .inr (10, fs)) :: Y) H) (hD : va_D A ((a0, .inr (10, fs)) :: Y)) (hS : va_S A H0 H locs) (h3 : cells + 1 ≤ R.cells) (h4 : slots + 3 ≤ R.slots) (kk : ∀ (q : Nat) (g : Nat → Int32) (fs1 : List Value) (Y1 : va_W) (H1 : Heap) (locs1 : List Loc), wa (lf_A g) [109, 105, 110] → fs1 = fs.set 95 (.ref q) → fs1.length = 122 → Y1 = Y ++ [(q, .inl (cy 2, 3, .inl g))] → va_P (dC, dI) vwCl ((a0, .inr (10, fs1)) :: Y1) H1 → va_D A ((a0, .inr (10, fs1)) :: Y1) → va_S A H0 H1 locs1 → W p l e R s m args below meth c H1 locs1 (cells + 1) (slots + 3) Q (F0 m 1355 ls [])) : W p l e R s m args below meth c H locs cells slots Q (F0 m 1333 ls []) := by
  have hx := C0.1
  have hb := C0.2.1
  refine lv_aload_n hx hb dX10_init_1333 rfl (lv_at hl 0 rfl) ?_
  refine lv_iconst (v := 3) hx hb dX10_init_1334 (by decide) ?_
  refine k_newa C0 2 (ty := .char) rfl (atype := .char) rfl wd161 hP hD hS hA (a0 := (3, .inl (fun _ => 0))) (fun _ => rfl) (by decide) (by decide) (Nat.le_of_ble_eq_true rfl) (cells + 1) (slots + 3) (Nat.le_refl _) (Nat.le_refl _) h3 h4 dX10_init_1335 (fun q H hP hD hS => ?_)
  refine lv_dup hx hb dX10_init_1337 rfl ?_
  refine lv_iconst (v := 0) hx hb dX10_init_1338 (by decide) ?_
  refine lv_bipush (v := 109) hx hb dX10_init_1339 (by decide) ?_
  refine k_castU C0 hP hD hS (k_in 0 3 (by decide)) dX10_init_1341 (fun g3 H locs e3 hP hD hS => ?_)
  refine lv_dup hx hb dX10_init_1342 rfl ?_
  refine lv_iconst (v := 1) hx hb dX10_init_1343 (by decide) ?_
  refine lv_bipush (v := 105) hx hb dX10_init_1344 (by decide) ?_
  refine k_castU C0 hP hD hS (k_in 1 3 (by decide)) dX10_init_1346 (fun g7 H locs e7 hP hD hS => ?_)
  refine lv_dup hx hb dX10_init_1347 rfl ?_
  refine lv_iconst (v := 2) hx hb dX10_init_1348 (by decide) ?_
  refine lv_bipush (v := 110) hx hb dX10_init_1349 (by decide) ?_
  refine k_castU C0 hP hD hS (k_in 2 3 (by decide)) dX10_init_1351 (fun g11 H locs e11 hP hD hS => ?_)
  refine k_putF C0 hin fp_X10_219 hP hD hS 0 rfl rfl rfl (Nat.lt_of_lt_of_eq (by decide) hlen.symm) dX10_init_1352 (fun H locs hP hD hS => ?_)
  have hg : wa (lf_A g11) [109, 105, 110] := by
    subst e11 e7 e3
    unfold wa
    decide +kernel
  exact kk q g11 _ _ H locs hg rfl (by rw [List.length_set]; exact hlen) rfl hP hD hS
set_option maxHeartbeats 4000000 in
theorem mi_96 {p : Program} {l : Launch} {e : Env} {R : Room} {s : State} {m : MethodId} {args : Array Value} {below : List Frame} {meth : Method} {c : Code} {H : Heap} {locs : List Loc} {cells slots : Nat} {Q : State → Prop} {ls : Array Slot} {A : Nat → Prop} {H0 : Heap} {dC : Nat → ClassId} {dI : Nat → Nat → Nat} {cy : Nat → ClassId} {sq : Nat → Nat} {a0 : Nat} {fs : List Value} {Y : va_W} (C0 : k_cx p s m args c cX10_init 1 RX10 dC dI cy sq) (hin : meth.name = "<init>") (hA : ∀ q, H0.size ≤ q → A q) (hl : lv_has ls 1 [(0, .ref a0)]) (hlen : fs.length = 122) (hP : va_P (dC, dI) vwCl ((a0, .inr (10, fs)) :: Y) H) (hD : va_D A ((a0, .inr (10, fs)) :: Y)) (hS : va_S A H0 H locs) (h3 : cells + 1 ≤ R.cells) (h4 : slots + 3 ≤ R.slots) (kk : ∀ (q : Nat) (g : Nat → Int32) (fs1 : List Value) (Y1 : va_W) (H1 : Heap) (locs1 : List Loc), wa (lf_A g) [109, 97, 120] → fs1 = fs.set 96 (.ref q) → fs1.length = 122 → Y1 = Y ++ [(q, .inl (cy 2, 3, .inl g))] → va_P (dC, dI) vwCl ((a0, .inr (10, fs1)) :: Y1) H1 → va_D A ((a0, .inr (10, fs1)) :: Y1) → va_S A H0 H1 locs1 → W p l e R s m args below meth c H1 locs1 (cells + 1) (slots + 3) Q (F0 m 1377 ls [])) : W p l e R s m args below meth c H locs cells slots Q (F0 m 1355 ls []) := by
  have hx := C0.1
  have hb := C0.2.1
  refine lv_aload_n hx hb dX10_init_1355 rfl (lv_at hl 0 rfl) ?_
  refine lv_iconst (v := 3) hx hb dX10_init_1356 (by decide) ?_
  refine k_newa C0 2 (ty := .char) rfl (atype := .char) rfl wd161 hP hD hS hA (a0 := (3, .inl (fun _ => 0))) (fun _ => rfl) (by decide) (by decide) (Nat.le_of_ble_eq_true rfl) (cells + 1) (slots + 3) (Nat.le_refl _) (Nat.le_refl _) h3 h4 dX10_init_1357 (fun q H hP hD hS => ?_)
  refine lv_dup hx hb dX10_init_1359 rfl ?_
  refine lv_iconst (v := 0) hx hb dX10_init_1360 (by decide) ?_
  refine lv_bipush (v := 109) hx hb dX10_init_1361 (by decide) ?_
  refine k_castU C0 hP hD hS (k_in 0 3 (by decide)) dX10_init_1363 (fun g3 H locs e3 hP hD hS => ?_)
  refine lv_dup hx hb dX10_init_1364 rfl ?_
  refine lv_iconst (v := 1) hx hb dX10_init_1365 (by decide) ?_
  refine lv_bipush (v := 97) hx hb dX10_init_1366 (by decide) ?_
  refine k_castU C0 hP hD hS (k_in 1 3 (by decide)) dX10_init_1368 (fun g7 H locs e7 hP hD hS => ?_)
  refine lv_dup hx hb dX10_init_1369 rfl ?_
  refine lv_iconst (v := 2) hx hb dX10_init_1370 (by decide) ?_
  refine lv_bipush (v := 120) hx hb dX10_init_1371 (by decide) ?_
  refine k_castU C0 hP hD hS (k_in 2 3 (by decide)) dX10_init_1373 (fun g11 H locs e11 hP hD hS => ?_)
  refine k_putF C0 hin fp_X10_222 hP hD hS 0 rfl rfl rfl (Nat.lt_of_lt_of_eq (by decide) hlen.symm) dX10_init_1374 (fun H locs hP hD hS => ?_)
  have hg : wa (lf_A g11) [109, 97, 120] := by
    subst e11 e7 e3
    unfold wa
    decide +kernel
  exact kk q g11 _ _ H locs hg rfl (by rw [List.length_set]; exact hlen) rfl hP hD hS
set_option maxHeartbeats 4000000 in
theorem mi_97 {p : Program} {l : Launch} {e : Env} {R : Room} {s : State} {m : MethodId} {args : Array Value} {below : List Frame} {meth : Method} {c : Code} {H : Heap} {locs : List Loc} {cells slots : Nat} {Q : State → Prop} {ls : Array Slot} {A : Nat → Prop} {H0 : Heap} {dC : Nat → ClassId} {dI : Nat → Nat → Nat} {cy : Nat → ClassId} {sq : Nat → Nat} {a0 : Nat} {fs : List Value} {Y : va_W} (C0 : k_cx p s m args c cX10_init 1 RX10 dC dI cy sq) (hin : meth.name = "<init>") (hA : ∀ q, H0.size ≤ q → A q) (hl : lv_has ls 1 [(0, .ref a0)]) (hlen : fs.length = 122) (hP : va_P (dC, dI) vwCl ((a0, .inr (10, fs)) :: Y) H) (hD : va_D A ((a0, .inr (10, fs)) :: Y)) (hS : va_S A H0 H locs) (h3 : cells + 1 ≤ R.cells) (h4 : slots + 6 ≤ R.slots) (kk : ∀ (q : Nat) (g : Nat → Int32) (fs1 : List Value) (Y1 : va_W) (H1 : Heap) (locs1 : List Loc), wa (lf_A g) [115, 101, 99, 111, 110, 100] → fs1 = fs.set 97 (.ref q) → fs1.length = 122 → Y1 = Y ++ [(q, .inl (cy 2, 6, .inl g))] → va_P (dC, dI) vwCl ((a0, .inr (10, fs1)) :: Y1) H1 → va_D A ((a0, .inr (10, fs1)) :: Y1) → va_S A H0 H1 locs1 → W p l e R s m args below meth c H1 locs1 (cells + 1) (slots + 6) Q (F0 m 1415 ls [])) : W p l e R s m args below meth c H locs cells slots Q (F0 m 1377 ls []) := by
  have hx := C0.1
  have hb := C0.2.1
  refine lv_aload_n hx hb dX10_init_1377 rfl (lv_at hl 0 rfl) ?_
  refine lv_bipush (v := 6) hx hb dX10_init_1378 (by decide) ?_
  refine k_newa C0 2 (ty := .char) rfl (atype := .char) rfl wd161 hP hD hS hA (a0 := (6, .inl (fun _ => 0))) (fun _ => rfl) (by decide) (by decide) (Nat.le_of_ble_eq_true rfl) (cells + 1) (slots + 6) (Nat.le_refl _) (Nat.le_refl _) h3 h4 dX10_init_1380 (fun q H hP hD hS => ?_)
  refine lv_dup hx hb dX10_init_1382 rfl ?_
  refine lv_iconst (v := 0) hx hb dX10_init_1383 (by decide) ?_
  refine lv_bipush (v := 115) hx hb dX10_init_1384 (by decide) ?_
  refine k_castU C0 hP hD hS (k_in 0 6 (by decide)) dX10_init_1386 (fun g3 H locs e3 hP hD hS => ?_)
  refine lv_dup hx hb dX10_init_1387 rfl ?_
  refine lv_iconst (v := 1) hx hb dX10_init_1388 (by decide) ?_
  refine lv_bipush (v := 101) hx hb dX10_init_1389 (by decide) ?_
  refine k_castU C0 hP hD hS (k_in 1 6 (by decide)) dX10_init_1391 (fun g7 H locs e7 hP hD hS => ?_)
  refine lv_dup hx hb dX10_init_1392 rfl ?_
  refine lv_iconst (v := 2) hx hb dX10_init_1393 (by decide) ?_
  refine lv_bipush (v := 99) hx hb dX10_init_1394 (by decide) ?_
  refine k_castU C0 hP hD hS (k_in 2 6 (by decide)) dX10_init_1396 (fun g11 H locs e11 hP hD hS => ?_)
  refine lv_dup hx hb dX10_init_1397 rfl ?_
  refine lv_iconst (v := 3) hx hb dX10_init_1398 (by decide) ?_
  refine lv_bipush (v := 111) hx hb dX10_init_1399 (by decide) ?_
  refine k_castU C0 hP hD hS (k_in 3 6 (by decide)) dX10_init_1401 (fun g15 H locs e15 hP hD hS => ?_)
  refine lv_dup hx hb dX10_init_1402 rfl ?_
  refine lv_iconst (v := 4) hx hb dX10_init_1403 (by decide) ?_
  refine lv_bipush (v := 110) hx hb dX10_init_1404 (by decide) ?_
  refine k_castU C0 hP hD hS (k_in 4 6 (by decide)) dX10_init_1406 (fun g19 H locs e19 hP hD hS => ?_)
  refine lv_dup hx hb dX10_init_1407 rfl ?_
  refine lv_iconst (v := 5) hx hb dX10_init_1408 (by decide) ?_
  refine lv_bipush (v := 100) hx hb dX10_init_1409 (by decide) ?_
  refine k_castU C0 hP hD hS (k_in 5 6 (by decide)) dX10_init_1411 (fun g23 H locs e23 hP hD hS => ?_)
  refine k_putF C0 hin fp_X10_225 hP hD hS 0 rfl rfl rfl (Nat.lt_of_lt_of_eq (by decide) hlen.symm) dX10_init_1412 (fun H locs hP hD hS => ?_)
  have hg : wa (lf_A g23) [115, 101, 99, 111, 110, 100] := by
    subst e23 e19 e15 e11 e7 e3
    unfold wa
    decide +kernel
  exact kk q g23 _ _ H locs hg rfl (by rw [List.length_set]; exact hlen) rfl hP hD hS
set_option maxHeartbeats 4000000 in
theorem mi_98 {p : Program} {l : Launch} {e : Env} {R : Room} {s : State} {m : MethodId} {args : Array Value} {below : List Frame} {meth : Method} {c : Code} {H : Heap} {locs : List Loc} {cells slots : Nat} {Q : State → Prop} {ls : Array Slot} {A : Nat → Prop} {H0 : Heap} {dC : Nat → ClassId} {dI : Nat → Nat → Nat} {cy : Nat → ClassId} {sq : Nat → Nat} {a0 : Nat} {fs : List Value} {Y : va_W} (C0 : k_cx p s m args c cX10_init 1 RX10 dC dI cy sq) (hin : meth.name = "<init>") (hA : ∀ q, H0.size ≤ q → A q) (hl : lv_has ls 1 [(0, .ref a0)]) (hlen : fs.length = 122) (hP : va_P (dC, dI) vwCl ((a0, .inr (10, fs)) :: Y) H) (hD : va_D A ((a0, .inr (10, fs)) :: Y)) (hS : va_S A H0 H locs) (h3 : cells + 1 ≤ R.cells) (h4 : slots + 3 ≤ R.slots) (kk : ∀ (q : Nat) (g : Nat → Int32) (fs1 : List Value) (Y1 : va_W) (H1 : Heap) (locs1 : List Loc), wa (lf_A g) [100, 97, 121] → fs1 = fs.set 98 (.ref q) → fs1.length = 122 → Y1 = Y ++ [(q, .inl (cy 2, 3, .inl g))] → va_P (dC, dI) vwCl ((a0, .inr (10, fs1)) :: Y1) H1 → va_D A ((a0, .inr (10, fs1)) :: Y1) → va_S A H0 H1 locs1 → W p l e R s m args below meth c H1 locs1 (cells + 1) (slots + 3) Q (F0 m 1437 ls [])) : W p l e R s m args below meth c H locs cells slots Q (F0 m 1415 ls []) := by
  have hx := C0.1
  have hb := C0.2.1
  refine lv_aload_n hx hb dX10_init_1415 rfl (lv_at hl 0 rfl) ?_
  refine lv_iconst (v := 3) hx hb dX10_init_1416 (by decide) ?_
  refine k_newa C0 2 (ty := .char) rfl (atype := .char) rfl wd161 hP hD hS hA (a0 := (3, .inl (fun _ => 0))) (fun _ => rfl) (by decide) (by decide) (Nat.le_of_ble_eq_true rfl) (cells + 1) (slots + 3) (Nat.le_refl _) (Nat.le_refl _) h3 h4 dX10_init_1417 (fun q H hP hD hS => ?_)
  refine lv_dup hx hb dX10_init_1419 rfl ?_
  refine lv_iconst (v := 0) hx hb dX10_init_1420 (by decide) ?_
  refine lv_bipush (v := 100) hx hb dX10_init_1421 (by decide) ?_
  refine k_castU C0 hP hD hS (k_in 0 3 (by decide)) dX10_init_1423 (fun g3 H locs e3 hP hD hS => ?_)
  refine lv_dup hx hb dX10_init_1424 rfl ?_
  refine lv_iconst (v := 1) hx hb dX10_init_1425 (by decide) ?_
  refine lv_bipush (v := 97) hx hb dX10_init_1426 (by decide) ?_
  refine k_castU C0 hP hD hS (k_in 1 3 (by decide)) dX10_init_1428 (fun g7 H locs e7 hP hD hS => ?_)
  refine lv_dup hx hb dX10_init_1429 rfl ?_
  refine lv_iconst (v := 2) hx hb dX10_init_1430 (by decide) ?_
  refine lv_bipush (v := 121) hx hb dX10_init_1431 (by decide) ?_
  refine k_castU C0 hP hD hS (k_in 2 3 (by decide)) dX10_init_1433 (fun g11 H locs e11 hP hD hS => ?_)
  refine k_putF C0 hin fp_X10_228 hP hD hS 0 rfl rfl rfl (Nat.lt_of_lt_of_eq (by decide) hlen.symm) dX10_init_1434 (fun H locs hP hD hS => ?_)
  have hg : wa (lf_A g11) [100, 97, 121] := by
    subst e11 e7 e3
    unfold wa
    decide +kernel
  exact kk q g11 _ _ H locs hg rfl (by rw [List.length_set]; exact hlen) rfl hP hD hS
set_option maxHeartbeats 4000000 in
theorem mi_99 {p : Program} {l : Launch} {e : Env} {R : Room} {s : State} {m : MethodId} {args : Array Value} {below : List Frame} {meth : Method} {c : Code} {H : Heap} {locs : List Loc} {cells slots : Nat} {Q : State → Prop} {ls : Array Slot} {A : Nat → Prop} {H0 : Heap} {dC : Nat → ClassId} {dI : Nat → Nat → Nat} {cy : Nat → ClassId} {sq : Nat → Nat} {a0 : Nat} {fs : List Value} {Y : va_W} (C0 : k_cx p s m args c cX10_init 1 RX10 dC dI cy sq) (hin : meth.name = "<init>") (hA : ∀ q, H0.size ≤ q → A q) (hl : lv_has ls 1 [(0, .ref a0)]) (hlen : fs.length = 122) (hP : va_P (dC, dI) vwCl ((a0, .inr (10, fs)) :: Y) H) (hD : va_D A ((a0, .inr (10, fs)) :: Y)) (hS : va_S A H0 H locs) (h3 : cells + 1 ≤ R.cells) (h4 : slots + 5 ≤ R.slots) (kk : ∀ (q : Nat) (g : Nat → Int32) (fs1 : List Value) (Y1 : va_W) (H1 : Heap) (locs1 : List Loc), wa (lf_A g) [112, 104, 97, 115, 101] → fs1 = fs.set 99 (.ref q) → fs1.length = 122 → Y1 = Y ++ [(q, .inl (cy 2, 5, .inl g))] → va_P (dC, dI) vwCl ((a0, .inr (10, fs1)) :: Y1) H1 → va_D A ((a0, .inr (10, fs1)) :: Y1) → va_S A H0 H1 locs1 → W p l e R s m args below meth c H1 locs1 (cells + 1) (slots + 5) Q (F0 m 1469 ls [])) : W p l e R s m args below meth c H locs cells slots Q (F0 m 1437 ls []) := by
  have hx := C0.1
  have hb := C0.2.1
  refine lv_aload_n hx hb dX10_init_1437 rfl (lv_at hl 0 rfl) ?_
  refine lv_iconst (v := 5) hx hb dX10_init_1438 (by decide) ?_
  refine k_newa C0 2 (ty := .char) rfl (atype := .char) rfl wd161 hP hD hS hA (a0 := (5, .inl (fun _ => 0))) (fun _ => rfl) (by decide) (by decide) (Nat.le_of_ble_eq_true rfl) (cells + 1) (slots + 5) (Nat.le_refl _) (Nat.le_refl _) h3 h4 dX10_init_1439 (fun q H hP hD hS => ?_)
  refine lv_dup hx hb dX10_init_1441 rfl ?_
  refine lv_iconst (v := 0) hx hb dX10_init_1442 (by decide) ?_
  refine lv_bipush (v := 112) hx hb dX10_init_1443 (by decide) ?_
  refine k_castU C0 hP hD hS (k_in 0 5 (by decide)) dX10_init_1445 (fun g3 H locs e3 hP hD hS => ?_)
  refine lv_dup hx hb dX10_init_1446 rfl ?_
  refine lv_iconst (v := 1) hx hb dX10_init_1447 (by decide) ?_
  refine lv_bipush (v := 104) hx hb dX10_init_1448 (by decide) ?_
  refine k_castU C0 hP hD hS (k_in 1 5 (by decide)) dX10_init_1450 (fun g7 H locs e7 hP hD hS => ?_)
  refine lv_dup hx hb dX10_init_1451 rfl ?_
  refine lv_iconst (v := 2) hx hb dX10_init_1452 (by decide) ?_
  refine lv_bipush (v := 97) hx hb dX10_init_1453 (by decide) ?_
  refine k_castU C0 hP hD hS (k_in 2 5 (by decide)) dX10_init_1455 (fun g11 H locs e11 hP hD hS => ?_)
  refine lv_dup hx hb dX10_init_1456 rfl ?_
  refine lv_iconst (v := 3) hx hb dX10_init_1457 (by decide) ?_
  refine lv_bipush (v := 115) hx hb dX10_init_1458 (by decide) ?_
  refine k_castU C0 hP hD hS (k_in 3 5 (by decide)) dX10_init_1460 (fun g15 H locs e15 hP hD hS => ?_)
  refine lv_dup hx hb dX10_init_1461 rfl ?_
  refine lv_iconst (v := 4) hx hb dX10_init_1462 (by decide) ?_
  refine lv_bipush (v := 101) hx hb dX10_init_1463 (by decide) ?_
  refine k_castU C0 hP hD hS (k_in 4 5 (by decide)) dX10_init_1465 (fun g19 H locs e19 hP hD hS => ?_)
  refine k_putF C0 hin fp_X10_231 hP hD hS 0 rfl rfl rfl (Nat.lt_of_lt_of_eq (by decide) hlen.symm) dX10_init_1466 (fun H locs hP hD hS => ?_)
  have hg : wa (lf_A g19) [112, 104, 97, 115, 101] := by
    subst e19 e15 e11 e7 e3
    unfold wa
    decide +kernel
  exact kk q g19 _ _ H locs hg rfl (by rw [List.length_set]; exact hlen) rfl hP hD hS
set_option maxHeartbeats 4000000 in
theorem mi_100 {p : Program} {l : Launch} {e : Env} {R : Room} {s : State} {m : MethodId} {args : Array Value} {below : List Frame} {meth : Method} {c : Code} {H : Heap} {locs : List Loc} {cells slots : Nat} {Q : State → Prop} {ls : Array Slot} {A : Nat → Prop} {H0 : Heap} {dC : Nat → ClassId} {dI : Nat → Nat → Nat} {cy : Nat → ClassId} {sq : Nat → Nat} {a0 : Nat} {fs : List Value} {Y : va_W} (C0 : k_cx p s m args c cX10_init 1 RX10 dC dI cy sq) (hin : meth.name = "<init>") (hA : ∀ q, H0.size ≤ q → A q) (hl : lv_has ls 1 [(0, .ref a0)]) (hlen : fs.length = 122) (hP : va_P (dC, dI) vwCl ((a0, .inr (10, fs)) :: Y) H) (hD : va_D A ((a0, .inr (10, fs)) :: Y)) (hS : va_S A H0 H locs) (h3 : cells + 1 ≤ R.cells) (h4 : slots + 6 ≤ R.slots) (kk : ∀ (q : Nat) (g : Nat → Int32) (fs1 : List Value) (Y1 : va_W) (H1 : Heap) (locs1 : List Loc), wa (lf_A g) [119, 97, 105, 116, 101, 100] → fs1 = fs.set 100 (.ref q) → fs1.length = 122 → Y1 = Y ++ [(q, .inl (cy 2, 6, .inl g))] → va_P (dC, dI) vwCl ((a0, .inr (10, fs1)) :: Y1) H1 → va_D A ((a0, .inr (10, fs1)) :: Y1) → va_S A H0 H1 locs1 → W p l e R s m args below meth c H1 locs1 (cells + 1) (slots + 6) Q (F0 m 1507 ls [])) : W p l e R s m args below meth c H locs cells slots Q (F0 m 1469 ls []) := by
  have hx := C0.1
  have hb := C0.2.1
  refine lv_aload_n hx hb dX10_init_1469 rfl (lv_at hl 0 rfl) ?_
  refine lv_bipush (v := 6) hx hb dX10_init_1470 (by decide) ?_
  refine k_newa C0 2 (ty := .char) rfl (atype := .char) rfl wd161 hP hD hS hA (a0 := (6, .inl (fun _ => 0))) (fun _ => rfl) (by decide) (by decide) (Nat.le_of_ble_eq_true rfl) (cells + 1) (slots + 6) (Nat.le_refl _) (Nat.le_refl _) h3 h4 dX10_init_1472 (fun q H hP hD hS => ?_)
  refine lv_dup hx hb dX10_init_1474 rfl ?_
  refine lv_iconst (v := 0) hx hb dX10_init_1475 (by decide) ?_
  refine lv_bipush (v := 119) hx hb dX10_init_1476 (by decide) ?_
  refine k_castU C0 hP hD hS (k_in 0 6 (by decide)) dX10_init_1478 (fun g3 H locs e3 hP hD hS => ?_)
  refine lv_dup hx hb dX10_init_1479 rfl ?_
  refine lv_iconst (v := 1) hx hb dX10_init_1480 (by decide) ?_
  refine lv_bipush (v := 97) hx hb dX10_init_1481 (by decide) ?_
  refine k_castU C0 hP hD hS (k_in 1 6 (by decide)) dX10_init_1483 (fun g7 H locs e7 hP hD hS => ?_)
  refine lv_dup hx hb dX10_init_1484 rfl ?_
  refine lv_iconst (v := 2) hx hb dX10_init_1485 (by decide) ?_
  refine lv_bipush (v := 105) hx hb dX10_init_1486 (by decide) ?_
  refine k_castU C0 hP hD hS (k_in 2 6 (by decide)) dX10_init_1488 (fun g11 H locs e11 hP hD hS => ?_)
  refine lv_dup hx hb dX10_init_1489 rfl ?_
  refine lv_iconst (v := 3) hx hb dX10_init_1490 (by decide) ?_
  refine lv_bipush (v := 116) hx hb dX10_init_1491 (by decide) ?_
  refine k_castU C0 hP hD hS (k_in 3 6 (by decide)) dX10_init_1493 (fun g15 H locs e15 hP hD hS => ?_)
  refine lv_dup hx hb dX10_init_1494 rfl ?_
  refine lv_iconst (v := 4) hx hb dX10_init_1495 (by decide) ?_
  refine lv_bipush (v := 101) hx hb dX10_init_1496 (by decide) ?_
  refine k_castU C0 hP hD hS (k_in 4 6 (by decide)) dX10_init_1498 (fun g19 H locs e19 hP hD hS => ?_)
  refine lv_dup hx hb dX10_init_1499 rfl ?_
  refine lv_iconst (v := 5) hx hb dX10_init_1500 (by decide) ?_
  refine lv_bipush (v := 100) hx hb dX10_init_1501 (by decide) ?_
  refine k_castU C0 hP hD hS (k_in 5 6 (by decide)) dX10_init_1503 (fun g23 H locs e23 hP hD hS => ?_)
  refine k_putF C0 hin fp_X10_234 hP hD hS 0 rfl rfl rfl (Nat.lt_of_lt_of_eq (by decide) hlen.symm) dX10_init_1504 (fun H locs hP hD hS => ?_)
  have hg : wa (lf_A g23) [119, 97, 105, 116, 101, 100] := by
    subst e23 e19 e15 e11 e7 e3
    unfold wa
    decide +kernel
  exact kk q g23 _ _ H locs hg rfl (by rw [List.length_set]; exact hlen) rfl hP hD hS
set_option maxHeartbeats 4000000 in
theorem mi_101 {p : Program} {l : Launch} {e : Env} {R : Room} {s : State} {m : MethodId} {args : Array Value} {below : List Frame} {meth : Method} {c : Code} {H : Heap} {locs : List Loc} {cells slots : Nat} {Q : State → Prop} {ls : Array Slot} {A : Nat → Prop} {H0 : Heap} {dC : Nat → ClassId} {dI : Nat → Nat → Nat} {cy : Nat → ClassId} {sq : Nat → Nat} {a0 : Nat} {fs : List Value} {Y : va_W} (C0 : k_cx p s m args c cX10_init 1 RX10 dC dI cy sq) (hin : meth.name = "<init>") (hA : ∀ q, H0.size ≤ q → A q) (hl : lv_has ls 1 [(0, .ref a0)]) (hlen : fs.length = 122) (hP : va_P (dC, dI) vwCl ((a0, .inr (10, fs)) :: Y) H) (hD : va_D A ((a0, .inr (10, fs)) :: Y)) (hS : va_S A H0 H locs) (h3 : cells + 1 ≤ R.cells) (h4 : slots + 4 ≤ R.slots) (kk : ∀ (q : Nat) (g : Nat → Int32) (fs1 : List Value) (Y1 : va_W) (H1 : Heap) (locs1 : List Loc), wa (lf_A g) [99, 97, 108, 109] → fs1 = fs.set 101 (.ref q) → fs1.length = 122 → Y1 = Y ++ [(q, .inl (cy 2, 4, .inl g))] → va_P (dC, dI) vwCl ((a0, .inr (10, fs1)) :: Y1) H1 → va_D A ((a0, .inr (10, fs1)) :: Y1) → va_S A H0 H1 locs1 → W p l e R s m args below meth c H1 locs1 (cells + 1) (slots + 4) Q (F0 m 1534 ls [])) : W p l e R s m args below meth c H locs cells slots Q (F0 m 1507 ls []) := by
  have hx := C0.1
  have hb := C0.2.1
  refine lv_aload_n hx hb dX10_init_1507 rfl (lv_at hl 0 rfl) ?_
  refine lv_iconst (v := 4) hx hb dX10_init_1508 (by decide) ?_
  refine k_newa C0 2 (ty := .char) rfl (atype := .char) rfl wd161 hP hD hS hA (a0 := (4, .inl (fun _ => 0))) (fun _ => rfl) (by decide) (by decide) (Nat.le_of_ble_eq_true rfl) (cells + 1) (slots + 4) (Nat.le_refl _) (Nat.le_refl _) h3 h4 dX10_init_1509 (fun q H hP hD hS => ?_)
  refine lv_dup hx hb dX10_init_1511 rfl ?_
  refine lv_iconst (v := 0) hx hb dX10_init_1512 (by decide) ?_
  refine lv_bipush (v := 99) hx hb dX10_init_1513 (by decide) ?_
  refine k_castU C0 hP hD hS (k_in 0 4 (by decide)) dX10_init_1515 (fun g3 H locs e3 hP hD hS => ?_)
  refine lv_dup hx hb dX10_init_1516 rfl ?_
  refine lv_iconst (v := 1) hx hb dX10_init_1517 (by decide) ?_
  refine lv_bipush (v := 97) hx hb dX10_init_1518 (by decide) ?_
  refine k_castU C0 hP hD hS (k_in 1 4 (by decide)) dX10_init_1520 (fun g7 H locs e7 hP hD hS => ?_)
  refine lv_dup hx hb dX10_init_1521 rfl ?_
  refine lv_iconst (v := 2) hx hb dX10_init_1522 (by decide) ?_
  refine lv_bipush (v := 108) hx hb dX10_init_1523 (by decide) ?_
  refine k_castU C0 hP hD hS (k_in 2 4 (by decide)) dX10_init_1525 (fun g11 H locs e11 hP hD hS => ?_)
  refine lv_dup hx hb dX10_init_1526 rfl ?_
  refine lv_iconst (v := 3) hx hb dX10_init_1527 (by decide) ?_
  refine lv_bipush (v := 109) hx hb dX10_init_1528 (by decide) ?_
  refine k_castU C0 hP hD hS (k_in 3 4 (by decide)) dX10_init_1530 (fun g15 H locs e15 hP hD hS => ?_)
  refine k_putF C0 hin fp_X10_237 hP hD hS 0 rfl rfl rfl (Nat.lt_of_lt_of_eq (by decide) hlen.symm) dX10_init_1531 (fun H locs hP hD hS => ?_)
  have hg : wa (lf_A g15) [99, 97, 108, 109] := by
    subst e15 e11 e7 e3
    unfold wa
    decide +kernel
  exact kk q g15 _ _ H locs hg rfl (by rw [List.length_set]; exact hlen) rfl hP hD hS
set_option maxHeartbeats 4000000 in
theorem mi_102 {p : Program} {l : Launch} {e : Env} {R : Room} {s : State} {m : MethodId} {args : Array Value} {below : List Frame} {meth : Method} {c : Code} {H : Heap} {locs : List Loc} {cells slots : Nat} {Q : State → Prop} {ls : Array Slot} {A : Nat → Prop} {H0 : Heap} {dC : Nat → ClassId} {dI : Nat → Nat → Nat} {cy : Nat → ClassId} {sq : Nat → Nat} {a0 : Nat} {fs : List Value} {Y : va_W} (C0 : k_cx p s m args c cX10_init 1 RX10 dC dI cy sq) (hin : meth.name = "<init>") (hA : ∀ q, H0.size ≤ q → A q) (hl : lv_has ls 1 [(0, .ref a0)]) (hlen : fs.length = 122) (hP : va_P (dC, dI) vwCl ((a0, .inr (10, fs)) :: Y) H) (hD : va_D A ((a0, .inr (10, fs)) :: Y)) (hS : va_S A H0 H locs) (h3 : cells + 1 ≤ R.cells) (h4 : slots + 4 ≤ R.slots) (kk : ∀ (q : Nat) (g : Nat → Int32) (fs1 : List Value) (Y1 : va_W) (H1 : Heap) (locs1 : List Loc), wa (lf_A g) [112, 97, 99, 101] → fs1 = fs.set 102 (.ref q) → fs1.length = 122 → Y1 = Y ++ [(q, .inl (cy 2, 4, .inl g))] → va_P (dC, dI) vwCl ((a0, .inr (10, fs1)) :: Y1) H1 → va_D A ((a0, .inr (10, fs1)) :: Y1) → va_S A H0 H1 locs1 → W p l e R s m args below meth c H1 locs1 (cells + 1) (slots + 4) Q (F0 m 1561 ls [])) : W p l e R s m args below meth c H locs cells slots Q (F0 m 1534 ls []) := by
  have hx := C0.1
  have hb := C0.2.1
  refine lv_aload_n hx hb dX10_init_1534 rfl (lv_at hl 0 rfl) ?_
  refine lv_iconst (v := 4) hx hb dX10_init_1535 (by decide) ?_
  refine k_newa C0 2 (ty := .char) rfl (atype := .char) rfl wd161 hP hD hS hA (a0 := (4, .inl (fun _ => 0))) (fun _ => rfl) (by decide) (by decide) (Nat.le_of_ble_eq_true rfl) (cells + 1) (slots + 4) (Nat.le_refl _) (Nat.le_refl _) h3 h4 dX10_init_1536 (fun q H hP hD hS => ?_)
  refine lv_dup hx hb dX10_init_1538 rfl ?_
  refine lv_iconst (v := 0) hx hb dX10_init_1539 (by decide) ?_
  refine lv_bipush (v := 112) hx hb dX10_init_1540 (by decide) ?_
  refine k_castU C0 hP hD hS (k_in 0 4 (by decide)) dX10_init_1542 (fun g3 H locs e3 hP hD hS => ?_)
  refine lv_dup hx hb dX10_init_1543 rfl ?_
  refine lv_iconst (v := 1) hx hb dX10_init_1544 (by decide) ?_
  refine lv_bipush (v := 97) hx hb dX10_init_1545 (by decide) ?_
  refine k_castU C0 hP hD hS (k_in 1 4 (by decide)) dX10_init_1547 (fun g7 H locs e7 hP hD hS => ?_)
  refine lv_dup hx hb dX10_init_1548 rfl ?_
  refine lv_iconst (v := 2) hx hb dX10_init_1549 (by decide) ?_
  refine lv_bipush (v := 99) hx hb dX10_init_1550 (by decide) ?_
  refine k_castU C0 hP hD hS (k_in 2 4 (by decide)) dX10_init_1552 (fun g11 H locs e11 hP hD hS => ?_)
  refine lv_dup hx hb dX10_init_1553 rfl ?_
  refine lv_iconst (v := 3) hx hb dX10_init_1554 (by decide) ?_
  refine lv_bipush (v := 101) hx hb dX10_init_1555 (by decide) ?_
  refine k_castU C0 hP hD hS (k_in 3 4 (by decide)) dX10_init_1557 (fun g15 H locs e15 hP hD hS => ?_)
  refine k_putF C0 hin fp_X10_240 hP hD hS 0 rfl rfl rfl (Nat.lt_of_lt_of_eq (by decide) hlen.symm) dX10_init_1558 (fun H locs hP hD hS => ?_)
  have hg : wa (lf_A g15) [112, 97, 99, 101] := by
    subst e15 e11 e7 e3
    unfold wa
    decide +kernel
  exact kk q g15 _ _ H locs hg rfl (by rw [List.length_set]; exact hlen) rfl hP hD hS
set_option maxHeartbeats 4000000 in
theorem mi_103 {p : Program} {l : Launch} {e : Env} {R : Room} {s : State} {m : MethodId} {args : Array Value} {below : List Frame} {meth : Method} {c : Code} {H : Heap} {locs : List Loc} {cells slots : Nat} {Q : State → Prop} {ls : Array Slot} {A : Nat → Prop} {H0 : Heap} {dC : Nat → ClassId} {dI : Nat → Nat → Nat} {cy : Nat → ClassId} {sq : Nat → Nat} {a0 : Nat} {fs : List Value} {Y : va_W} (C0 : k_cx p s m args c cX10_init 1 RX10 dC dI cy sq) (hin : meth.name = "<init>") (hA : ∀ q, H0.size ≤ q → A q) (hl : lv_has ls 1 [(0, .ref a0)]) (hlen : fs.length = 122) (hP : va_P (dC, dI) vwCl ((a0, .inr (10, fs)) :: Y) H) (hD : va_D A ((a0, .inr (10, fs)) :: Y)) (hS : va_S A H0 H locs) (h3 : cells + 1 ≤ R.cells) (h4 : slots + 6 ≤ R.slots) (kk : ∀ (q : Nat) (g : Nat → Int32) (fs1 : List Value) (Y1 : va_W) (H1 : Heap) (locs1 : List Loc), wa (lf_A g) [116, 114, 117, 115, 116, 115] → fs1 = fs.set 103 (.ref q) → fs1.length = 122 → Y1 = Y ++ [(q, .inl (cy 2, 6, .inl g))] → va_P (dC, dI) vwCl ((a0, .inr (10, fs1)) :: Y1) H1 → va_D A ((a0, .inr (10, fs1)) :: Y1) → va_S A H0 H1 locs1 → W p l e R s m args below meth c H1 locs1 (cells + 1) (slots + 6) Q (F0 m 1599 ls [])) : W p l e R s m args below meth c H locs cells slots Q (F0 m 1561 ls []) := by
  have hx := C0.1
  have hb := C0.2.1
  refine lv_aload_n hx hb dX10_init_1561 rfl (lv_at hl 0 rfl) ?_
  refine lv_bipush (v := 6) hx hb dX10_init_1562 (by decide) ?_
  refine k_newa C0 2 (ty := .char) rfl (atype := .char) rfl wd161 hP hD hS hA (a0 := (6, .inl (fun _ => 0))) (fun _ => rfl) (by decide) (by decide) (Nat.le_of_ble_eq_true rfl) (cells + 1) (slots + 6) (Nat.le_refl _) (Nat.le_refl _) h3 h4 dX10_init_1564 (fun q H hP hD hS => ?_)
  refine lv_dup hx hb dX10_init_1566 rfl ?_
  refine lv_iconst (v := 0) hx hb dX10_init_1567 (by decide) ?_
  refine lv_bipush (v := 116) hx hb dX10_init_1568 (by decide) ?_
  refine k_castU C0 hP hD hS (k_in 0 6 (by decide)) dX10_init_1570 (fun g3 H locs e3 hP hD hS => ?_)
  refine lv_dup hx hb dX10_init_1571 rfl ?_
  refine lv_iconst (v := 1) hx hb dX10_init_1572 (by decide) ?_
  refine lv_bipush (v := 114) hx hb dX10_init_1573 (by decide) ?_
  refine k_castU C0 hP hD hS (k_in 1 6 (by decide)) dX10_init_1575 (fun g7 H locs e7 hP hD hS => ?_)
  refine lv_dup hx hb dX10_init_1576 rfl ?_
  refine lv_iconst (v := 2) hx hb dX10_init_1577 (by decide) ?_
  refine lv_bipush (v := 117) hx hb dX10_init_1578 (by decide) ?_
  refine k_castU C0 hP hD hS (k_in 2 6 (by decide)) dX10_init_1580 (fun g11 H locs e11 hP hD hS => ?_)
  refine lv_dup hx hb dX10_init_1581 rfl ?_
  refine lv_iconst (v := 3) hx hb dX10_init_1582 (by decide) ?_
  refine lv_bipush (v := 115) hx hb dX10_init_1583 (by decide) ?_
  refine k_castU C0 hP hD hS (k_in 3 6 (by decide)) dX10_init_1585 (fun g15 H locs e15 hP hD hS => ?_)
  refine lv_dup hx hb dX10_init_1586 rfl ?_
  refine lv_iconst (v := 4) hx hb dX10_init_1587 (by decide) ?_
  refine lv_bipush (v := 116) hx hb dX10_init_1588 (by decide) ?_
  refine k_castU C0 hP hD hS (k_in 4 6 (by decide)) dX10_init_1590 (fun g19 H locs e19 hP hD hS => ?_)
  refine lv_dup hx hb dX10_init_1591 rfl ?_
  refine lv_iconst (v := 5) hx hb dX10_init_1592 (by decide) ?_
  refine lv_bipush (v := 115) hx hb dX10_init_1593 (by decide) ?_
  refine k_castU C0 hP hD hS (k_in 5 6 (by decide)) dX10_init_1595 (fun g23 H locs e23 hP hD hS => ?_)
  refine k_putF C0 hin fp_X10_243 hP hD hS 0 rfl rfl rfl (Nat.lt_of_lt_of_eq (by decide) hlen.symm) dX10_init_1596 (fun H locs hP hD hS => ?_)
  have hg : wa (lf_A g23) [116, 114, 117, 115, 116, 115] := by
    subst e23 e19 e15 e11 e7 e3
    unfold wa
    decide +kernel
  exact kk q g23 _ _ H locs hg rfl (by rw [List.length_set]; exact hlen) rfl hP hD hS
set_option maxHeartbeats 4000000 in
theorem mi_104 {p : Program} {l : Launch} {e : Env} {R : Room} {s : State} {m : MethodId} {args : Array Value} {below : List Frame} {meth : Method} {c : Code} {H : Heap} {locs : List Loc} {cells slots : Nat} {Q : State → Prop} {ls : Array Slot} {A : Nat → Prop} {H0 : Heap} {dC : Nat → ClassId} {dI : Nat → Nat → Nat} {cy : Nat → ClassId} {sq : Nat → Nat} {a0 : Nat} {fs : List Value} {Y : va_W} (C0 : k_cx p s m args c cX10_init 1 RX10 dC dI cy sq) (hin : meth.name = "<init>") (hA : ∀ q, H0.size ≤ q → A q) (hl : lv_has ls 1 [(0, .ref a0)]) (hlen : fs.length = 122) (hP : va_P (dC, dI) vwCl ((a0, .inr (10, fs)) :: Y) H) (hD : va_D A ((a0, .inr (10, fs)) :: Y)) (hS : va_S A H0 H locs) (h3 : cells + 1 ≤ R.cells) (h4 : slots + 3 ≤ R.slots) (kk : ∀ (q : Nat) (g : Nat → Int32) (fs1 : List Value) (Y1 : va_W) (H1 : Heap) (locs1 : List Loc), wa (lf_A g) [103, 97, 112] → fs1 = fs.set 104 (.ref q) → fs1.length = 122 → Y1 = Y ++ [(q, .inl (cy 2, 3, .inl g))] → va_P (dC, dI) vwCl ((a0, .inr (10, fs1)) :: Y1) H1 → va_D A ((a0, .inr (10, fs1)) :: Y1) → va_S A H0 H1 locs1 → W p l e R s m args below meth c H1 locs1 (cells + 1) (slots + 3) Q (F0 m 1621 ls [])) : W p l e R s m args below meth c H locs cells slots Q (F0 m 1599 ls []) := by
  have hx := C0.1
  have hb := C0.2.1
  refine lv_aload_n hx hb dX10_init_1599 rfl (lv_at hl 0 rfl) ?_
  refine lv_iconst (v := 3) hx hb dX10_init_1600 (by decide) ?_
  refine k_newa C0 2 (ty := .char) rfl (atype := .char) rfl wd161 hP hD hS hA (a0 := (3, .inl (fun _ => 0))) (fun _ => rfl) (by decide) (by decide) (Nat.le_of_ble_eq_true rfl) (cells + 1) (slots + 3) (Nat.le_refl _) (Nat.le_refl _) h3 h4 dX10_init_1601 (fun q H hP hD hS => ?_)
  refine lv_dup hx hb dX10_init_1603 rfl ?_
  refine lv_iconst (v := 0) hx hb dX10_init_1604 (by decide) ?_
  refine lv_bipush (v := 103) hx hb dX10_init_1605 (by decide) ?_
  refine k_castU C0 hP hD hS (k_in 0 3 (by decide)) dX10_init_1607 (fun g3 H locs e3 hP hD hS => ?_)
  refine lv_dup hx hb dX10_init_1608 rfl ?_
  refine lv_iconst (v := 1) hx hb dX10_init_1609 (by decide) ?_
  refine lv_bipush (v := 97) hx hb dX10_init_1610 (by decide) ?_
  refine k_castU C0 hP hD hS (k_in 1 3 (by decide)) dX10_init_1612 (fun g7 H locs e7 hP hD hS => ?_)
  refine lv_dup hx hb dX10_init_1613 rfl ?_
  refine lv_iconst (v := 2) hx hb dX10_init_1614 (by decide) ?_
  refine lv_bipush (v := 112) hx hb dX10_init_1615 (by decide) ?_
  refine k_castU C0 hP hD hS (k_in 2 3 (by decide)) dX10_init_1617 (fun g11 H locs e11 hP hD hS => ?_)
  refine k_putF C0 hin fp_X10_246 hP hD hS 0 rfl rfl rfl (Nat.lt_of_lt_of_eq (by decide) hlen.symm) dX10_init_1618 (fun H locs hP hD hS => ?_)
  have hg : wa (lf_A g11) [103, 97, 112] := by
    subst e11 e7 e3
    unfold wa
    decide +kernel
  exact kk q g11 _ _ H locs hg rfl (by rw [List.length_set]; exact hlen) rfl hP hD hS
set_option maxHeartbeats 4000000 in
theorem mi_105 {p : Program} {l : Launch} {e : Env} {R : Room} {s : State} {m : MethodId} {args : Array Value} {below : List Frame} {meth : Method} {c : Code} {H : Heap} {locs : List Loc} {cells slots : Nat} {Q : State → Prop} {ls : Array Slot} {A : Nat → Prop} {H0 : Heap} {dC : Nat → ClassId} {dI : Nat → Nat → Nat} {cy : Nat → ClassId} {sq : Nat → Nat} {a0 : Nat} {fs : List Value} {Y : va_W} (C0 : k_cx p s m args c cX10_init 1 RX10 dC dI cy sq) (hin : meth.name = "<init>") (hA : ∀ q, H0.size ≤ q → A q) (hl : lv_has ls 1 [(0, .ref a0)]) (hlen : fs.length = 122) (hP : va_P (dC, dI) vwCl ((a0, .inr (10, fs)) :: Y) H) (hD : va_D A ((a0, .inr (10, fs)) :: Y)) (hS : va_S A H0 H locs) (h3 : cells + 1 ≤ R.cells) (h4 : slots + 4 ≤ R.slots) (kk : ∀ (q : Nat) (g : Nat → Int32) (fs1 : List Value) (Y1 : va_W) (H1 : Heap) (locs1 : List Loc), wa (lf_A g) [114, 101, 100, 115] → fs1 = fs.set 105 (.ref q) → fs1.length = 122 → Y1 = Y ++ [(q, .inl (cy 2, 4, .inl g))] → va_P (dC, dI) vwCl ((a0, .inr (10, fs1)) :: Y1) H1 → va_D A ((a0, .inr (10, fs1)) :: Y1) → va_S A H0 H1 locs1 → W p l e R s m args below meth c H1 locs1 (cells + 1) (slots + 4) Q (F0 m 1648 ls [])) : W p l e R s m args below meth c H locs cells slots Q (F0 m 1621 ls []) := by
  have hx := C0.1
  have hb := C0.2.1
  refine lv_aload_n hx hb dX10_init_1621 rfl (lv_at hl 0 rfl) ?_
  refine lv_iconst (v := 4) hx hb dX10_init_1622 (by decide) ?_
  refine k_newa C0 2 (ty := .char) rfl (atype := .char) rfl wd161 hP hD hS hA (a0 := (4, .inl (fun _ => 0))) (fun _ => rfl) (by decide) (by decide) (Nat.le_of_ble_eq_true rfl) (cells + 1) (slots + 4) (Nat.le_refl _) (Nat.le_refl _) h3 h4 dX10_init_1623 (fun q H hP hD hS => ?_)
  refine lv_dup hx hb dX10_init_1625 rfl ?_
  refine lv_iconst (v := 0) hx hb dX10_init_1626 (by decide) ?_
  refine lv_bipush (v := 114) hx hb dX10_init_1627 (by decide) ?_
  refine k_castU C0 hP hD hS (k_in 0 4 (by decide)) dX10_init_1629 (fun g3 H locs e3 hP hD hS => ?_)
  refine lv_dup hx hb dX10_init_1630 rfl ?_
  refine lv_iconst (v := 1) hx hb dX10_init_1631 (by decide) ?_
  refine lv_bipush (v := 101) hx hb dX10_init_1632 (by decide) ?_
  refine k_castU C0 hP hD hS (k_in 1 4 (by decide)) dX10_init_1634 (fun g7 H locs e7 hP hD hS => ?_)
  refine lv_dup hx hb dX10_init_1635 rfl ?_
  refine lv_iconst (v := 2) hx hb dX10_init_1636 (by decide) ?_
  refine lv_bipush (v := 100) hx hb dX10_init_1637 (by decide) ?_
  refine k_castU C0 hP hD hS (k_in 2 4 (by decide)) dX10_init_1639 (fun g11 H locs e11 hP hD hS => ?_)
  refine lv_dup hx hb dX10_init_1640 rfl ?_
  refine lv_iconst (v := 3) hx hb dX10_init_1641 (by decide) ?_
  refine lv_bipush (v := 115) hx hb dX10_init_1642 (by decide) ?_
  refine k_castU C0 hP hD hS (k_in 3 4 (by decide)) dX10_init_1644 (fun g15 H locs e15 hP hD hS => ?_)
  refine k_putF C0 hin fp_X10_249 hP hD hS 0 rfl rfl rfl (Nat.lt_of_lt_of_eq (by decide) hlen.symm) dX10_init_1645 (fun H locs hP hD hS => ?_)
  have hg : wa (lf_A g15) [114, 101, 100, 115] := by
    subst e15 e11 e7 e3
    unfold wa
    decide +kernel
  exact kk q g15 _ _ H locs hg rfl (by rw [List.length_set]; exact hlen) rfl hP hD hS
set_option maxHeartbeats 4000000 in
theorem mi_106 {p : Program} {l : Launch} {e : Env} {R : Room} {s : State} {m : MethodId} {args : Array Value} {below : List Frame} {meth : Method} {c : Code} {H : Heap} {locs : List Loc} {cells slots : Nat} {Q : State → Prop} {ls : Array Slot} {A : Nat → Prop} {H0 : Heap} {dC : Nat → ClassId} {dI : Nat → Nat → Nat} {cy : Nat → ClassId} {sq : Nat → Nat} {a0 : Nat} {fs : List Value} {Y : va_W} (C0 : k_cx p s m args c cX10_init 1 RX10 dC dI cy sq) (hin : meth.name = "<init>") (hA : ∀ q, H0.size ≤ q → A q) (hl : lv_has ls 1 [(0, .ref a0)]) (hlen : fs.length = 122) (hP : va_P (dC, dI) vwCl ((a0, .inr (10, fs)) :: Y) H) (hD : va_D A ((a0, .inr (10, fs)) :: Y)) (hS : va_S A H0 H locs) (h3 : cells + 1 ≤ R.cells) (h4 : slots + 6 ≤ R.slots) (kk : ∀ (q : Nat) (g : Nat → Int32) (fs1 : List Value) (Y1 : va_W) (H1 : Heap) (locs1 : List Loc), wa (lf_A g) [110, 117, 109, 98, 101, 114] → fs1 = fs.set 106 (.ref q) → fs1.length = 122 → Y1 = Y ++ [(q, .inl (cy 2, 6, .inl g))] → va_P (dC, dI) vwCl ((a0, .inr (10, fs1)) :: Y1) H1 → va_D A ((a0, .inr (10, fs1)) :: Y1) → va_S A H0 H1 locs1 → W p l e R s m args below meth c H1 locs1 (cells + 1) (slots + 6) Q (F0 m 1686 ls [])) : W p l e R s m args below meth c H locs cells slots Q (F0 m 1648 ls []) := by
  have hx := C0.1
  have hb := C0.2.1
  refine lv_aload_n hx hb dX10_init_1648 rfl (lv_at hl 0 rfl) ?_
  refine lv_bipush (v := 6) hx hb dX10_init_1649 (by decide) ?_
  refine k_newa C0 2 (ty := .char) rfl (atype := .char) rfl wd161 hP hD hS hA (a0 := (6, .inl (fun _ => 0))) (fun _ => rfl) (by decide) (by decide) (Nat.le_of_ble_eq_true rfl) (cells + 1) (slots + 6) (Nat.le_refl _) (Nat.le_refl _) h3 h4 dX10_init_1651 (fun q H hP hD hS => ?_)
  refine lv_dup hx hb dX10_init_1653 rfl ?_
  refine lv_iconst (v := 0) hx hb dX10_init_1654 (by decide) ?_
  refine lv_bipush (v := 110) hx hb dX10_init_1655 (by decide) ?_
  refine k_castU C0 hP hD hS (k_in 0 6 (by decide)) dX10_init_1657 (fun g3 H locs e3 hP hD hS => ?_)
  refine lv_dup hx hb dX10_init_1658 rfl ?_
  refine lv_iconst (v := 1) hx hb dX10_init_1659 (by decide) ?_
  refine lv_bipush (v := 117) hx hb dX10_init_1660 (by decide) ?_
  refine k_castU C0 hP hD hS (k_in 1 6 (by decide)) dX10_init_1662 (fun g7 H locs e7 hP hD hS => ?_)
  refine lv_dup hx hb dX10_init_1663 rfl ?_
  refine lv_iconst (v := 2) hx hb dX10_init_1664 (by decide) ?_
  refine lv_bipush (v := 109) hx hb dX10_init_1665 (by decide) ?_
  refine k_castU C0 hP hD hS (k_in 2 6 (by decide)) dX10_init_1667 (fun g11 H locs e11 hP hD hS => ?_)
  refine lv_dup hx hb dX10_init_1668 rfl ?_
  refine lv_iconst (v := 3) hx hb dX10_init_1669 (by decide) ?_
  refine lv_bipush (v := 98) hx hb dX10_init_1670 (by decide) ?_
  refine k_castU C0 hP hD hS (k_in 3 6 (by decide)) dX10_init_1672 (fun g15 H locs e15 hP hD hS => ?_)
  refine lv_dup hx hb dX10_init_1673 rfl ?_
  refine lv_iconst (v := 4) hx hb dX10_init_1674 (by decide) ?_
  refine lv_bipush (v := 101) hx hb dX10_init_1675 (by decide) ?_
  refine k_castU C0 hP hD hS (k_in 4 6 (by decide)) dX10_init_1677 (fun g19 H locs e19 hP hD hS => ?_)
  refine lv_dup hx hb dX10_init_1678 rfl ?_
  refine lv_iconst (v := 5) hx hb dX10_init_1679 (by decide) ?_
  refine lv_bipush (v := 114) hx hb dX10_init_1680 (by decide) ?_
  refine k_castU C0 hP hD hS (k_in 5 6 (by decide)) dX10_init_1682 (fun g23 H locs e23 hP hD hS => ?_)
  refine k_putF C0 hin fp_X10_252 hP hD hS 0 rfl rfl rfl (Nat.lt_of_lt_of_eq (by decide) hlen.symm) dX10_init_1683 (fun H locs hP hD hS => ?_)
  have hg : wa (lf_A g23) [110, 117, 109, 98, 101, 114] := by
    subst e23 e19 e15 e11 e7 e3
    unfold wa
    decide +kernel
  exact kk q g23 _ _ H locs hg rfl (by rw [List.length_set]; exact hlen) rfl hP hD hS
set_option maxHeartbeats 4000000 in
theorem mi_107 {p : Program} {l : Launch} {e : Env} {R : Room} {s : State} {m : MethodId} {args : Array Value} {below : List Frame} {meth : Method} {c : Code} {H : Heap} {locs : List Loc} {cells slots : Nat} {Q : State → Prop} {ls : Array Slot} {A : Nat → Prop} {H0 : Heap} {dC : Nat → ClassId} {dI : Nat → Nat → Nat} {cy : Nat → ClassId} {sq : Nat → Nat} {a0 : Nat} {fs : List Value} {Y : va_W} (C0 : k_cx p s m args c cX10_init 1 RX10 dC dI cy sq) (hin : meth.name = "<init>") (hA : ∀ q, H0.size ≤ q → A q) (hl : lv_has ls 1 [(0, .ref a0)]) (hlen : fs.length = 122) (hP : va_P (dC, dI) vwCl ((a0, .inr (10, fs)) :: Y) H) (hD : va_D A ((a0, .inr (10, fs)) :: Y)) (hS : va_S A H0 H locs) (h3 : cells + 1 ≤ R.cells) (h4 : slots + 4 ≤ R.slots) (kk : ∀ (q : Nat) (g : Nat → Int32) (fs1 : List Value) (Y1 : va_W) (H1 : Heap) (locs1 : List Loc), wa (lf_A g) [119, 101, 110, 116] → fs1 = fs.set 107 (.ref q) → fs1.length = 122 → Y1 = Y ++ [(q, .inl (cy 2, 4, .inl g))] → va_P (dC, dI) vwCl ((a0, .inr (10, fs1)) :: Y1) H1 → va_D A ((a0, .inr (10, fs1)) :: Y1) → va_S A H0 H1 locs1 → W p l e R s m args below meth c H1 locs1 (cells + 1) (slots + 4) Q (F0 m 1713 ls [])) : W p l e R s m args below meth c H locs cells slots Q (F0 m 1686 ls []) := by
  have hx := C0.1
  have hb := C0.2.1
  refine lv_aload_n hx hb dX10_init_1686 rfl (lv_at hl 0 rfl) ?_
  refine lv_iconst (v := 4) hx hb dX10_init_1687 (by decide) ?_
  refine k_newa C0 2 (ty := .char) rfl (atype := .char) rfl wd161 hP hD hS hA (a0 := (4, .inl (fun _ => 0))) (fun _ => rfl) (by decide) (by decide) (Nat.le_of_ble_eq_true rfl) (cells + 1) (slots + 4) (Nat.le_refl _) (Nat.le_refl _) h3 h4 dX10_init_1688 (fun q H hP hD hS => ?_)
  refine lv_dup hx hb dX10_init_1690 rfl ?_
  refine lv_iconst (v := 0) hx hb dX10_init_1691 (by decide) ?_
  refine lv_bipush (v := 119) hx hb dX10_init_1692 (by decide) ?_
  refine k_castU C0 hP hD hS (k_in 0 4 (by decide)) dX10_init_1694 (fun g3 H locs e3 hP hD hS => ?_)
  refine lv_dup hx hb dX10_init_1695 rfl ?_
  refine lv_iconst (v := 1) hx hb dX10_init_1696 (by decide) ?_
  refine lv_bipush (v := 101) hx hb dX10_init_1697 (by decide) ?_
  refine k_castU C0 hP hD hS (k_in 1 4 (by decide)) dX10_init_1699 (fun g7 H locs e7 hP hD hS => ?_)
  refine lv_dup hx hb dX10_init_1700 rfl ?_
  refine lv_iconst (v := 2) hx hb dX10_init_1701 (by decide) ?_
  refine lv_bipush (v := 110) hx hb dX10_init_1702 (by decide) ?_
  refine k_castU C0 hP hD hS (k_in 2 4 (by decide)) dX10_init_1704 (fun g11 H locs e11 hP hD hS => ?_)
  refine lv_dup hx hb dX10_init_1705 rfl ?_
  refine lv_iconst (v := 3) hx hb dX10_init_1706 (by decide) ?_
  refine lv_bipush (v := 116) hx hb dX10_init_1707 (by decide) ?_
  refine k_castU C0 hP hD hS (k_in 3 4 (by decide)) dX10_init_1709 (fun g15 H locs e15 hP hD hS => ?_)
  refine k_putF C0 hin fp_X10_255 hP hD hS 0 rfl rfl rfl (Nat.lt_of_lt_of_eq (by decide) hlen.symm) dX10_init_1710 (fun H locs hP hD hS => ?_)
  have hg : wa (lf_A g15) [119, 101, 110, 116] := by
    subst e15 e11 e7 e3
    unfold wa
    decide +kernel
  exact kk q g15 _ _ H locs hg rfl (by rw [List.length_set]; exact hlen) rfl hP hD hS
set_option maxHeartbeats 4000000 in
theorem mi_108 {p : Program} {l : Launch} {e : Env} {R : Room} {s : State} {m : MethodId} {args : Array Value} {below : List Frame} {meth : Method} {c : Code} {H : Heap} {locs : List Loc} {cells slots : Nat} {Q : State → Prop} {ls : Array Slot} {A : Nat → Prop} {H0 : Heap} {dC : Nat → ClassId} {dI : Nat → Nat → Nat} {cy : Nat → ClassId} {sq : Nat → Nat} {a0 : Nat} {fs : List Value} {Y : va_W} (C0 : k_cx p s m args c cX10_init 1 RX10 dC dI cy sq) (hin : meth.name = "<init>") (hA : ∀ q, H0.size ≤ q → A q) (hl : lv_has ls 1 [(0, .ref a0)]) (hlen : fs.length = 122) (hP : va_P (dC, dI) vwCl ((a0, .inr (10, fs)) :: Y) H) (hD : va_D A ((a0, .inr (10, fs)) :: Y)) (hS : va_S A H0 H locs) (h3 : cells + 1 ≤ R.cells) (h4 : slots + 4 ≤ R.slots) (kk : ∀ (q : Nat) (g : Nat → Int32) (fs1 : List Value) (Y1 : va_W) (H1 : Heap) (locs1 : List Loc), wa (lf_A g) [104, 97, 114, 109] → fs1 = fs.set 108 (.ref q) → fs1.length = 122 → Y1 = Y ++ [(q, .inl (cy 2, 4, .inl g))] → va_P (dC, dI) vwCl ((a0, .inr (10, fs1)) :: Y1) H1 → va_D A ((a0, .inr (10, fs1)) :: Y1) → va_S A H0 H1 locs1 → W p l e R s m args below meth c H1 locs1 (cells + 1) (slots + 4) Q (F0 m 1740 ls [])) : W p l e R s m args below meth c H locs cells slots Q (F0 m 1713 ls []) := by
  have hx := C0.1
  have hb := C0.2.1
  refine lv_aload_n hx hb dX10_init_1713 rfl (lv_at hl 0 rfl) ?_
  refine lv_iconst (v := 4) hx hb dX10_init_1714 (by decide) ?_
  refine k_newa C0 2 (ty := .char) rfl (atype := .char) rfl wd161 hP hD hS hA (a0 := (4, .inl (fun _ => 0))) (fun _ => rfl) (by decide) (by decide) (Nat.le_of_ble_eq_true rfl) (cells + 1) (slots + 4) (Nat.le_refl _) (Nat.le_refl _) h3 h4 dX10_init_1715 (fun q H hP hD hS => ?_)
  refine lv_dup hx hb dX10_init_1717 rfl ?_
  refine lv_iconst (v := 0) hx hb dX10_init_1718 (by decide) ?_
  refine lv_bipush (v := 104) hx hb dX10_init_1719 (by decide) ?_
  refine k_castU C0 hP hD hS (k_in 0 4 (by decide)) dX10_init_1721 (fun g3 H locs e3 hP hD hS => ?_)
  refine lv_dup hx hb dX10_init_1722 rfl ?_
  refine lv_iconst (v := 1) hx hb dX10_init_1723 (by decide) ?_
  refine lv_bipush (v := 97) hx hb dX10_init_1724 (by decide) ?_
  refine k_castU C0 hP hD hS (k_in 1 4 (by decide)) dX10_init_1726 (fun g7 H locs e7 hP hD hS => ?_)
  refine lv_dup hx hb dX10_init_1727 rfl ?_
  refine lv_iconst (v := 2) hx hb dX10_init_1728 (by decide) ?_
  refine lv_bipush (v := 114) hx hb dX10_init_1729 (by decide) ?_
  refine k_castU C0 hP hD hS (k_in 2 4 (by decide)) dX10_init_1731 (fun g11 H locs e11 hP hD hS => ?_)
  refine lv_dup hx hb dX10_init_1732 rfl ?_
  refine lv_iconst (v := 3) hx hb dX10_init_1733 (by decide) ?_
  refine lv_bipush (v := 109) hx hb dX10_init_1734 (by decide) ?_
  refine k_castU C0 hP hD hS (k_in 3 4 (by decide)) dX10_init_1736 (fun g15 H locs e15 hP hD hS => ?_)
  refine k_putF C0 hin fp_X10_258 hP hD hS 0 rfl rfl rfl (Nat.lt_of_lt_of_eq (by decide) hlen.symm) dX10_init_1737 (fun H locs hP hD hS => ?_)
  have hg : wa (lf_A g15) [104, 97, 114, 109] := by
    subst e15 e11 e7 e3
    unfold wa
    decide +kernel
  exact kk q g15 _ _ H locs hg rfl (by rw [List.length_set]; exact hlen) rfl hP hD hS
set_option maxHeartbeats 4000000 in
theorem mi_109 {p : Program} {l : Launch} {e : Env} {R : Room} {s : State} {m : MethodId} {args : Array Value} {below : List Frame} {meth : Method} {c : Code} {H : Heap} {locs : List Loc} {cells slots : Nat} {Q : State → Prop} {ls : Array Slot} {A : Nat → Prop} {H0 : Heap} {dC : Nat → ClassId} {dI : Nat → Nat → Nat} {cy : Nat → ClassId} {sq : Nat → Nat} {a0 : Nat} {fs : List Value} {Y : va_W} (C0 : k_cx p s m args c cX10_init 1 RX10 dC dI cy sq) (hin : meth.name = "<init>") (hA : ∀ q, H0.size ≤ q → A q) (hl : lv_has ls 1 [(0, .ref a0)]) (hlen : fs.length = 122) (hP : va_P (dC, dI) vwCl ((a0, .inr (10, fs)) :: Y) H) (hD : va_D A ((a0, .inr (10, fs)) :: Y)) (hS : va_S A H0 H locs) (h3 : cells + 1 ≤ R.cells) (h4 : slots + 4 ≤ R.slots) (kk : ∀ (q : Nat) (g : Nat → Int32) (fs1 : List Value) (Y1 : va_W) (H1 : Heap) (locs1 : List Loc), wa (lf_A g) [107, 105, 110, 100] → fs1 = fs.set 109 (.ref q) → fs1.length = 122 → Y1 = Y ++ [(q, .inl (cy 2, 4, .inl g))] → va_P (dC, dI) vwCl ((a0, .inr (10, fs1)) :: Y1) H1 → va_D A ((a0, .inr (10, fs1)) :: Y1) → va_S A H0 H1 locs1 → W p l e R s m args below meth c H1 locs1 (cells + 1) (slots + 4) Q (F0 m 1767 ls [])) : W p l e R s m args below meth c H locs cells slots Q (F0 m 1740 ls []) := by
  have hx := C0.1
  have hb := C0.2.1
  refine lv_aload_n hx hb dX10_init_1740 rfl (lv_at hl 0 rfl) ?_
  refine lv_iconst (v := 4) hx hb dX10_init_1741 (by decide) ?_
  refine k_newa C0 2 (ty := .char) rfl (atype := .char) rfl wd161 hP hD hS hA (a0 := (4, .inl (fun _ => 0))) (fun _ => rfl) (by decide) (by decide) (Nat.le_of_ble_eq_true rfl) (cells + 1) (slots + 4) (Nat.le_refl _) (Nat.le_refl _) h3 h4 dX10_init_1742 (fun q H hP hD hS => ?_)
  refine lv_dup hx hb dX10_init_1744 rfl ?_
  refine lv_iconst (v := 0) hx hb dX10_init_1745 (by decide) ?_
  refine lv_bipush (v := 107) hx hb dX10_init_1746 (by decide) ?_
  refine k_castU C0 hP hD hS (k_in 0 4 (by decide)) dX10_init_1748 (fun g3 H locs e3 hP hD hS => ?_)
  refine lv_dup hx hb dX10_init_1749 rfl ?_
  refine lv_iconst (v := 1) hx hb dX10_init_1750 (by decide) ?_
  refine lv_bipush (v := 105) hx hb dX10_init_1751 (by decide) ?_
  refine k_castU C0 hP hD hS (k_in 1 4 (by decide)) dX10_init_1753 (fun g7 H locs e7 hP hD hS => ?_)
  refine lv_dup hx hb dX10_init_1754 rfl ?_
  refine lv_iconst (v := 2) hx hb dX10_init_1755 (by decide) ?_
  refine lv_bipush (v := 110) hx hb dX10_init_1756 (by decide) ?_
  refine k_castU C0 hP hD hS (k_in 2 4 (by decide)) dX10_init_1758 (fun g11 H locs e11 hP hD hS => ?_)
  refine lv_dup hx hb dX10_init_1759 rfl ?_
  refine lv_iconst (v := 3) hx hb dX10_init_1760 (by decide) ?_
  refine lv_bipush (v := 100) hx hb dX10_init_1761 (by decide) ?_
  refine k_castU C0 hP hD hS (k_in 3 4 (by decide)) dX10_init_1763 (fun g15 H locs e15 hP hD hS => ?_)
  refine k_putF C0 hin fp_X10_261 hP hD hS 0 rfl rfl rfl (Nat.lt_of_lt_of_eq (by decide) hlen.symm) dX10_init_1764 (fun H locs hP hD hS => ?_)
  have hg : wa (lf_A g15) [107, 105, 110, 100] := by
    subst e15 e11 e7 e3
    unfold wa
    decide +kernel
  exact kk q g15 _ _ H locs hg rfl (by rw [List.length_set]; exact hlen) rfl hP hD hS
set_option maxHeartbeats 4000000 in
theorem mi_110 {p : Program} {l : Launch} {e : Env} {R : Room} {s : State} {m : MethodId} {args : Array Value} {below : List Frame} {meth : Method} {c : Code} {H : Heap} {locs : List Loc} {cells slots : Nat} {Q : State → Prop} {ls : Array Slot} {A : Nat → Prop} {H0 : Heap} {dC : Nat → ClassId} {dI : Nat → Nat → Nat} {cy : Nat → ClassId} {sq : Nat → Nat} {a0 : Nat} {fs : List Value} {Y : va_W} (C0 : k_cx p s m args c cX10_init 1 RX10 dC dI cy sq) (hin : meth.name = "<init>") (hA : ∀ q, H0.size ≤ q → A q) (hl : lv_has ls 1 [(0, .ref a0)]) (hlen : fs.length = 122) (hP : va_P (dC, dI) vwCl ((a0, .inr (10, fs)) :: Y) H) (hD : va_D A ((a0, .inr (10, fs)) :: Y)) (hS : va_S A H0 H locs) (h3 : cells + 1 ≤ R.cells) (h4 : slots + 1700 ≤ R.slots) (kk : ∀ (q : Nat) (fs1 : List Value) (Y1 : va_W) (H1 : Heap) (locs1 : List Loc), fs1 = fs.set 110 (.ref q) → fs1.length = 122 → Y1 = Y ++ [(q, .inl (cy 0, 1700, .inl (fun _ => 0)))] → va_P (dC, dI) vwCl ((a0, .inr (10, fs1)) :: Y1) H1 → va_D A ((a0, .inr (10, fs1)) :: Y1) → va_S A H0 H1 locs1 → W p l e R s m args below meth c H1 locs1 (cells + 1) (slots + 1700) Q (F0 m 1776 ls [])) : W p l e R s m args below meth c H locs cells slots Q (F0 m 1767 ls []) := by
  have hx := C0.1
  have hb := C0.2.1
  refine lv_aload_n hx hb dX10_init_1767 rfl (lv_at hl 0 rfl) ?_
  refine lv_sipush (v := 1700) hx hb dX10_init_1768 (by decide) ?_
  refine k_newa C0 0 (ty := .int) rfl (atype := .int) rfl wd12 hP hD hS hA (a0 := (1700, .inl (fun _ => 0))) (fun _ => rfl) (by decide) (by decide) (Nat.le_of_ble_eq_true rfl) (cells + 1) (slots + 1700) (Nat.le_refl _) (Nat.le_refl _) h3 h4 dX10_init_1771 (fun q H hP hD hS => ?_)
  refine k_putF C0 hin fp_X10_264 hP hD hS 0 rfl rfl rfl (Nat.lt_of_lt_of_eq (by decide) hlen.symm) dX10_init_1773 (fun H locs hP hD hS => ?_)
  exact kk q _ _ H locs rfl (by rw [List.length_set]; exact hlen) rfl hP hD hS
set_option maxHeartbeats 4000000 in
theorem mi_112 {p : Program} {l : Launch} {e : Env} {R : Room} {s : State} {m : MethodId} {args : Array Value} {below : List Frame} {meth : Method} {c : Code} {H : Heap} {locs : List Loc} {cells slots : Nat} {Q : State → Prop} {ls : Array Slot} {A : Nat → Prop} {H0 : Heap} {dC : Nat → ClassId} {dI : Nat → Nat → Nat} {cy : Nat → ClassId} {sq : Nat → Nat} {a0 : Nat} {fs : List Value} {Y : va_W} (C0 : k_cx p s m args c cX10_init 1 RX10 dC dI cy sq) (hin : meth.name = "<init>") (hA : ∀ q, H0.size ≤ q → A q) (hl : lv_has ls 1 [(0, .ref a0)]) (hlen : fs.length = 122) (hP : va_P (dC, dI) vwCl ((a0, .inr (10, fs)) :: Y) H) (hD : va_D A ((a0, .inr (10, fs)) :: Y)) (hS : va_S A H0 H locs) (h3 : cells + 1 ≤ R.cells) (h4 : slots + 1700 ≤ R.slots) (kk : ∀ (q : Nat) (fs1 : List Value) (Y1 : va_W) (H1 : Heap) (locs1 : List Loc), fs1 = fs.set 112 (.ref q) → fs1.length = 122 → Y1 = Y ++ [(q, .inl (cy 0, 1700, .inl (fun _ => 0)))] → va_P (dC, dI) vwCl ((a0, .inr (10, fs1)) :: Y1) H1 → va_D A ((a0, .inr (10, fs1)) :: Y1) → va_S A H0 H1 locs1 → W p l e R s m args below meth c H1 locs1 (cells + 1) (slots + 1700) Q (F0 m 1785 ls [])) : W p l e R s m args below meth c H locs cells slots Q (F0 m 1776 ls []) := by
  have hx := C0.1
  have hb := C0.2.1
  refine lv_aload_n hx hb dX10_init_1776 rfl (lv_at hl 0 rfl) ?_
  refine lv_sipush (v := 1700) hx hb dX10_init_1777 (by decide) ?_
  refine k_newa C0 0 (ty := .int) rfl (atype := .int) rfl wd12 hP hD hS hA (a0 := (1700, .inl (fun _ => 0))) (fun _ => rfl) (by decide) (by decide) (Nat.le_of_ble_eq_true rfl) (cells + 1) (slots + 1700) (Nat.le_refl _) (Nat.le_refl _) h3 h4 dX10_init_1780 (fun q H hP hD hS => ?_)
  refine k_putF C0 hin fp_X10_267 hP hD hS 0 rfl rfl rfl (Nat.lt_of_lt_of_eq (by decide) hlen.symm) dX10_init_1782 (fun H locs hP hD hS => ?_)
  exact kk q _ _ H locs rfl (by rw [List.length_set]; exact hlen) rfl hP hD hS
set_option maxHeartbeats 4000000 in
theorem mi_116 {p : Program} {l : Launch} {e : Env} {R : Room} {s : State} {m : MethodId} {args : Array Value} {below : List Frame} {meth : Method} {c : Code} {H : Heap} {locs : List Loc} {cells slots : Nat} {Q : State → Prop} {ls : Array Slot} {A : Nat → Prop} {H0 : Heap} {dC : Nat → ClassId} {dI : Nat → Nat → Nat} {cy : Nat → ClassId} {sq : Nat → Nat} {a0 : Nat} {fs : List Value} {Y : va_W} (C0 : k_cx p s m args c cX10_init 1 RX10 dC dI cy sq) (hin : meth.name = "<init>") (hA : ∀ q, H0.size ≤ q → A q) (hl : lv_has ls 1 [(0, .ref a0)]) (hlen : fs.length = 122) (hP : va_P (dC, dI) vwCl ((a0, .inr (10, fs)) :: Y) H) (hD : va_D A ((a0, .inr (10, fs)) :: Y)) (hS : va_S A H0 H locs) (h3 : cells + 1 ≤ R.cells) (h4 : slots + 1700 ≤ R.slots) (kk : ∀ (q : Nat) (fs1 : List Value) (Y1 : va_W) (H1 : Heap) (locs1 : List Loc), fs1 = fs.set 116 (.ref q) → fs1.length = 122 → Y1 = Y ++ [(q, .inl (cy 1, 1700, .inr (.inl (fun _ => 0))))] → va_P (dC, dI) vwCl ((a0, .inr (10, fs1)) :: Y1) H1 → va_D A ((a0, .inr (10, fs1)) :: Y1) → va_S A H0 H1 locs1 → W p l e R s m args below meth c H1 locs1 (cells + 1) (slots + 1700) Q (F0 m 1794 ls [])) : W p l e R s m args below meth c H locs cells slots Q (F0 m 1785 ls []) := by
  have hx := C0.1
  have hb := C0.2.1
  refine lv_aload_n hx hb dX10_init_1785 rfl (lv_at hl 0 rfl) ?_
  refine lv_sipush (v := 1700) hx hb dX10_init_1786 (by decide) ?_
  refine k_newa C0 1 (ty := .long) rfl (atype := .long) rfl wd193 hP hD hS hA (a0 := (1700, .inr (.inl (fun _ => 0)))) (fun _ => rfl) (by decide) (by decide) (Nat.le_of_ble_eq_true rfl) (cells + 1) (slots + 1700) (Nat.le_refl _) (Nat.le_refl _) h3 h4 dX10_init_1789 (fun q H hP hD hS => ?_)
  refine k_putF C0 hin fp_X10_270 hP hD hS 0 rfl rfl rfl (Nat.lt_of_lt_of_eq (by decide) hlen.symm) dX10_init_1791 (fun H locs hP hD hS => ?_)
  exact kk q _ _ H locs rfl (by rw [List.length_set]; exact hlen) rfl hP hD hS
set_option maxHeartbeats 4000000 in
theorem mi_120 {p : Program} {l : Launch} {e : Env} {R : Room} {s : State} {m : MethodId} {args : Array Value} {below : List Frame} {meth : Method} {c : Code} {H : Heap} {locs : List Loc} {cells slots : Nat} {Q : State → Prop} {ls : Array Slot} {A : Nat → Prop} {H0 : Heap} {dC : Nat → ClassId} {dI : Nat → Nat → Nat} {cy : Nat → ClassId} {sq : Nat → Nat} {a0 : Nat} {fs : List Value} {Y : va_W} (C0 : k_cx p s m args c cX10_init 1 RX10 dC dI cy sq) (hin : meth.name = "<init>") (hA : ∀ q, H0.size ≤ q → A q) (hl : lv_has ls 1 [(0, .ref a0)]) (hlen : fs.length = 122) (hP : va_P (dC, dI) vwCl ((a0, .inr (10, fs)) :: Y) H) (hD : va_D A ((a0, .inr (10, fs)) :: Y)) (hS : va_S A H0 H locs) (h3 : cells + 1 ≤ R.cells) (h4 : slots + 11 ≤ R.slots) (kk : ∀ (q : Nat) (fs1 : List Value) (Y1 : va_W) (H1 : Heap) (locs1 : List Loc), fs1 = fs.set 120 (.ref q) → fs1.length = 122 → Y1 = Y ++ [(q, .inl (cy 0, 11, .inl (fun _ => 0)))] → va_P (dC, dI) vwCl ((a0, .inr (10, fs1)) :: Y1) H1 → va_D A ((a0, .inr (10, fs1)) :: Y1) → va_S A H0 H1 locs1 → W p l e R s m args below meth c H1 locs1 (cells + 1) (slots + 11) Q (F0 m 1802 ls [])) : W p l e R s m args below meth c H locs cells slots Q (F0 m 1794 ls []) := by
  have hx := C0.1
  have hb := C0.2.1
  refine lv_aload_n hx hb dX10_init_1794 rfl (lv_at hl 0 rfl) ?_
  refine lv_bipush (v := 11) hx hb dX10_init_1795 (by decide) ?_
  refine k_newa C0 0 (ty := .int) rfl (atype := .int) rfl wd12 hP hD hS hA (a0 := (11, .inl (fun _ => 0))) (fun _ => rfl) (by decide) (by decide) (Nat.le_of_ble_eq_true rfl) (cells + 1) (slots + 11) (Nat.le_refl _) (Nat.le_refl _) h3 h4 dX10_init_1797 (fun q H hP hD hS => ?_)
  refine k_putF C0 hin fp_X10_273 hP hD hS 0 rfl rfl rfl (Nat.lt_of_lt_of_eq (by decide) hlen.symm) dX10_init_1799 (fun H locs hP hD hS => ?_)
  exact kk q _ _ H locs rfl (by rw [List.length_set]; exact hlen) rfl hP hD hS
