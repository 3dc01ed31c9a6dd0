/-! my own rows over the kit's: one list of words (wsL_law) for every method, one pack of table facts (k_K) for every contract -/
abbrev k_tys (cy : Nat → ClassId) : List (ClassId × FieldType) := [(cy 0, .int), (cy 1, .long), (cy 2, .char), (cy 3, .boolean), (cy 4, .object RX6)]
/-- the texts of the class: entry, text, length, bytes, in one order -/
def k_ix (j : Nat) : Nat := [52, 68, 84, 105, 109, 113, 117, 130, 134, 138, 142, 155, 188, 193, 205, 207, 217, 228, 232, 234, 239].getD j 0
def k_tx (j : Nat) : String := ["kind comes car red learns away", "away", "first last often total most least", "cycle", "green", "rule", "least", "calm", "pace", "trusts", "is", "at", "cycle green rule least kind calm pace trusts comes is at car red learns away second day phase waited gap reds number went harm or and not all min max", "or", "and", "not", "all", "min", "max", "kind", "second day phase waited calm pace trusts gap reds number went harm"].getD j ""
def k_len : List Nat := [30, 4, 33, 5, 5, 4, 5, 4, 4, 6, 2, 2, 149, 2, 3, 3, 3, 3, 3, 4, 66]
def k_byt : List (List Int32) := [[107, 105, 110, 100, 32, 99, 111, 109, 101, 115, 32, 99, 97, 114, 32, 114, 101, 100, 32, 108, 101, 97, 114, 110, 115, 32, 97, 119, 97, 121], [97, 119, 97, 121], [102, 105, 114, 115, 116, 32, 108, 97, 115, 116, 32, 111, 102, 116, 101, 110, 32, 116, 111, 116, 97, 108, 32, 109, 111, 115, 116, 32, 108, 101, 97, 115, 116], [99, 121, 99, 108, 101], [103, 114, 101, 101, 110], [114, 117, 108, 101], [108, 101, 97, 115, 116], [99, 97, 108, 109], [112, 97, 99, 101], [116, 114, 117, 115, 116, 115], [105, 115], [97, 116], [99, 121, 99, 108, 101, 32, 103, 114, 101, 101, 110, 32, 114, 117, 108, 101, 32, 108, 101, 97, 115, 116, 32, 107, 105, 110, 100, 32, 99, 97, 108, 109, 32, 112, 97, 99, 101, 32, 116, 114, 117, 115, 116, 115, 32, 99, 111, 109, 101, 115, 32, 105, 115, 32, 97, 116, 32, 99, 97, 114, 32, 114, 101, 100, 32, 108, 101, 97, 114, 110, 115, 32, 97, 119, 97, 121, 32, 115, 101, 99, 111, 110, 100, 32, 100, 97, 121, 32, 112, 104, 97, 115, 101, 32, 119, 97, 105, 116, 101, 100, 32, 103, 97, 112, 32, 114, 101, 100, 115, 32, 110, 117, 109, 98, 101, 114, 32, 119, 101, 110, 116, 32, 104, 97, 114, 109, 32, 111, 114, 32, 97, 110, 100, 32, 110, 111, 116, 32, 97, 108, 108, 32, 109, 105, 110, 32, 109, 97, 120], [111, 114], [97, 110, 100], [110, 111, 116], [97, 108, 108], [109, 105, 110], [109, 97, 120], [107, 105, 110, 100], [115, 101, 99, 111, 110, 100, 32, 100, 97, 121, 32, 112, 104, 97, 115, 101, 32, 119, 97, 105, 116, 101, 100, 32, 99, 97, 108, 109, 32, 112, 97, 99, 101, 32, 116, 114, 117, 115, 116, 115, 32, 103, 97, 112, 32, 114, 101, 100, 115, 32, 110, 117, 109, 98, 101, 114, 32, 119, 101, 110, 116, 32, 104, 97, 114, 109]]
def k_xw (sq : Nat → Nat) (U : State) : Prop := va_Nw (.methodLinkNest RX9 19 yX4_init RX9) U ∧ va_Nw (.methodLinkNest RX9 29 yX6_init RX9) U ∧ va_Nw (.methodLinkNest RX9 43 yX3_init RX9) U ∧ va_Nw (.methodLinkNest RX0 11 yX6_init RX9) U ∧ va_Nw (.methodLinkNest RX2 24 yX6_init RX9) U ∧ va_AO RX6 U ∧ (∀ j, j < 21 → vk_R RX5 (k_ix j) (k_tx j) (sq j) U)
theorem k_xw.warm {sq : Nat → Nat} {s U : State} (hW : s.WarmedH U.vm) (h : k_xw sq s) : k_xw sq U := by
  obtain ⟨h1, h2, h3, h4, h5, h6, h7⟩ := h
  exact ⟨va_Nw.warmM hW h1, va_Nw.warmM hW h2, va_Nw.warmM hW h3, va_Nw.warmM hW h4, va_Nw.warmM hW h5, va_AO.moved hW.alike h6, fun j hj => vk_R.warm hW (h7 j hj)⟩
theorem k_xw.same {sq : Nat → Nat} {u U : State} (hv : U.vm = u.vm) (h : k_xw sq u) : k_xw sq U := by
  obtain ⟨h1, h2, h3, h4, h5, h6, h7⟩ := h
  exact ⟨va_Nw.same rfl hv.symm h1, va_Nw.same rfl hv.symm h2, va_Nw.same rfl hv.symm h3, va_Nw.same rfl hv.symm h4, va_Nw.same rfl hv.symm h5, va_AO.moved (by rw [hv]; exact Vm.Alike.refl _) h6, fun j hj => vk_R.same hv (h7 j hj)⟩
/-- what lies outside of all worlds: the texts' cells, two statics of the JDK -/
def k_Z (sq : Nat → Nat) (A : Nat → Prop) (U : State) (H : Heap) : Prop := vk_S 21 k_len k_byt sq (fun i => sq (100 + i)) A U H ∧ va_Z "java/lang/String" "COMPACT_STRINGS" "Z" (.int 1) A U H ∧ va_Zq "jdk/internal/util/Preconditions" "SIOOBE_FORMATTER" "Ljava/util/function/BiFunction;" A U H
theorem k_Z.moved {sq : Nat → Nat} {A : Nat → Prop} {u U : State} {H : Heap} (hvm : u.vm.Alike U.vm) (h : k_Z sq A u H) : k_Z sq A U H :=
  ⟨h.1.moved hvm, h.2.1.moved hvm, h.2.2.elim (fun q => Or.inl (q.moved hvm)) (fun ⟨t, q⟩ => Or.inr ⟨t, q.moved hvm⟩)⟩
theorem k_Z.kept {sq : Nat → Nat} {A : Nat → Prop} {U : State} {H H1 : Heap} (h : k_Z sq A U H) (hq : ∀ a : Nat, a < H.size → ¬ A a → H1[a]? = H[a]?) : k_Z sq A U H1 :=
  ⟨h.1.kept hq, h.2.1.kept hq, h.2.2.elim (fun q => Or.inl (q.kept hq)) (fun ⟨t, q⟩ => Or.inr ⟨t, q.kept hq⟩)⟩
theorem k_Z.narrow {sq : Nat → Nat} {A B : Nat → Prop} {U : State} {H : Heap} (h : k_Z sq A U H) (hAB : ∀ q, B q → A q) : k_Z sq B U H :=
  ⟨h.1.narrow hAB, h.2.1.narrow hAB, h.2.2.elim (fun q => Or.inl (q.narrow hAB)) (fun ⟨t, q⟩ => Or.inr ⟨t, q.narrow hAB⟩)⟩
def k_K (dC : Nat → ClassId) (dI : Nat → Nat → Nat) (cy : Nat → ClassId) (sq : Nat → Nat) (U : State) : Prop := va_K (dC, dI) vwCl (k_tys cy) U ∧ k_xw sq U
theorem k_K.warm {dC : Nat → ClassId} {dI : Nat → Nat → Nat} {cy : Nat → ClassId} {sq : Nat → Nat} {s U : State} (hW : s.WarmedH U.vm) (h : k_K dC dI cy sq s) : k_K dC dI cy sq U := ⟨va_K.moved hW.alike h.1, h.2.warm hW⟩
theorem k_K.calling {dC : Nat → ClassId} {dI : Nat → Nat → Nat} {cy : Nat → ClassId} {sq : Nat → Nat} {U : State} {g : JFrame} {mk : MethodId} {a : Array Value} (h : k_K dC dI cy sq U) : k_K dC dI cy sq (U.calling g mk a) := ⟨va_K.moved (u := U) (U := U.calling g mk a) (Vm.Alike.refl U.vm) h.1, k_xw.same (u := U) (U := U.calling g mk a) rfl h.2⟩
theorem ky_same {D : va_G} {cl : List vw_C} {tys : List (ClassId × FieldType)} {U : State} {c1 c2 : ClassId} {ty : FieldType} (h : va_K D cl tys U) (i j : Nat) (hi : tys[i]? = some (c1, ty)) (hj : tys[j]? = some (c2, ty)) : c2 = c1 := by
  have h1 := (h.2 i _ hi).2
  have h2 := (h.2 j _ hj).2
  cases ty with
  | object C =>
    obtain ⟨_, _, _, _, _, e1⟩ := h1
    obtain ⟨_, _, _, _, _, e2⟩ := h2
    rw [e1] at e2
    exact (Option.some.inj e2).symm
  | _ =>
    exact Option.some.inj (Eq.trans (Eq.symm h2) h1)
/-- what stands fixed while a method is walked -/
def k_cx (p : Program) (s : State) (m : MethodId) (args : Array Value) (c : Code) (cc : ByteArray) (nL : Nat) (own : String) (dC : Nat → ClassId) (dI : Nat → Nat → Nat) (cy : Nat → ClassId) (sq : Nat → Nat) : Prop :=
  p.tables.exec = Jvm.exec ∧ c.code = cc ∧ c.maxLocals = nL ∧ s.vm.findClass own = some m.cls ∧ (∀ w ∈ wsL_law, w.before args s = true) ∧ k_K dC dI cy sq s
abbrev k_Pre (dC : Nat → ClassId) (dI : Nat → Nat → Nat) (cy : Nat → ClassId) (sq : Nat → Nat) (sz : Nat) (ws : va_W) (U : State) : Prop := U.heap.size = sz ∧ va_P (dC, dI) vwCl ws U.heap ∧ k_K dC dI cy sq U ∧ va_D (fun _ => True) ws ∧ k_Z sq (va_A ws sz) U U.heap
abbrev k_B {S : Type} (dC : Nat → ClassId) (dI : Nat → Nat → Nat) (A : Nat → Prop) (B : S → va_W) : S → State → Prop := fun u t => va_P (dC, dI) vwCl (B u) t.heap ∧ va_D A (B u)
/-- a class's facts: number, fields, words, types -/
def k_cl (ci : Nat) (C : String) (T : u_T) (N : Nat) (ty0 : Nat → FieldType) : Prop := vwCl[ci]? = some (C, T, N) ∧ (∀ w ∈ u_ws C T N, w ∈ wsL_law) ∧ (∀ k, k < N → parseFieldDescriptor (T k).2.2.1 = some (ty0 k)) ∧ (∀ a, a < N → ∀ b, b < N → a ≠ b → (T a).2.1 ≠ (T b).2.1)
/-- a field as an instruction names it -/
def k_fl (own : String) (index ci k : Nat) (fin : Bool) (ty : FieldType) : Prop := ∃ (C : String) (T : u_T) (N : Nat) (ty0 : Nat → FieldType), k_cl ci C T N ty0 ∧ k < N ∧ Cond.fieldLink own index (T k).1 (T k).2.1 (T k).2.2.1 ∈ wsL_law ∧ (T k).2.2.2 = fin ∧ parseFieldDescriptor (T k).2.2.1 = some ty ∧ (fin = true → (T k).1 = own)
def k_fg (own : String) (index ci k : Nat) : Prop := ∃ (C : String) (T : u_T) (N : Nat) (ty0 : Nat → FieldType), k_cl ci C T N ty0 ∧ k < N ∧ Cond.fieldLink own index (T k).1 (T k).2.1 (T k).2.2.1 ∈ wsL_law
def k_nw (own : String) (index ci N : Nat) (fs : List Value) : Prop := ∃ (C : String) (T : u_T) (ty0 : Nat → FieldType), k_cl ci C T N ty0 ∧ Cond.classLink own index C ∈ wsL_law ∧ Cond.instantiable C N ∈ wsL_law ∧ Cond.initialized C ∈ wsL_law ∧ (∀ j, j < N → defaultValue (ty0 j) = vp_V fs j)
/-- a method as an instruction names it: virtual; a constructor; static -/
def k_mv (own : String) (index : Nat) (C : String) (y : MethodName) (bytes : ByteArray) (maxL : Nat) (ret : Option FieldType) (n : Nat) : Prop := Cond.methodLink own index y ∈ wsL_law ∧ Cond.instanceMethod y ∈ wsL_law ∧ Cond.selects C y y ∈ wsL_law ∧ Cond.initialized C ∈ wsL_law ∧ Cond.code y bytes maxL ret ∈ wsL_law ∧ (y.cls = C ∧ y.cls ≠ "java/lang/invoke/MethodHandle" ∧ y.cls ≠ "java/lang/invoke/VarHandle" ∧ (parseMethodDescriptor y.desc).map (fun d => d.parameters.length) = some n)
def k_mi (own : String) (index : Nat) (y : MethodName) (bytes : ByteArray) (maxL : Nat) (n : Nat) : Prop := Cond.methodLink own index y ∈ wsL_law ∧ Cond.instanceMethod y ∈ wsL_law ∧ Cond.initialized y.cls ∈ wsL_law ∧ Cond.code y bytes maxL none ∈ wsL_law ∧ y.name = "<init>" ∧ (y.cls ≠ "java/lang/invoke/MethodHandle" ∧ y.cls ≠ "java/lang/invoke/VarHandle" ∧ (parseMethodDescriptor y.desc).map (fun d => d.parameters.length) = some n)
/-- a constructor of a nest mate: the link stands in k_xw -/
def k_mn (y : MethodName) (bytes : ByteArray) (maxL : Nat) (n : Nat) : Prop := Cond.instanceMethod y ∈ wsL_law ∧ Cond.initialized y.cls ∈ wsL_law ∧ Cond.code y bytes maxL none ∈ wsL_law ∧ y.name = "<init>" ∧ (y.cls ≠ "java/lang/invoke/MethodHandle" ∧ y.cls ≠ "java/lang/invoke/VarHandle" ∧ (parseMethodDescriptor y.desc).map (fun d => d.parameters.length) = some n)
def k_ms (own : String) (index : Nat) (y : MethodName) (bytes : ByteArray) (maxL : Nat) (ret : Option FieldType) (n : Nat) : Prop := Cond.methodLink own index y ∈ wsL_law ∧ Cond.static y ∈ wsL_law ∧ Cond.initialized y.cls ∈ wsL_law ∧ Cond.code y bytes maxL ret ∈ wsL_law ∧ (y.cls ≠ "java/lang/invoke/MethodHandle" ∧ y.cls ≠ "java/lang/invoke/VarHandle" ∧ (parseMethodDescriptor y.desc).map (fun d => d.parameters.length) = some n)
theorem k_good : wsL_law.all goodWord = true := List.all_eq_true.mpr (fun w h => (List.mem_filter.mp h).2)
theorem k_goodIn {ws : List Cond} (h : ∀ w ∈ ws, w ∈ wsL_law) : GoodIn wsL_law ws := fun w hw => ⟨h w hw, good_of_word (List.all_eq_true.mp k_good w (h w hw))⟩
theorem k_goodC {y : MethodName} {b : ByteArray} {n : Nat} {r : Option FieldType} (h : Cond.code y b n r ∈ wsL_law) : GoodIn wsL_law (Cond.code y b n r :: wsL_law) := k_goodIn (fun w hw => (List.mem_cons.mp hw).elim (fun e => e ▸ h) id)
section KW
variable {p : Program} {l : Launch} {e : Env} {R : Room} {s : State} {m : MethodId} {args : Array Value} {below : List Frame} {meth : Method} {c : Code} {H : Heap} {locs : List Loc} {cells slots : Nat} {Q : State → Prop}
variable {cc : ByteArray} {pc : Nat} {ls : Array Slot} {rest : List Value} {A : Nat → Prop} {a : Nat} {ws : va_W} {H0 : Heap} {nL : Nat} {own : String} {dC : Nat → ClassId} {dI : Nat → Nat → Nat} {cy : Nat → ClassId} {sq : Nat → Nat}
theorem k_topi {x y : Int32} (h : x = y) (k : W p l e R s m args below meth c H locs cells slots Q (F0 m pc ls (.int y :: rest))) : W p l e R s m args below meth c H locs cells slots Q (F0 m pc ls (.int x :: rest)) := by subst h; exact k
theorem k_topl {x y : Int64} (h : x = y) (k : W p l e R s m args below meth c H locs cells slots Q (F0 m pc ls (.long y :: rest))) : W p l e R s m args below meth c H locs cells slots Q (F0 m pc ls (.long x :: rest)) := by subst h; exact k
theorem k_get (C0 : k_cx p s m args c cc nL own dC dI cy sq) {index ci k : Nat} (hf : k_fg own index ci k) (hP : va_P (dC, dI) vwCl ws H) (q0 : Nat) {fs : List Value} (he : ws[q0]? = some (a, .inr (ci, fs))) {v : Value} (hv : fs[k]? = some v) (hdg : decode cc pc = .ok (.getfield index, 3))
    (kk : W p l e R s m args below meth c H locs cells slots Q (F0 m (pc + 3) ls (v :: rest))) : W p l e R s m args below meth c H locs cells slots Q (F0 m pc ls (.ref a :: rest)) := by
  obtain ⟨C, T, N, ty0, ⟨h1, h2, h3, h4⟩, h5, h6⟩ := hf
  obtain ⟨hx, hb, hml, hown, hts, hK⟩ := C0
  exact va_get hx hb hts h2 hown hK.1 hP q0 he h1 k h5 (hts _ h6) (fun _ h => h) hv hdg kk
theorem k_put (C0 : k_cx p s m args c cc nL own dC dI cy sq) {index ci k : Nat} {ty : FieldType} (hf : k_fl own index ci k false ty) (hP : va_P (dC, dI) vwCl ws H) (hD : va_D A ws) (hS : va_S A H0 H locs) (q0 : Nat) {fs : List Value} (he : ws[q0]? = some (a, .inr (ci, fs))) {v : Value} (hn : narrow ty v = v) (hfit : fits ty v = true) (hl : k < fs.length) (hdg : decode cc pc = .ok (.putfield index, 3))
    (kk : ∀ (H1 : Heap) (locs1 : List Loc), va_P (dC, dI) vwCl (ws.set q0 (a, .inr (ci, fs.set k v))) H1 → va_D A (ws.set q0 (a, .inr (ci, fs.set k v))) → va_S A H0 H1 locs1 → W p l e R s m args below meth c H1 locs1 cells slots Q (F0 m (pc + 3) ls rest)) : W p l e R s m args below meth c H locs cells slots Q (F0 m pc ls (v :: .ref a :: rest)) := by
  obtain ⟨C, T, N, ty0, ⟨h1, h2, h3, h4⟩, h5, h6, h7, h8, h9⟩ := hf
  obtain ⟨hx, hb, hml, hown, hts, hK⟩ := C0
  exact va_put hx hb hts h2 ty0 h3 h4 hown hK.1 hP hD hS q0 he h1 k h5 (hts _ h6) (fun _ h => h) h7 h8 hn hfit hl hdg kk
theorem k_putF (C0 : k_cx p s m args c cc nL own dC dI cy sq) (hin : meth.name = "<init>") {index ci k : Nat} {ty : FieldType} (hf : k_fl own index ci k true ty) (hP : va_P (dC, dI) vwCl ws H) (hD : va_D A ws) (hS : va_S A H0 H locs) (q0 : Nat) {fs : List Value} (he : ws[q0]? = some (a, .inr (ci, fs))) {v : Value} (hn : narrow ty v = v) (hfit : fits ty v = true) (hl : k < fs.length) (hdg : decode cc pc = .ok (.putfield index, 3))
    (kk : ∀ (H1 : Heap) (locs1 : List Loc), va_P (dC, dI) vwCl (ws.set q0 (a, .inr (ci, fs.set k v))) H1 → va_D A (ws.set q0 (a, .inr (ci, fs.set k v))) → va_S A H0 H1 locs1 → W p l e R s m args below meth c H1 locs1 cells slots Q (F0 m (pc + 3) ls rest)) : W p l e R s m args below meth c H locs cells slots Q (F0 m pc ls (v :: .ref a :: rest)) := by
  obtain ⟨C, T, N, ty0, ⟨h1, h2, h3, h4⟩, h5, h6, h7, h8, h9⟩ := hf
  obtain ⟨hx, hb, hml, hown, hts, hK⟩ := C0
  exact va_putF hx hb hts h2 ty0 h3 h4 hown hK.1 hP hD hS q0 he h1 k h5 (hts _ h6) (fun _ h => h) h7 hin (h9 rfl) h8 hn hfit hl hdg kk
theorem k_new (C0 : k_cx p s m args c cc nL own dC dI cy sq) {index ci N : Nat} {fs : List Value} (hf : k_nw own index ci N fs) (hP : va_P (dC, dI) vwCl ws H) (hD : va_D A ws) (hS : va_S A H0 H locs) (hA : ∀ q, H0.size ≤ q → A q) (k n : Nat) (h1 : cells + 1 ≤ k) (h2 : slots + N ≤ n) (h3 : k ≤ R.cells) (h4 : n ≤ R.slots) (hdg : decode cc pc = .ok (.new index, 3))
    (kk : ∀ (q : Nat) (H1 : Heap), va_P (dC, dI) vwCl (ws ++ [(q, .inr (ci, fs))]) H1 → va_D A (ws ++ [(q, .inr (ci, fs))]) → va_S A H0 H1 locs → W p l e R s m args below meth c H1 locs k n Q (F0 m (pc + 3) ls (.ref q :: rest))) : W p l e R s m args below meth c H locs cells slots Q (F0 m pc ls rest) := by
  obtain ⟨C, T, ty0, ⟨g1, g2, g3, g4⟩, g5, g6, g7, g8⟩ := hf
  obtain ⟨hx, hb, hml, hown, hts, hK⟩ := C0
  exact va_new hx hb hts g2 ty0 g3 hown (hts _ g5) (hts _ g6) (hts _ g7) hK.1 hP hD hS hA g1 g8 (Nat.le_trans h1 h3) (Nat.le_trans h2 h4) hdg (fun q H1 a1 a2 a3 => W.widen h1 h2 (kk q H1 a1 a2 a3))
theorem k_newa (C0 : k_cx p s m args c cc nL own dC dI cy sq) (t0 : Nat) {cA : ClassId} {ty : FieldType} (ht : (k_tys cy)[t0]? = some (cA, ty)) {atype : ArrayType} (hty : newarray.typeOf atype = ty) (harr : Cond.arrayClass (newarray.typeOf atype) ∈ wsL_law) (hP : va_P (dC, dI) vwCl ws H) (hD : va_D A ws) (hS : va_S A H0 H locs) (hA : ∀ q, H0.size ≤ q → A q) {n : Int32} {N' : Nat} {a0 : vp_A} (ha : ∀ cB : ClassId, vp_cell cB a0 = arrV cB N' (fun _ => defaultValue ty)) (hn : ¬ n < 0) (hN : n.toNatClampNeg = N') (hbytes : N' * componentBytes ty ≤ 536870912) (k j : Nat) (h1 : cells + 1 ≤ k) (h2 : slots + N' ≤ j) (h3 : k ≤ R.cells) (h4 : j ≤ R.slots) (hdg : decode cc pc = .ok (.newarray atype, 2))
    (kk : ∀ (q : Nat) (H1 : Heap), va_P (dC, dI) vwCl (ws ++ [(q, .inl (cA, a0))]) H1 → va_D A (ws ++ [(q, .inl (cA, a0))]) → va_S A H0 H1 locs → W p l e R s m args below meth c H1 locs k j Q (F0 m (pc + 2) ls (.ref q :: rest))) : W p l e R s m args below meth c H locs cells slots Q (F0 m pc ls (.int n :: rest)) := by
  obtain ⟨hx, hb, hml, hown, hts, hK⟩ := C0
  refine va_newa hx hb (hts _ harr) hty hK.1 hP hD hS hA ha hn hN hbytes (Nat.le_trans h1 h3) (Nat.le_trans h2 h4) hdg (fun q cB H1 hK2 a1 a2 a3 => ?_)
  obtain rfl : cB = cA := ky_same hK2 t0 5 (by rw [List.getElem?_append_left (List.getElem?_eq_some_iff.mp ht).1]; exact ht) rfl
  exact W.widen h1 h2 (kk q H1 a1 a2 a3)
theorem k_newq (C0 : k_cx p s m args c cc nL own dC dI cy sq) {index : Nat} (hcl : Cond.classLink own index RX6 ∈ wsL_law) (hP : va_P (dC, dI) vwCl ws H) (hD : va_D A ws) (hS : va_S A H0 H locs) (hA : ∀ q, H0.size ≤ q → A q) {n : Int32} {N' : Nat} (hn : ¬ n < 0) (hN : n.toNatClampNeg = N') (hbytes : N' * 4 ≤ 536870912) (k j : Nat) (h1 : cells + 1 ≤ k) (h2 : slots + N' ≤ j) (h3 : k ≤ R.cells) (h4 : j ≤ R.slots) (hdg : decode cc pc = .ok (.anewarray index, 3))
    (kk : ∀ (q : Nat) (H1 : Heap), va_P (dC, dI) vwCl (ws ++ [(q, .inl (cy 4, N', .inr (.inr (.inr (.inr (fun _ => none))))))]) H1 → va_D A (ws ++ [(q, .inl (cy 4, N', .inr (.inr (.inr (.inr (fun _ => none))))))]) → va_S A H0 H1 locs → W p l e R s m args below meth c H1 locs k j Q (F0 m (pc + 3) ls (.ref q :: rest))) : W p l e R s m args below meth c H locs cells slots Q (F0 m pc ls (.int n :: rest)) := by
  obtain ⟨hx, hb, hml, hown, hts, hK⟩ := C0
  refine va_newq hx hb hown (hts _ hcl) hK.2.2.2.2.2.2.1 hK.1 hP hD hS hA hn hN hbytes (Nat.le_trans h1 h3) (Nat.le_trans h2 h4) hdg (fun q cB H1 hK2 a1 a2 a3 => ?_)
  obtain rfl : cB = cy 4 := ky_same hK2 4 5 rfl rfl
  exact W.widen h1 h2 (kk q H1 a1 a2 a3)
theorem k_obj (C0 : k_cx p s m args c cc nL own dC dI cy sq) {idx : Nat} (h1 : Cond.methodLink own idx objectInit ∈ wsL_law) (h2 : Cond.instanceMethod objectInit ∈ wsL_law) (h3 : Cond.code objectInit ⟨#[0xb1]⟩ 1 none ∈ wsL_law) {lv : List (Nat × Value)} (hl : lv_has ls nL lv) (hdg : decode cc pc = .ok (.invokespecial idx, 3)) (hfr : 1 ≤ R.frames) (hlo : (rest.map fun v => v.category).sum + 12 ≤ R.locals)
    (kk : W p l e R s m args below meth c H locs cells slots Q (F0 m (pc + 3) ls rest)) : W p l e R s m args below meth c H locs cells slots Q (F0 m pc ls (.ref a :: rest)) := by
  obtain ⟨hx, hb, hml, hown, hts, hK⟩ := C0
  refine W.objInit hx hb hown (hts _ h1) (hts _ h2) (hts _ h3) rfl (by rw [hml]; exact hl.1) rfl hdg hfr (by show 2 * 0 + _ + 12 ≤ _; omega) ?_
  exact W.eq (g2 := F0 m (pc + 3) ls rest) rfl kk
end KW
theorem k_in (i : Int32) (n : Nat) (h : (decide (i < 0) || decide (n ≤ i.toNatClampNeg)) = false) : vp_in i n := by
  intro hh
  rcases hh with hh | hh <;> simp [hh] at h
theorem k_nb (x : Int32) (h : narrow .boolean (.int x) = .int x) : narrow .boolean (.int x) = .int x := h
theorem k_fb (x : Int32) (h : fits .boolean (.int x) = true) : fits .boolean (.int x) = true := h
section KX
variable {p : Program} {l : Launch} {e : Env} {R : Room} {s : State} {m : MethodId} {args : Array Value} {below : List Frame} {meth : Method} {c : Code} {H : Heap} {locs : List Loc} {cells slots : Nat} {Q : State → Prop}
variable {cc : ByteArray} {pc : Nat} {ls : Array Slot} {rest : List Value} {A : Nat → Prop} {a : Nat} {H0 : Heap} {nL : Nat} {own : String} {dC : Nat → ClassId} {dI : Nat → Nat → Nat} {cy : Nat → ClassId} {sq : Nat → Nat}
/-- a store into the row made last, whatever the rest of the world is -/
theorem k_castX (C0 : k_cx p s m args c cc nL own dC dI cy sq) {X : va_W} {n : Nat} {f : Nat → Int32} (hP : va_P (dC, dI) vwCl (X ++ [(a, .inl (cy 2, n, .inl f))]) H) (hD : va_D A (X ++ [(a, .inl (cy 2, n, .inl f))])) (hS : va_S A H0 H locs) {i x : Int32} (hin : vp_in i n) (hdg : decode cc pc = .ok (.castore, 1))
    (kk : ∀ (g : Nat → Int32) (H1 : Heap) (locs1 : List Loc), va_P (dC, dI) vwCl (X ++ [(a, .inl (cy 2, n, .inl g))]) H1 → va_D A (X ++ [(a, .inl (cy 2, n, .inl g))]) → va_S A H0 H1 locs1 → W p l e R s m args below meth c H1 locs1 cells slots Q (F0 m (pc + 1) ls rest)) : W p l e R s m args below meth c H locs cells slots Q (F0 m pc ls (.int x :: .int i :: .ref a :: rest)) := by
  refine va_cast (n := n) (f := f) (cA := cy 2) C0.1 C0.2.1 C0.2.2.2.2.2.1 hP hD hS X.length 2 (by simp) rfl hin hdg (fun H1 locs1 h1 h2 h3 => ?_)
  have e1 : ∀ u z : Nat × va_E, (X ++ [u]).set X.length z = X ++ [z] := fun u z => by simp
  rw [e1] at h1 h2
  exact kk _ H1 locs1 h1 h2 h3
end KX
