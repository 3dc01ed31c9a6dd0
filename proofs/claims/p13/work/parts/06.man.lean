section
/-! man -/
theorem kl0 : (0 : Int32).toInt = 0 := by decide
theorem kl1 : (1 : Int32).toInt = 1 := by decide
theorem kl5 : (5 : Int32).toInt = 5 := by decide
theorem kl6 : (6 : Int32).toInt = 6 := by decide
theorem kl7 : (7 : Int32).toInt = 7 := by decide
theorem kl2 : (2 : Int32).toInt = 2 := by decide
theorem kl3 : (3 : Int32).toInt = 3 := by decide
theorem kl4 : (4 : Int32).toInt = 4 := by decide
theorem kl5L : (5 : Int64).toInt = 5 := by decide
theorem kl60 : (60 : Int32).toInt = 60 := by decide
theorem klm1 : (-1 : Int32).toInt = -1 := by decide
theorem k_look (x : Int32) (h0 : ¬ x = 0) (h1 : ¬ x = 1) : Op.lookupswitch.offset (#[(0, 27), (1, 35)] : Array (Int × Int)).toList 43 x.toInt = 43 := by
  have e0 : ¬ x.toInt = 0 := fun h => h0 (Int32.toInt_inj.mp (h.trans kl0.symm))
  have e1 : ¬ x.toInt = 1 := fun h => h1 (Int32.toInt_inj.mp (h.trans kl1.symm))
  simp [Op.lookupswitch.offset, e0, e1, Ne.symm e0, Ne.symm e1, eq_comm]
end
section
/-! man -/
/-- Arrays.fill: the row holds something else, no more is said -/
theorem k_fill_loop {p : Program} {l : Launch} {e : Env} {R : Room} {s : State} {m : MethodId} {args : Array Value} {below : List Frame} {meth : Method} {c : Code} {Q : State → Prop} {cells slots : Nat} {A : Nat → Prop} {H0 : Heap} {dC : Nat → ClassId} {dI : Nat → Nat → Nat} {cy : Nat → ClassId} {sq : Nat → Nat} {a N : Nat} {x : Int32} (hN : N < 2 ^ 31)
    (C0 : k_cx p s m args c cJ7_fill_53178 4 RJ7 dC dI cy sq)
    (kk : ∀ (f : Nat → Int32) (H : Heap) (locs : List Loc) (ls : Array Slot), va_P (dC, dI) vwCl [(a, .inl (cy 0, N, .inl f))] H → va_D A [(a, .inl (cy 0, N, .inl f))] → va_S A H0 H locs → W p l e R s m args below meth c H locs cells slots Q (F0 m 20 ls [])) :
    ∀ (n i : Nat) (f : Nat → Int32) (H : Heap) (locs : List Loc) (ls : Array Slot), i ≤ N → N + 1 ≤ i + n → va_P (dC, dI) vwCl [(a, .inl (cy 0, N, .inl f))] H → va_D A [(a, .inl (cy 0, N, .inl f))] → va_S A H0 H locs → lv_has ls 4 [(0, .ref a), (1, .int x), (2, .int (nI i)), (3, .int (nI N))] → W p l e R s m args below meth c H locs cells slots Q (F0 m 5 ls []) := by
  have hx := C0.1
  have hb := C0.2.1
  intro n
  induction n with
  | zero => intro i f H locs ls h1 h2; exact absurd h2 (by omega)
  | succ n ih =>
    intro i f H locs ls hi hin hP hD hS hl
    refine lv_iload_n hx hb dk_dJ7_fill_53178_0.2.2.2.2.2.1 rfl (lv_at hl 2 rfl) ?_
    refine lv_iload_n hx hb dk_dJ7_fill_53178_0.2.2.2.2.2.2.1 rfl (lv_at hl 3 rfl) ?_
    refine lv_icmp_ge (tgt := 20) hx hb dk_dJ7_fill_53178_0.2.2.2.2.2.2.2.1 (by decide) (fun _ => kk f H locs ls hP hD hS) (fun h9 => ?_)
    have hlt : i < N := by
      rcases Nat.lt_or_ge i N with q | q
      · exact q
      · exact absurd (nI_le q (by omega)) h9
    refine lv_aload_n hx hb dk_dJ7_fill_53178_0_8.1 rfl (lv_at hl 0 rfl) ?_
    refine lv_iload_n hx hb dk_dJ7_fill_53178_0_8.2.1 rfl (lv_at hl 2 rfl) ?_
    refine lv_iload_n hx hb dk_dJ7_fill_53178_0_8.2.2.1 rfl (lv_at hl 1 rfl) ?_
    refine va_iast hx hb C0.2.2.2.2.2.1 hP hD hS 0 0 rfl rfl (vp_in_nI hlt hN) dk_dJ7_fill_53178_0_8.2.2.2.1 (fun H locs hP hD hS => ?_)
    refine lv_iinc (v := nI (i + 1)) (lv' := [(2, .int (nI (i + 1))), (0, .ref a), (1, .int x), (3, .int (nI N))]) hx hb dk_dJ7_fill_53178_0_8.2.2.2.2.1 hl (k := 2) rfl (nI_1 i) (by decide) rfl (fun ls hl => ?_)
    refine lv_goto (tgt := 5) hx hb dk_dJ7_fill_53178_0_8.2.2.2.2.2.1 (by decide) ?_
    exact ih (i + 1) _ H locs ls hlt (by omega) hP hD hS (lv_sub hl [1, 2, 0, 3] rfl)
set_option maxHeartbeats 4000000 in
set_option maxRecDepth 100000 in
theorem c_fill (l : Launch) (dC : Nat → ClassId) (dI : Nat → Nat → Nat) (cy : Nat → ClassId) (sq : Nat → Nat) (a N : Nat) (f : Nat → Int32) (x : Int32) (hN : N + 1 ≤ 2147483648) : k_Met l yJ7_fill_53178 cJ7_fill_53178 4 none { frames := 0, cells := 0, slots := 0, locals := 0 } dC dI cy sq [.ref a, .int x] [(a, .inl (cy 0, N, .inl f))] (k_Qv dC dI (fun _ : Nat → Int32 => True) (fun g : Nat → Int32 => [(a, .inl (cy 0, N, .inl g))])) := by
  refine k_ofW (by decide +kernel) (Nat.le_of_ble_eq_true rfl) ?_
  intro p e s m below meth c A ls H locs C0 hZ hr hlk hin hP hD hA hS hl
  have C0 : k_cx p s m _ c cJ7_fill_53178 4 RJ7 dC dI cy sq := C0
  have hx := C0.1
  have hb := C0.2.1
  have hl : lv_has ls 4 [(0, .ref a), (1, .int x)] := hl
  refine lv_iconst (v := 0) hx hb dk_dJ7_fill_53178_0.1 (by decide) ?_
  refine lv_istore_n (lv' := [(2, .int 0), (0, .ref a), (1, .int x)]) hx hb dk_dJ7_fill_53178_0.2.1 rfl hl (by decide) rfl (fun ls hl => ?_)
  refine lv_aload_n hx hb dk_dJ7_fill_53178_0.2.2.1 rfl (lv_at hl 1 rfl) ?_
  refine va_alen hx hb C0.2.2.2.2.2.1 hP 0 0 rfl rfl (v := nI N) rfl dk_dJ7_fill_53178_0.2.2.2.1 ?_
  refine lv_istore_n (lv' := [(3, .int (nI N)), (2, .int 0), (0, .ref a), (1, .int x)]) hx hb dk_dJ7_fill_53178_0.2.2.2.2.1 rfl hl (by decide) rfl (fun ls hl => ?_)
  refine k_fill_loop (by omega) C0 (fun g H locs ls hP hD hS => ?_) (N + 1) 0 f H locs ls (Nat.zero_le N) (by omega) hP hD hS (lv_sub hl [2, 3, 1, 0] rfl)
  exact k_vret hx hb hr hlk g hS True.intro hP hD (Nat.le_of_ble_eq_true rfl) (Nat.le_of_ble_eq_true rfl) dk_dJ7_fill_53178_0_8.2.2.2.2.2.2.1

/-- Arrays.fill, the row in its bounds -/
theorem k_fillr_loop {p : Program} {l : Launch} {e : Env} {R : Room} {s : State} {m : MethodId} {args : Array Value} {below : List Frame} {meth : Method} {c : Code} {Q : State → Prop} {cells slots : Nat} {A : Nat → Prop} {H0 : Heap} {dC : Nat → ClassId} {dI : Nat → Nat → Nat} {cy : Nat → ClassId} {sq : Nat → Nat} {a N : Nat} {x : Int32} {lo hi : Int} (hx0 : ib x lo hi) (hN : N < 2 ^ 31)
    (C0 : k_cx p s m args c cJ7_fill_53178 4 RJ7 dC dI cy sq)
    (kk : ∀ (f : Nat → Int32) (H : Heap) (locs : List Loc) (ls : Array Slot), ia f N lo hi → va_P (dC, dI) vwCl [(a, .inl (cy 0, N, .inl f))] H → va_D A [(a, .inl (cy 0, N, .inl f))] → va_S A H0 H locs → W p l e R s m args below meth c H locs cells slots Q (F0 m 20 ls [])) :
    ∀ (n i : Nat) (f : Nat → Int32) (H : Heap) (locs : List Loc) (ls : Array Slot), ia f N lo hi → i ≤ N → N + 1 ≤ i + n → va_P (dC, dI) vwCl [(a, .inl (cy 0, N, .inl f))] H → va_D A [(a, .inl (cy 0, N, .inl f))] → va_S A H0 H locs → lv_has ls 4 [(0, .ref a), (1, .int x), (2, .int (nI i)), (3, .int (nI N))] → W p l e R s m args below meth c H locs cells slots Q (F0 m 5 ls []) := by
  have hx := C0.1
  have hb := C0.2.1
  intro n
  induction n with
  | zero => intro i f H locs ls h0 h1 h2; exact absurd h2 (by omega)
  | succ n ih =>
    intro i f H locs ls h0 hi hin hP hD hS hl
    refine lv_iload_n hx hb dk_dJ7_fill_53178_0.2.2.2.2.2.1 rfl (lv_at hl 2 rfl) ?_
    refine lv_iload_n hx hb dk_dJ7_fill_53178_0.2.2.2.2.2.2.1 rfl (lv_at hl 3 rfl) ?_
    refine lv_icmp_ge (tgt := 20) hx hb dk_dJ7_fill_53178_0.2.2.2.2.2.2.2.1 (by decide) (fun _ => kk f H locs ls h0 hP hD hS) (fun h9 => ?_)
    have hlt : i < N := by
      rcases Nat.lt_or_ge i N with q | q
      · exact q
      · exact absurd (nI_le q (by omega)) h9
    refine lv_aload_n hx hb dk_dJ7_fill_53178_0_8.1 rfl (lv_at hl 0 rfl) ?_
    refine lv_iload_n hx hb dk_dJ7_fill_53178_0_8.2.1 rfl (lv_at hl 2 rfl) ?_
    refine lv_iload_n hx hb dk_dJ7_fill_53178_0_8.2.2.1 rfl (lv_at hl 1 rfl) ?_
    refine va_iast hx hb C0.2.2.2.2.2.1 hP hD hS 0 0 rfl rfl (vp_in_nI hlt hN) dk_dJ7_fill_53178_0_8.2.2.2.1 (fun H locs hP hD hS => ?_)
    refine lv_iinc (v := nI (i + 1)) (lv' := [(2, .int (nI (i + 1))), (0, .ref a), (1, .int x), (3, .int (nI N))]) hx hb dk_dJ7_fill_53178_0_8.2.2.2.2.1 hl (k := 2) rfl (nI_1 i) (by decide) rfl (fun ls hl => ?_)
    refine lv_goto (tgt := 5) hx hb dk_dJ7_fill_53178_0_8.2.2.2.2.2.1 (by decide) ?_
    exact ih (i + 1) _ H locs ls (ia_upd h0 _ hx0) hlt (by omega) hP hD hS (lv_sub hl [1, 2, 0, 3] rfl)
set_option maxHeartbeats 4000000 in
set_option maxRecDepth 100000 in
theorem c_fillr (l : Launch) (dC : Nat → ClassId) (dI : Nat → Nat → Nat) (cy : Nat → ClassId) (sq : Nat → Nat) (a N : Nat) (f : Nat → Int32) (x : Int32) (lo hi : Int) (h0 : ia f N lo hi) (hx0 : ib x lo hi) (hN : N + 1 ≤ 2147483648) : k_Met l yJ7_fill_53178 cJ7_fill_53178 4 none { frames := 0, cells := 0, slots := 0, locals := 0 } dC dI cy sq [.ref a, .int x] [(a, .inl (cy 0, N, .inl f))] (k_Qv dC dI (fun g : Nat → Int32 => ia g N lo hi) (fun g : Nat → Int32 => [(a, .inl (cy 0, N, .inl g))])) := by
  refine k_ofW (by decide +kernel) (Nat.le_of_ble_eq_true rfl) ?_
  intro p e s m below meth c A ls H locs C0 hZ hr hlk hin hP hD hA hS hl
  have C0 : k_cx p s m _ c cJ7_fill_53178 4 RJ7 dC dI cy sq := C0
  have hx := C0.1
  have hb := C0.2.1
  have hl : lv_has ls 4 [(0, .ref a), (1, .int x)] := hl
  refine lv_iconst (v := 0) hx hb dk_dJ7_fill_53178_0.1 (by decide) ?_
  refine lv_istore_n (lv' := [(2, .int 0), (0, .ref a), (1, .int x)]) hx hb dk_dJ7_fill_53178_0.2.1 rfl hl (by decide) rfl (fun ls hl => ?_)
  refine lv_aload_n hx hb dk_dJ7_fill_53178_0.2.2.1 rfl (lv_at hl 1 rfl) ?_
  refine va_alen hx hb C0.2.2.2.2.2.1 hP 0 0 rfl rfl (v := nI N) rfl dk_dJ7_fill_53178_0.2.2.2.1 ?_
  refine lv_istore_n (lv' := [(3, .int (nI N)), (2, .int 0), (0, .ref a), (1, .int x)]) hx hb dk_dJ7_fill_53178_0.2.2.2.2.1 rfl hl (by decide) rfl (fun ls hl => ?_)
  refine k_fillr_loop hx0 (by omega) C0 (fun g H locs ls h1 hP hD hS => ?_) (N + 1) 0 f H locs ls h0 (Nat.zero_le N) (by omega) hP hD hS (lv_sub hl [2, 3, 1, 0] rfl)
  exact k_vret hx hb hr hlk g hS h1 hP hD (Nat.le_of_ble_eq_true rfl) (Nat.le_of_ble_eq_true rfl) dk_dJ7_fill_53178_0_8.2.2.2.2.2.2.1
/-- the same for a member of a class that has entries of its own (Math) -/
theorem k_ofWF {l : Launch} {y : MethodName} {bytes : ByteArray} {maxL : Nat} {ret : Option FieldType} {rm : Room} {dC : Nat → ClassId} {dI : Nat → Nat → Nat} {cy : Nat → ClassId} {sq : Nat → Nat} {av : List Value} {wc : va_W} {Qc : (Nat → Prop) → Array Value → State → Outcome → State → Prop} (hy : plainFor y = true) (hlen : (lg_sl av).length ≤ maxL)
    (body : ∀ (p : Program) (e : Env) (s : State) (m : MethodId) (below : List Frame) (meth : Method) (c : Code) (A : Nat → Prop) (ls : Array Slot) (H : Heap) (locs : List Loc), k_cx p s m av.toArray c bytes maxL y.cls dC dI cy sq → k_Z sq A s s.heap → meth.sig.returnType = ret → meth.locks = false → meth.name = y.name → va_P (dC, dI) vwCl wc H → va_D A wc → (∀ q, s.heap.size ≤ q → A q) → va_S A s.heap H locs → lv_has ls maxL (lv_args 0 av) → W p l e rm s m av.toArray below meth c H locs 0 0 (MQ below (Qc A) av.toArray s rm.cells rm.slots A) (F0 m 0 ls [])) :
    k_Met l y bytes maxL ret rm dC dI cy sq av wc Qc := by
  intro sz
  refine va_MetF (cc := bytes) (maxL := maxL) (ret := ret) hy rfl ?_
  intro p e s m args below meth c s₁ B hml hv
  obtain ⟨rfl, hsz, hP, hK, hD0, hZ⟩ := hv
  have hts := atoms_spec (ws := Cond.code y bytes maxL ret :: wsL_law) B.pre
  subst hsz
  have hl := lv_entry av (n := maxL) hlen
  rw [lg_entry_eq]
  exact body p e s m below meth c _ _ s.heap [] ⟨B.exec, B.bytes, hml, findClass_of_methodNamed B.named, fun w h => hts w (List.mem_cons_of_mem _ h), hK⟩ hZ B.returns B.notSynchronized (name_of_methodNamed B.named B.method).1 hP hD0.self (fun q h => Or.inr h) va_S.rf hl
set_option maxHeartbeats 4000000 in
set_option maxRecDepth 100000 in
theorem c_floorDiv (l : Launch) (dC : Nat → ClassId) (dI : Nat → Nat → Nat) (cy : Nat → ClassId) (sq : Nat → Nat) (x y : Int32) (hy : ¬ y = 0) : k_Met l yJ9_floorDiv_7cf53 cJ9_floorDiv_7cf53 3 (some .int) { frames := 0, cells := 0, slots := 0, locals := 0 } dC dI cy sq [.int x, .int y] [] (k_Qi dC dI (fun (_ : Int32) (_ : Unit) => True) (fun _ => [])) := by
  refine k_ofWF (by decide +kernel) (Nat.le_of_ble_eq_true rfl) ?_
  intro p e s m below meth c A ls H locs C0 hZ hr hlk hin hP hD hA hS hl
  have C0 : k_cx p s m _ c cJ9_floorDiv_7cf53 3 RJ9 dC dI cy sq := C0
  have hx := C0.1
  have hb := C0.2.1
  have hl : lv_has ls 3 [(0, .int x), (1, .int y)] := hl
  refine lv_iload_n hx hb dk_dJ9_floorDiv_7cf53_0.1 rfl (lv_at hl 0 rfl) ?_
  refine lv_iload_n hx hb dk_dJ9_floorDiv_7cf53_0.2.1 rfl (lv_at hl 1 rfl) ?_
  refine lv_idiv hx hb dk_dJ9_floorDiv_7cf53_0.2.2.1 hy ?_
  refine lv_topi (fun z ez => ?_)
  refine lv_istore_n (lv' := [(2, .int z), (0, .int x), (1, .int y)]) hx hb dk_dJ9_floorDiv_7cf53_0.2.2.2.1 rfl hl (by decide) rfl (fun ls hl => ?_)
  have fin : ∀ (ls : Array Slot), lv_has ls 3 [(2, .int z), (0, .int x), (1, .int y)] → W p l e { frames := 0, cells := 0, slots := 0, locals := 0 } s m ([.int x, .int y] : List Value).toArray below meth c H locs 0 0 (MQ below (k_Qi dC dI (fun (_ : Int32) (_ : Unit) => True) (fun _ => []) A) ([.int x, .int y] : List Value).toArray s 0 0 A) (F0 m 21 ls []) := by
    intro ls hl
    refine lv_iload_n hx hb dk_dJ9_floorDiv_7cf53_20.2.1 rfl (lv_at hl 0 rfl) ?_
    exact k_iret hx hb hr hlk rfl () hS True.intro hP hD (Nat.le_refl _) (Nat.le_refl _) dk_dJ9_floorDiv_7cf53_20.2.2.1
  refine lv_iload_n hx hb dk_dJ9_floorDiv_7cf53_0.2.2.2.2.1 rfl (lv_at hl 1 rfl) ?_
  refine lv_iload_n hx hb dk_dJ9_floorDiv_7cf53_0.2.2.2.2.2.1 rfl (lv_at hl 2 rfl) ?_
  refine lv_ixor hx hb dk_dJ9_floorDiv_7cf53_0.2.2.2.2.2.2.1 ?_
  refine lv_if_ge (tgt := 21) hx hb dk_dJ9_floorDiv_7cf53_0.2.2.2.2.2.2.2.1 (by decide) (fun _ => fin ls hl) (fun _ => ?_)
  refine lv_iload_n hx hb dk_dJ9_floorDiv_7cf53_0_8.1 rfl (lv_at hl 0 rfl) ?_
  refine lv_iload_n hx hb dk_dJ9_floorDiv_7cf53_0_8.2.1 rfl (lv_at hl 2 rfl) ?_
  refine lv_imul hx hb dk_dJ9_floorDiv_7cf53_0_8.2.2.1 ?_
  refine lv_iload_n hx hb dk_dJ9_floorDiv_7cf53_0_8.2.2.2.1 rfl (lv_at hl 1 rfl) ?_
  refine lv_icmp_eq (tgt := 21) hx hb dk_dJ9_floorDiv_7cf53_0_8.2.2.2.2.1 (by decide) (fun _ => fin ls hl) (fun _ => ?_)
  refine lv_iload_n hx hb dk_dJ9_floorDiv_7cf53_0_8.2.2.2.2.2.1 rfl (lv_at hl 0 rfl) ?_
  refine lv_iconst (v := 1) hx hb dk_dJ9_floorDiv_7cf53_0_8.2.2.2.2.2.2.1 (by decide) ?_
  refine lv_isub hx hb dk_dJ9_floorDiv_7cf53_0_8.2.2.2.2.2.2.2.1 ?_
  exact k_iret hx hb hr hlk rfl () hS True.intro hP hD (Nat.le_of_ble_eq_true rfl) (Nat.le_of_ble_eq_true rfl) dk_dJ9_floorDiv_7cf53_20.1
end
section
/-! str -/
set_option maxHeartbeats 4000000 in
set_option maxRecDepth 100000 in
theorem c_coder (l : Launch) (dC : Nat → ClassId) (dI : Nat → Nat → Nat) (cy : Nat → ClassId) (sq : Nat → Nat) (i : Nat) (hi : i < 21) : k_Met l yJ0_coder_7d493 cJ0_coder_7d493 1 (some .byte) { frames := 0, cells := 0, slots := 0, locals := 0 } dC dI cy sq [.ref (sq i)] [] (k_Qi dC dI (fun (r : Int32) (_ : Unit) => r = 0) (fun _ => [])) := by
  refine k_ofWF (by decide +kernel) (Nat.le_of_ble_eq_true rfl) ?_
  intro p e s m below meth c A ls H locs C0 hZ hr hlk hin hP hD hA hS hl
  have C0 : k_cx p s m _ c cJ0_coder_7d493 1 RJ0 dC dI cy sq := C0
  have hx := C0.1
  have hb := C0.2.1
  have hl : lv_has ls 1 [(0, .ref (sq i))] := hl
  refine va_gets hx hb hZ.2.1 hS C0.2.2.2.1 (C0.2.2.2.2.1 _ wd353) (fun _ h => h) dk_dJ0_coder_7d493_0.1 ?_
  refine lv_if_eq (tgt := 13) hx hb dk_dJ0_coder_7d493_0.2.1 (by decide) (fun h9 => absurd h9 (by decide)) (fun _ => ?_)
  refine lv_aload_n hx hb dk_dJ0_coder_7d493_0.2.2.1 rfl (lv_at hl 0 rfl) ?_
  refine vk_getf hx hb (hZ.1.1 i hi).2.1 hS C0.2.2.2.1 (C0.2.2.2.2.1 _ wd354) (fun _ h => h) dk_dJ0_coder_7d493_0.2.2.2.1 ?_
  refine lv_goto (tgt := 14) hx hb dk_dJ0_coder_7d493_0.2.2.2.2.1 (by decide) ?_
  exact k_iret hx hb hr hlk rfl () hS rfl hP hD (Nat.le_of_ble_eq_true rfl) (Nat.le_of_ble_eq_true rfl) dk_dJ0_coder_7d493_0.2.2.2.2.2.2.1
set_option maxHeartbeats 4000000 in
set_option maxRecDepth 100000 in
theorem c_isLatin1 (l : Launch) (dC : Nat → ClassId) (dI : Nat → Nat → Nat) (cy : Nat → ClassId) (sq : Nat → Nat) (i : Nat) (hi : i < 21) : k_Met l yJ0_isLatin1_aae02 cJ0_isLatin1_aae02 1 (some .boolean) { frames := 0, cells := 0, slots := 0, locals := 0 } dC dI cy sq [.ref (sq i)] [] (k_Qi dC dI (fun (r : Int32) (_ : Unit) => r = 1) (fun _ => [])) := by
  refine k_ofWF (by decide +kernel) (Nat.le_of_ble_eq_true rfl) ?_
  intro p e s m below meth c A ls H locs C0 hZ hr hlk hin hP hD hA hS hl
  have C0 : k_cx p s m _ c cJ0_isLatin1_aae02 1 RJ0 dC dI cy sq := C0
  have hx := C0.1
  have hb := C0.2.1
  have hl : lv_has ls 1 [(0, .ref (sq i))] := hl
  refine va_gets hx hb hZ.2.1 hS C0.2.2.2.1 (C0.2.2.2.2.1 _ wd353) (fun _ h => h) dk_dJ0_isLatin1_aae02_0.1 ?_
  refine lv_if_eq (tgt := 17) hx hb dk_dJ0_isLatin1_aae02_0.2.1 (by decide) (fun h9 => absurd h9 (by decide)) (fun _ => ?_)
  refine lv_aload_n hx hb dk_dJ0_isLatin1_aae02_0.2.2.1 rfl (lv_at hl 0 rfl) ?_
  refine vk_getf hx hb (hZ.1.1 i hi).2.1 hS C0.2.2.2.1 (C0.2.2.2.2.1 _ wd354) (fun _ h => h) dk_dJ0_isLatin1_aae02_0.2.2.2.1 ?_
  refine lv_if_ne (tgt := 17) hx hb dk_dJ0_isLatin1_aae02_0.2.2.2.2.1 (by decide) (fun h9 => absurd rfl h9) (fun _ => ?_)
  refine lv_iconst (v := 1) hx hb dk_dJ0_isLatin1_aae02_0.2.2.2.2.2.1 (by decide) ?_
  refine lv_goto (tgt := 18) hx hb dk_dJ0_isLatin1_aae02_0.2.2.2.2.2.2.1 (by decide) ?_
  exact k_iret hx hb hr hlk (k_nb 1 (by decide)) () hS rfl hP hD (Nat.le_of_ble_eq_true rfl) (Nat.le_of_ble_eq_true rfl) dk_dJ0_isLatin1_aae02_0_8.1
theorem k_shr0 : ∀ i, i < 21 → Int32.ofNat (k_len.getD i 0) >>> ((0 : Int32) &&& 31) = nI (k_len.getD i 0) := by decide
set_option maxHeartbeats 4000000 in
set_option maxRecDepth 100000 in
theorem c_length (l : Launch) (dC : Nat → ClassId) (dI : Nat → Nat → Nat) (cy : Nat → ClassId) (sq : Nat → Nat) (i : Nat) (hi : i < 21) : k_Met l yJ0_length_8abf5 cJ0_length_8abf5 1 (some .int) { frames := 1, cells := 0, slots := 0, locals := 40 } dC dI cy sq [.ref (sq i)] [] (k_Qi dC dI (fun (r : Int32) (_ : Unit) => r = nI (k_len.getD i 0)) (fun _ => [])) := by
  refine k_ofWF (by decide +kernel) (Nat.le_of_ble_eq_true rfl) ?_
  intro p e s m below meth c A ls H locs C0 hZ hr hlk hin hP hD hA hS hl
  have C0 : k_cx p s m _ c cJ0_length_8abf5 1 RJ0 dC dI cy sq := C0
  have hx := C0.1
  have hb := C0.2.1
  have hl : lv_has ls 1 [(0, .ref (sq i))] := hl
  refine lv_aload_n hx hb dk_dJ0_length_8abf5_0.1 rfl (lv_at hl 0 rfl) ?_
  refine vk_getf hx hb (hZ.1.1 i hi).2.2.1 hS C0.2.2.2.1 (C0.2.2.2.2.1 _ wd348) (fun _ h => h) dk_dJ0_length_8abf5_0.2.1 ?_
  refine va_tlen hx hb (hZ.1.1 i hi).2.2.2 hS rfl dk_dJ0_length_8abf5_0.2.2.1 ?_
  refine lv_aload_n hx hb dk_dJ0_length_8abf5_0.2.2.2.1 rfl (lv_at hl 0 rfl) ?_
  refine k_ji hP hD hS hA [] [] (wr := []) rfl rfl (by decide) (by decide) (by decide) 0 0 (Nat.le_of_ble_eq_true rfl) (Nat.le_of_ble_eq_true rfl) (fun hPc hDc => k_runVO (As := []) (rest := [.int (Int32.ofNat (k_len.getD i 0))]) C0 hZ hS hA (c_coder l dC dI cy sq i hi) mV_J0_335 hPc hDc (vk_recv hZ.1 hi hS) hl rfl rfl (Nat.le_of_ble_eq_true rfl) ⟨(Nat.le_of_ble_eq_true rfl), (Nat.le_of_ble_eq_true rfl)⟩ ⟨(Nat.le_of_ble_eq_true rfl), (Nat.le_of_ble_eq_true rfl)⟩ dk_dJ0_length_8abf5_0.2.2.2.2.1) (fun r u H locs hw hP hD hS => ?_)
  subst hw
  refine lv_ishr hx hb dk_dJ0_length_8abf5_0.2.2.2.2.2.1 ?_
  exact k_iret hx hb hr hlk rfl () hS (k_shr0 i hi) hP hD (Nat.le_of_ble_eq_true rfl) (Nat.le_of_ble_eq_true rfl) dk_dJ0_length_8abf5_0.2.2.2.2.2.2.1
set_option maxHeartbeats 4000000 in
set_option maxRecDepth 100000 in
theorem c_ck3n (l : Launch) (dC : Nat → ClassId) (dI : Nat → Nat → Nat) (cy : Nat → ClassId) (sq : Nat → Nat) (x n : Int32) (h0 : ¬ x < 0) (h1 : x < n) : k_Met l yJ3_checkIndex_8e157 cJ3_checkIndex_8e157 3 (some .int) { frames := 0, cells := 0, slots := 0, locals := 0 } dC dI cy sq [.int x, .int n, .null] [] (k_Qi dC dI (fun (_ : Int32) (_ : Unit) => True) (fun _ => [])) := by
  refine k_ofWF (by decide +kernel) (Nat.le_of_ble_eq_true rfl) ?_
  intro p e s m below meth c A ls H locs C0 hZ hr hlk hin hP hD hA hS hl
  have C0 : k_cx p s m _ c cJ3_checkIndex_8e157 3 RJ3 dC dI cy sq := C0
  have hx := C0.1
  have hb := C0.2.1
  have hl : lv_has ls 3 [(0, .int x), (1, .int n), (2, .null)] := hl
  refine lv_iload_n hx hb dk_dJ3_checkIndex_8e157_0.1 rfl (lv_at hl 0 rfl) ?_
  refine lv_if_lt (tgt := 9) hx hb dk_dJ3_checkIndex_8e157_0.2.1 (by decide) (fun h9 => absurd h9 h0) (fun _ => ?_)
  refine lv_iload_n hx hb dk_dJ3_checkIndex_8e157_0.2.2.1 rfl (lv_at hl 0 rfl) ?_
  refine lv_iload_n hx hb dk_dJ3_checkIndex_8e157_0.2.2.2.1 rfl (lv_at hl 1 rfl) ?_
  refine lv_icmp_lt (tgt := 16) hx hb dk_dJ3_checkIndex_8e157_0.2.2.2.2.1 (by decide) (fun _ => ?_) (fun h9 => absurd h1 h9)
  refine lv_iload_n hx hb dk_dJ3_checkIndex_8e157_0_8.2.2.1 rfl (lv_at hl 0 rfl) ?_
  exact k_iret hx hb hr hlk rfl () hS True.intro hP hD (Nat.le_of_ble_eq_true rfl) (Nat.le_of_ble_eq_true rfl) dk_dJ3_checkIndex_8e157_0_8.2.2.2.1
set_option maxHeartbeats 4000000 in
set_option maxRecDepth 100000 in
theorem c_ck3r (l : Launch) (dC : Nat → ClassId) (dI : Nat → Nat → Nat) (cy : Nat → ClassId) (sq : Nat → Nat) (x n : Int32) (t : Nat) (h0 : ¬ x < 0) (h1 : x < n) : k_Met l yJ3_checkIndex_8e157 cJ3_checkIndex_8e157 3 (some .int) { frames := 0, cells := 0, slots := 0, locals := 0 } dC dI cy sq [.int x, .int n, .ref t] [] (k_Qi dC dI (fun (_ : Int32) (_ : Unit) => True) (fun _ => [])) := by
  refine k_ofWF (by decide +kernel) (Nat.le_of_ble_eq_true rfl) ?_
  intro p e s m below meth c A ls H locs C0 hZ hr hlk hin hP hD hA hS hl
  have C0 : k_cx p s m _ c cJ3_checkIndex_8e157 3 RJ3 dC dI cy sq := C0
  have hx := C0.1
  have hb := C0.2.1
  have hl : lv_has ls 3 [(0, .int x), (1, .int n), (2, .ref t)] := hl
  refine lv_iload_n hx hb dk_dJ3_checkIndex_8e157_0.1 rfl (lv_at hl 0 rfl) ?_
  refine lv_if_lt (tgt := 9) hx hb dk_dJ3_checkIndex_8e157_0.2.1 (by decide) (fun h9 => absurd h9 h0) (fun _ => ?_)
  refine lv_iload_n hx hb dk_dJ3_checkIndex_8e157_0.2.2.1 rfl (lv_at hl 0 rfl) ?_
  refine lv_iload_n hx hb dk_dJ3_checkIndex_8e157_0.2.2.2.1 rfl (lv_at hl 1 rfl) ?_
  refine lv_icmp_lt (tgt := 16) hx hb dk_dJ3_checkIndex_8e157_0.2.2.2.2.1 (by decide) (fun _ => ?_) (fun h9 => absurd h1 h9)
  refine lv_iload_n hx hb dk_dJ3_checkIndex_8e157_0_8.2.2.1 rfl (lv_at hl 0 rfl) ?_
  exact k_iret hx hb hr hlk rfl () hS True.intro hP hD (Nat.le_of_ble_eq_true rfl) (Nat.le_of_ble_eq_true rfl) dk_dJ3_checkIndex_8e157_0_8.2.2.2.1
set_option maxHeartbeats 4000000 in
set_option maxRecDepth 100000 in
theorem c_ck0 (l : Launch) (dC : Nat → ClassId) (dI : Nat → Nat → Nat) (cy : Nat → ClassId) (sq : Nat → Nat) (x n : Int32) (h0 : ¬ x < 0) (h1 : x < n) : k_Met l yJ0_checkIndex_df160 cJ0_checkIndex_df160 2 none { frames := 1, cells := 0, slots := 0, locals := 40 } dC dI cy sq [.int x, .int n] [] (k_Qv dC dI (fun _ : Unit => True) (fun _ => [])) := by
  refine k_ofWF (by decide +kernel) (Nat.le_of_ble_eq_true rfl) ?_
  intro p e s m below meth c A ls H locs C0 hZ hr hlk hin hP hD hA hS hl
  have C0 : k_cx p s m _ c cJ0_checkIndex_df160 2 RJ0 dC dI cy sq := C0
  have hx := C0.1
  have hb := C0.2.1
  have hl : lv_has ls 2 [(0, .int x), (1, .int n)] := hl
  refine lv_iload_n hx hb dk_dJ0_checkIndex_df160_0.1 rfl (lv_at hl 0 rfl) ?_
  refine lv_iload_n hx hb dk_dJ0_checkIndex_df160_0.2.1 rfl (lv_at hl 1 rfl) ?_
  rcases hZ.2.2 with hq | ⟨t, hq⟩
  · refine va_gets hx hb hq hS C0.2.2.2.1 (C0.2.2.2.2.1 _ wd370) (fun _ h => h) dk_dJ0_checkIndex_df160_0.2.2.1 ?_
    refine k_ji hP hD hS hA [] [] (wr := []) rfl rfl (by decide) (by decide) (by decide) 0 0 (Nat.le_of_ble_eq_true rfl) (Nat.le_of_ble_eq_true rfl) (fun hPc hDc => k_runS (As := [.int x, .int n, .null]) (rest := []) C0 hZ hS hA (c_ck3n l dC dI cy sq x n h0 h1) mS_J0_1059 hPc hDc hl rfl rfl (Nat.le_of_ble_eq_true rfl) ⟨(Nat.le_of_ble_eq_true rfl), (Nat.le_of_ble_eq_true rfl)⟩ ⟨(Nat.le_of_ble_eq_true rfl), (Nat.le_of_ble_eq_true rfl)⟩ dk_dJ0_checkIndex_df160_0.2.2.2.1) (fun r u H locs hw hP hD hS => ?_)
    refine lv_pop hx hb dk_dJ0_checkIndex_df160_0.2.2.2.2.1 rfl ?_
    exact k_vret hx hb hr hlk () hS True.intro hP hD (Nat.le_of_ble_eq_true rfl) (Nat.le_of_ble_eq_true rfl) dk_dJ0_checkIndex_df160_0.2.2.2.2.2.1
  · refine va_gets hx hb hq hS C0.2.2.2.1 (C0.2.2.2.2.1 _ wd370) (fun _ h => h) dk_dJ0_checkIndex_df160_0.2.2.1 ?_
    refine k_ji hP hD hS hA [] [] (wr := []) rfl rfl (by decide) (by decide) (by decide) 0 0 (Nat.le_of_ble_eq_true rfl) (Nat.le_of_ble_eq_true rfl) (fun hPc hDc => k_runS (As := [.int x, .int n, .ref t]) (rest := []) C0 hZ hS hA (c_ck3r l dC dI cy sq x n t h0 h1) mS_J0_1059 hPc hDc hl rfl rfl (Nat.le_of_ble_eq_true rfl) ⟨(Nat.le_of_ble_eq_true rfl), (Nat.le_of_ble_eq_true rfl)⟩ ⟨(Nat.le_of_ble_eq_true rfl), (Nat.le_of_ble_eq_true rfl)⟩ dk_dJ0_checkIndex_df160_0.2.2.2.1) (fun r u H locs hw hP hD hS => ?_)
    refine lv_pop hx hb dk_dJ0_checkIndex_df160_0.2.2.2.2.1 rfl ?_
    exact k_vret hx hb hr hlk () hS True.intro hP hD (Nat.le_of_ble_eq_true rfl) (Nat.le_of_ble_eq_true rfl) dk_dJ0_checkIndex_df160_0.2.2.2.2.2.1
theorem k_lenN : ∀ i, i < 21 → Int32.ofNat (k_len.getD i 0) = nI (k_len.getD i 0) ∧ k_len.getD i 0 < 2 ^ 31 := by decide
set_option maxHeartbeats 4000000 in
set_option maxRecDepth 100000 in
theorem c_charAt1 (l : Launch) (dC : Nat → ClassId) (dI : Nat → Nat → Nat) (cy : Nat → ClassId) (sq : Nat → Nat) (i : Nat) (hi : i < 21) (k : Int32) (h0 : ¬ k < 0) (h1 : k < nI (k_len.getD i 0)) (h2 : vp_in k (k_len.getD i 0)) : k_Met l yJ1_charAt_3b067 cJ1_charAt_3b067 2 (some .char) { frames := 2, cells := 0, slots := 0, locals := 80 } dC dI cy sq [.ref (sq (100 + i)), .int k] [] (k_Qi dC dI (fun (r : Int32) (_ : Unit) => narrow .char (.int r) = .int r) (fun _ => [])) := by
  refine k_ofWF (by decide +kernel) (Nat.le_of_ble_eq_true rfl) ?_
  intro p e s m below meth c A ls H locs C0 hZ hr hlk hin hP hD hA hS hl
  have C0 : k_cx p s m _ c cJ1_charAt_3b067 2 RJ1 dC dI cy sq := C0
  have hx := C0.1
  have hb := C0.2.1
  have hl : lv_has ls 2 [(0, .ref (sq (100 + i))), (1, .int k)] := hl
  refine lv_iload_n hx hb dk_dJ1_charAt_3b067_0.1 rfl (lv_at hl 1 rfl) ?_
  refine lv_aload_n hx hb dk_dJ1_charAt_3b067_0.2.1 rfl (lv_at hl 0 rfl) ?_
  refine va_tlen hx hb (hZ.1.1 i hi).2.2.2 hS (k_lenN i hi).1 dk_dJ1_charAt_3b067_0.2.2.1 ?_
  refine k_jv hP hD hS hA [] [] (wr := []) rfl rfl (by decide) (by decide) (by decide) 0 0 (Nat.le_of_ble_eq_true rfl) (Nat.le_of_ble_eq_true rfl) (fun hPc hDc => k_runS (As := [.int k, .int (nI (k_len.getD i 0))]) (rest := []) C0 hZ hS hA (c_ck0 l dC dI cy sq k _ h0 h1) mS_J1_9 hPc hDc hl rfl rfl (Nat.le_of_ble_eq_true rfl) ⟨(Nat.le_of_ble_eq_true rfl), (Nat.le_of_ble_eq_true rfl)⟩ ⟨(Nat.le_of_ble_eq_true rfl), (Nat.le_of_ble_eq_true rfl)⟩ dk_dJ1_charAt_3b067_0.2.2.2.1) (fun u H locs hw hP hD hS => ?_)
  refine lv_aload_n hx hb dk_dJ1_charAt_3b067_0.2.2.2.2.1 rfl (lv_at hl 0 rfl) ?_
  refine lv_iload_n hx hb dk_dJ1_charAt_3b067_0.2.2.2.2.2.1 rfl (lv_at hl 1 rfl) ?_
  refine va_tb hx hb (hZ.1.1 i hi).2.2.2 hS h2 rfl dk_dJ1_charAt_3b067_0.2.2.2.2.2.2.1 ?_
  refine lv_sipush (v := 255) hx hb dk_dJ1_charAt_3b067_0.2.2.2.2.2.2.2.1 (by decide) ?_
  refine lv_iand hx hb dk_dJ1_charAt_3b067_0_8.1 ?_
  refine lv_i2c hx hb dk_dJ1_charAt_3b067_0_8.2.1 rfl ?_
  exact k_iret hx hb hr hlk (pk_nc _) () hS (pk_nc _) hP hD (Nat.le_of_ble_eq_true rfl) (Nat.le_of_ble_eq_true rfl) dk_dJ1_charAt_3b067_0_8.2.2.1
set_option maxHeartbeats 4000000 in
set_option maxRecDepth 100000 in
theorem c_charAt (l : Launch) (dC : Nat → ClassId) (dI : Nat → Nat → Nat) (cy : Nat → ClassId) (sq : Nat → Nat) (i : Nat) (hi : i < 21) (k : Int32) (h0 : ¬ k < 0) (h1 : k < nI (k_len.getD i 0)) (h2 : vp_in k (k_len.getD i 0)) : k_Met l yJ0_charAt_5068e cJ0_charAt_5068e 2 (some .char) { frames := 3, cells := 0, slots := 0, locals := 120 } dC dI cy sq [.ref (sq i), .int k] [] (k_Qi dC dI (fun (_ : Int32) (_ : Unit) => True) (fun _ => [])) := by
  refine k_ofWF (by decide +kernel) (Nat.le_of_ble_eq_true rfl) ?_
  intro p e s m below meth c A ls H locs C0 hZ hr hlk hin hP hD hA hS hl
  have C0 : k_cx p s m _ c cJ0_charAt_5068e 2 RJ0 dC dI cy sq := C0
  have hx := C0.1
  have hb := C0.2.1
  have hl : lv_has ls 2 [(0, .ref (sq i)), (1, .int k)] := hl
  refine lv_aload_n hx hb dk_dJ0_charAt_5068e_0.1 rfl (lv_at hl 0 rfl) ?_
  refine k_ji hP hD hS hA [] [] (wr := []) rfl rfl (by decide) (by decide) (by decide) 0 0 (Nat.le_of_ble_eq_true rfl) (Nat.le_of_ble_eq_true rfl) (fun hPc hDc => k_runVO (As := []) (rest := []) C0 hZ hS hA (c_isLatin1 l dC dI cy sq i hi) mV_J0_492 hPc hDc (vk_recv hZ.1 hi hS) hl rfl rfl (Nat.le_of_ble_eq_true rfl) ⟨(Nat.le_of_ble_eq_true rfl), (Nat.le_of_ble_eq_true rfl)⟩ ⟨(Nat.le_of_ble_eq_true rfl), (Nat.le_of_ble_eq_true rfl)⟩ dk_dJ0_charAt_5068e_0.2.1) (fun r u H locs hw hP hD hS => ?_)
  subst hw
  refine lv_if_eq (tgt := 16) hx hb dk_dJ0_charAt_5068e_0.2.2.1 (by decide) (fun h9 => absurd h9 (by decide)) (fun _ => ?_)
  refine lv_aload_n hx hb dk_dJ0_charAt_5068e_0.2.2.2.1 rfl (lv_at hl 0 rfl) ?_
  refine vk_getf hx hb (hZ.1.1 i hi).2.2.1 hS C0.2.2.2.1 (C0.2.2.2.2.1 _ wd348) (fun _ h => h) dk_dJ0_charAt_5068e_0.2.2.2.2.1 ?_
  refine lv_iload_n hx hb dk_dJ0_charAt_5068e_0.2.2.2.2.2.1 rfl (lv_at hl 1 rfl) ?_
  refine k_ji hP hD hS hA [] [] (wr := []) rfl rfl (by decide) (by decide) (by decide) 0 0 (Nat.le_of_ble_eq_true rfl) (Nat.le_of_ble_eq_true rfl) (fun hPc hDc => k_runS (As := [.ref (sq (100 + i)), .int k]) (rest := []) C0 hZ hS hA (c_charAt1 l dC dI cy sq i hi k h0 h1 h2) mS_J0_495 hPc hDc hl rfl rfl (Nat.le_of_ble_eq_true rfl) ⟨(Nat.le_of_ble_eq_true rfl), (Nat.le_of_ble_eq_true rfl)⟩ ⟨(Nat.le_of_ble_eq_true rfl), (Nat.le_of_ble_eq_true rfl)⟩ dk_dJ0_charAt_5068e_0.2.2.2.2.2.2.1) (fun r2 u2 H locs hw2 hP hD hS => ?_)
  exact k_iret hx hb hr hlk hw2 () hS True.intro hP hD (Nat.le_of_ble_eq_true rfl) (Nat.le_of_ble_eq_true rfl) dk_dJ0_charAt_5068e_0.2.2.2.2.2.2.2.1
/-- a place in a text -/
theorem ib_ch {k : Int32} {a b : Int} (i n : Nat) (h : ib k a b) (hn : k_len.getD i 0 = n) (h1 : (decide (0 ≤ a) && decide (b < (n : Int)) && decide (n < 2147483648)) = true) : ¬ k < 0 ∧ k < nI (k_len.getD i 0) ∧ vp_in k (k_len.getD i 0) := by
  simp only [Bool.and_eq_true, decide_eq_true_eq] at h1
  rw [hn]
  have h2 := h.1
  have h3 := h.2
  have e0 : (0 : Int32).toInt = 0 := by decide
  refine ⟨?_, ?_, ?_⟩
  · rw [Int32.lt_iff_toInt_lt]; omega
  · rw [Int32.lt_iff_toInt_lt, nI_toInt (by omega)]; omega
  · rw [vp_in_iff]; exact ⟨by omega, by omega⟩
end
section
/-! chr -/
theorem lb_all : (List.range 21).all (fun i => (List.range (k_len.getD i 0)).all (fun j => decide ((((k_byt.getD i []).getD j 0 &&& 255).toUInt32 % 65536).toInt32 = (k_byt.getD i []).getD j 0))) = true := by decide +kernel
theorem lb_ch {i j : Nat} (hi : i < 21) (hj : j < k_len.getD i 0) : (((k_byt.getD i []).getD j 0 &&& 255).toUInt32 % 65536).toInt32 = (k_byt.getD i []).getD j 0 := of_decide_eq_true (List.all_eq_true.mp (List.all_eq_true.mp lb_all i (List.mem_range.mpr hi)) j (List.mem_range.mpr hj))
theorem lb_nc {i j : Nat} (hi : i < 21) (hj : j < k_len.getD i 0) : narrow .char (.int ((k_byt.getD i []).getD j 0)) = .int ((k_byt.getD i []).getD j 0) := by
  have h := pk_nc ((k_byt.getD i []).getD j 0 &&& 255)
  rw [lb_ch hi hj] at h
  exact h
set_option maxHeartbeats 4000000 in
set_option maxRecDepth 100000 in
theorem cx_charAt1 (l : Launch) (dC : Nat → ClassId) (dI : Nat → Nat → Nat) (cy : Nat → ClassId) (sq : Nat → Nat) (i : Nat) (hi : i < 21) (k : Int32) (h0 : ¬ k < 0) (h1 : k < nI (k_len.getD i 0)) (h2 : vp_in k (k_len.getD i 0)) : k_Met l yJ1_charAt_3b067 cJ1_charAt_3b067 2 (some .char) { frames := 2, cells := 0, slots := 0, locals := 80 } dC dI cy sq [.ref (sq (100 + i)), .int k] [] (k_Qi dC dI (fun (r : Int32) (_ : Unit) => r = (k_byt.getD i []).getD (Int32.toNatClampNeg k) 0) (fun _ => [])) := by
  refine k_ofWF (by decide +kernel) (Nat.le_of_ble_eq_true rfl) ?_
  intro p e s m below meth c A ls H locs C0 hZ hr hlk hin hP hD hA hS hl
  have C0 : k_cx p s m _ c cJ1_charAt_3b067 2 RJ1 dC dI cy sq := C0
  have hx := C0.1
  have hb := C0.2.1
  have hl : lv_has ls 2 [(0, .ref (sq (100 + i))), (1, .int k)] := hl
  refine lv_iload_n hx hb dk_dJ1_charAt_3b067_0.1 rfl (lv_at hl 1 rfl) ?_
  refine lv_aload_n hx hb dk_dJ1_charAt_3b067_0.2.1 rfl (lv_at hl 0 rfl) ?_
  refine va_tlen hx hb (hZ.1.1 i hi).2.2.2 hS (k_lenN i hi).1 dk_dJ1_charAt_3b067_0.2.2.1 ?_
  refine k_jv hP hD hS hA [] [] (wr := []) rfl rfl (by decide) (by decide) (by decide) 0 0 (Nat.le_of_ble_eq_true rfl) (Nat.le_of_ble_eq_true rfl) (fun hPc hDc => k_runS (As := [.int k, .int (nI (k_len.getD i 0))]) (rest := []) C0 hZ hS hA (c_ck0 l dC dI cy sq k _ h0 h1) mS_J1_9 hPc hDc hl rfl rfl (Nat.le_of_ble_eq_true rfl) ⟨(Nat.le_of_ble_eq_true rfl), (Nat.le_of_ble_eq_true rfl)⟩ ⟨(Nat.le_of_ble_eq_true rfl), (Nat.le_of_ble_eq_true rfl)⟩ dk_dJ1_charAt_3b067_0.2.2.2.1) (fun u H locs hw hP hD hS => ?_)
  refine lv_aload_n hx hb dk_dJ1_charAt_3b067_0.2.2.2.2.1 rfl (lv_at hl 0 rfl) ?_
  refine lv_iload_n hx hb dk_dJ1_charAt_3b067_0.2.2.2.2.2.1 rfl (lv_at hl 1 rfl) ?_
  refine va_tb hx hb (hZ.1.1 i hi).2.2.2 hS h2 rfl dk_dJ1_charAt_3b067_0.2.2.2.2.2.2.1 ?_
  refine lv_sipush (v := 255) hx hb dk_dJ1_charAt_3b067_0.2.2.2.2.2.2.2.1 (by decide) ?_
  refine lv_iand hx hb dk_dJ1_charAt_3b067_0_8.1 ?_
  refine lv_i2c hx hb dk_dJ1_charAt_3b067_0_8.2.1 (lb_ch hi (Nat.not_le.mp fun q => h2 (Or.inr q))) ?_
  exact k_iret hx hb hr hlk (lb_nc hi (Nat.not_le.mp fun q => h2 (Or.inr q))) () hS rfl hP hD (Nat.le_of_ble_eq_true rfl) (Nat.le_of_ble_eq_true rfl) dk_dJ1_charAt_3b067_0_8.2.2.1
set_option maxHeartbeats 4000000 in
set_option maxRecDepth 100000 in
theorem cx_charAt (l : Launch) (dC : Nat → ClassId) (dI : Nat → Nat → Nat) (cy : Nat → ClassId) (sq : Nat → Nat) (i : Nat) (hi : i < 21) (k : Int32) (h0 : ¬ k < 0) (h1 : k < nI (k_len.getD i 0)) (h2 : vp_in k (k_len.getD i 0)) : k_Met l yJ0_charAt_5068e cJ0_charAt_5068e 2 (some .char) { frames := 3, cells := 0, slots := 0, locals := 120 } dC dI cy sq [.ref (sq i), .int k] [] (k_Qi dC dI (fun (r : Int32) (_ : Unit) => r = (k_byt.getD i []).getD (Int32.toNatClampNeg k) 0) (fun _ => [])) := by
  refine k_ofWF (by decide +kernel) (Nat.le_of_ble_eq_true rfl) ?_
  intro p e s m below meth c A ls H locs C0 hZ hr hlk hin hP hD hA hS hl
  have C0 : k_cx p s m _ c cJ0_charAt_5068e 2 RJ0 dC dI cy sq := C0
  have hx := C0.1
  have hb := C0.2.1
  have hl : lv_has ls 2 [(0, .ref (sq i)), (1, .int k)] := hl
  refine lv_aload_n hx hb dk_dJ0_charAt_5068e_0.1 rfl (lv_at hl 0 rfl) ?_
  refine k_ji hP hD hS hA [] [] (wr := []) rfl rfl (by decide) (by decide) (by decide) 0 0 (Nat.le_of_ble_eq_true rfl) (Nat.le_of_ble_eq_true rfl) (fun hPc hDc => k_runVO (As := []) (rest := []) C0 hZ hS hA (c_isLatin1 l dC dI cy sq i hi) mV_J0_492 hPc hDc (vk_recv hZ.1 hi hS) hl rfl rfl (Nat.le_of_ble_eq_true rfl) ⟨(Nat.le_of_ble_eq_true rfl), (Nat.le_of_ble_eq_true rfl)⟩ ⟨(Nat.le_of_ble_eq_true rfl), (Nat.le_of_ble_eq_true rfl)⟩ dk_dJ0_charAt_5068e_0.2.1) (fun r u H locs hw hP hD hS => ?_)
  subst hw
  refine lv_if_eq (tgt := 16) hx hb dk_dJ0_charAt_5068e_0.2.2.1 (by decide) (fun h9 => absurd h9 (by decide)) (fun _ => ?_)
  refine lv_aload_n hx hb dk_dJ0_charAt_5068e_0.2.2.2.1 rfl (lv_at hl 0 rfl) ?_
  refine vk_getf hx hb (hZ.1.1 i hi).2.2.1 hS C0.2.2.2.1 (C0.2.2.2.2.1 _ wd348) (fun _ h => h) dk_dJ0_charAt_5068e_0.2.2.2.2.1 ?_
  refine lv_iload_n hx hb dk_dJ0_charAt_5068e_0.2.2.2.2.2.1 rfl (lv_at hl 1 rfl) ?_
  refine k_ji hP hD hS hA [] [] (wr := []) rfl rfl (by decide) (by decide) (by decide) 0 0 (Nat.le_of_ble_eq_true rfl) (Nat.le_of_ble_eq_true rfl) (fun hPc hDc => k_runS (As := [.ref (sq (100 + i)), .int k]) (rest := []) C0 hZ hS hA (cx_charAt1 l dC dI cy sq i hi k h0 h1 h2) mS_J0_495 hPc hDc hl rfl rfl (Nat.le_of_ble_eq_true rfl) ⟨(Nat.le_of_ble_eq_true rfl), (Nat.le_of_ble_eq_true rfl)⟩ ⟨(Nat.le_of_ble_eq_true rfl), (Nat.le_of_ble_eq_true rfl)⟩ dk_dJ0_charAt_5068e_0.2.2.2.2.2.2.1) (fun r2 u2 H locs hw2 hP hD hS => ?_)
  exact k_iret hx hb hr hlk (by rw [hw2]; exact lb_nc hi (Nat.not_le.mp fun q => h2 (Or.inr q))) () hS hw2 hP hD (Nat.le_of_ble_eq_true rfl) (Nat.le_of_ble_eq_true rfl) dk_dJ0_charAt_5068e_0.2.2.2.2.2.2.2.1
end
section
/-! fillx -/
theorem k_fillx_loop {p : Program} {l : Launch} {e : Env} {R : Room} {s : State} {m : MethodId} {args : Array Value} {below : List Frame} {meth : Method} {c : Code} {Q : State → Prop} {cells slots : Nat} {A : Nat → Prop} {H0 : Heap} {dC : Nat → ClassId} {dI : Nat → Nat → Nat} {cy : Nat → ClassId} {sq : Nat → Nat} {a N : Nat} {x : Int32} {f0 : Nat → Int32} (hN : N < 2 ^ 31)
    (C0 : k_cx p s m args c cJ7_fill_53178 4 RJ7 dC dI cy sq)
    (kk : ∀ (f : Nat → Int32) (H : Heap) (locs : List Loc) (ls : Array Slot), f = lf_fill f0 N x → va_P (dC, dI) vwCl [(a, .inl (cy 0, N, .inl f))] H → va_D A [(a, .inl (cy 0, N, .inl f))] → va_S A H0 H locs → W p l e R s m args below meth c H locs cells slots Q (F0 m 20 ls [])) :
    ∀ (n i : Nat) (f : Nat → Int32) (H : Heap) (locs : List Loc) (ls : Array Slot), f = lf_fill f0 i x → i ≤ N → N + 1 ≤ i + n → va_P (dC, dI) vwCl [(a, .inl (cy 0, N, .inl f))] H → va_D A [(a, .inl (cy 0, N, .inl f))] → va_S A H0 H locs → lv_has ls 4 [(0, .ref a), (1, .int x), (2, .int (nI i)), (3, .int (nI N))] → W p l e R s m args below meth c H locs cells slots Q (F0 m 5 ls []) := by
  have hx := C0.1
  have hb := C0.2.1
  intro n
  induction n with
  | zero => intro i f H locs ls h0 h1 h2; exact absurd h2 (by omega)
  | succ n ih =>
    intro i f H locs ls h0 hi hin hP hD hS hl
    refine lv_iload_n hx hb dk_dJ7_fill_53178_0.2.2.2.2.2.1 rfl (lv_at hl 2 rfl) ?_
    refine lv_iload_n hx hb dk_dJ7_fill_53178_0.2.2.2.2.2.2.1 rfl (lv_at hl 3 rfl) ?_
    refine lv_icmp_ge (tgt := 20) hx hb dk_dJ7_fill_53178_0.2.2.2.2.2.2.2.1 (by decide) (fun h8 => kk f H locs ls (by rw [h0, show i = N from Nat.le_antisymm hi ((nI_leI hN (by omega)).mp h8)]) hP hD hS) (fun h9 => ?_)
    have hlt : i < N := by
      rcases Nat.lt_or_ge i N with q | q
      · exact q
      · exact absurd (nI_le q (by omega)) h9
    refine lv_aload_n hx hb dk_dJ7_fill_53178_0_8.1 rfl (lv_at hl 0 rfl) ?_
    refine lv_iload_n hx hb dk_dJ7_fill_53178_0_8.2.1 rfl (lv_at hl 2 rfl) ?_
    refine lv_iload_n hx hb dk_dJ7_fill_53178_0_8.2.2.1 rfl (lv_at hl 1 rfl) ?_
    refine va_iast hx hb C0.2.2.2.2.2.1 hP hD hS 0 0 rfl rfl (vp_in_nI hlt hN) dk_dJ7_fill_53178_0_8.2.2.2.1 (fun H locs hP hD hS => ?_)
    refine lv_iinc (v := nI (i + 1)) (lv' := [(2, .int (nI (i + 1))), (0, .ref a), (1, .int x), (3, .int (nI N))]) hx hb dk_dJ7_fill_53178_0_8.2.2.2.2.1 hl (k := 2) rfl (nI_1 i) (by decide) rfl (fun ls hl => ?_)
    refine lv_goto (tgt := 5) hx hb dk_dJ7_fill_53178_0_8.2.2.2.2.2.1 (by decide) ?_
    exact ih (i + 1) _ H locs ls (by rw [h0, nI_clamp (by omega)]; exact lf_fill_s f0 i x) hlt (by omega) hP hD hS (lv_sub hl [1, 2, 0, 3] rfl)
set_option maxHeartbeats 4000000 in
set_option maxRecDepth 100000 in
theorem c_fillx (l : Launch) (dC : Nat → ClassId) (dI : Nat → Nat → Nat) (cy : Nat → ClassId) (sq : Nat → Nat) (a N : Nat) (f : Nat → Int32) (x : Int32) (hN : N + 1 ≤ 2147483648) : k_Met l yJ7_fill_53178 cJ7_fill_53178 4 none { frames := 0, cells := 0, slots := 0, locals := 0 } dC dI cy sq [.ref a, .int x] [(a, .inl (cy 0, N, .inl f))] (k_Qv dC dI (fun g : Nat → Int32 => g = lf_fill f N x) (fun g : Nat → Int32 => [(a, .inl (cy 0, N, .inl g))])) := by
  refine k_ofW (by decide +kernel) (Nat.le_of_ble_eq_true rfl) ?_
  intro p e s m below meth c A ls H locs C0 hZ hr hlk hin hP hD hA hS hl
  have C0 : k_cx p s m _ c cJ7_fill_53178 4 RJ7 dC dI cy sq := C0
  have hx := C0.1
  have hb := C0.2.1
  have hl : lv_has ls 4 [(0, .ref a), (1, .int x)] := hl
  refine lv_iconst (v := 0) hx hb dk_dJ7_fill_53178_0.1 (by decide) ?_
  refine lv_istore_n (lv' := [(2, .int 0), (0, .ref a), (1, .int x)]) hx hb dk_dJ7_fill_53178_0.2.1 rfl hl (by decide) rfl (fun ls hl => ?_)
  refine lv_aload_n hx hb dk_dJ7_fill_53178_0.2.2.1 rfl (lv_at hl 1 rfl) ?_
  refine va_alen hx hb C0.2.2.2.2.2.1 hP 0 0 rfl rfl (v := nI N) rfl dk_dJ7_fill_53178_0.2.2.2.1 ?_
  refine lv_istore_n (lv' := [(3, .int (nI N)), (2, .int 0), (0, .ref a), (1, .int x)]) hx hb dk_dJ7_fill_53178_0.2.2.2.2.1 rfl hl (by decide) rfl (fun ls hl => ?_)
  refine k_fillx_loop (f0 := f) (by omega) C0 (fun g H locs ls h1 hP hD hS => ?_) (N + 1) 0 f H locs ls (lf_fill_0 f x) (Nat.zero_le N) (by omega) hP hD hS (lv_sub hl [2, 3, 1, 0] rfl)
  exact k_vret hx hb hr hlk g hS h1 hP hD (Nat.le_of_ble_eq_true rfl) (Nat.le_of_ble_eq_true rfl) dk_dJ7_fill_53178_0_8.2.2.2.2.2.2.1
end
section
/-! fdv -/
/-! Math.floorDiv, exactly -/
set_option maxHeartbeats 4000000 in
set_option maxRecDepth 100000 in
theorem c_floorDivx (l : Launch) (dC : Nat → ClassId) (dI : Nat → Nat → Nat) (cy : Nat → ClassId) (sq : Nat → Nat) (x y : Int32) (hy : ¬ y = 0) : k_Met l yJ9_floorDiv_7cf53 cJ9_floorDiv_7cf53 3 (some .int) { frames := 0, cells := 0, slots := 0, locals := 0 } dC dI cy sq [.int x, .int y] [] (k_Qi dC dI (fun (r : Int32) (_ : Unit) => r = lf_fdv x y) (fun _ => [])) := by
  refine k_ofWF (by decide +kernel) (Nat.le_of_ble_eq_true rfl) ?_
  intro p e s m below meth c A ls H locs C0 hZ hr hlk hin hP hD hA hS hl
  have C0 : k_cx p s m _ c cJ9_floorDiv_7cf53 3 RJ9 dC dI cy sq := C0
  have hx := C0.1
  have hb := C0.2.1
  have hl : lv_has ls 3 [(0, .int x), (1, .int y)] := hl
  refine lv_iload_n hx hb dk_dJ9_floorDiv_7cf53_0.1 rfl (lv_at hl 0 rfl) ?_
  refine lv_iload_n hx hb dk_dJ9_floorDiv_7cf53_0.2.1 rfl (lv_at hl 1 rfl) ?_
  refine lv_idiv hx hb dk_dJ9_floorDiv_7cf53_0.2.2.1 hy ?_
  refine lv_topi (fun z ez => ?_)
  refine lv_istore_n (lv' := [(2, .int z), (0, .int x), (1, .int y)]) hx hb dk_dJ9_floorDiv_7cf53_0.2.2.2.1 rfl hl (by decide) rfl (fun ls hl => ?_)
  have fin : z = lf_fdv x y → ∀ (ls : Array Slot), lv_has ls 3 [(2, .int z), (0, .int x), (1, .int y)] → W p l e { frames := 0, cells := 0, slots := 0, locals := 0 } s m ([.int x, .int y] : List Value).toArray below meth c H locs 0 0 (MQ below (k_Qi dC dI (fun (r : Int32) (_ : Unit) => r = lf_fdv x y) (fun _ => []) A) ([.int x, .int y] : List Value).toArray s 0 0 A) (F0 m 21 ls []) := by
    intro hres ls hl
    refine lv_iload_n hx hb dk_dJ9_floorDiv_7cf53_20.2.1 rfl (lv_at hl 0 rfl) ?_
    exact k_iret hx hb hr hlk rfl () hS hres hP hD (Nat.le_refl _) (Nat.le_refl _) dk_dJ9_floorDiv_7cf53_20.2.2.1
  refine lv_iload_n hx hb dk_dJ9_floorDiv_7cf53_0.2.2.2.2.1 rfl (lv_at hl 1 rfl) ?_
  refine lv_iload_n hx hb dk_dJ9_floorDiv_7cf53_0.2.2.2.2.2.1 rfl (lv_at hl 2 rfl) ?_
  refine lv_ixor hx hb dk_dJ9_floorDiv_7cf53_0.2.2.2.2.2.2.1 ?_
  refine lv_if_ge (tgt := 21) hx hb dk_dJ9_floorDiv_7cf53_0.2.2.2.2.2.2.2.1 (by decide) (fun h => fin (by rw [ez]; exact (if_pos h).symm) ls hl) (fun hge => ?_)
  refine lv_iload_n hx hb dk_dJ9_floorDiv_7cf53_0_8.1 rfl (lv_at hl 0 rfl) ?_
  refine lv_iload_n hx hb dk_dJ9_floorDiv_7cf53_0_8.2.1 rfl (lv_at hl 2 rfl) ?_
  refine lv_imul hx hb dk_dJ9_floorDiv_7cf53_0_8.2.2.1 ?_
  refine lv_iload_n hx hb dk_dJ9_floorDiv_7cf53_0_8.2.2.2.1 rfl (lv_at hl 1 rfl) ?_
  refine lv_icmp_eq (tgt := 21) hx hb dk_dJ9_floorDiv_7cf53_0_8.2.2.2.2.1 (by decide) (fun h => fin (by rw [ez] at h; rw [ez]; exact ((if_neg hge).trans (if_pos h)).symm) ls hl) (fun hne => ?_)
  refine lv_iload_n hx hb dk_dJ9_floorDiv_7cf53_0_8.2.2.2.2.2.1 rfl (lv_at hl 0 rfl) ?_
  refine lv_iconst (v := 1) hx hb dk_dJ9_floorDiv_7cf53_0_8.2.2.2.2.2.2.1 (by decide) ?_
  refine lv_isub hx hb dk_dJ9_floorDiv_7cf53_0_8.2.2.2.2.2.2.2.1 ?_
  exact k_iret hx hb hr hlk rfl () hS (by rw [ez] at hne; rw [ez]; exact ((if_neg hge).trans (if_neg hne)).symm) hP hD (Nat.le_of_ble_eq_true rfl) (Nat.le_of_ble_eq_true rfl) dk_dJ9_floorDiv_7cf53_20.1
end
section
/-! lrem -/
/-! the remainder of whole numbers of 64 bits, as the machine has it -/
theorem lf_lremt (x y : Int64) : x - x / y * y = lf_lrem x y := by
  have e63 : (2 : Int) ^ 63 = 9223372036854775808 := by decide
  apply Int64.toInt_inj.mp
  show (x - x / y * y).toInt = (x % y).toInt
  have h1 := Int64.toInt_lt x
  have h2 := Int64.le_toInt x
  rw [Int64.toInt_sub, Int64.toInt_mul, Int64.toInt_div, Int64.toInt_mod, Int.bmod_mul_bmod, Int.sub_bmod_bmod]
  have e : x.toInt - x.toInt.tdiv y.toInt * y.toInt = x.toInt.tmod y.toInt := by
    have := Int.tmod_add_tdiv_mul x.toInt y.toInt
    omega
  rw [e]
  have hb : (x.toInt.tmod y.toInt).natAbs ≤ x.toInt.natAbs := by
    rw [Int.natAbs_tmod]
    exact Nat.mod_le _ _
  have hs : x.toInt < 0 → x.toInt.tmod y.toInt ≤ 0 := by
    intro h
    have := Int.tmod_nonneg y.toInt (show 0 ≤ -x.toInt by omega)
    rw [Int.neg_tmod] at this
    omega
  generalize x.toInt.tmod y.toInt = q at hb hs ⊢
  exact Int.bmod_eq_of_le (by omega) (by omega)
end
