/-- Arrays.fill: the row holds something else, no more is said -/
theorem k_fill_loop {p : Program} {l : Launch} {e : Env} {R : Room} {s : State} {m : MethodId} {args : Array Value} {below : List Frame} {meth : Method} {c : Code} {Q : State → Prop} {cells slots : Nat} {A : Nat → Prop} {H0 : Heap} {dC : Nat → ClassId} {dI : Nat → Nat → Nat} {cy : Nat → ClassId} {sq : Nat → Nat} {a N : Nat} {x : Int32} (hN : N < 2 ^ 31)
    (C0 : k_cx p s m args c cJ7_fill_53178 4 RJ7 dC dI cy sq)
    (kk : ∀ (f : Nat → Int32) (H : Heap) (locs : List Loc) (ls : Array Slot), va_P (dC, dI) vwCl [(a, .inl (cy 0, N, .inl f))] H → va_D A [(a, .inl (cy 0, N, .inl f))] → va_S A H0 H locs → W p l e R s m args below meth c H locs cells slots Q (F0 m 20 ls [])) :
    ∀ (n i : Nat) (f : Nat → Int32) (H : Heap) (locs : List Loc) (ls : Array Slot), i ≤ N → N + 1 ≤ i + n → va_P (dC, dI) vwCl [(a, .inl (cy 0, N, .inl f))] H → va_D A [(a, .inl (cy 0, N, .inl f))] → va_S A H0 H locs → lv_has ls 4 [(0, .ref a), (1, .int x), (2, .int (nI i)), (3, .int (nI N))] → W p l e R s m args below meth c H locs cells slots Q (F0 m 5 ls []) := by
  have hx := C0.1
  have hb := C0.2.1
  intro n
  induction n with
  | zero => intro i f H locs ls h1 h2; exact absurd h2 (by omega)
  | succ n ih =>
    intro i f H locs ls hi hin hP hD hS hl
    refine lv_iload_n hx hb dJ7_fill_53178_5 rfl (lv_at hl 2 rfl) ?_
    refine lv_iload_n hx hb dJ7_fill_53178_6 rfl (lv_at hl 3 rfl) ?_
    refine lv_icmp_ge (tgt := 20) hx hb dJ7_fill_53178_7 (by decide) (fun _ => kk f H locs ls hP hD hS) (fun h9 => ?_)
    have hlt : i < N := by
      rcases Nat.lt_or_ge i N with q | q
      · exact q
      · exact absurd (nI_le q (by omega)) h9
    refine lv_aload_n hx hb dJ7_fill_53178_10 rfl (lv_at hl 0 rfl) ?_
    refine lv_iload_n hx hb dJ7_fill_53178_11 rfl (lv_at hl 2 rfl) ?_
    refine lv_iload_n hx hb dJ7_fill_53178_12 rfl (lv_at hl 1 rfl) ?_
    refine va_iast hx hb C0.2.2.2.2.2.1 hP hD hS 0 0 rfl rfl (vp_in_nI hlt hN) dJ7_fill_53178_13 (fun H locs hP hD hS => ?_)
    refine lv_iinc (v := nI (i + 1)) (lv' := [(2, .int (nI (i + 1))), (0, .ref a), (1, .int x), (3, .int (nI N))]) hx hb dJ7_fill_53178_14 hl (k := 2) rfl (nI_1 i) (by decide) rfl (fun ls hl => ?_)
    refine lv_goto (tgt := 5) hx hb dJ7_fill_53178_17 (by decide) ?_
    exact ih (i + 1) _ H locs ls hlt (by omega) hP hD hS (lv_sub hl [1, 2, 0, 3] rfl)
set_option maxHeartbeats 4000000 in
set_option maxRecDepth 100000 in
theorem c_fill (l : Launch) (dC : Nat → ClassId) (dI : Nat → Nat → Nat) (cy : Nat → ClassId) (sq : Nat → Nat) (a N : Nat) (f : Nat → Int32) (x : Int32) (hN : N + 1 ≤ 2147483648) : k_Met l yJ7_fill_53178 cJ7_fill_53178 4 none { frames := 0, cells := 0, slots := 0, locals := 0 } dC dI cy sq [.ref a, .int x] [(a, .inl (cy 0, N, .inl f))] (k_Qv dC dI (fun _ : Nat → Int32 => True) (fun g : Nat → Int32 => [(a, .inl (cy 0, N, .inl g))])) := by
  refine k_ofW (by decide +kernel) (Nat.le_of_ble_eq_true rfl) ?_
  intro p e s m below meth c A ls H locs C0 hZ hr hlk hin hP hD hA hS hl
  have C0 : k_cx p s m _ c cJ7_fill_53178 4 RJ7 dC dI cy sq := C0
  have hx := C0.1
  have hb := C0.2.1
  have hl : lv_has ls 4 [(0, .ref a), (1, .int x)] := hl
  refine lv_iconst (v := 0) hx hb dJ7_fill_53178_0 (by decide) ?_
  refine lv_istore_n (lv' := [(2, .int 0), (0, .ref a), (1, .int x)]) hx hb dJ7_fill_53178_1 rfl hl (by decide) rfl (fun ls hl => ?_)
  refine lv_aload_n hx hb dJ7_fill_53178_2 rfl (lv_at hl 1 rfl) ?_
  refine va_alen hx hb C0.2.2.2.2.2.1 hP 0 0 rfl rfl (v := nI N) rfl dJ7_fill_53178_3 ?_
  refine lv_istore_n (lv' := [(3, .int (nI N)), (2, .int 0), (0, .ref a), (1, .int x)]) hx hb dJ7_fill_53178_4 rfl hl (by decide) rfl (fun ls hl => ?_)
  refine k_fill_loop (by omega) C0 (fun g H locs ls hP hD hS => ?_) (N + 1) 0 f H locs ls (Nat.zero_le N) (by omega) hP hD hS (lv_sub hl [2, 3, 1, 0] rfl)
  exact k_vret hx hb hr hlk g hS True.intro hP hD (Nat.le_of_ble_eq_true rfl) (Nat.le_of_ble_eq_true rfl) dJ7_fill_53178_20

/-- Arrays.fill, the row in its bounds -/
theorem k_fillr_loop {p : Program} {l : Launch} {e : Env} {R : Room} {s : State} {m : MethodId} {args : Array Value} {below : List Frame} {meth : Method} {c : Code} {Q : State → Prop} {cells slots : Nat} {A : Nat → Prop} {H0 : Heap} {dC : Nat → ClassId} {dI : Nat → Nat → Nat} {cy : Nat → ClassId} {sq : Nat → Nat} {a N : Nat} {x : Int32} {lo hi : Int} (hx0 : ib x lo hi) (hN : N < 2 ^ 31)
    (C0 : k_cx p s m args c cJ7_fill_53178 4 RJ7 dC dI cy sq)
    (kk : ∀ (f : Nat → Int32) (H : Heap) (locs : List Loc) (ls : Array Slot), ia f N lo hi → va_P (dC, dI) vwCl [(a, .inl (cy 0, N, .inl f))] H → va_D A [(a, .inl (cy 0, N, .inl f))] → va_S A H0 H locs → W p l e R s m args below meth c H locs cells slots Q (F0 m 20 ls [])) :
    ∀ (n i : Nat) (f : Nat → Int32) (H : Heap) (locs : List Loc) (ls : Array Slot), ia f N lo hi → i ≤ N → N + 1 ≤ i + n → va_P (dC, dI) vwCl [(a, .inl (cy 0, N, .inl f))] H → va_D A [(a, .inl (cy 0, N, .inl f))] → va_S A H0 H locs → lv_has ls 4 [(0, .ref a), (1, .int x), (2, .int (nI i)), (3, .int (nI N))] → W p l e R s m args below meth c H locs cells slots Q (F0 m 5 ls []) := by
  have hx := C0.1
  have hb := C0.2.1
  intro n
  induction n with
  | zero => intro i f H locs ls h0 h1 h2; exact absurd h2 (by omega)
  | succ n ih =>
    intro i f H locs ls h0 hi hin hP hD hS hl
    refine lv_iload_n hx hb dJ7_fill_53178_5 rfl (lv_at hl 2 rfl) ?_
    refine lv_iload_n hx hb dJ7_fill_53178_6 rfl (lv_at hl 3 rfl) ?_
    refine lv_icmp_ge (tgt := 20) hx hb dJ7_fill_53178_7 (by decide) (fun _ => kk f H locs ls h0 hP hD hS) (fun h9 => ?_)
    have hlt : i < N := by
      rcases Nat.lt_or_ge i N with q | q
      · exact q
      · exact absurd (nI_le q (by omega)) h9
    refine lv_aload_n hx hb dJ7_fill_53178_10 rfl (lv_at hl 0 rfl) ?_
    refine lv_iload_n hx hb dJ7_fill_53178_11 rfl (lv_at hl 2 rfl) ?_
    refine lv_iload_n hx hb dJ7_fill_53178_12 rfl (lv_at hl 1 rfl) ?_
    refine va_iast hx hb C0.2.2.2.2.2.1 hP hD hS 0 0 rfl rfl (vp_in_nI hlt hN) dJ7_fill_53178_13 (fun H locs hP hD hS => ?_)
    refine lv_iinc (v := nI (i + 1)) (lv' := [(2, .int (nI (i + 1))), (0, .ref a), (1, .int x), (3, .int (nI N))]) hx hb dJ7_fill_53178_14 hl (k := 2) rfl (nI_1 i) (by decide) rfl (fun ls hl => ?_)
    refine lv_goto (tgt := 5) hx hb dJ7_fill_53178_17 (by decide) ?_
    exact ih (i + 1) _ H locs ls (ia_upd h0 _ hx0) hlt (by omega) hP hD hS (lv_sub hl [1, 2, 0, 3] rfl)
set_option maxHeartbeats 4000000 in
set_option maxRecDepth 100000 in
theorem c_fillr (l : Launch) (dC : Nat → ClassId) (dI : Nat → Nat → Nat) (cy : Nat → ClassId) (sq : Nat → Nat) (a N : Nat) (f : Nat → Int32) (x : Int32) (lo hi : Int) (h0 : ia f N lo hi) (hx0 : ib x lo hi) (hN : N + 1 ≤ 2147483648) : k_Met l yJ7_fill_53178 cJ7_fill_53178 4 none { frames := 0, cells := 0, slots := 0, locals := 0 } dC dI cy sq [.ref a, .int x] [(a, .inl (cy 0, N, .inl f))] (k_Qv dC dI (fun g : Nat → Int32 => ia g N lo hi) (fun g : Nat → Int32 => [(a, .inl (cy 0, N, .inl g))])) := by
  refine k_ofW (by decide +kernel) (Nat.le_of_ble_eq_true rfl) ?_
  intro p e s m below meth c A ls H locs C0 hZ hr hlk hin hP hD hA hS hl
  have C0 : k_cx p s m _ c cJ7_fill_53178 4 RJ7 dC dI cy sq := C0
  have hx := C0.1
  have hb := C0.2.1
  have hl : lv_has ls 4 [(0, .ref a), (1, .int x)] := hl
  refine lv_iconst (v := 0) hx hb dJ7_fill_53178_0 (by decide) ?_
  refine lv_istore_n (lv' := [(2, .int 0), (0, .ref a), (1, .int x)]) hx hb dJ7_fill_53178_1 rfl hl (by decide) rfl (fun ls hl => ?_)
  refine lv_aload_n hx hb dJ7_fill_53178_2 rfl (lv_at hl 1 rfl) ?_
  refine va_alen hx hb C0.2.2.2.2.2.1 hP 0 0 rfl rfl (v := nI N) rfl dJ7_fill_53178_3 ?_
  refine lv_istore_n (lv' := [(3, .int (nI N)), (2, .int 0), (0, .ref a), (1, .int x)]) hx hb dJ7_fill_53178_4 rfl hl (by decide) rfl (fun ls hl => ?_)
  refine k_fillr_loop hx0 (by omega) C0 (fun g H locs ls h1 hP hD hS => ?_) (N + 1) 0 f H locs ls h0 (Nat.zero_le N) (by omega) hP hD hS (lv_sub hl [2, 3, 1, 0] rfl)
  exact k_vret hx hb hr hlk g hS h1 hP hD (Nat.le_of_ble_eq_true rfl) (Nat.le_of_ble_eq_true rfl) dJ7_fill_53178_20
/-- the same for a member of a class that has entries of its own (Math) -/
theorem k_ofWF {l : Launch} {y : MethodName} {bytes : ByteArray} {maxL : Nat} {ret : Option FieldType} {rm : Room} {dC : Nat → ClassId} {dI : Nat → Nat → Nat} {cy : Nat → ClassId} {sq : Nat → Nat} {av : List Value} {wc : va_W} {Qc : (Nat → Prop) → Array Value → State → Outcome → State → Prop} (hy : plainFor y = true) (hlen : (lg_sl av).length ≤ maxL)
    (body : ∀ (p : Program) (e : Env) (s : State) (m : MethodId) (below : List Frame) (meth : Method) (c : Code) (A : Nat → Prop) (ls : Array Slot) (H : Heap) (locs : List Loc), k_cx p s m av.toArray c bytes maxL y.cls dC dI cy sq → k_Z sq A s s.heap → meth.sig.returnType = ret → meth.locks = false → meth.name = y.name → va_P (dC, dI) vwCl wc H → va_D A wc → (∀ q, s.heap.size ≤ q → A q) → va_S A s.heap H locs → lv_has ls maxL (lv_args 0 av) → W p l e rm s m av.toArray below meth c H locs 0 0 (MQ below (Qc A) av.toArray s rm.cells rm.slots A) (F0 m 0 ls [])) :
    k_Met l y bytes maxL ret rm dC dI cy sq av wc Qc := by
  intro sz
  refine va_MetF (cc := bytes) (maxL := maxL) (ret := ret) hy rfl ?_
  intro p e s m args below meth c s₁ B hml hv
  obtain ⟨rfl, hsz, hP, hK, hD0, hZ⟩ := hv
  have hts := atoms_spec (ws := Cond.code y bytes maxL ret :: wsL_law) B.pre
  subst hsz
  have hl := lv_entry av (n := maxL) hlen
  rw [lg_entry_eq]
  exact body p e s m below meth c _ _ s.heap [] ⟨B.exec, B.bytes, hml, findClass_of_methodNamed B.named, fun w h => hts w (List.mem_cons_of_mem _ h), hK⟩ hZ B.returns B.notSynchronized (name_of_methodNamed B.named B.method).1 hP hD0.self (fun q h => Or.inr h) va_S.rf hl
set_option maxHeartbeats 4000000 in
set_option maxRecDepth 100000 in
theorem c_floorDiv (l : Launch) (dC : Nat → ClassId) (dI : Nat → Nat → Nat) (cy : Nat → ClassId) (sq : Nat → Nat) (x y : Int32) (hy : ¬ y = 0) : k_Met l yJ9_floorDiv_7cf53 cJ9_floorDiv_7cf53 3 (some .int) { frames := 0, cells := 0, slots := 0, locals := 0 } dC dI cy sq [.int x, .int y] [] (k_Qi dC dI (fun (_ : Int32) (_ : Unit) => True) (fun _ => [])) := by
  refine k_ofWF (by decide +kernel) (Nat.le_of_ble_eq_true rfl) ?_
  intro p e s m below meth c A ls H locs C0 hZ hr hlk hin hP hD hA hS hl
  have C0 : k_cx p s m _ c cJ9_floorDiv_7cf53 3 RJ9 dC dI cy sq := C0
  have hx := C0.1
  have hb := C0.2.1
  have hl : lv_has ls 3 [(0, .int x), (1, .int y)] := hl
  refine lv_iload_n hx hb dJ9_floorDiv_7cf53_0 rfl (lv_at hl 0 rfl) ?_
  refine lv_iload_n hx hb dJ9_floorDiv_7cf53_1 rfl (lv_at hl 1 rfl) ?_
  refine lv_idiv hx hb dJ9_floorDiv_7cf53_2 hy ?_
  refine lv_topi (fun z ez => ?_)
  refine lv_istore_n (lv' := [(2, .int z), (0, .int x), (1, .int y)]) hx hb dJ9_floorDiv_7cf53_3 rfl hl (by decide) rfl (fun ls hl => ?_)
  have fin : ∀ (ls : Array Slot), lv_has ls 3 [(2, .int z), (0, .int x), (1, .int y)] → W p l e { frames := 0, cells := 0, slots := 0, locals := 0 } s m ([.int x, .int y] : List Value).toArray below meth c H locs 0 0 (MQ below (k_Qi dC dI (fun (_ : Int32) (_ : Unit) => True) (fun _ => []) A) ([.int x, .int y] : List Value).toArray s 0 0 A) (F0 m 21 ls []) := by
    intro ls hl
    refine lv_iload_n hx hb dJ9_floorDiv_7cf53_21 rfl (lv_at hl 0 rfl) ?_
    exact k_iret hx hb hr hlk rfl () hS True.intro hP hD (Nat.le_refl _) (Nat.le_refl _) dJ9_floorDiv_7cf53_22
  refine lv_iload_n hx hb dJ9_floorDiv_7cf53_4 rfl (lv_at hl 1 rfl) ?_
  refine lv_iload_n hx hb dJ9_floorDiv_7cf53_5 rfl (lv_at hl 2 rfl) ?_
  refine lv_ixor hx hb dJ9_floorDiv_7cf53_6 ?_
  refine lv_if_ge (tgt := 21) hx hb dJ9_floorDiv_7cf53_7 (by decide) (fun _ => fin ls hl) (fun _ => ?_)
  refine lv_iload_n hx hb dJ9_floorDiv_7cf53_10 rfl (lv_at hl 0 rfl) ?_
  refine lv_iload_n hx hb dJ9_floorDiv_7cf53_11 rfl (lv_at hl 2 rfl) ?_
  refine lv_imul hx hb dJ9_floorDiv_7cf53_12 ?_
  refine lv_iload_n hx hb dJ9_floorDiv_7cf53_13 rfl (lv_at hl 1 rfl) ?_
  refine lv_icmp_eq (tgt := 21) hx hb dJ9_floorDiv_7cf53_14 (by decide) (fun _ => fin ls hl) (fun _ => ?_)
  refine lv_iload_n hx hb dJ9_floorDiv_7cf53_17 rfl (lv_at hl 0 rfl) ?_
  refine lv_iconst (v := 1) hx hb dJ9_floorDiv_7cf53_18 (by decide) ?_
  refine lv_isub hx hb dJ9_floorDiv_7cf53_19 ?_
  exact k_iret hx hb hr hlk rfl () hS True.intro hP hD (Nat.le_of_ble_eq_true rfl) (Nat.le_of_ble_eq_true rfl) dJ9_floorDiv_7cf53_20
