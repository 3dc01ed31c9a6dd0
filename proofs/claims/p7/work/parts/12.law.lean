/-! THE CLAIM OUT OF ONE WALK OF THE LAW'S BODY. Your part is whole_start (and what it stands on); all else here is the same for every law, but numbers. -/
def R_law : String := "PressAndWaitLaw"
def lw_P (b : Addr) (xs : List Int32) (args : Array Value) (s : State) : Prop := args = #[.ref b] ∧ s.IntsAt b xs ∧ xs.length ≤ 3072 ∧ (Jvm.Cond.and given_1 narrow_1).before args s = true
def lw_Q (_ : Array Value) (s : State) (o : Outcome) (t : State) : Prop := o = .returned (some (.int 1)) ∧ Framed s o t [] 600000 7302250
def lw_Z (below : List Frame) (a : Array Value) (s : State) : State → Prop := fun t => ∃ o, t.status = .running ∧ Ended t below o ∧ lw_Q a s o t
/-- the law's own end, with 1 on the stack, nothing written that was there before, its room as the claim has it -/
theorem lw_ret {p : Program} {l : Launch} {e : Env} {s : State} {m : MethodId} {below : List Frame} {meth : Method} {c : Code} {b : Nat} (hx : p.tables.exec = Jvm.exec) (hb : c.code = code) (hr : meth.sig.returnType = ret) (hlocks : meth.locks = false) {pc : Nat} {H : Heap} {ls : Array Slot} (hdg : decode code pc = .ok (.ireturn, 1)) : W p l e room_1 s m #[Value.ref b] below meth c H [] 600000 7302250 (lw_Z below #[Value.ref b] s) (F0 m pc ls [.int 1]) := by
  intro T hT X
  obtain ⟨fs, hret, hrun, hended, hW, hframe⟩ := X.leave (v := some (.int 1)) (hlocks := hlocks) (fun h => by rw [hr] at h; cases h)
  have hmeth' : T.vm.method? m = some meth := X.method'
  refine ⟨T.setFrames fs, ?_, .returned (some (.int 1)), hrun, hended, rfl, ⟨_, rfl⟩, hW, hframe⟩
  jvm_step X.here [X.here.top, hx, hb, hdg, hmeth', hr, ret, narrow_b1]
  (try refine ⟨rfl, ?_⟩); (try refine ⟨rfl, ?_⟩)
  first | (intro acts; rw [hret _ acts rfl rfl rfl]) | rw [hret _ _ rfl rfl rfl]
  exact Steps.refl _
/-- what holds at the law's entry: the machine, the code, the tables' words (any of lw_tbl by 'hts w (by decide +kernel)'), the script of L ints xs at the cell b, what the Statement gives of the start (any of its parts by flat_of_before) -/
def lw_At (p : Program) (s : State) (m : MethodId) (meth : Method) (c : Code) (b L : Nat) (xs : Nat → Int32) : Prop :=
  p.tables.exec = Jvm.exec ∧ c.code = code ∧ meth.sig.returnType = ret ∧ c.maxLocals = 4 ∧ s.vm.findClass R_law = some m.cls ∧ (∀ w ∈ lw_tbl, w.before #[Value.ref b] s = true) ∧ va_X b L xs s s.heap ∧ b < s.heap.size ∧ meth.locks = false ∧ (Jvm.Cond.and given_1 narrow_1).before #[Value.ref b] s = true
theorem law_in {i k : Int32} {L : Nat} (hi : 0 ≤ i.toInt) (h : i.toInt + 6 ≤ (L : Int)) (hL : L ≤ 3072) (hk : ib k 0 5) : vp_in (i + k) L := by
  have h1 : ib i 0 3072 := ⟨hi, by omega⟩
  have h2 := (ib_add h1 hk (by decide)).2
  have k1 := hk.1
  have k2 := hk.2
  intro h3
  rcases h3 with h3 | h3
  · rw [Int32.lt_iff_toInt_lt] at h3
    have e0 : (0 : Int32).toInt = 0 := by decide
    omega
  · have h4 : L ≤ (i + k).toInt.toNat := h3
    omega
theorem law_in0 {i : Int32} {L : Nat} (hi : 0 ≤ i.toInt) (h : i.toInt + 6 ≤ (L : Int)) : vp_in i L := by
  intro h3
  rcases h3 with h3 | h3
  · rw [Int32.lt_iff_toInt_lt] at h3
    have e0 : (0 : Int32).toInt = 0 := by decide
    omega
  · have h4 : L ≤ i.toInt.toNat := h3
    omega
theorem law_01 {a b : Int32} {P : Prop} (ha : ib a 0 1) (hb : ib b 0 1) (h1 : a = 0 ↔ P) (h2 : b = 0 ↔ P) : a = b := by
  rcases ib_01 ha with h | h
  · rw [h, h2.mpr (h1.mp h)]
  · rcases ib_01 hb with q | q
    · rw [q, h1.mpr (h2.mp q)]
    · rw [h, q]
theorem law_exit {p : Program} {e : Env} {s : State} {m : MethodId} {below : List Frame} {meth : Method} {c : Code} {l : Launch} {b : Nat} {dC : Nat → ClassId} {dI : Nat → Nat → Nat} {cy : Nat → ClassId} {sq : Nat → Nat} {cells slots : Nat} {H : Heap} {locs : List Loc} {ls : Array Slot} (C0 : k_cx p s m #[Value.ref b] c code 4 RL dC dI cy sq) (hr : meth.sig.returnType = ret) (hlk : meth.locks = false) (hS : va_S (fun q : Nat => s.heap.size ≤ q) s.heap H locs) (h1 : cells ≤ 600000) (h2 : slots ≤ 7302250) : W p l e room_1 s m #[Value.ref b] below meth c H locs cells slots (lw_Z below #[Value.ref b] s) (F0 m 921 ls []) := by
  have hx := C0.1
  have hb := C0.2.1
  refine lv_iconst (v := 1) hx hb dL_law_921 (by decide) ?_
  refine va_forget (fun q hq => hS.2.2 q hq) ?_
  refine W.widen (k := 600000) (n := 7302250) h1 h2 ?_
  exact lw_ret hx hb hr hlk dL_law_922
set_option maxHeartbeats 4000000 in
set_option maxRecDepth 100000 in
theorem law_case_0 {p : Program} {e : Env} {s : State} {m : MethodId} {below : List Frame} {meth : Method} {c : Code} {l : Launch} {b L : Nat} {xs : Nat → Int32} {dC : Nat → ClassId} {dI : Nat → Nat → Nat} {cy : Nat → ClassId} {sq : Nat → Nat} {cells slots : Nat} {i : Int32} {x0 m0 : Nat} {σ : XS} {τ : MS} {H : Heap} {locs : List Loc} {ls : Array Slot} (C0 : k_cx p s m #[Value.ref b] c code 4 RL dC dI cy sq) (hZ : k_Z sq (fun q : Nat => s.heap.size ≤ q) s s.heap) (hX : va_X b L xs s s.heap) (hbl : b < s.heap.size) (hc1 : cells ≤ 600000) (hc2 : slots ≤ 7302250) (hL : L ≤ 3072) (hi : 0 ≤ i.toInt) (h6 : i.toInt + 6 ≤ (L : Int)) (hI : IX σ) (hJ : IM τ) (hT : LT5 (σ.2.2.2.1 0) (σ.2.2.2.2.2.1 0) (σ.2.2.2.1 7) (σ.2.2.2.1 8) (σ.2.2.2.1 1) (σ.2.2.2.2.2.1 7) (τ.2.1 0) (τ.2.2.2.1 0) τ.2.2.2.1 (τ.2.2.2.1 32) (τ.2.2.2.1 33) (τ.2.2.2.2 0) (τ.2.1 13)) (hP : va_P (dC, dI) vwCl (wX cy x0 σ ++ wM cy m0 τ) H) (hD : va_D (fun q : Nat => s.heap.size ≤ q) (wX cy x0 σ ++ wM cy m0 τ)) (hS : va_S (fun q : Nat => s.heap.size ≤ q) s.heap H locs) (hl : lv_has ls 4 [(3, .int i), (2, .ref m0), (1, .ref x0), (0, .ref b)]) (kk : ∀ (σ1 : XS) (τ1 : MS) (H1 : Heap) (locs1 : List Loc), IX σ1 → IM τ1 → LT5 (σ1.2.2.2.1 0) (σ1.2.2.2.2.2.1 0) (σ1.2.2.2.1 7) (σ1.2.2.2.1 8) (σ1.2.2.2.1 1) (σ1.2.2.2.2.2.1 7) (τ1.2.1 0) (τ1.2.2.2.1 0) τ1.2.2.2.1 (τ1.2.2.2.1 32) (τ1.2.2.2.1 33) (τ1.2.2.2.2 0) (τ1.2.1 13) → va_P (dC, dI) vwCl (wX cy x0 σ1 ++ wM cy m0 τ1) H1 → va_D (fun q : Nat => s.heap.size ≤ q) (wX cy x0 σ1 ++ wM cy m0 τ1) → va_S (fun q : Nat => s.heap.size ≤ q) s.heap H1 locs1 → W p l e room_1 s m #[Value.ref b] below meth c H1 locs1 cells slots (lw_Z below #[Value.ref b] s) (F0 m 915 ls [])) : W p l e room_1 s m #[Value.ref b] below meth c H locs cells slots (lw_Z below #[Value.ref b] s) (F0 m 172 ls []) := by
  have hx := C0.1
  have hb := C0.2.1
  have hA : ∀ q : Nat, s.heap.size ≤ q → (fun q : Nat => s.heap.size ≤ q) q := fun _ h => h
  have hbA : ¬ (fun q : Nat => s.heap.size ≤ q) b := Nat.not_le.mpr hbl
  refine lv_aload_n hx hb dL_law_172 rfl (lv_at hl 2 rfl) ?_
  refine lv_aload_n hx hb dL_law_173 rfl (lv_at hl 3 rfl) ?_
  refine lv_iload_n hx hb dL_law_174 rfl (lv_at hl 0 rfl) ?_
  refine lv_iconst (v := 1) hx hb dL_law_175 (by decide) ?_
  refine lv_iadd hx hb dL_law_176 ?_
  refine va_sld hx hb hX hbl hbA hS (law_in hi h6 hL (ib_c 1 0 5 (by decide))) dL_law_177 ?_
  refine lv_aload_n hx hb dL_law_178 rfl (lv_at hl 3 rfl) ?_
  refine lv_iload_n hx hb dL_law_179 rfl (lv_at hl 0 rfl) ?_
  refine lv_iconst (v := 2) hx hb dL_law_180 (by decide) ?_
  refine lv_iadd hx hb dL_law_181 ?_
  refine va_sld hx hb hX hbl hbA hS (law_in hi h6 hL (ib_c 2 0 5 (by decide))) dL_law_182 ?_
  refine lv_aload_n hx hb dL_law_183 rfl (lv_at hl 3 rfl) ?_
  refine lv_iload_n hx hb dL_law_184 rfl (lv_at hl 0 rfl) ?_
  refine lv_iconst (v := 3) hx hb dL_law_185 (by decide) ?_
  refine lv_iadd hx hb dL_law_186 ?_
  refine va_sld hx hb hX hbl hbA hS (law_in hi h6 hL (ib_c 3 0 5 (by decide))) dL_law_187 ?_
  refine lv_aload_n hx hb dL_law_188 rfl (lv_at hl 3 rfl) ?_
  refine lv_iload_n hx hb dL_law_189 rfl (lv_at hl 0 rfl) ?_
  refine lv_iconst (v := 4) hx hb dL_law_190 (by decide) ?_
  refine lv_iadd hx hb dL_law_191 ?_
  refine va_sld hx hb hX hbl hbA hS (law_in hi h6 hL (ib_c 4 0 5 (by decide))) dL_law_192 ?_
  refine lv_aload_n hx hb dL_law_193 rfl (lv_at hl 3 rfl) ?_
  refine lv_iload_n hx hb dL_law_194 rfl (lv_at hl 0 rfl) ?_
  refine lv_iconst (v := 5) hx hb dL_law_195 (by decide) ?_
  refine lv_iadd hx hb dL_law_196 ?_
  refine va_sld hx hb hX hbl hbA hS (law_in hi h6 hL (ib_c 5 0 5 (by decide))) dL_law_197 ?_
  refine lx_feed C0 hZ hA hl (Nat.le_of_ble_eq_true rfl) hc1 hc2 hI hP hD hS (fun rlx σ H locs hI ea hP hD hS => ?_)
  refine lv_pop hx hb dL_law_201 rfl ?_
  refine lv_aload_n hx hb dL_law_202 rfl (lv_at hl 1 rfl) ?_
  refine lv_aload_n hx hb dL_law_203 rfl (lv_at hl 3 rfl) ?_
  refine lv_iload_n hx hb dL_law_204 rfl (lv_at hl 0 rfl) ?_
  refine lv_iconst (v := 1) hx hb dL_law_205 (by decide) ?_
  refine lv_iadd hx hb dL_law_206 ?_
  refine va_sld hx hb hX hbl hbA hS (law_in hi h6 hL (ib_c 1 0 5 (by decide))) dL_law_207 ?_
  refine lv_aload_n hx hb dL_law_208 rfl (lv_at hl 3 rfl) ?_
  refine lv_iload_n hx hb dL_law_209 rfl (lv_at hl 0 rfl) ?_
  refine lv_iconst (v := 2) hx hb dL_law_210 (by decide) ?_
  refine lv_iadd hx hb dL_law_211 ?_
  refine va_sld hx hb hX hbl hbA hS (law_in hi h6 hL (ib_c 2 0 5 (by decide))) dL_law_212 ?_
  refine lv_aload_n hx hb dL_law_213 rfl (lv_at hl 3 rfl) ?_
  refine lv_iload_n hx hb dL_law_214 rfl (lv_at hl 0 rfl) ?_
  refine lv_iconst (v := 3) hx hb dL_law_215 (by decide) ?_
  refine lv_iadd hx hb dL_law_216 ?_
  refine va_sld hx hb hX hbl hbA hS (law_in hi h6 hL (ib_c 3 0 5 (by decide))) dL_law_217 ?_
  refine lv_aload_n hx hb dL_law_218 rfl (lv_at hl 3 rfl) ?_
  refine lv_iload_n hx hb dL_law_219 rfl (lv_at hl 0 rfl) ?_
  refine lv_iconst (v := 4) hx hb dL_law_220 (by decide) ?_
  refine lv_iadd hx hb dL_law_221 ?_
  refine va_sld hx hb hX hbl hbA hS (law_in hi h6 hL (ib_c 4 0 5 (by decide))) dL_law_222 ?_
  refine lv_aload_n hx hb dL_law_223 rfl (lv_at hl 3 rfl) ?_
  refine lv_iload_n hx hb dL_law_224 rfl (lv_at hl 0 rfl) ?_
  refine lv_iconst (v := 5) hx hb dL_law_225 (by decide) ?_
  refine lv_iadd hx hb dL_law_226 ?_
  refine va_sld hx hb hX hbl hbA hS (law_in hi h6 hL (ib_c 5 0 5 (by decide))) dL_law_227 ?_
  have hP := jw_swP hP
  have hD := jw_swD hD
  refine lm_feed C0 hZ hA hl (Nat.le_of_ble_eq_true rfl) hc1 hc2 hJ hP hD hS (fun rlm τ H locs hJ eb hP hD hS => ?_)
  have hP := jw_swP hP
  have hD := jw_swD hD
  obtain ⟨hT, hq⟩ := lt5_feed ea eb hT
  refine lv_pop hx hb dL_law_231 rfl ?_
  exact lv_goto (tgt := 915) hx hb dL_law_232 (by decide) (kk σ τ H locs hI hJ hT hP hD hS)
set_option maxHeartbeats 4000000 in
set_option maxRecDepth 100000 in
theorem law_case_1 {p : Program} {e : Env} {s : State} {m : MethodId} {below : List Frame} {meth : Method} {c : Code} {l : Launch} {b L : Nat} {xs : Nat → Int32} {dC : Nat → ClassId} {dI : Nat → Nat → Nat} {cy : Nat → ClassId} {sq : Nat → Nat} {cells slots : Nat} {i : Int32} {x0 m0 : Nat} {σ : XS} {τ : MS} {H : Heap} {locs : List Loc} {ls : Array Slot} (C0 : k_cx p s m #[Value.ref b] c code 4 RL dC dI cy sq) (hZ : k_Z sq (fun q : Nat => s.heap.size ≤ q) s s.heap) (hX : va_X b L xs s s.heap) (hbl : b < s.heap.size) (hc1 : cells ≤ 600000) (hc2 : slots ≤ 7302250) (hL : L ≤ 3072) (hi : 0 ≤ i.toInt) (h6 : i.toInt + 6 ≤ (L : Int)) (hI : IX σ) (hJ : IM τ) (hT : LT5 (σ.2.2.2.1 0) (σ.2.2.2.2.2.1 0) (σ.2.2.2.1 7) (σ.2.2.2.1 8) (σ.2.2.2.1 1) (σ.2.2.2.2.2.1 7) (τ.2.1 0) (τ.2.2.2.1 0) τ.2.2.2.1 (τ.2.2.2.1 32) (τ.2.2.2.1 33) (τ.2.2.2.2 0) (τ.2.1 13)) (hP : va_P (dC, dI) vwCl (wX cy x0 σ ++ wM cy m0 τ) H) (hD : va_D (fun q : Nat => s.heap.size ≤ q) (wX cy x0 σ ++ wM cy m0 τ)) (hS : va_S (fun q : Nat => s.heap.size ≤ q) s.heap H locs) (hl : lv_has ls 4 [(3, .int i), (2, .ref m0), (1, .ref x0), (0, .ref b)]) (kk : ∀ (σ1 : XS) (τ1 : MS) (H1 : Heap) (locs1 : List Loc), IX σ1 → IM τ1 → LT5 (σ1.2.2.2.1 0) (σ1.2.2.2.2.2.1 0) (σ1.2.2.2.1 7) (σ1.2.2.2.1 8) (σ1.2.2.2.1 1) (σ1.2.2.2.2.2.1 7) (τ1.2.1 0) (τ1.2.2.2.1 0) τ1.2.2.2.1 (τ1.2.2.2.1 32) (τ1.2.2.2.1 33) (τ1.2.2.2.2 0) (τ1.2.1 13) → va_P (dC, dI) vwCl (wX cy x0 σ1 ++ wM cy m0 τ1) H1 → va_D (fun q : Nat => s.heap.size ≤ q) (wX cy x0 σ1 ++ wM cy m0 τ1) → va_S (fun q : Nat => s.heap.size ≤ q) s.heap H1 locs1 → W p l e room_1 s m #[Value.ref b] below meth c H1 locs1 cells slots (lw_Z below #[Value.ref b] s) (F0 m 915 ls [])) : W p l e room_1 s m #[Value.ref b] below meth c H locs cells slots (lw_Z below #[Value.ref b] s) (F0 m 235 ls []) := by
  have hx := C0.1
  have hb := C0.2.1
  have hA : ∀ q : Nat, s.heap.size ≤ q → (fun q : Nat => s.heap.size ≤ q) q := fun _ h => h
  have hbA : ¬ (fun q : Nat => s.heap.size ≤ q) b := Nat.not_le.mpr hbl
  refine lv_aload_n hx hb dL_law_235 rfl (lv_at hl 2 rfl) ?_
  refine lv_aload_n hx hb dL_law_236 rfl (lv_at hl 3 rfl) ?_
  refine lv_iload_n hx hb dL_law_237 rfl (lv_at hl 0 rfl) ?_
  refine lv_iconst (v := 1) hx hb dL_law_238 (by decide) ?_
  refine lv_iadd hx hb dL_law_239 ?_
  refine va_sld hx hb hX hbl hbA hS (law_in hi h6 hL (ib_c 1 0 5 (by decide))) dL_law_240 ?_
  refine lx_end C0 hZ hA hl (Nat.le_of_ble_eq_true rfl) hc1 hc2 hI hP hD hS (fun rlx σ H locs hI ea hP hD hS => ?_)
  refine lv_pop hx hb dL_law_244 rfl ?_
  refine lv_aload_n hx hb dL_law_245 rfl (lv_at hl 1 rfl) ?_
  refine lv_aload_n hx hb dL_law_246 rfl (lv_at hl 3 rfl) ?_
  refine lv_iload_n hx hb dL_law_247 rfl (lv_at hl 0 rfl) ?_
  refine lv_iconst (v := 1) hx hb dL_law_248 (by decide) ?_
  refine lv_iadd hx hb dL_law_249 ?_
  refine va_sld hx hb hX hbl hbA hS (law_in hi h6 hL (ib_c 1 0 5 (by decide))) dL_law_250 ?_
  have hP := jw_swP hP
  have hD := jw_swD hD
  refine lm_end C0 hZ hA hl (Nat.le_of_ble_eq_true rfl) hc1 hc2 hJ hP hD hS (fun rlm τ H locs hJ eb hP hD hS => ?_)
  have hP := jw_swP hP
  have hD := jw_swD hD
  obtain ⟨hT, hq⟩ := lt5_end ea eb hT
  refine lv_pop hx hb dL_law_254 rfl ?_
  exact lv_goto (tgt := 915) hx hb dL_law_255 (by decide) (kk σ τ H locs hI hJ hT hP hD hS)
set_option maxHeartbeats 4000000 in
set_option maxRecDepth 100000 in
theorem law_case_2 {p : Program} {e : Env} {s : State} {m : MethodId} {below : List Frame} {meth : Method} {c : Code} {l : Launch} {b L : Nat} {xs : Nat → Int32} {dC : Nat → ClassId} {dI : Nat → Nat → Nat} {cy : Nat → ClassId} {sq : Nat → Nat} {cells slots : Nat} {i : Int32} {x0 m0 : Nat} {σ : XS} {τ : MS} {H : Heap} {locs : List Loc} {ls : Array Slot} (C0 : k_cx p s m #[Value.ref b] c code 4 RL dC dI cy sq) (hZ : k_Z sq (fun q : Nat => s.heap.size ≤ q) s s.heap) (hX : va_X b L xs s s.heap) (hbl : b < s.heap.size) (hc1 : cells ≤ 600000) (hc2 : slots ≤ 7302250) (hL : L ≤ 3072) (hi : 0 ≤ i.toInt) (h6 : i.toInt + 6 ≤ (L : Int)) (hI : IX σ) (hJ : IM τ) (hT : LT5 (σ.2.2.2.1 0) (σ.2.2.2.2.2.1 0) (σ.2.2.2.1 7) (σ.2.2.2.1 8) (σ.2.2.2.1 1) (σ.2.2.2.2.2.1 7) (τ.2.1 0) (τ.2.2.2.1 0) τ.2.2.2.1 (τ.2.2.2.1 32) (τ.2.2.2.1 33) (τ.2.2.2.2 0) (τ.2.1 13)) (hP : va_P (dC, dI) vwCl (wX cy x0 σ ++ wM cy m0 τ) H) (hD : va_D (fun q : Nat => s.heap.size ≤ q) (wX cy x0 σ ++ wM cy m0 τ)) (hS : va_S (fun q : Nat => s.heap.size ≤ q) s.heap H locs) (hl : lv_has ls 4 [(3, .int i), (2, .ref m0), (1, .ref x0), (0, .ref b)]) (kk : ∀ (σ1 : XS) (τ1 : MS) (H1 : Heap) (locs1 : List Loc), IX σ1 → IM τ1 → LT5 (σ1.2.2.2.1 0) (σ1.2.2.2.2.2.1 0) (σ1.2.2.2.1 7) (σ1.2.2.2.1 8) (σ1.2.2.2.1 1) (σ1.2.2.2.2.2.1 7) (τ1.2.1 0) (τ1.2.2.2.1 0) τ1.2.2.2.1 (τ1.2.2.2.1 32) (τ1.2.2.2.1 33) (τ1.2.2.2.2 0) (τ1.2.1 13) → va_P (dC, dI) vwCl (wX cy x0 σ1 ++ wM cy m0 τ1) H1 → va_D (fun q : Nat => s.heap.size ≤ q) (wX cy x0 σ1 ++ wM cy m0 τ1) → va_S (fun q : Nat => s.heap.size ≤ q) s.heap H1 locs1 → W p l e room_1 s m #[Value.ref b] below meth c H1 locs1 cells slots (lw_Z below #[Value.ref b] s) (F0 m 915 ls [])) : W p l e room_1 s m #[Value.ref b] below meth c H locs cells slots (lw_Z below #[Value.ref b] s) (F0 m 258 ls []) := by
  have hx := C0.1
  have hb := C0.2.1
  have hA : ∀ q : Nat, s.heap.size ≤ q → (fun q : Nat => s.heap.size ≤ q) q := fun _ h => h
  have hbA : ¬ (fun q : Nat => s.heap.size ≤ q) b := Nat.not_le.mpr hbl
  refine lv_aload_n hx hb dL_law_258 rfl (lv_at hl 2 rfl) ?_
  refine lx_crossing C0 hZ hA hl (Nat.le_of_ble_eq_true rfl) hc1 hc2 hI hP hD hS (fun rlx σ H locs hI ea hP hD hS => ?_)
  refine lv_pop hx hb dL_law_262 rfl ?_
  refine lv_aload_n hx hb dL_law_263 rfl (lv_at hl 1 rfl) ?_
  have hP := jw_swP hP
  have hD := jw_swD hD
  refine lm_crossing C0 hZ hA hl (Nat.le_of_ble_eq_true rfl) hc1 hc2 hJ hP hD hS (fun rlm τ H locs hJ eb hP hD hS => ?_)
  have hP := jw_swP hP
  have hD := jw_swD hD
  obtain ⟨hT, hq⟩ := lt5_cr ea eb hT
  refine lv_pop hx hb dL_law_267 rfl ?_
  exact lv_goto (tgt := 915) hx hb dL_law_268 (by decide) (kk σ τ H locs hI hJ hT hP hD hS)
set_option maxHeartbeats 4000000 in
set_option maxRecDepth 100000 in
theorem law_case_3 {p : Program} {e : Env} {s : State} {m : MethodId} {below : List Frame} {meth : Method} {c : Code} {l : Launch} {b L : Nat} {xs : Nat → Int32} {dC : Nat → ClassId} {dI : Nat → Nat → Nat} {cy : Nat → ClassId} {sq : Nat → Nat} {cells slots : Nat} {i : Int32} {x0 m0 : Nat} {σ : XS} {τ : MS} {H : Heap} {locs : List Loc} {ls : Array Slot} (C0 : k_cx p s m #[Value.ref b] c code 4 RL dC dI cy sq) (hZ : k_Z sq (fun q : Nat => s.heap.size ≤ q) s s.heap) (hX : va_X b L xs s s.heap) (hbl : b < s.heap.size) (hc1 : cells ≤ 600000) (hc2 : slots ≤ 7302250) (hL : L ≤ 3072) (hi : 0 ≤ i.toInt) (h6 : i.toInt + 6 ≤ (L : Int)) (hI : IX σ) (hJ : IM τ) (hT : LT5 (σ.2.2.2.1 0) (σ.2.2.2.2.2.1 0) (σ.2.2.2.1 7) (σ.2.2.2.1 8) (σ.2.2.2.1 1) (σ.2.2.2.2.2.1 7) (τ.2.1 0) (τ.2.2.2.1 0) τ.2.2.2.1 (τ.2.2.2.1 32) (τ.2.2.2.1 33) (τ.2.2.2.2 0) (τ.2.1 13)) (hP : va_P (dC, dI) vwCl (wX cy x0 σ ++ wM cy m0 τ) H) (hD : va_D (fun q : Nat => s.heap.size ≤ q) (wX cy x0 σ ++ wM cy m0 τ)) (hS : va_S (fun q : Nat => s.heap.size ≤ q) s.heap H locs) (hl : lv_has ls 4 [(3, .int i), (2, .ref m0), (1, .ref x0), (0, .ref b)]) (kk : ∀ (σ1 : XS) (τ1 : MS) (H1 : Heap) (locs1 : List Loc), IX σ1 → IM τ1 → LT5 (σ1.2.2.2.1 0) (σ1.2.2.2.2.2.1 0) (σ1.2.2.2.1 7) (σ1.2.2.2.1 8) (σ1.2.2.2.1 1) (σ1.2.2.2.2.2.1 7) (τ1.2.1 0) (τ1.2.2.2.1 0) τ1.2.2.2.1 (τ1.2.2.2.1 32) (τ1.2.2.2.1 33) (τ1.2.2.2.2 0) (τ1.2.1 13) → va_P (dC, dI) vwCl (wX cy x0 σ1 ++ wM cy m0 τ1) H1 → va_D (fun q : Nat => s.heap.size ≤ q) (wX cy x0 σ1 ++ wM cy m0 τ1) → va_S (fun q : Nat => s.heap.size ≤ q) s.heap H1 locs1 → W p l e room_1 s m #[Value.ref b] below meth c H1 locs1 cells slots (lw_Z below #[Value.ref b] s) (F0 m 915 ls [])) : W p l e room_1 s m #[Value.ref b] below meth c H locs cells slots (lw_Z below #[Value.ref b] s) (F0 m 271 ls []) := by
  have hx := C0.1
  have hb := C0.2.1
  have hA : ∀ q : Nat, s.heap.size ≤ q → (fun q : Nat => s.heap.size ≤ q) q := fun _ h => h
  have hbA : ¬ (fun q : Nat => s.heap.size ≤ q) b := Nat.not_le.mpr hbl
  refine lv_aload_n hx hb dL_law_271 rfl (lv_at hl 2 rfl) ?_
  refine lv_aload_n hx hb dL_law_272 rfl (lv_at hl 3 rfl) ?_
  refine lv_iload_n hx hb dL_law_273 rfl (lv_at hl 0 rfl) ?_
  refine lv_iconst (v := 1) hx hb dL_law_274 (by decide) ?_
  refine lv_iadd hx hb dL_law_275 ?_
  refine va_sld hx hb hX hbl hbA hS (law_in hi h6 hL (ib_c 1 0 5 (by decide))) dL_law_276 ?_
  refine lx_fault C0 hZ hA hl (Nat.le_of_ble_eq_true rfl) hc1 hc2 hI hP hD hS (fun rlx σ H locs hI ea hP hD hS => ?_)
  refine lv_pop hx hb dL_law_280 rfl ?_
  refine lv_aload_n hx hb dL_law_281 rfl (lv_at hl 1 rfl) ?_
  refine lv_aload_n hx hb dL_law_282 rfl (lv_at hl 3 rfl) ?_
  refine lv_iload_n hx hb dL_law_283 rfl (lv_at hl 0 rfl) ?_
  refine lv_iconst (v := 1) hx hb dL_law_284 (by decide) ?_
  refine lv_iadd hx hb dL_law_285 ?_
  refine va_sld hx hb hX hbl hbA hS (law_in hi h6 hL (ib_c 1 0 5 (by decide))) dL_law_286 ?_
  have hP := jw_swP hP
  have hD := jw_swD hD
  refine lm_fault C0 hZ hA hl (Nat.le_of_ble_eq_true rfl) hc1 hc2 hJ hP hD hS (fun rlm τ H locs hJ eb hP hD hS => ?_)
  have hP := jw_swP hP
  have hD := jw_swD hD
  have hT := lt5_keep ea eb hT
  refine lv_pop hx hb dL_law_290 rfl ?_
  exact lv_goto (tgt := 915) hx hb dL_law_291 (by decide) (kk σ τ H locs hI hJ hT hP hD hS)
set_option maxHeartbeats 4000000 in
set_option maxRecDepth 100000 in
theorem law_case_4 {p : Program} {e : Env} {s : State} {m : MethodId} {below : List Frame} {meth : Method} {c : Code} {l : Launch} {b L : Nat} {xs : Nat → Int32} {dC : Nat → ClassId} {dI : Nat → Nat → Nat} {cy : Nat → ClassId} {sq : Nat → Nat} {cells slots : Nat} {i : Int32} {x0 m0 : Nat} {σ : XS} {τ : MS} {H : Heap} {locs : List Loc} {ls : Array Slot} (C0 : k_cx p s m #[Value.ref b] c code 4 RL dC dI cy sq) (hZ : k_Z sq (fun q : Nat => s.heap.size ≤ q) s s.heap) (hX : va_X b L xs s s.heap) (hbl : b < s.heap.size) (hc1 : cells ≤ 600000) (hc2 : slots ≤ 7302250) (hL : L ≤ 3072) (hi : 0 ≤ i.toInt) (h6 : i.toInt + 6 ≤ (L : Int)) (hI : IX σ) (hJ : IM τ) (hT : LT5 (σ.2.2.2.1 0) (σ.2.2.2.2.2.1 0) (σ.2.2.2.1 7) (σ.2.2.2.1 8) (σ.2.2.2.1 1) (σ.2.2.2.2.2.1 7) (τ.2.1 0) (τ.2.2.2.1 0) τ.2.2.2.1 (τ.2.2.2.1 32) (τ.2.2.2.1 33) (τ.2.2.2.2 0) (τ.2.1 13)) (hP : va_P (dC, dI) vwCl (wX cy x0 σ ++ wM cy m0 τ) H) (hD : va_D (fun q : Nat => s.heap.size ≤ q) (wX cy x0 σ ++ wM cy m0 τ)) (hS : va_S (fun q : Nat => s.heap.size ≤ q) s.heap H locs) (hl : lv_has ls 4 [(3, .int i), (2, .ref m0), (1, .ref x0), (0, .ref b)]) (kk : ∀ (σ1 : XS) (τ1 : MS) (H1 : Heap) (locs1 : List Loc), IX σ1 → IM τ1 → LT5 (σ1.2.2.2.1 0) (σ1.2.2.2.2.2.1 0) (σ1.2.2.2.1 7) (σ1.2.2.2.1 8) (σ1.2.2.2.1 1) (σ1.2.2.2.2.2.1 7) (τ1.2.1 0) (τ1.2.2.2.1 0) τ1.2.2.2.1 (τ1.2.2.2.1 32) (τ1.2.2.2.1 33) (τ1.2.2.2.2 0) (τ1.2.1 13) → va_P (dC, dI) vwCl (wX cy x0 σ1 ++ wM cy m0 τ1) H1 → va_D (fun q : Nat => s.heap.size ≤ q) (wX cy x0 σ1 ++ wM cy m0 τ1) → va_S (fun q : Nat => s.heap.size ≤ q) s.heap H1 locs1 → W p l e room_1 s m #[Value.ref b] below meth c H1 locs1 cells slots (lw_Z below #[Value.ref b] s) (F0 m 915 ls [])) : W p l e room_1 s m #[Value.ref b] below meth c H locs cells slots (lw_Z below #[Value.ref b] s) (F0 m 294 ls []) := by
  have hx := C0.1
  have hb := C0.2.1
  have hA : ∀ q : Nat, s.heap.size ≤ q → (fun q : Nat => s.heap.size ≤ q) q := fun _ h => h
  have hbA : ¬ (fun q : Nat => s.heap.size ≤ q) b := Nat.not_le.mpr hbl
  refine lv_aload_n hx hb dL_law_294 rfl (lv_at hl 2 rfl) ?_
  refine lv_aload_n hx hb dL_law_295 rfl (lv_at hl 3 rfl) ?_
  refine lv_iload_n hx hb dL_law_296 rfl (lv_at hl 0 rfl) ?_
  refine lv_iconst (v := 1) hx hb dL_law_297 (by decide) ?_
  refine lv_iadd hx hb dL_law_298 ?_
  refine va_sld hx hb hX hbl hbA hS (law_in hi h6 hL (ib_c 1 0 5 (by decide))) dL_law_299 ?_
  refine lx_has C0 hZ hA hl (Nat.le_of_ble_eq_true rfl) hc1 hc2 hI hP hD hS (fun rlx σ H locs hI ea hP hD hS => ?_)
  refine lv_pop hx hb dL_law_303 rfl ?_
  refine lv_aload_n hx hb dL_law_304 rfl (lv_at hl 1 rfl) ?_
  refine lv_aload_n hx hb dL_law_305 rfl (lv_at hl 3 rfl) ?_
  refine lv_iload_n hx hb dL_law_306 rfl (lv_at hl 0 rfl) ?_
  refine lv_iconst (v := 1) hx hb dL_law_307 (by decide) ?_
  refine lv_iadd hx hb dL_law_308 ?_
  refine va_sld hx hb hX hbl hbA hS (law_in hi h6 hL (ib_c 1 0 5 (by decide))) dL_law_309 ?_
  have hP := jw_swP hP
  have hD := jw_swD hD
  refine lm_has C0 hZ hA hl (Nat.le_of_ble_eq_true rfl) hc1 hc2 hJ hP hD hS (fun rlm τ H locs hJ eb hP hD hS => ?_)
  have hP := jw_swP hP
  have hD := jw_swD hD
  have hT := lt5_keep ea eb hT
  refine lv_pop hx hb dL_law_313 rfl ?_
  exact lv_goto (tgt := 915) hx hb dL_law_314 (by decide) (kk σ τ H locs hI hJ hT hP hD hS)
set_option maxHeartbeats 4000000 in
set_option maxRecDepth 100000 in
theorem law_case_5 {p : Program} {e : Env} {s : State} {m : MethodId} {below : List Frame} {meth : Method} {c : Code} {l : Launch} {b L : Nat} {xs : Nat → Int32} {dC : Nat → ClassId} {dI : Nat → Nat → Nat} {cy : Nat → ClassId} {sq : Nat → Nat} {cells slots : Nat} {i : Int32} {x0 m0 : Nat} {σ : XS} {τ : MS} {H : Heap} {locs : List Loc} {ls : Array Slot} (C0 : k_cx p s m #[Value.ref b] c code 4 RL dC dI cy sq) (hZ : k_Z sq (fun q : Nat => s.heap.size ≤ q) s s.heap) (hX : va_X b L xs s s.heap) (hbl : b < s.heap.size) (hc1 : cells ≤ 600000) (hc2 : slots ≤ 7302250) (hL : L ≤ 3072) (hi : 0 ≤ i.toInt) (h6 : i.toInt + 6 ≤ (L : Int)) (hI : IX σ) (hJ : IM τ) (hT : LT5 (σ.2.2.2.1 0) (σ.2.2.2.2.2.1 0) (σ.2.2.2.1 7) (σ.2.2.2.1 8) (σ.2.2.2.1 1) (σ.2.2.2.2.2.1 7) (τ.2.1 0) (τ.2.2.2.1 0) τ.2.2.2.1 (τ.2.2.2.1 32) (τ.2.2.2.1 33) (τ.2.2.2.2 0) (τ.2.1 13)) (hP : va_P (dC, dI) vwCl (wX cy x0 σ ++ wM cy m0 τ) H) (hD : va_D (fun q : Nat => s.heap.size ≤ q) (wX cy x0 σ ++ wM cy m0 τ)) (hS : va_S (fun q : Nat => s.heap.size ≤ q) s.heap H locs) (hl : lv_has ls 4 [(3, .int i), (2, .ref m0), (1, .ref x0), (0, .ref b)]) (kk : ∀ (σ1 : XS) (τ1 : MS) (H1 : Heap) (locs1 : List Loc), IX σ1 → IM τ1 → LT5 (σ1.2.2.2.1 0) (σ1.2.2.2.2.2.1 0) (σ1.2.2.2.1 7) (σ1.2.2.2.1 8) (σ1.2.2.2.1 1) (σ1.2.2.2.2.2.1 7) (τ1.2.1 0) (τ1.2.2.2.1 0) τ1.2.2.2.1 (τ1.2.2.2.1 32) (τ1.2.2.2.1 33) (τ1.2.2.2.2 0) (τ1.2.1 13) → va_P (dC, dI) vwCl (wX cy x0 σ1 ++ wM cy m0 τ1) H1 → va_D (fun q : Nat => s.heap.size ≤ q) (wX cy x0 σ1 ++ wM cy m0 τ1) → va_S (fun q : Nat => s.heap.size ≤ q) s.heap H1 locs1 → W p l e room_1 s m #[Value.ref b] below meth c H1 locs1 cells slots (lw_Z below #[Value.ref b] s) (F0 m 915 ls [])) : W p l e room_1 s m #[Value.ref b] below meth c H locs cells slots (lw_Z below #[Value.ref b] s) (F0 m 317 ls []) := by
  have hx := C0.1
  have hb := C0.2.1
  have hA : ∀ q : Nat, s.heap.size ≤ q → (fun q : Nat => s.heap.size ≤ q) q := fun _ h => h
  have hbA : ¬ (fun q : Nat => s.heap.size ≤ q) b := Nat.not_le.mpr hbl
  refine lv_aload_n hx hb dL_law_317 rfl (lv_at hl 2 rfl) ?_
  refine lv_aload_n hx hb dL_law_318 rfl (lv_at hl 3 rfl) ?_
  refine lv_iload_n hx hb dL_law_319 rfl (lv_at hl 0 rfl) ?_
  refine lv_iconst (v := 1) hx hb dL_law_320 (by decide) ?_
  refine lv_iadd hx hb dL_law_321 ?_
  refine va_sld hx hb hX hbl hbA hS (law_in hi h6 hL (ib_c 1 0 5 (by decide))) dL_law_322 ?_
  refine lv_aload_n hx hb dL_law_323 rfl (lv_at hl 3 rfl) ?_
  refine lv_iload_n hx hb dL_law_324 rfl (lv_at hl 0 rfl) ?_
  refine lv_iconst (v := 2) hx hb dL_law_325 (by decide) ?_
  refine lv_iadd hx hb dL_law_326 ?_
  refine va_sld hx hb hX hbl hbA hS (law_in hi h6 hL (ib_c 2 0 5 (by decide))) dL_law_327 ?_
  refine lv_aload_n hx hb dL_law_328 rfl (lv_at hl 3 rfl) ?_
  refine lv_iload_n hx hb dL_law_329 rfl (lv_at hl 0 rfl) ?_
  refine lv_iconst (v := 3) hx hb dL_law_330 (by decide) ?_
  refine lv_iadd hx hb dL_law_331 ?_
  refine va_sld hx hb hX hbl hbA hS (law_in hi h6 hL (ib_c 3 0 5 (by decide))) dL_law_332 ?_
  refine lx_letter C0 hZ hA hl (Nat.le_of_ble_eq_true rfl) hc1 hc2 hI hP hD hS (fun rlx σ H locs hI ea hP hD hS => ?_)
  refine lv_aload_n hx hb dL_law_336 rfl (lv_at hl 1 rfl) ?_
  refine lv_aload_n hx hb dL_law_337 rfl (lv_at hl 3 rfl) ?_
  refine lv_iload_n hx hb dL_law_338 rfl (lv_at hl 0 rfl) ?_
  refine lv_iconst (v := 1) hx hb dL_law_339 (by decide) ?_
  refine lv_iadd hx hb dL_law_340 ?_
  refine va_sld hx hb hX hbl hbA hS (law_in hi h6 hL (ib_c 1 0 5 (by decide))) dL_law_341 ?_
  refine lv_aload_n hx hb dL_law_342 rfl (lv_at hl 3 rfl) ?_
  refine lv_iload_n hx hb dL_law_343 rfl (lv_at hl 0 rfl) ?_
  refine lv_iconst (v := 2) hx hb dL_law_344 (by decide) ?_
  refine lv_iadd hx hb dL_law_345 ?_
  refine va_sld hx hb hX hbl hbA hS (law_in hi h6 hL (ib_c 2 0 5 (by decide))) dL_law_346 ?_
  refine lv_aload_n hx hb dL_law_347 rfl (lv_at hl 3 rfl) ?_
  refine lv_iload_n hx hb dL_law_348 rfl (lv_at hl 0 rfl) ?_
  refine lv_iconst (v := 3) hx hb dL_law_349 (by decide) ?_
  refine lv_iadd hx hb dL_law_350 ?_
  refine va_sld hx hb hX hbl hbA hS (law_in hi h6 hL (ib_c 3 0 5 (by decide))) dL_law_351 ?_
  have hP := jw_swP hP
  have hD := jw_swD hD
  refine lm_letter C0 hZ hA hl (Nat.le_of_ble_eq_true rfl) hc1 hc2 hJ hP hD hS (fun rlm τ H locs hJ eb hP hD hS => ?_)
  have hP := jw_swP hP
  have hD := jw_swD hD
  obtain ⟨hT, hq⟩ := lt5_le ea eb hT
  exact lv_icmp_eq (tgt := 915) hx hb dL_law_355 (by decide) (fun _ => kk σ τ H locs hI hJ hT hP hD hS) (fun h => absurd (hq) h)
set_option maxHeartbeats 4000000 in
set_option maxRecDepth 100000 in
theorem law_case_6 {p : Program} {e : Env} {s : State} {m : MethodId} {below : List Frame} {meth : Method} {c : Code} {l : Launch} {b L : Nat} {xs : Nat → Int32} {dC : Nat → ClassId} {dI : Nat → Nat → Nat} {cy : Nat → ClassId} {sq : Nat → Nat} {cells slots : Nat} {i : Int32} {x0 m0 : Nat} {σ : XS} {τ : MS} {H : Heap} {locs : List Loc} {ls : Array Slot} (C0 : k_cx p s m #[Value.ref b] c code 4 RL dC dI cy sq) (hZ : k_Z sq (fun q : Nat => s.heap.size ≤ q) s s.heap) (hX : va_X b L xs s s.heap) (hbl : b < s.heap.size) (hc1 : cells ≤ 600000) (hc2 : slots ≤ 7302250) (hL : L ≤ 3072) (hi : 0 ≤ i.toInt) (h6 : i.toInt + 6 ≤ (L : Int)) (hI : IX σ) (hJ : IM τ) (hT : LT5 (σ.2.2.2.1 0) (σ.2.2.2.2.2.1 0) (σ.2.2.2.1 7) (σ.2.2.2.1 8) (σ.2.2.2.1 1) (σ.2.2.2.2.2.1 7) (τ.2.1 0) (τ.2.2.2.1 0) τ.2.2.2.1 (τ.2.2.2.1 32) (τ.2.2.2.1 33) (τ.2.2.2.2 0) (τ.2.1 13)) (hP : va_P (dC, dI) vwCl (wX cy x0 σ ++ wM cy m0 τ) H) (hD : va_D (fun q : Nat => s.heap.size ≤ q) (wX cy x0 σ ++ wM cy m0 τ)) (hS : va_S (fun q : Nat => s.heap.size ≤ q) s.heap H locs) (hl : lv_has ls 4 [(3, .int i), (2, .ref m0), (1, .ref x0), (0, .ref b)]) (kk : ∀ (σ1 : XS) (τ1 : MS) (H1 : Heap) (locs1 : List Loc), IX σ1 → IM τ1 → LT5 (σ1.2.2.2.1 0) (σ1.2.2.2.2.2.1 0) (σ1.2.2.2.1 7) (σ1.2.2.2.1 8) (σ1.2.2.2.1 1) (σ1.2.2.2.2.2.1 7) (τ1.2.1 0) (τ1.2.2.2.1 0) τ1.2.2.2.1 (τ1.2.2.2.1 32) (τ1.2.2.2.1 33) (τ1.2.2.2.2 0) (τ1.2.1 13) → va_P (dC, dI) vwCl (wX cy x0 σ1 ++ wM cy m0 τ1) H1 → va_D (fun q : Nat => s.heap.size ≤ q) (wX cy x0 σ1 ++ wM cy m0 τ1) → va_S (fun q : Nat => s.heap.size ≤ q) s.heap H1 locs1 → W p l e room_1 s m #[Value.ref b] below meth c H1 locs1 cells slots (lw_Z below #[Value.ref b] s) (F0 m 915 ls [])) : W p l e room_1 s m #[Value.ref b] below meth c H locs cells slots (lw_Z below #[Value.ref b] s) (F0 m 360 ls []) := by
  have hx := C0.1
  have hb := C0.2.1
  have hA : ∀ q : Nat, s.heap.size ≤ q → (fun q : Nat => s.heap.size ≤ q) q := fun _ h => h
  have hbA : ¬ (fun q : Nat => s.heap.size ≤ q) b := Nat.not_le.mpr hbl
  refine lv_aload_n hx hb dL_law_360 rfl (lv_at hl 2 rfl) ?_
  refine lv_aload_n hx hb dL_law_361 rfl (lv_at hl 3 rfl) ?_
  refine lv_iload_n hx hb dL_law_362 rfl (lv_at hl 0 rfl) ?_
  refine lv_iconst (v := 1) hx hb dL_law_363 (by decide) ?_
  refine lv_iadd hx hb dL_law_364 ?_
  refine va_sld hx hb hX hbl hbA hS (law_in hi h6 hL (ib_c 1 0 5 (by decide))) dL_law_365 ?_
  refine lv_aload_n hx hb dL_law_366 rfl (lv_at hl 3 rfl) ?_
  refine lv_iload_n hx hb dL_law_367 rfl (lv_at hl 0 rfl) ?_
  refine lv_iconst (v := 2) hx hb dL_law_368 (by decide) ?_
  refine lv_iadd hx hb dL_law_369 ?_
  refine va_sld hx hb hX hbl hbA hS (law_in hi h6 hL (ib_c 2 0 5 (by decide))) dL_law_370 ?_
  refine lx_kind C0 hZ hA hl (Nat.le_of_ble_eq_true rfl) hc1 hc2 hI hP hD hS (fun rlx σ H locs hI ea hP hD hS => ?_)
  refine lv_pop hx hb dL_law_374 rfl ?_
  refine lv_aload_n hx hb dL_law_375 rfl (lv_at hl 1 rfl) ?_
  refine lv_aload_n hx hb dL_law_376 rfl (lv_at hl 3 rfl) ?_
  refine lv_iload_n hx hb dL_law_377 rfl (lv_at hl 0 rfl) ?_
  refine lv_iconst (v := 1) hx hb dL_law_378 (by decide) ?_
  refine lv_iadd hx hb dL_law_379 ?_
  refine va_sld hx hb hX hbl hbA hS (law_in hi h6 hL (ib_c 1 0 5 (by decide))) dL_law_380 ?_
  refine lv_aload_n hx hb dL_law_381 rfl (lv_at hl 3 rfl) ?_
  refine lv_iload_n hx hb dL_law_382 rfl (lv_at hl 0 rfl) ?_
  refine lv_iconst (v := 2) hx hb dL_law_383 (by decide) ?_
  refine lv_iadd hx hb dL_law_384 ?_
  refine va_sld hx hb hX hbl hbA hS (law_in hi h6 hL (ib_c 2 0 5 (by decide))) dL_law_385 ?_
  have hP := jw_swP hP
  have hD := jw_swD hD
  refine lm_kind C0 hZ hA hl (Nat.le_of_ble_eq_true rfl) hc1 hc2 hJ hP hD hS (fun rlm τ H locs hJ eb hP hD hS => ?_)
  have hP := jw_swP hP
  have hD := jw_swD hD
  have hT := lt5_keep ea eb hT
  refine lv_pop hx hb dL_law_389 rfl ?_
  exact lv_goto (tgt := 915) hx hb dL_law_390 (by decide) (kk σ τ H locs hI hJ hT hP hD hS)
set_option maxHeartbeats 4000000 in
set_option maxRecDepth 100000 in
theorem law_case_7 {p : Program} {e : Env} {s : State} {m : MethodId} {below : List Frame} {meth : Method} {c : Code} {l : Launch} {b L : Nat} {xs : Nat → Int32} {dC : Nat → ClassId} {dI : Nat → Nat → Nat} {cy : Nat → ClassId} {sq : Nat → Nat} {cells slots : Nat} {i : Int32} {x0 m0 : Nat} {σ : XS} {τ : MS} {H : Heap} {locs : List Loc} {ls : Array Slot} (C0 : k_cx p s m #[Value.ref b] c code 4 RL dC dI cy sq) (hZ : k_Z sq (fun q : Nat => s.heap.size ≤ q) s s.heap) (hX : va_X b L xs s s.heap) (hbl : b < s.heap.size) (hc1 : cells ≤ 600000) (hc2 : slots ≤ 7302250) (hL : L ≤ 3072) (hi : 0 ≤ i.toInt) (h6 : i.toInt + 6 ≤ (L : Int)) (hI : IX σ) (hJ : IM τ) (hT : LT5 (σ.2.2.2.1 0) (σ.2.2.2.2.2.1 0) (σ.2.2.2.1 7) (σ.2.2.2.1 8) (σ.2.2.2.1 1) (σ.2.2.2.2.2.1 7) (τ.2.1 0) (τ.2.2.2.1 0) τ.2.2.2.1 (τ.2.2.2.1 32) (τ.2.2.2.1 33) (τ.2.2.2.2 0) (τ.2.1 13)) (hP : va_P (dC, dI) vwCl (wX cy x0 σ ++ wM cy m0 τ) H) (hD : va_D (fun q : Nat => s.heap.size ≤ q) (wX cy x0 σ ++ wM cy m0 τ)) (hS : va_S (fun q : Nat => s.heap.size ≤ q) s.heap H locs) (hl : lv_has ls 4 [(3, .int i), (2, .ref m0), (1, .ref x0), (0, .ref b)]) (kk : ∀ (σ1 : XS) (τ1 : MS) (H1 : Heap) (locs1 : List Loc), IX σ1 → IM τ1 → LT5 (σ1.2.2.2.1 0) (σ1.2.2.2.2.2.1 0) (σ1.2.2.2.1 7) (σ1.2.2.2.1 8) (σ1.2.2.2.1 1) (σ1.2.2.2.2.2.1 7) (τ1.2.1 0) (τ1.2.2.2.1 0) τ1.2.2.2.1 (τ1.2.2.2.1 32) (τ1.2.2.2.1 33) (τ1.2.2.2.2 0) (τ1.2.1 13) → va_P (dC, dI) vwCl (wX cy x0 σ1 ++ wM cy m0 τ1) H1 → va_D (fun q : Nat => s.heap.size ≤ q) (wX cy x0 σ1 ++ wM cy m0 τ1) → va_S (fun q : Nat => s.heap.size ≤ q) s.heap H1 locs1 → W p l e room_1 s m #[Value.ref b] below meth c H1 locs1 cells slots (lw_Z below #[Value.ref b] s) (F0 m 915 ls [])) : W p l e room_1 s m #[Value.ref b] below meth c H locs cells slots (lw_Z below #[Value.ref b] s) (F0 m 393 ls []) := by
  have hx := C0.1
  have hb := C0.2.1
  have hA : ∀ q : Nat, s.heap.size ≤ q → (fun q : Nat => s.heap.size ≤ q) q := fun _ h => h
  have hbA : ¬ (fun q : Nat => s.heap.size ≤ q) b := Nat.not_le.mpr hbl
  refine lv_aload_n hx hb dL_law_393 rfl (lv_at hl 2 rfl) ?_
  refine lv_aload_n hx hb dL_law_394 rfl (lv_at hl 3 rfl) ?_
  refine lv_iload_n hx hb dL_law_395 rfl (lv_at hl 0 rfl) ?_
  refine lv_iconst (v := 1) hx hb dL_law_396 (by decide) ?_
  refine lv_iadd hx hb dL_law_397 ?_
  refine va_sld hx hb hX hbl hbA hS (law_in hi h6 hL (ib_c 1 0 5 (by decide))) dL_law_398 ?_
  refine lv_aload_n hx hb dL_law_399 rfl (lv_at hl 3 rfl) ?_
  refine lv_iload_n hx hb dL_law_400 rfl (lv_at hl 0 rfl) ?_
  refine lv_iconst (v := 2) hx hb dL_law_401 (by decide) ?_
  refine lv_iadd hx hb dL_law_402 ?_
  refine va_sld hx hb hX hbl hbA hS (law_in hi h6 hL (ib_c 2 0 5 (by decide))) dL_law_403 ?_
  refine lx_walker C0 hZ hA hl (Nat.le_of_ble_eq_true rfl) hc1 hc2 hI hP hD hS (fun rlx σ H locs hI ea hP hD hS => ?_)
  refine lv_pop hx hb dL_law_407 rfl ?_
  refine lv_aload_n hx hb dL_law_408 rfl (lv_at hl 1 rfl) ?_
  refine lv_aload_n hx hb dL_law_409 rfl (lv_at hl 3 rfl) ?_
  refine lv_iload_n hx hb dL_law_410 rfl (lv_at hl 0 rfl) ?_
  refine lv_iconst (v := 1) hx hb dL_law_411 (by decide) ?_
  refine lv_iadd hx hb dL_law_412 ?_
  refine va_sld hx hb hX hbl hbA hS (law_in hi h6 hL (ib_c 1 0 5 (by decide))) dL_law_413 ?_
  refine lv_aload_n hx hb dL_law_414 rfl (lv_at hl 3 rfl) ?_
  refine lv_iload_n hx hb dL_law_415 rfl (lv_at hl 0 rfl) ?_
  refine lv_iconst (v := 2) hx hb dL_law_416 (by decide) ?_
  refine lv_iadd hx hb dL_law_417 ?_
  refine va_sld hx hb hX hbl hbA hS (law_in hi h6 hL (ib_c 2 0 5 (by decide))) dL_law_418 ?_
  have hP := jw_swP hP
  have hD := jw_swD hD
  refine lm_walker C0 hZ hA hl (Nat.le_of_ble_eq_true rfl) hc1 hc2 hJ hP hD hS (fun rlm τ H locs hJ eb hP hD hS => ?_)
  have hP := jw_swP hP
  have hD := jw_swD hD
  have hT := lt5_keep ea eb hT
  refine lv_pop hx hb dL_law_422 rfl ?_
  exact lv_goto (tgt := 915) hx hb dL_law_423 (by decide) (kk σ τ H locs hI hJ hT hP hD hS)
set_option maxHeartbeats 4000000 in
set_option maxRecDepth 100000 in
theorem law_case_8 {p : Program} {e : Env} {s : State} {m : MethodId} {below : List Frame} {meth : Method} {c : Code} {l : Launch} {b L : Nat} {xs : Nat → Int32} {dC : Nat → ClassId} {dI : Nat → Nat → Nat} {cy : Nat → ClassId} {sq : Nat → Nat} {cells slots : Nat} {i : Int32} {x0 m0 : Nat} {σ : XS} {τ : MS} {H : Heap} {locs : List Loc} {ls : Array Slot} (C0 : k_cx p s m #[Value.ref b] c code 4 RL dC dI cy sq) (hZ : k_Z sq (fun q : Nat => s.heap.size ≤ q) s s.heap) (hX : va_X b L xs s s.heap) (hbl : b < s.heap.size) (hc1 : cells ≤ 600000) (hc2 : slots ≤ 7302250) (hL : L ≤ 3072) (hi : 0 ≤ i.toInt) (h6 : i.toInt + 6 ≤ (L : Int)) (hI : IX σ) (hJ : IM τ) (hT : LT5 (σ.2.2.2.1 0) (σ.2.2.2.2.2.1 0) (σ.2.2.2.1 7) (σ.2.2.2.1 8) (σ.2.2.2.1 1) (σ.2.2.2.2.2.1 7) (τ.2.1 0) (τ.2.2.2.1 0) τ.2.2.2.1 (τ.2.2.2.1 32) (τ.2.2.2.1 33) (τ.2.2.2.2 0) (τ.2.1 13)) (hP : va_P (dC, dI) vwCl (wX cy x0 σ ++ wM cy m0 τ) H) (hD : va_D (fun q : Nat => s.heap.size ≤ q) (wX cy x0 σ ++ wM cy m0 τ)) (hS : va_S (fun q : Nat => s.heap.size ≤ q) s.heap H locs) (hl : lv_has ls 4 [(3, .int i), (2, .ref m0), (1, .ref x0), (0, .ref b)]) (kk : ∀ (σ1 : XS) (τ1 : MS) (H1 : Heap) (locs1 : List Loc), IX σ1 → IM τ1 → LT5 (σ1.2.2.2.1 0) (σ1.2.2.2.2.2.1 0) (σ1.2.2.2.1 7) (σ1.2.2.2.1 8) (σ1.2.2.2.1 1) (σ1.2.2.2.2.2.1 7) (τ1.2.1 0) (τ1.2.2.2.1 0) τ1.2.2.2.1 (τ1.2.2.2.1 32) (τ1.2.2.2.1 33) (τ1.2.2.2.2 0) (τ1.2.1 13) → va_P (dC, dI) vwCl (wX cy x0 σ1 ++ wM cy m0 τ1) H1 → va_D (fun q : Nat => s.heap.size ≤ q) (wX cy x0 σ1 ++ wM cy m0 τ1) → va_S (fun q : Nat => s.heap.size ≤ q) s.heap H1 locs1 → W p l e room_1 s m #[Value.ref b] below meth c H1 locs1 cells slots (lw_Z below #[Value.ref b] s) (F0 m 915 ls [])) : W p l e room_1 s m #[Value.ref b] below meth c H locs cells slots (lw_Z below #[Value.ref b] s) (F0 m 426 ls []) := by
  have hx := C0.1
  have hb := C0.2.1
  have hA : ∀ q : Nat, s.heap.size ≤ q → (fun q : Nat => s.heap.size ≤ q) q := fun _ h => h
  have hbA : ¬ (fun q : Nat => s.heap.size ≤ q) b := Nat.not_le.mpr hbl
  refine lv_aload_n hx hb dL_law_426 rfl (lv_at hl 2 rfl) ?_
  refine lv_aload_n hx hb dL_law_427 rfl (lv_at hl 3 rfl) ?_
  refine lv_iload_n hx hb dL_law_428 rfl (lv_at hl 0 rfl) ?_
  refine lv_iconst (v := 1) hx hb dL_law_429 (by decide) ?_
  refine lv_iadd hx hb dL_law_430 ?_
  refine va_sld hx hb hX hbl hbA hS (law_in hi h6 hL (ib_c 1 0 5 (by decide))) dL_law_431 ?_
  refine lx_light C0 hZ hA hl (Nat.le_of_ble_eq_true rfl) hc1 hc2 hI hP hD hS (fun rlx σ H locs hI ea hP hD hS => ?_)
  refine lv_pop hx hb dL_law_435 rfl ?_
  refine lv_aload_n hx hb dL_law_436 rfl (lv_at hl 1 rfl) ?_
  refine lv_aload_n hx hb dL_law_437 rfl (lv_at hl 3 rfl) ?_
  refine lv_iload_n hx hb dL_law_438 rfl (lv_at hl 0 rfl) ?_
  refine lv_iconst (v := 1) hx hb dL_law_439 (by decide) ?_
  refine lv_iadd hx hb dL_law_440 ?_
  refine va_sld hx hb hX hbl hbA hS (law_in hi h6 hL (ib_c 1 0 5 (by decide))) dL_law_441 ?_
  have hP := jw_swP hP
  have hD := jw_swD hD
  refine lm_light C0 hZ hA hl (Nat.le_of_ble_eq_true rfl) hc1 hc2 hJ hP hD hS (fun rlm τ H locs hJ eb hP hD hS => ?_)
  have hP := jw_swP hP
  have hD := jw_swD hD
  have hT := lt5_keep ea eb hT
  refine lv_pop hx hb dL_law_445 rfl ?_
  exact lv_goto (tgt := 915) hx hb dL_law_446 (by decide) (kk σ τ H locs hI hJ hT hP hD hS)
set_option maxHeartbeats 4000000 in
set_option maxRecDepth 100000 in
theorem law_case_9 {p : Program} {e : Env} {s : State} {m : MethodId} {below : List Frame} {meth : Method} {c : Code} {l : Launch} {b L : Nat} {xs : Nat → Int32} {dC : Nat → ClassId} {dI : Nat → Nat → Nat} {cy : Nat → ClassId} {sq : Nat → Nat} {cells slots : Nat} {i : Int32} {x0 m0 : Nat} {σ : XS} {τ : MS} {H : Heap} {locs : List Loc} {ls : Array Slot} (C0 : k_cx p s m #[Value.ref b] c code 4 RL dC dI cy sq) (hZ : k_Z sq (fun q : Nat => s.heap.size ≤ q) s s.heap) (hX : va_X b L xs s s.heap) (hbl : b < s.heap.size) (hc1 : cells ≤ 600000) (hc2 : slots ≤ 7302250) (hL : L ≤ 3072) (hi : 0 ≤ i.toInt) (h6 : i.toInt + 6 ≤ (L : Int)) (hI : IX σ) (hJ : IM τ) (hT : LT5 (σ.2.2.2.1 0) (σ.2.2.2.2.2.1 0) (σ.2.2.2.1 7) (σ.2.2.2.1 8) (σ.2.2.2.1 1) (σ.2.2.2.2.2.1 7) (τ.2.1 0) (τ.2.2.2.1 0) τ.2.2.2.1 (τ.2.2.2.1 32) (τ.2.2.2.1 33) (τ.2.2.2.2 0) (τ.2.1 13)) (hP : va_P (dC, dI) vwCl (wX cy x0 σ ++ wM cy m0 τ) H) (hD : va_D (fun q : Nat => s.heap.size ≤ q) (wX cy x0 σ ++ wM cy m0 τ)) (hS : va_S (fun q : Nat => s.heap.size ≤ q) s.heap H locs) (hl : lv_has ls 4 [(3, .int i), (2, .ref m0), (1, .ref x0), (0, .ref b)]) (kk : ∀ (σ1 : XS) (τ1 : MS) (H1 : Heap) (locs1 : List Loc), IX σ1 → IM τ1 → LT5 (σ1.2.2.2.1 0) (σ1.2.2.2.2.2.1 0) (σ1.2.2.2.1 7) (σ1.2.2.2.1 8) (σ1.2.2.2.1 1) (σ1.2.2.2.2.2.1 7) (τ1.2.1 0) (τ1.2.2.2.1 0) τ1.2.2.2.1 (τ1.2.2.2.1 32) (τ1.2.2.2.1 33) (τ1.2.2.2.2 0) (τ1.2.1 13) → va_P (dC, dI) vwCl (wX cy x0 σ1 ++ wM cy m0 τ1) H1 → va_D (fun q : Nat => s.heap.size ≤ q) (wX cy x0 σ1 ++ wM cy m0 τ1) → va_S (fun q : Nat => s.heap.size ≤ q) s.heap H1 locs1 → W p l e room_1 s m #[Value.ref b] below meth c H1 locs1 cells slots (lw_Z below #[Value.ref b] s) (F0 m 915 ls [])) : W p l e room_1 s m #[Value.ref b] below meth c H locs cells slots (lw_Z below #[Value.ref b] s) (F0 m 449 ls []) := by
  have hx := C0.1
  have hb := C0.2.1
  have hA : ∀ q : Nat, s.heap.size ≤ q → (fun q : Nat => s.heap.size ≤ q) q := fun _ h => h
  have hbA : ¬ (fun q : Nat => s.heap.size ≤ q) b := Nat.not_le.mpr hbl
  refine lv_aload_n hx hb dL_law_449 rfl (lv_at hl 2 rfl) ?_
  refine lv_aload_n hx hb dL_law_450 rfl (lv_at hl 3 rfl) ?_
  refine lv_iload_n hx hb dL_law_451 rfl (lv_at hl 0 rfl) ?_
  refine lv_iconst (v := 1) hx hb dL_law_452 (by decide) ?_
  refine lv_iadd hx hb dL_law_453 ?_
  refine va_sld hx hb hX hbl hbA hS (law_in hi h6 hL (ib_c 1 0 5 (by decide))) dL_law_454 ?_
  refine lx_car C0 hZ hA hl (Nat.le_of_ble_eq_true rfl) hc1 hc2 hI hP hD hS (fun rlx σ H locs hI ea hP hD hS => ?_)
  refine lv_pop hx hb dL_law_458 rfl ?_
  refine lv_aload_n hx hb dL_law_459 rfl (lv_at hl 1 rfl) ?_
  refine lv_aload_n hx hb dL_law_460 rfl (lv_at hl 3 rfl) ?_
  refine lv_iload_n hx hb dL_law_461 rfl (lv_at hl 0 rfl) ?_
  refine lv_iconst (v := 1) hx hb dL_law_462 (by decide) ?_
  refine lv_iadd hx hb dL_law_463 ?_
  refine va_sld hx hb hX hbl hbA hS (law_in hi h6 hL (ib_c 1 0 5 (by decide))) dL_law_464 ?_
  have hP := jw_swP hP
  have hD := jw_swD hD
  refine lm_car C0 hZ hA hl (Nat.le_of_ble_eq_true rfl) hc1 hc2 hJ hP hD hS (fun rlm τ H locs hJ eb hP hD hS => ?_)
  have hP := jw_swP hP
  have hD := jw_swD hD
  have hT := lt5_keep ea eb hT
  refine lv_pop hx hb dL_law_468 rfl ?_
  exact lv_goto (tgt := 915) hx hb dL_law_469 (by decide) (kk σ τ H locs hI hJ hT hP hD hS)
set_option maxHeartbeats 4000000 in
set_option maxRecDepth 100000 in
theorem law_case_10 {p : Program} {e : Env} {s : State} {m : MethodId} {below : List Frame} {meth : Method} {c : Code} {l : Launch} {b L : Nat} {xs : Nat → Int32} {dC : Nat → ClassId} {dI : Nat → Nat → Nat} {cy : Nat → ClassId} {sq : Nat → Nat} {cells slots : Nat} {i : Int32} {x0 m0 : Nat} {σ : XS} {τ : MS} {H : Heap} {locs : List Loc} {ls : Array Slot} (C0 : k_cx p s m #[Value.ref b] c code 4 RL dC dI cy sq) (hZ : k_Z sq (fun q : Nat => s.heap.size ≤ q) s s.heap) (hX : va_X b L xs s s.heap) (hbl : b < s.heap.size) (hc1 : cells ≤ 600000) (hc2 : slots ≤ 7302250) (hL : L ≤ 3072) (hi : 0 ≤ i.toInt) (h6 : i.toInt + 6 ≤ (L : Int)) (hI : IX σ) (hJ : IM τ) (hT : LT5 (σ.2.2.2.1 0) (σ.2.2.2.2.2.1 0) (σ.2.2.2.1 7) (σ.2.2.2.1 8) (σ.2.2.2.1 1) (σ.2.2.2.2.2.1 7) (τ.2.1 0) (τ.2.2.2.1 0) τ.2.2.2.1 (τ.2.2.2.1 32) (τ.2.2.2.1 33) (τ.2.2.2.2 0) (τ.2.1 13)) (hP : va_P (dC, dI) vwCl (wX cy x0 σ ++ wM cy m0 τ) H) (hD : va_D (fun q : Nat => s.heap.size ≤ q) (wX cy x0 σ ++ wM cy m0 τ)) (hS : va_S (fun q : Nat => s.heap.size ≤ q) s.heap H locs) (hl : lv_has ls 4 [(3, .int i), (2, .ref m0), (1, .ref x0), (0, .ref b)]) (kk : ∀ (σ1 : XS) (τ1 : MS) (H1 : Heap) (locs1 : List Loc), IX σ1 → IM τ1 → LT5 (σ1.2.2.2.1 0) (σ1.2.2.2.2.2.1 0) (σ1.2.2.2.1 7) (σ1.2.2.2.1 8) (σ1.2.2.2.1 1) (σ1.2.2.2.2.2.1 7) (τ1.2.1 0) (τ1.2.2.2.1 0) τ1.2.2.2.1 (τ1.2.2.2.1 32) (τ1.2.2.2.1 33) (τ1.2.2.2.2 0) (τ1.2.1 13) → va_P (dC, dI) vwCl (wX cy x0 σ1 ++ wM cy m0 τ1) H1 → va_D (fun q : Nat => s.heap.size ≤ q) (wX cy x0 σ1 ++ wM cy m0 τ1) → va_S (fun q : Nat => s.heap.size ≤ q) s.heap H1 locs1 → W p l e room_1 s m #[Value.ref b] below meth c H1 locs1 cells slots (lw_Z below #[Value.ref b] s) (F0 m 915 ls [])) : W p l e room_1 s m #[Value.ref b] below meth c H locs cells slots (lw_Z below #[Value.ref b] s) (F0 m 472 ls []) := by
  have hx := C0.1
  have hb := C0.2.1
  have hA : ∀ q : Nat, s.heap.size ≤ q → (fun q : Nat => s.heap.size ≤ q) q := fun _ h => h
  have hbA : ¬ (fun q : Nat => s.heap.size ≤ q) b := Nat.not_le.mpr hbl
  refine lv_aload_n hx hb dL_law_472 rfl (lv_at hl 2 rfl) ?_
  refine lv_aload_n hx hb dL_law_473 rfl (lv_at hl 3 rfl) ?_
  refine lv_iload_n hx hb dL_law_474 rfl (lv_at hl 0 rfl) ?_
  refine lv_iconst (v := 1) hx hb dL_law_475 (by decide) ?_
  refine lv_iadd hx hb dL_law_476 ?_
  refine va_sld hx hb hX hbl hbA hS (law_in hi h6 hL (ib_c 1 0 5 (by decide))) dL_law_477 ?_
  refine lx_day C0 hZ hA hl (Nat.le_of_ble_eq_true rfl) hc1 hc2 hI hP hD hS (fun rlx σ H locs hI ea hP hD hS => ?_)
  refine lv_pop hx hb dL_law_481 rfl ?_
  refine lv_aload_n hx hb dL_law_482 rfl (lv_at hl 1 rfl) ?_
  refine lv_aload_n hx hb dL_law_483 rfl (lv_at hl 3 rfl) ?_
  refine lv_iload_n hx hb dL_law_484 rfl (lv_at hl 0 rfl) ?_
  refine lv_iconst (v := 1) hx hb dL_law_485 (by decide) ?_
  refine lv_iadd hx hb dL_law_486 ?_
  refine va_sld hx hb hX hbl hbA hS (law_in hi h6 hL (ib_c 1 0 5 (by decide))) dL_law_487 ?_
  have hP := jw_swP hP
  have hD := jw_swD hD
  refine lm_day C0 hZ hA hl (Nat.le_of_ble_eq_true rfl) hc1 hc2 hJ hP hD hS (fun rlm τ H locs hJ eb hP hD hS => ?_)
  have hP := jw_swP hP
  have hD := jw_swD hD
  have hT := lt5_keep ea eb hT
  refine lv_pop hx hb dL_law_491 rfl ?_
  exact lv_goto (tgt := 915) hx hb dL_law_492 (by decide) (kk σ τ H locs hI hJ hT hP hD hS)
set_option maxHeartbeats 4000000 in
set_option maxRecDepth 100000 in
theorem law_case_11 {p : Program} {e : Env} {s : State} {m : MethodId} {below : List Frame} {meth : Method} {c : Code} {l : Launch} {b L : Nat} {xs : Nat → Int32} {dC : Nat → ClassId} {dI : Nat → Nat → Nat} {cy : Nat → ClassId} {sq : Nat → Nat} {cells slots : Nat} {i : Int32} {x0 m0 : Nat} {σ : XS} {τ : MS} {H : Heap} {locs : List Loc} {ls : Array Slot} (C0 : k_cx p s m #[Value.ref b] c code 4 RL dC dI cy sq) (hZ : k_Z sq (fun q : Nat => s.heap.size ≤ q) s s.heap) (hX : va_X b L xs s s.heap) (hbl : b < s.heap.size) (hc1 : cells ≤ 600000) (hc2 : slots ≤ 7302250) (hL : L ≤ 3072) (hi : 0 ≤ i.toInt) (h6 : i.toInt + 6 ≤ (L : Int)) (hI : IX σ) (hJ : IM τ) (hT : LT5 (σ.2.2.2.1 0) (σ.2.2.2.2.2.1 0) (σ.2.2.2.1 7) (σ.2.2.2.1 8) (σ.2.2.2.1 1) (σ.2.2.2.2.2.1 7) (τ.2.1 0) (τ.2.2.2.1 0) τ.2.2.2.1 (τ.2.2.2.1 32) (τ.2.2.2.1 33) (τ.2.2.2.2 0) (τ.2.1 13)) (hP : va_P (dC, dI) vwCl (wX cy x0 σ ++ wM cy m0 τ) H) (hD : va_D (fun q : Nat => s.heap.size ≤ q) (wX cy x0 σ ++ wM cy m0 τ)) (hS : va_S (fun q : Nat => s.heap.size ≤ q) s.heap H locs) (hl : lv_has ls 4 [(3, .int i), (2, .ref m0), (1, .ref x0), (0, .ref b)]) (kk : ∀ (σ1 : XS) (τ1 : MS) (H1 : Heap) (locs1 : List Loc), IX σ1 → IM τ1 → LT5 (σ1.2.2.2.1 0) (σ1.2.2.2.2.2.1 0) (σ1.2.2.2.1 7) (σ1.2.2.2.1 8) (σ1.2.2.2.1 1) (σ1.2.2.2.2.2.1 7) (τ1.2.1 0) (τ1.2.2.2.1 0) τ1.2.2.2.1 (τ1.2.2.2.1 32) (τ1.2.2.2.1 33) (τ1.2.2.2.2 0) (τ1.2.1 13) → va_P (dC, dI) vwCl (wX cy x0 σ1 ++ wM cy m0 τ1) H1 → va_D (fun q : Nat => s.heap.size ≤ q) (wX cy x0 σ1 ++ wM cy m0 τ1) → va_S (fun q : Nat => s.heap.size ≤ q) s.heap H1 locs1 → W p l e room_1 s m #[Value.ref b] below meth c H1 locs1 cells slots (lw_Z below #[Value.ref b] s) (F0 m 915 ls [])) : W p l e room_1 s m #[Value.ref b] below meth c H locs cells slots (lw_Z below #[Value.ref b] s) (F0 m 495 ls []) := by
  have hx := C0.1
  have hb := C0.2.1
  have hA : ∀ q : Nat, s.heap.size ≤ q → (fun q : Nat => s.heap.size ≤ q) q := fun _ h => h
  have hbA : ¬ (fun q : Nat => s.heap.size ≤ q) b := Nat.not_le.mpr hbl
  refine lv_aload_n hx hb dL_law_495 rfl (lv_at hl 2 rfl) ?_
  refine lv_aload_n hx hb dL_law_496 rfl (lv_at hl 3 rfl) ?_
  refine lv_iload_n hx hb dL_law_497 rfl (lv_at hl 0 rfl) ?_
  refine lv_iconst (v := 1) hx hb dL_law_498 (by decide) ?_
  refine lv_iadd hx hb dL_law_499 ?_
  refine va_sld hx hb hX hbl hbA hS (law_in hi h6 hL (ib_c 1 0 5 (by decide))) dL_law_500 ?_
  refine lv_aload_n hx hb dL_law_501 rfl (lv_at hl 3 rfl) ?_
  refine lv_iload_n hx hb dL_law_502 rfl (lv_at hl 0 rfl) ?_
  refine lv_iconst (v := 2) hx hb dL_law_503 (by decide) ?_
  refine lv_iadd hx hb dL_law_504 ?_
  refine va_sld hx hb hX hbl hbA hS (law_in hi h6 hL (ib_c 2 0 5 (by decide))) dL_law_505 ?_
  refine lx_best C0 hZ hA hl (Nat.le_of_ble_eq_true rfl) hc1 hc2 hI hP hD hS (fun rlx σ H locs hI ea hP hD hS => ?_)
  refine lv_pop hx hb dL_law_509 rfl ?_
  refine lv_aload_n hx hb dL_law_510 rfl (lv_at hl 1 rfl) ?_
  refine lv_aload_n hx hb dL_law_511 rfl (lv_at hl 3 rfl) ?_
  refine lv_iload_n hx hb dL_law_512 rfl (lv_at hl 0 rfl) ?_
  refine lv_iconst (v := 1) hx hb dL_law_513 (by decide) ?_
  refine lv_iadd hx hb dL_law_514 ?_
  refine va_sld hx hb hX hbl hbA hS (law_in hi h6 hL (ib_c 1 0 5 (by decide))) dL_law_515 ?_
  refine lv_aload_n hx hb dL_law_516 rfl (lv_at hl 3 rfl) ?_
  refine lv_iload_n hx hb dL_law_517 rfl (lv_at hl 0 rfl) ?_
  refine lv_iconst (v := 2) hx hb dL_law_518 (by decide) ?_
  refine lv_iadd hx hb dL_law_519 ?_
  refine va_sld hx hb hX hbl hbA hS (law_in hi h6 hL (ib_c 2 0 5 (by decide))) dL_law_520 ?_
  have hP := jw_swP hP
  have hD := jw_swD hD
  refine lm_best C0 hZ hA hl (Nat.le_of_ble_eq_true rfl) hc1 hc2 hJ hP hD hS (fun rlm τ H locs hJ eb hP hD hS => ?_)
  have hP := jw_swP hP
  have hD := jw_swD hD
  have hT := lt5_keep ea eb hT
  refine lv_pop hx hb dL_law_524 rfl ?_
  exact lv_goto (tgt := 915) hx hb dL_law_525 (by decide) (kk σ τ H locs hI hJ hT hP hD hS)
set_option maxHeartbeats 4000000 in
set_option maxRecDepth 100000 in
theorem law_case_12 {p : Program} {e : Env} {s : State} {m : MethodId} {below : List Frame} {meth : Method} {c : Code} {l : Launch} {b L : Nat} {xs : Nat → Int32} {dC : Nat → ClassId} {dI : Nat → Nat → Nat} {cy : Nat → ClassId} {sq : Nat → Nat} {cells slots : Nat} {i : Int32} {x0 m0 : Nat} {σ : XS} {τ : MS} {H : Heap} {locs : List Loc} {ls : Array Slot} (C0 : k_cx p s m #[Value.ref b] c code 4 RL dC dI cy sq) (hZ : k_Z sq (fun q : Nat => s.heap.size ≤ q) s s.heap) (hX : va_X b L xs s s.heap) (hbl : b < s.heap.size) (hc1 : cells ≤ 600000) (hc2 : slots ≤ 7302250) (hL : L ≤ 3072) (hi : 0 ≤ i.toInt) (h6 : i.toInt + 6 ≤ (L : Int)) (hI : IX σ) (hJ : IM τ) (hT : LT5 (σ.2.2.2.1 0) (σ.2.2.2.2.2.1 0) (σ.2.2.2.1 7) (σ.2.2.2.1 8) (σ.2.2.2.1 1) (σ.2.2.2.2.2.1 7) (τ.2.1 0) (τ.2.2.2.1 0) τ.2.2.2.1 (τ.2.2.2.1 32) (τ.2.2.2.1 33) (τ.2.2.2.2 0) (τ.2.1 13)) (hP : va_P (dC, dI) vwCl (wX cy x0 σ ++ wM cy m0 τ) H) (hD : va_D (fun q : Nat => s.heap.size ≤ q) (wX cy x0 σ ++ wM cy m0 τ)) (hS : va_S (fun q : Nat => s.heap.size ≤ q) s.heap H locs) (hl : lv_has ls 4 [(3, .int i), (2, .ref m0), (1, .ref x0), (0, .ref b)]) (kk : ∀ (σ1 : XS) (τ1 : MS) (H1 : Heap) (locs1 : List Loc), IX σ1 → IM τ1 → LT5 (σ1.2.2.2.1 0) (σ1.2.2.2.2.2.1 0) (σ1.2.2.2.1 7) (σ1.2.2.2.1 8) (σ1.2.2.2.1 1) (σ1.2.2.2.2.2.1 7) (τ1.2.1 0) (τ1.2.2.2.1 0) τ1.2.2.2.1 (τ1.2.2.2.1 32) (τ1.2.2.2.1 33) (τ1.2.2.2.2 0) (τ1.2.1 13) → va_P (dC, dI) vwCl (wX cy x0 σ1 ++ wM cy m0 τ1) H1 → va_D (fun q : Nat => s.heap.size ≤ q) (wX cy x0 σ1 ++ wM cy m0 τ1) → va_S (fun q : Nat => s.heap.size ≤ q) s.heap H1 locs1 → W p l e room_1 s m #[Value.ref b] below meth c H1 locs1 cells slots (lw_Z below #[Value.ref b] s) (F0 m 915 ls [])) : W p l e room_1 s m #[Value.ref b] below meth c H locs cells slots (lw_Z below #[Value.ref b] s) (F0 m 528 ls []) := by
  have hx := C0.1
  have hb := C0.2.1
  have hA : ∀ q : Nat, s.heap.size ≤ q → (fun q : Nat => s.heap.size ≤ q) q := fun _ h => h
  have hbA : ¬ (fun q : Nat => s.heap.size ≤ q) b := Nat.not_le.mpr hbl
  refine lv_aload_n hx hb dL_law_528 rfl (lv_at hl 2 rfl) ?_
  refine lx_least C0 hZ hA hl (Nat.le_of_ble_eq_true rfl) hc1 hc2 hI hP hD hS (fun rlx σ H locs hI ea hP hD hS => ?_)
  refine lv_pop hx hb dL_law_532 rfl ?_
  refine lv_aload_n hx hb dL_law_533 rfl (lv_at hl 1 rfl) ?_
  have hP := jw_swP hP
  have hD := jw_swD hD
  refine lm_least C0 hZ hA hl (Nat.le_of_ble_eq_true rfl) hc1 hc2 hJ hP hD hS (fun rlm τ H locs hJ eb hP hD hS => ?_)
  have hP := jw_swP hP
  have hD := jw_swD hD
  have hT := lt5_keep ea eb hT
  refine lv_pop hx hb dL_law_537 rfl ?_
  exact lv_goto (tgt := 915) hx hb dL_law_538 (by decide) (kk σ τ H locs hI hJ hT hP hD hS)
set_option maxHeartbeats 4000000 in
set_option maxRecDepth 100000 in
theorem law_case_13 {p : Program} {e : Env} {s : State} {m : MethodId} {below : List Frame} {meth : Method} {c : Code} {l : Launch} {b L : Nat} {xs : Nat → Int32} {dC : Nat → ClassId} {dI : Nat → Nat → Nat} {cy : Nat → ClassId} {sq : Nat → Nat} {cells slots : Nat} {i : Int32} {x0 m0 : Nat} {σ : XS} {τ : MS} {H : Heap} {locs : List Loc} {ls : Array Slot} (C0 : k_cx p s m #[Value.ref b] c code 4 RL dC dI cy sq) (hZ : k_Z sq (fun q : Nat => s.heap.size ≤ q) s s.heap) (hX : va_X b L xs s s.heap) (hbl : b < s.heap.size) (hc1 : cells ≤ 600000) (hc2 : slots ≤ 7302250) (hL : L ≤ 3072) (hi : 0 ≤ i.toInt) (h6 : i.toInt + 6 ≤ (L : Int)) (hI : IX σ) (hJ : IM τ) (hT : LT5 (σ.2.2.2.1 0) (σ.2.2.2.2.2.1 0) (σ.2.2.2.1 7) (σ.2.2.2.1 8) (σ.2.2.2.1 1) (σ.2.2.2.2.2.1 7) (τ.2.1 0) (τ.2.2.2.1 0) τ.2.2.2.1 (τ.2.2.2.1 32) (τ.2.2.2.1 33) (τ.2.2.2.2 0) (τ.2.1 13)) (hP : va_P (dC, dI) vwCl (wX cy x0 σ ++ wM cy m0 τ) H) (hD : va_D (fun q : Nat => s.heap.size ≤ q) (wX cy x0 σ ++ wM cy m0 τ)) (hS : va_S (fun q : Nat => s.heap.size ≤ q) s.heap H locs) (hl : lv_has ls 4 [(3, .int i), (2, .ref m0), (1, .ref x0), (0, .ref b)]) (kk : ∀ (σ1 : XS) (τ1 : MS) (H1 : Heap) (locs1 : List Loc), IX σ1 → IM τ1 → LT5 (σ1.2.2.2.1 0) (σ1.2.2.2.2.2.1 0) (σ1.2.2.2.1 7) (σ1.2.2.2.1 8) (σ1.2.2.2.1 1) (σ1.2.2.2.2.2.1 7) (τ1.2.1 0) (τ1.2.2.2.1 0) τ1.2.2.2.1 (τ1.2.2.2.1 32) (τ1.2.2.2.1 33) (τ1.2.2.2.2 0) (τ1.2.1 13) → va_P (dC, dI) vwCl (wX cy x0 σ1 ++ wM cy m0 τ1) H1 → va_D (fun q : Nat => s.heap.size ≤ q) (wX cy x0 σ1 ++ wM cy m0 τ1) → va_S (fun q : Nat => s.heap.size ≤ q) s.heap H1 locs1 → W p l e room_1 s m #[Value.ref b] below meth c H1 locs1 cells slots (lw_Z below #[Value.ref b] s) (F0 m 915 ls [])) : W p l e room_1 s m #[Value.ref b] below meth c H locs cells slots (lw_Z below #[Value.ref b] s) (F0 m 541 ls []) := by
  have hx := C0.1
  have hb := C0.2.1
  have hA : ∀ q : Nat, s.heap.size ≤ q → (fun q : Nat => s.heap.size ≤ q) q := fun _ h => h
  have hbA : ¬ (fun q : Nat => s.heap.size ≤ q) b := Nat.not_le.mpr hbl
  refine lv_aload_n hx hb dL_law_541 rfl (lv_at hl 2 rfl) ?_
  refine lx_hold C0 hZ hA hl (Nat.le_of_ble_eq_true rfl) hc1 hc2 hI hP hD hS (fun rlx σ H locs hI ea hP hD hS => ?_)
  refine lv_pop hx hb dL_law_545 rfl ?_
  refine lv_aload_n hx hb dL_law_546 rfl (lv_at hl 1 rfl) ?_
  have hP := jw_swP hP
  have hD := jw_swD hD
  refine lm_hold C0 hZ hA hl (Nat.le_of_ble_eq_true rfl) hc1 hc2 hJ hP hD hS (fun rlm τ H locs hJ eb hP hD hS => ?_)
  have hP := jw_swP hP
  have hD := jw_swD hD
  have hT := lt5_keep ea eb hT
  refine lv_pop hx hb dL_law_550 rfl ?_
  exact lv_goto (tgt := 915) hx hb dL_law_551 (by decide) (kk σ τ H locs hI hJ hT hP hD hS)
set_option maxHeartbeats 4000000 in
set_option maxRecDepth 100000 in
theorem law_case_14 {p : Program} {e : Env} {s : State} {m : MethodId} {below : List Frame} {meth : Method} {c : Code} {l : Launch} {b L : Nat} {xs : Nat → Int32} {dC : Nat → ClassId} {dI : Nat → Nat → Nat} {cy : Nat → ClassId} {sq : Nat → Nat} {cells slots : Nat} {i : Int32} {x0 m0 : Nat} {σ : XS} {τ : MS} {H : Heap} {locs : List Loc} {ls : Array Slot} (C0 : k_cx p s m #[Value.ref b] c code 4 RL dC dI cy sq) (hZ : k_Z sq (fun q : Nat => s.heap.size ≤ q) s s.heap) (hX : va_X b L xs s s.heap) (hbl : b < s.heap.size) (hc1 : cells ≤ 600000) (hc2 : slots ≤ 7302250) (hL : L ≤ 3072) (hi : 0 ≤ i.toInt) (h6 : i.toInt + 6 ≤ (L : Int)) (hI : IX σ) (hJ : IM τ) (hT : LT5 (σ.2.2.2.1 0) (σ.2.2.2.2.2.1 0) (σ.2.2.2.1 7) (σ.2.2.2.1 8) (σ.2.2.2.1 1) (σ.2.2.2.2.2.1 7) (τ.2.1 0) (τ.2.2.2.1 0) τ.2.2.2.1 (τ.2.2.2.1 32) (τ.2.2.2.1 33) (τ.2.2.2.2 0) (τ.2.1 13)) (hP : va_P (dC, dI) vwCl (wX cy x0 σ ++ wM cy m0 τ) H) (hD : va_D (fun q : Nat => s.heap.size ≤ q) (wX cy x0 σ ++ wM cy m0 τ)) (hS : va_S (fun q : Nat => s.heap.size ≤ q) s.heap H locs) (hl : lv_has ls 4 [(3, .int i), (2, .ref m0), (1, .ref x0), (0, .ref b)]) (kk : ∀ (σ1 : XS) (τ1 : MS) (H1 : Heap) (locs1 : List Loc), IX σ1 → IM τ1 → LT5 (σ1.2.2.2.1 0) (σ1.2.2.2.2.2.1 0) (σ1.2.2.2.1 7) (σ1.2.2.2.1 8) (σ1.2.2.2.1 1) (σ1.2.2.2.2.2.1 7) (τ1.2.1 0) (τ1.2.2.2.1 0) τ1.2.2.2.1 (τ1.2.2.2.1 32) (τ1.2.2.2.1 33) (τ1.2.2.2.2 0) (τ1.2.1 13) → va_P (dC, dI) vwCl (wX cy x0 σ1 ++ wM cy m0 τ1) H1 → va_D (fun q : Nat => s.heap.size ≤ q) (wX cy x0 σ1 ++ wM cy m0 τ1) → va_S (fun q : Nat => s.heap.size ≤ q) s.heap H1 locs1 → W p l e room_1 s m #[Value.ref b] below meth c H1 locs1 cells slots (lw_Z below #[Value.ref b] s) (F0 m 915 ls [])) : W p l e room_1 s m #[Value.ref b] below meth c H locs cells slots (lw_Z below #[Value.ref b] s) (F0 m 554 ls []) := by
  have hx := C0.1
  have hb := C0.2.1
  have hA : ∀ q : Nat, s.heap.size ≤ q → (fun q : Nat => s.heap.size ≤ q) q := fun _ h => h
  have hbA : ¬ (fun q : Nat => s.heap.size ≤ q) b := Nat.not_le.mpr hbl
  refine lv_aload_n hx hb dL_law_554 rfl (lv_at hl 2 rfl) ?_
  refine lv_aload_n hx hb dL_law_555 rfl (lv_at hl 3 rfl) ?_
  refine lv_iload_n hx hb dL_law_556 rfl (lv_at hl 0 rfl) ?_
  refine lv_iconst (v := 1) hx hb dL_law_557 (by decide) ?_
  refine lv_iadd hx hb dL_law_558 ?_
  refine va_sld hx hb hX hbl hbA hS (law_in hi h6 hL (ib_c 1 0 5 (by decide))) dL_law_559 ?_
  refine lv_aload_n hx hb dL_law_560 rfl (lv_at hl 3 rfl) ?_
  refine lv_iload_n hx hb dL_law_561 rfl (lv_at hl 0 rfl) ?_
  refine lv_iconst (v := 2) hx hb dL_law_562 (by decide) ?_
  refine lv_iadd hx hb dL_law_563 ?_
  refine va_sld hx hb hX hbl hbA hS (law_in hi h6 hL (ib_c 2 0 5 (by decide))) dL_law_564 ?_
  refine lx_later C0 hZ hA hl (Nat.le_of_ble_eq_true rfl) hc1 hc2 hI hP hD hS (fun rlx σ H locs hI ea hP hD hS => ?_)
  refine lv_pop hx hb dL_law_568 rfl ?_
  refine lv_aload_n hx hb dL_law_569 rfl (lv_at hl 1 rfl) ?_
  refine lv_aload_n hx hb dL_law_570 rfl (lv_at hl 3 rfl) ?_
  refine lv_iload_n hx hb dL_law_571 rfl (lv_at hl 0 rfl) ?_
  refine lv_iconst (v := 1) hx hb dL_law_572 (by decide) ?_
  refine lv_iadd hx hb dL_law_573 ?_
  refine va_sld hx hb hX hbl hbA hS (law_in hi h6 hL (ib_c 1 0 5 (by decide))) dL_law_574 ?_
  refine lv_aload_n hx hb dL_law_575 rfl (lv_at hl 3 rfl) ?_
  refine lv_iload_n hx hb dL_law_576 rfl (lv_at hl 0 rfl) ?_
  refine lv_iconst (v := 2) hx hb dL_law_577 (by decide) ?_
  refine lv_iadd hx hb dL_law_578 ?_
  refine va_sld hx hb hX hbl hbA hS (law_in hi h6 hL (ib_c 2 0 5 (by decide))) dL_law_579 ?_
  have hP := jw_swP hP
  have hD := jw_swD hD
  refine lm_later C0 hZ hA hl (Nat.le_of_ble_eq_true rfl) hc1 hc2 hJ hP hD hS (fun rlm τ H locs hJ eb hP hD hS => ?_)
  have hP := jw_swP hP
  have hD := jw_swD hD
  have hT := lt5_keep ea eb hT
  refine lv_pop hx hb dL_law_583 rfl ?_
  exact lv_goto (tgt := 915) hx hb dL_law_584 (by decide) (kk σ τ H locs hI hJ hT hP hD hS)
set_option maxHeartbeats 4000000 in
set_option maxRecDepth 100000 in
theorem law_case_15 {p : Program} {e : Env} {s : State} {m : MethodId} {below : List Frame} {meth : Method} {c : Code} {l : Launch} {b L : Nat} {xs : Nat → Int32} {dC : Nat → ClassId} {dI : Nat → Nat → Nat} {cy : Nat → ClassId} {sq : Nat → Nat} {cells slots : Nat} {i : Int32} {x0 m0 : Nat} {σ : XS} {τ : MS} {H : Heap} {locs : List Loc} {ls : Array Slot} (C0 : k_cx p s m #[Value.ref b] c code 4 RL dC dI cy sq) (hZ : k_Z sq (fun q : Nat => s.heap.size ≤ q) s s.heap) (hX : va_X b L xs s s.heap) (hbl : b < s.heap.size) (hc1 : cells ≤ 600000) (hc2 : slots ≤ 7302250) (hL : L ≤ 3072) (hi : 0 ≤ i.toInt) (h6 : i.toInt + 6 ≤ (L : Int)) (hI : IX σ) (hJ : IM τ) (hT : LT5 (σ.2.2.2.1 0) (σ.2.2.2.2.2.1 0) (σ.2.2.2.1 7) (σ.2.2.2.1 8) (σ.2.2.2.1 1) (σ.2.2.2.2.2.1 7) (τ.2.1 0) (τ.2.2.2.1 0) τ.2.2.2.1 (τ.2.2.2.1 32) (τ.2.2.2.1 33) (τ.2.2.2.2 0) (τ.2.1 13)) (hP : va_P (dC, dI) vwCl (wX cy x0 σ ++ wM cy m0 τ) H) (hD : va_D (fun q : Nat => s.heap.size ≤ q) (wX cy x0 σ ++ wM cy m0 τ)) (hS : va_S (fun q : Nat => s.heap.size ≤ q) s.heap H locs) (hl : lv_has ls 4 [(3, .int i), (2, .ref m0), (1, .ref x0), (0, .ref b)]) (kk : ∀ (σ1 : XS) (τ1 : MS) (H1 : Heap) (locs1 : List Loc), IX σ1 → IM τ1 → LT5 (σ1.2.2.2.1 0) (σ1.2.2.2.2.2.1 0) (σ1.2.2.2.1 7) (σ1.2.2.2.1 8) (σ1.2.2.2.1 1) (σ1.2.2.2.2.2.1 7) (τ1.2.1 0) (τ1.2.2.2.1 0) τ1.2.2.2.1 (τ1.2.2.2.1 32) (τ1.2.2.2.1 33) (τ1.2.2.2.2 0) (τ1.2.1 13) → va_P (dC, dI) vwCl (wX cy x0 σ1 ++ wM cy m0 τ1) H1 → va_D (fun q : Nat => s.heap.size ≤ q) (wX cy x0 σ1 ++ wM cy m0 τ1) → va_S (fun q : Nat => s.heap.size ≤ q) s.heap H1 locs1 → W p l e room_1 s m #[Value.ref b] below meth c H1 locs1 cells slots (lw_Z below #[Value.ref b] s) (F0 m 915 ls [])) : W p l e room_1 s m #[Value.ref b] below meth c H locs cells slots (lw_Z below #[Value.ref b] s) (F0 m 587 ls []) := by
  have hx := C0.1
  have hb := C0.2.1
  have hA : ∀ q : Nat, s.heap.size ≤ q → (fun q : Nat => s.heap.size ≤ q) q := fun _ h => h
  have hbA : ¬ (fun q : Nat => s.heap.size ≤ q) b := Nat.not_le.mpr hbl
  refine lv_aload_n hx hb dL_law_587 rfl (lv_at hl 2 rfl) ?_
  refine lv_aload_n hx hb dL_law_588 rfl (lv_at hl 3 rfl) ?_
  refine lv_iload_n hx hb dL_law_589 rfl (lv_at hl 0 rfl) ?_
  refine lv_iconst (v := 1) hx hb dL_law_590 (by decide) ?_
  refine lv_iadd hx hb dL_law_591 ?_
  refine va_sld hx hb hX hbl hbA hS (law_in hi h6 hL (ib_c 1 0 5 (by decide))) dL_law_592 ?_
  refine lx_doubts C0 hZ hA hl (Nat.le_of_ble_eq_true rfl) hc1 hc2 hI hP hD hS (fun rlx σ H locs hI ea hP hD hS => ?_)
  refine lv_pop hx hb dL_law_596 rfl ?_
  refine lv_aload_n hx hb dL_law_597 rfl (lv_at hl 1 rfl) ?_
  refine lv_aload_n hx hb dL_law_598 rfl (lv_at hl 3 rfl) ?_
  refine lv_iload_n hx hb dL_law_599 rfl (lv_at hl 0 rfl) ?_
  refine lv_iconst (v := 1) hx hb dL_law_600 (by decide) ?_
  refine lv_iadd hx hb dL_law_601 ?_
  refine va_sld hx hb hX hbl hbA hS (law_in hi h6 hL (ib_c 1 0 5 (by decide))) dL_law_602 ?_
  have hP := jw_swP hP
  have hD := jw_swD hD
  refine lm_doubts C0 hZ hA hl (Nat.le_of_ble_eq_true rfl) hc1 hc2 hJ hP hD hS (fun rlm τ H locs hJ eb hP hD hS => ?_)
  have hP := jw_swP hP
  have hD := jw_swD hD
  have hT := lt5_keep ea eb hT
  refine lv_pop hx hb dL_law_606 rfl ?_
  exact lv_goto (tgt := 915) hx hb dL_law_607 (by decide) (kk σ τ H locs hI hJ hT hP hD hS)
set_option maxHeartbeats 4000000 in
set_option maxRecDepth 100000 in
theorem law_case_16 {p : Program} {e : Env} {s : State} {m : MethodId} {below : List Frame} {meth : Method} {c : Code} {l : Launch} {b L : Nat} {xs : Nat → Int32} {dC : Nat → ClassId} {dI : Nat → Nat → Nat} {cy : Nat → ClassId} {sq : Nat → Nat} {cells slots : Nat} {i : Int32} {x0 m0 : Nat} {σ : XS} {τ : MS} {H : Heap} {locs : List Loc} {ls : Array Slot} (C0 : k_cx p s m #[Value.ref b] c code 4 RL dC dI cy sq) (hZ : k_Z sq (fun q : Nat => s.heap.size ≤ q) s s.heap) (hX : va_X b L xs s s.heap) (hbl : b < s.heap.size) (hc1 : cells ≤ 600000) (hc2 : slots ≤ 7302250) (hL : L ≤ 3072) (hi : 0 ≤ i.toInt) (h6 : i.toInt + 6 ≤ (L : Int)) (hI : IX σ) (hJ : IM τ) (hT : LT5 (σ.2.2.2.1 0) (σ.2.2.2.2.2.1 0) (σ.2.2.2.1 7) (σ.2.2.2.1 8) (σ.2.2.2.1 1) (σ.2.2.2.2.2.1 7) (τ.2.1 0) (τ.2.2.2.1 0) τ.2.2.2.1 (τ.2.2.2.1 32) (τ.2.2.2.1 33) (τ.2.2.2.2 0) (τ.2.1 13)) (hP : va_P (dC, dI) vwCl (wX cy x0 σ ++ wM cy m0 τ) H) (hD : va_D (fun q : Nat => s.heap.size ≤ q) (wX cy x0 σ ++ wM cy m0 τ)) (hS : va_S (fun q : Nat => s.heap.size ≤ q) s.heap H locs) (hl : lv_has ls 4 [(3, .int i), (2, .ref m0), (1, .ref x0), (0, .ref b)]) (kk : ∀ (σ1 : XS) (τ1 : MS) (H1 : Heap) (locs1 : List Loc), IX σ1 → IM τ1 → LT5 (σ1.2.2.2.1 0) (σ1.2.2.2.2.2.1 0) (σ1.2.2.2.1 7) (σ1.2.2.2.1 8) (σ1.2.2.2.1 1) (σ1.2.2.2.2.2.1 7) (τ1.2.1 0) (τ1.2.2.2.1 0) τ1.2.2.2.1 (τ1.2.2.2.1 32) (τ1.2.2.2.1 33) (τ1.2.2.2.2 0) (τ1.2.1 13) → va_P (dC, dI) vwCl (wX cy x0 σ1 ++ wM cy m0 τ1) H1 → va_D (fun q : Nat => s.heap.size ≤ q) (wX cy x0 σ1 ++ wM cy m0 τ1) → va_S (fun q : Nat => s.heap.size ≤ q) s.heap H1 locs1 → W p l e room_1 s m #[Value.ref b] below meth c H1 locs1 cells slots (lw_Z below #[Value.ref b] s) (F0 m 915 ls [])) : W p l e room_1 s m #[Value.ref b] below meth c H locs cells slots (lw_Z below #[Value.ref b] s) (F0 m 610 ls []) := by
  have hx := C0.1
  have hb := C0.2.1
  have hA : ∀ q : Nat, s.heap.size ≤ q → (fun q : Nat => s.heap.size ≤ q) q := fun _ h => h
  have hbA : ¬ (fun q : Nat => s.heap.size ≤ q) b := Nat.not_le.mpr hbl
  refine lv_aload_n hx hb dL_law_610 rfl (lv_at hl 2 rfl) ?_
  refine lx_see C0 hZ hA hl (Nat.le_of_ble_eq_true rfl) hc1 hc2 hI hP hD hS (fun rlx σ H locs hI ea hP hD hS => ?_)
  refine lv_pop hx hb dL_law_614 rfl ?_
  refine lv_aload_n hx hb dL_law_615 rfl (lv_at hl 1 rfl) ?_
  have hP := jw_swP hP
  have hD := jw_swD hD
  refine lm_see C0 hZ hA hl (Nat.le_of_ble_eq_true rfl) hc1 hc2 hJ hP hD hS (fun rlm τ H locs hJ eb hP hD hS => ?_)
  have hP := jw_swP hP
  have hD := jw_swD hD
  have hT := lt5_zero ea eb hT
  refine lv_pop hx hb dL_law_619 rfl ?_
  exact lv_goto (tgt := 915) hx hb dL_law_620 (by decide) (kk σ τ H locs hI hJ hT hP hD hS)
set_option maxHeartbeats 4000000 in
set_option maxRecDepth 100000 in
theorem law_case_17 {p : Program} {e : Env} {s : State} {m : MethodId} {below : List Frame} {meth : Method} {c : Code} {l : Launch} {b L : Nat} {xs : Nat → Int32} {dC : Nat → ClassId} {dI : Nat → Nat → Nat} {cy : Nat → ClassId} {sq : Nat → Nat} {cells slots : Nat} {i : Int32} {x0 m0 : Nat} {σ : XS} {τ : MS} {H : Heap} {locs : List Loc} {ls : Array Slot} (C0 : k_cx p s m #[Value.ref b] c code 4 RL dC dI cy sq) (hZ : k_Z sq (fun q : Nat => s.heap.size ≤ q) s s.heap) (hX : va_X b L xs s s.heap) (hbl : b < s.heap.size) (hc1 : cells ≤ 600000) (hc2 : slots ≤ 7302250) (hL : L ≤ 3072) (hi : 0 ≤ i.toInt) (h6 : i.toInt + 6 ≤ (L : Int)) (hI : IX σ) (hJ : IM τ) (hT : LT5 (σ.2.2.2.1 0) (σ.2.2.2.2.2.1 0) (σ.2.2.2.1 7) (σ.2.2.2.1 8) (σ.2.2.2.1 1) (σ.2.2.2.2.2.1 7) (τ.2.1 0) (τ.2.2.2.1 0) τ.2.2.2.1 (τ.2.2.2.1 32) (τ.2.2.2.1 33) (τ.2.2.2.2 0) (τ.2.1 13)) (hP : va_P (dC, dI) vwCl (wX cy x0 σ ++ wM cy m0 τ) H) (hD : va_D (fun q : Nat => s.heap.size ≤ q) (wX cy x0 σ ++ wM cy m0 τ)) (hS : va_S (fun q : Nat => s.heap.size ≤ q) s.heap H locs) (hl : lv_has ls 4 [(3, .int i), (2, .ref m0), (1, .ref x0), (0, .ref b)]) (kk : ∀ (σ1 : XS) (τ1 : MS) (H1 : Heap) (locs1 : List Loc), IX σ1 → IM τ1 → LT5 (σ1.2.2.2.1 0) (σ1.2.2.2.2.2.1 0) (σ1.2.2.2.1 7) (σ1.2.2.2.1 8) (σ1.2.2.2.1 1) (σ1.2.2.2.2.2.1 7) (τ1.2.1 0) (τ1.2.2.2.1 0) τ1.2.2.2.1 (τ1.2.2.2.1 32) (τ1.2.2.2.1 33) (τ1.2.2.2.2 0) (τ1.2.1 13) → va_P (dC, dI) vwCl (wX cy x0 σ1 ++ wM cy m0 τ1) H1 → va_D (fun q : Nat => s.heap.size ≤ q) (wX cy x0 σ1 ++ wM cy m0 τ1) → va_S (fun q : Nat => s.heap.size ≤ q) s.heap H1 locs1 → W p l e room_1 s m #[Value.ref b] below meth c H1 locs1 cells slots (lw_Z below #[Value.ref b] s) (F0 m 915 ls [])) : W p l e room_1 s m #[Value.ref b] below meth c H locs cells slots (lw_Z below #[Value.ref b] s) (F0 m 623 ls []) := by
  have hx := C0.1
  have hb := C0.2.1
  have hA : ∀ q : Nat, s.heap.size ≤ q → (fun q : Nat => s.heap.size ≤ q) q := fun _ h => h
  have hbA : ¬ (fun q : Nat => s.heap.size ≤ q) b := Nat.not_le.mpr hbl
  refine lv_aload_n hx hb dL_law_623 rfl (lv_at hl 2 rfl) ?_
  refine lv_aload_n hx hb dL_law_624 rfl (lv_at hl 3 rfl) ?_
  refine lv_iload_n hx hb dL_law_625 rfl (lv_at hl 0 rfl) ?_
  refine lv_iconst (v := 1) hx hb dL_law_626 (by decide) ?_
  refine lv_iadd hx hb dL_law_627 ?_
  refine va_sld hx hb hX hbl hbA hS (law_in hi h6 hL (ib_c 1 0 5 (by decide))) dL_law_628 ?_
  refine lx_fits C0 hZ hA hl (Nat.le_of_ble_eq_true rfl) hc1 hc2 hI hP hD hS (fun rlx σ H locs hI ea hP hD hS => ?_)
  refine lv_pop hx hb dL_law_632 rfl ?_
  refine lv_aload_n hx hb dL_law_633 rfl (lv_at hl 1 rfl) ?_
  refine lv_aload_n hx hb dL_law_634 rfl (lv_at hl 3 rfl) ?_
  refine lv_iload_n hx hb dL_law_635 rfl (lv_at hl 0 rfl) ?_
  refine lv_iconst (v := 1) hx hb dL_law_636 (by decide) ?_
  refine lv_iadd hx hb dL_law_637 ?_
  refine va_sld hx hb hX hbl hbA hS (law_in hi h6 hL (ib_c 1 0 5 (by decide))) dL_law_638 ?_
  have hP := jw_swP hP
  have hD := jw_swD hD
  refine lm_fits C0 hZ hA hl (Nat.le_of_ble_eq_true rfl) hc1 hc2 hJ hP hD hS (fun rlm τ H locs hJ eb hP hD hS => ?_)
  have hP := jw_swP hP
  have hD := jw_swD hD
  have hT := lt5_keep ea eb hT
  refine lv_pop hx hb dL_law_642 rfl ?_
  exact lv_goto (tgt := 915) hx hb dL_law_643 (by decide) (kk σ τ H locs hI hJ hT hP hD hS)
set_option maxHeartbeats 4000000 in
set_option maxRecDepth 100000 in
theorem law_case_18 {p : Program} {e : Env} {s : State} {m : MethodId} {below : List Frame} {meth : Method} {c : Code} {l : Launch} {b L : Nat} {xs : Nat → Int32} {dC : Nat → ClassId} {dI : Nat → Nat → Nat} {cy : Nat → ClassId} {sq : Nat → Nat} {cells slots : Nat} {i : Int32} {x0 m0 : Nat} {σ : XS} {τ : MS} {H : Heap} {locs : List Loc} {ls : Array Slot} (C0 : k_cx p s m #[Value.ref b] c code 4 RL dC dI cy sq) (hZ : k_Z sq (fun q : Nat => s.heap.size ≤ q) s s.heap) (hX : va_X b L xs s s.heap) (hbl : b < s.heap.size) (hc1 : cells ≤ 600000) (hc2 : slots ≤ 7302250) (hL : L ≤ 3072) (hi : 0 ≤ i.toInt) (h6 : i.toInt + 6 ≤ (L : Int)) (hI : IX σ) (hJ : IM τ) (hT : LT5 (σ.2.2.2.1 0) (σ.2.2.2.2.2.1 0) (σ.2.2.2.1 7) (σ.2.2.2.1 8) (σ.2.2.2.1 1) (σ.2.2.2.2.2.1 7) (τ.2.1 0) (τ.2.2.2.1 0) τ.2.2.2.1 (τ.2.2.2.1 32) (τ.2.2.2.1 33) (τ.2.2.2.2 0) (τ.2.1 13)) (hP : va_P (dC, dI) vwCl (wX cy x0 σ ++ wM cy m0 τ) H) (hD : va_D (fun q : Nat => s.heap.size ≤ q) (wX cy x0 σ ++ wM cy m0 τ)) (hS : va_S (fun q : Nat => s.heap.size ≤ q) s.heap H locs) (hl : lv_has ls 4 [(3, .int i), (2, .ref m0), (1, .ref x0), (0, .ref b)]) (kk : ∀ (σ1 : XS) (τ1 : MS) (H1 : Heap) (locs1 : List Loc), IX σ1 → IM τ1 → LT5 (σ1.2.2.2.1 0) (σ1.2.2.2.2.2.1 0) (σ1.2.2.2.1 7) (σ1.2.2.2.1 8) (σ1.2.2.2.1 1) (σ1.2.2.2.2.2.1 7) (τ1.2.1 0) (τ1.2.2.2.1 0) τ1.2.2.2.1 (τ1.2.2.2.1 32) (τ1.2.2.2.1 33) (τ1.2.2.2.2 0) (τ1.2.1 13) → va_P (dC, dI) vwCl (wX cy x0 σ1 ++ wM cy m0 τ1) H1 → va_D (fun q : Nat => s.heap.size ≤ q) (wX cy x0 σ1 ++ wM cy m0 τ1) → va_S (fun q : Nat => s.heap.size ≤ q) s.heap H1 locs1 → W p l e room_1 s m #[Value.ref b] below meth c H1 locs1 cells slots (lw_Z below #[Value.ref b] s) (F0 m 915 ls [])) : W p l e room_1 s m #[Value.ref b] below meth c H locs cells slots (lw_Z below #[Value.ref b] s) (F0 m 646 ls []) := by
  have hx := C0.1
  have hb := C0.2.1
  have hA : ∀ q : Nat, s.heap.size ≤ q → (fun q : Nat => s.heap.size ≤ q) q := fun _ h => h
  have hbA : ¬ (fun q : Nat => s.heap.size ≤ q) b := Nat.not_le.mpr hbl
  refine lv_aload_n hx hb dL_law_646 rfl (lv_at hl 2 rfl) ?_
  refine lv_aload_n hx hb dL_law_647 rfl (lv_at hl 3 rfl) ?_
  refine lv_iload_n hx hb dL_law_648 rfl (lv_at hl 0 rfl) ?_
  refine lv_iconst (v := 1) hx hb dL_law_649 (by decide) ?_
  refine lv_iadd hx hb dL_law_650 ?_
  refine va_sld hx hb hX hbl hbA hS (law_in hi h6 hL (ib_c 1 0 5 (by decide))) dL_law_651 ?_
  refine lx_watched C0 hZ hA hl (Nat.le_of_ble_eq_true rfl) hc1 hc2 hI hP hD hS (fun rlx σ H locs hI ea hP hD hS => ?_)
  refine lv_pop hx hb dL_law_655 rfl ?_
  refine lv_aload_n hx hb dL_law_656 rfl (lv_at hl 1 rfl) ?_
  refine lv_aload_n hx hb dL_law_657 rfl (lv_at hl 3 rfl) ?_
  refine lv_iload_n hx hb dL_law_658 rfl (lv_at hl 0 rfl) ?_
  refine lv_iconst (v := 1) hx hb dL_law_659 (by decide) ?_
  refine lv_iadd hx hb dL_law_660 ?_
  refine va_sld hx hb hX hbl hbA hS (law_in hi h6 hL (ib_c 1 0 5 (by decide))) dL_law_661 ?_
  have hP := jw_swP hP
  have hD := jw_swD hD
  refine lm_watched C0 hZ hA hl (Nat.le_of_ble_eq_true rfl) hc1 hc2 hJ hP hD hS (fun rlm τ H locs hJ eb hP hD hS => ?_)
  have hP := jw_swP hP
  have hD := jw_swD hD
  have hT := lt5_keep ea eb hT
  refine lv_pop hx hb dL_law_665 rfl ?_
  exact lv_goto (tgt := 915) hx hb dL_law_666 (by decide) (kk σ τ H locs hI hJ hT hP hD hS)
set_option maxHeartbeats 4000000 in
set_option maxRecDepth 100000 in
theorem law_case_19 {p : Program} {e : Env} {s : State} {m : MethodId} {below : List Frame} {meth : Method} {c : Code} {l : Launch} {b L : Nat} {xs : Nat → Int32} {dC : Nat → ClassId} {dI : Nat → Nat → Nat} {cy : Nat → ClassId} {sq : Nat → Nat} {cells slots : Nat} {i : Int32} {x0 m0 : Nat} {σ : XS} {τ : MS} {H : Heap} {locs : List Loc} {ls : Array Slot} (C0 : k_cx p s m #[Value.ref b] c code 4 RL dC dI cy sq) (hZ : k_Z sq (fun q : Nat => s.heap.size ≤ q) s s.heap) (hX : va_X b L xs s s.heap) (hbl : b < s.heap.size) (hc1 : cells ≤ 600000) (hc2 : slots ≤ 7302250) (hL : L ≤ 3072) (hi : 0 ≤ i.toInt) (h6 : i.toInt + 6 ≤ (L : Int)) (hI : IX σ) (hJ : IM τ) (hT : LT5 (σ.2.2.2.1 0) (σ.2.2.2.2.2.1 0) (σ.2.2.2.1 7) (σ.2.2.2.1 8) (σ.2.2.2.1 1) (σ.2.2.2.2.2.1 7) (τ.2.1 0) (τ.2.2.2.1 0) τ.2.2.2.1 (τ.2.2.2.1 32) (τ.2.2.2.1 33) (τ.2.2.2.2 0) (τ.2.1 13)) (hP : va_P (dC, dI) vwCl (wX cy x0 σ ++ wM cy m0 τ) H) (hD : va_D (fun q : Nat => s.heap.size ≤ q) (wX cy x0 σ ++ wM cy m0 τ)) (hS : va_S (fun q : Nat => s.heap.size ≤ q) s.heap H locs) (hl : lv_has ls 4 [(3, .int i), (2, .ref m0), (1, .ref x0), (0, .ref b)]) (kk : ∀ (σ1 : XS) (τ1 : MS) (H1 : Heap) (locs1 : List Loc), IX σ1 → IM τ1 → LT5 (σ1.2.2.2.1 0) (σ1.2.2.2.2.2.1 0) (σ1.2.2.2.1 7) (σ1.2.2.2.1 8) (σ1.2.2.2.1 1) (σ1.2.2.2.2.2.1 7) (τ1.2.1 0) (τ1.2.2.2.1 0) τ1.2.2.2.1 (τ1.2.2.2.1 32) (τ1.2.2.2.1 33) (τ1.2.2.2.2 0) (τ1.2.1 13) → va_P (dC, dI) vwCl (wX cy x0 σ1 ++ wM cy m0 τ1) H1 → va_D (fun q : Nat => s.heap.size ≤ q) (wX cy x0 σ1 ++ wM cy m0 τ1) → va_S (fun q : Nat => s.heap.size ≤ q) s.heap H1 locs1 → W p l e room_1 s m #[Value.ref b] below meth c H1 locs1 cells slots (lw_Z below #[Value.ref b] s) (F0 m 915 ls [])) : W p l e room_1 s m #[Value.ref b] below meth c H locs cells slots (lw_Z below #[Value.ref b] s) (F0 m 669 ls []) := by
  have hx := C0.1
  have hb := C0.2.1
  have hA : ∀ q : Nat, s.heap.size ≤ q → (fun q : Nat => s.heap.size ≤ q) q := fun _ h => h
  have hbA : ¬ (fun q : Nat => s.heap.size ≤ q) b := Nat.not_le.mpr hbl
  refine lv_aload_n hx hb dL_law_669 rfl (lv_at hl 2 rfl) ?_
  refine lv_aload_n hx hb dL_law_670 rfl (lv_at hl 3 rfl) ?_
  refine lv_iload_n hx hb dL_law_671 rfl (lv_at hl 0 rfl) ?_
  refine lv_iconst (v := 1) hx hb dL_law_672 (by decide) ?_
  refine lv_iadd hx hb dL_law_673 ?_
  refine va_sld hx hb hX hbl hbA hS (law_in hi h6 hL (ib_c 1 0 5 (by decide))) dL_law_674 ?_
  refine lx_rule C0 hZ hA hl (Nat.le_of_ble_eq_true rfl) hc1 hc2 hI hP hD hS (fun rlx σ H locs hI ea hP hD hS => ?_)
  refine lv_pop hx hb dL_law_678 rfl ?_
  refine lv_aload_n hx hb dL_law_679 rfl (lv_at hl 1 rfl) ?_
  refine lv_aload_n hx hb dL_law_680 rfl (lv_at hl 3 rfl) ?_
  refine lv_iload_n hx hb dL_law_681 rfl (lv_at hl 0 rfl) ?_
  refine lv_iconst (v := 1) hx hb dL_law_682 (by decide) ?_
  refine lv_iadd hx hb dL_law_683 ?_
  refine va_sld hx hb hX hbl hbA hS (law_in hi h6 hL (ib_c 1 0 5 (by decide))) dL_law_684 ?_
  have hP := jw_swP hP
  have hD := jw_swD hD
  refine lm_rule C0 hZ hA hl (Nat.le_of_ble_eq_true rfl) hc1 hc2 hJ hP hD hS (fun rlm τ H locs hJ eb hP hD hS => ?_)
  have hP := jw_swP hP
  have hD := jw_swD hD
  have hT := lt5_keep ea eb hT
  refine lv_pop hx hb dL_law_688 rfl ?_
  exact lv_goto (tgt := 915) hx hb dL_law_689 (by decide) (kk σ τ H locs hI hJ hT hP hD hS)
set_option maxHeartbeats 4000000 in
set_option maxRecDepth 100000 in
theorem law_case_20 {p : Program} {e : Env} {s : State} {m : MethodId} {below : List Frame} {meth : Method} {c : Code} {l : Launch} {b L : Nat} {xs : Nat → Int32} {dC : Nat → ClassId} {dI : Nat → Nat → Nat} {cy : Nat → ClassId} {sq : Nat → Nat} {cells slots : Nat} {i : Int32} {x0 m0 : Nat} {σ : XS} {τ : MS} {H : Heap} {locs : List Loc} {ls : Array Slot} (C0 : k_cx p s m #[Value.ref b] c code 4 RL dC dI cy sq) (hZ : k_Z sq (fun q : Nat => s.heap.size ≤ q) s s.heap) (hX : va_X b L xs s s.heap) (hbl : b < s.heap.size) (hc1 : cells ≤ 600000) (hc2 : slots ≤ 7302250) (hL : L ≤ 3072) (hi : 0 ≤ i.toInt) (h6 : i.toInt + 6 ≤ (L : Int)) (hI : IX σ) (hJ : IM τ) (hT : LT5 (σ.2.2.2.1 0) (σ.2.2.2.2.2.1 0) (σ.2.2.2.1 7) (σ.2.2.2.1 8) (σ.2.2.2.1 1) (σ.2.2.2.2.2.1 7) (τ.2.1 0) (τ.2.2.2.1 0) τ.2.2.2.1 (τ.2.2.2.1 32) (τ.2.2.2.1 33) (τ.2.2.2.2 0) (τ.2.1 13)) (hP : va_P (dC, dI) vwCl (wX cy x0 σ ++ wM cy m0 τ) H) (hD : va_D (fun q : Nat => s.heap.size ≤ q) (wX cy x0 σ ++ wM cy m0 τ)) (hS : va_S (fun q : Nat => s.heap.size ≤ q) s.heap H locs) (hl : lv_has ls 4 [(3, .int i), (2, .ref m0), (1, .ref x0), (0, .ref b)]) (kk : ∀ (σ1 : XS) (τ1 : MS) (H1 : Heap) (locs1 : List Loc), IX σ1 → IM τ1 → LT5 (σ1.2.2.2.1 0) (σ1.2.2.2.2.2.1 0) (σ1.2.2.2.1 7) (σ1.2.2.2.1 8) (σ1.2.2.2.1 1) (σ1.2.2.2.2.2.1 7) (τ1.2.1 0) (τ1.2.2.2.1 0) τ1.2.2.2.1 (τ1.2.2.2.1 32) (τ1.2.2.2.1 33) (τ1.2.2.2.2 0) (τ1.2.1 13) → va_P (dC, dI) vwCl (wX cy x0 σ1 ++ wM cy m0 τ1) H1 → va_D (fun q : Nat => s.heap.size ≤ q) (wX cy x0 σ1 ++ wM cy m0 τ1) → va_S (fun q : Nat => s.heap.size ≤ q) s.heap H1 locs1 → W p l e room_1 s m #[Value.ref b] below meth c H1 locs1 cells slots (lw_Z below #[Value.ref b] s) (F0 m 915 ls [])) : W p l e room_1 s m #[Value.ref b] below meth c H locs cells slots (lw_Z below #[Value.ref b] s) (F0 m 692 ls []) := by
  have hx := C0.1
  have hb := C0.2.1
  have hA : ∀ q : Nat, s.heap.size ≤ q → (fun q : Nat => s.heap.size ≤ q) q := fun _ h => h
  have hbA : ¬ (fun q : Nat => s.heap.size ≤ q) b := Nat.not_le.mpr hbl
  refine lv_aload_n hx hb dL_law_692 rfl (lv_at hl 2 rfl) ?_
  refine lv_aload_n hx hb dL_law_693 rfl (lv_at hl 3 rfl) ?_
  refine lv_iload_n hx hb dL_law_694 rfl (lv_at hl 0 rfl) ?_
  refine lv_iconst (v := 1) hx hb dL_law_695 (by decide) ?_
  refine lv_iadd hx hb dL_law_696 ?_
  refine va_sld hx hb hX hbl hbA hS (law_in hi h6 hL (ib_c 1 0 5 (by decide))) dL_law_697 ?_
  refine lx_green C0 hZ hA hl (Nat.le_of_ble_eq_true rfl) hc1 hc2 hI hP hD hS (fun rlx σ H locs hI ea hP hD hS => ?_)
  refine lv_pop hx hb dL_law_701 rfl ?_
  refine lv_aload_n hx hb dL_law_702 rfl (lv_at hl 1 rfl) ?_
  refine lv_aload_n hx hb dL_law_703 rfl (lv_at hl 3 rfl) ?_
  refine lv_iload_n hx hb dL_law_704 rfl (lv_at hl 0 rfl) ?_
  refine lv_iconst (v := 1) hx hb dL_law_705 (by decide) ?_
  refine lv_iadd hx hb dL_law_706 ?_
  refine va_sld hx hb hX hbl hbA hS (law_in hi h6 hL (ib_c 1 0 5 (by decide))) dL_law_707 ?_
  have hP := jw_swP hP
  have hD := jw_swD hD
  refine lm_green C0 hZ hA hl (Nat.le_of_ble_eq_true rfl) hc1 hc2 hJ hP hD hS (fun rlm τ H locs hJ eb hP hD hS => ?_)
  have hP := jw_swP hP
  have hD := jw_swD hD
  have hT := lt5_keep ea eb hT
  refine lv_pop hx hb dL_law_711 rfl ?_
  exact lv_goto (tgt := 915) hx hb dL_law_712 (by decide) (kk σ τ H locs hI hJ hT hP hD hS)
set_option maxHeartbeats 4000000 in
set_option maxRecDepth 100000 in
theorem law_case_21 {p : Program} {e : Env} {s : State} {m : MethodId} {below : List Frame} {meth : Method} {c : Code} {l : Launch} {b L : Nat} {xs : Nat → Int32} {dC : Nat → ClassId} {dI : Nat → Nat → Nat} {cy : Nat → ClassId} {sq : Nat → Nat} {cells slots : Nat} {i : Int32} {x0 m0 : Nat} {σ : XS} {τ : MS} {H : Heap} {locs : List Loc} {ls : Array Slot} (C0 : k_cx p s m #[Value.ref b] c code 4 RL dC dI cy sq) (hZ : k_Z sq (fun q : Nat => s.heap.size ≤ q) s s.heap) (hX : va_X b L xs s s.heap) (hbl : b < s.heap.size) (hc1 : cells ≤ 600000) (hc2 : slots ≤ 7302250) (hL : L ≤ 3072) (hi : 0 ≤ i.toInt) (h6 : i.toInt + 6 ≤ (L : Int)) (hI : IX σ) (hJ : IM τ) (hT : LT5 (σ.2.2.2.1 0) (σ.2.2.2.2.2.1 0) (σ.2.2.2.1 7) (σ.2.2.2.1 8) (σ.2.2.2.1 1) (σ.2.2.2.2.2.1 7) (τ.2.1 0) (τ.2.2.2.1 0) τ.2.2.2.1 (τ.2.2.2.1 32) (τ.2.2.2.1 33) (τ.2.2.2.2 0) (τ.2.1 13)) (hP : va_P (dC, dI) vwCl (wX cy x0 σ ++ wM cy m0 τ) H) (hD : va_D (fun q : Nat => s.heap.size ≤ q) (wX cy x0 σ ++ wM cy m0 τ)) (hS : va_S (fun q : Nat => s.heap.size ≤ q) s.heap H locs) (hl : lv_has ls 4 [(3, .int i), (2, .ref m0), (1, .ref x0), (0, .ref b)]) (kk : ∀ (σ1 : XS) (τ1 : MS) (H1 : Heap) (locs1 : List Loc), IX σ1 → IM τ1 → LT5 (σ1.2.2.2.1 0) (σ1.2.2.2.2.2.1 0) (σ1.2.2.2.1 7) (σ1.2.2.2.1 8) (σ1.2.2.2.1 1) (σ1.2.2.2.2.2.1 7) (τ1.2.1 0) (τ1.2.2.2.1 0) τ1.2.2.2.1 (τ1.2.2.2.1 32) (τ1.2.2.2.1 33) (τ1.2.2.2.2 0) (τ1.2.1 13) → va_P (dC, dI) vwCl (wX cy x0 σ1 ++ wM cy m0 τ1) H1 → va_D (fun q : Nat => s.heap.size ≤ q) (wX cy x0 σ1 ++ wM cy m0 τ1) → va_S (fun q : Nat => s.heap.size ≤ q) s.heap H1 locs1 → W p l e room_1 s m #[Value.ref b] below meth c H1 locs1 cells slots (lw_Z below #[Value.ref b] s) (F0 m 915 ls [])) : W p l e room_1 s m #[Value.ref b] below meth c H locs cells slots (lw_Z below #[Value.ref b] s) (F0 m 715 ls []) := by
  have hx := C0.1
  have hb := C0.2.1
  have hA : ∀ q : Nat, s.heap.size ≤ q → (fun q : Nat => s.heap.size ≤ q) q := fun _ h => h
  have hbA : ¬ (fun q : Nat => s.heap.size ≤ q) b := Nat.not_le.mpr hbl
  refine lv_aload_n hx hb dL_law_715 rfl (lv_at hl 2 rfl) ?_
  refine lv_aload_n hx hb dL_law_716 rfl (lv_at hl 3 rfl) ?_
  refine lv_iload_n hx hb dL_law_717 rfl (lv_at hl 0 rfl) ?_
  refine lv_iconst (v := 1) hx hb dL_law_718 (by decide) ?_
  refine lv_iadd hx hb dL_law_719 ?_
  refine va_sld hx hb hX hbl hbA hS (law_in hi h6 hL (ib_c 1 0 5 (by decide))) dL_law_720 ?_
  refine lv_aload_n hx hb dL_law_721 rfl (lv_at hl 3 rfl) ?_
  refine lv_iload_n hx hb dL_law_722 rfl (lv_at hl 0 rfl) ?_
  refine lv_iconst (v := 2) hx hb dL_law_723 (by decide) ?_
  refine lv_iadd hx hb dL_law_724 ?_
  refine va_sld hx hb hX hbl hbA hS (law_in hi h6 hL (ib_c 2 0 5 (by decide))) dL_law_725 ?_
  refine lx_trust C0 hZ hA hl (Nat.le_of_ble_eq_true rfl) hc1 hc2 hI hP hD hS (fun rlx σ H locs hI ea hP hD hS => ?_)
  refine lv_pop hx hb dL_law_729 rfl ?_
  refine lv_aload_n hx hb dL_law_730 rfl (lv_at hl 1 rfl) ?_
  refine lv_aload_n hx hb dL_law_731 rfl (lv_at hl 3 rfl) ?_
  refine lv_iload_n hx hb dL_law_732 rfl (lv_at hl 0 rfl) ?_
  refine lv_iconst (v := 1) hx hb dL_law_733 (by decide) ?_
  refine lv_iadd hx hb dL_law_734 ?_
  refine va_sld hx hb hX hbl hbA hS (law_in hi h6 hL (ib_c 1 0 5 (by decide))) dL_law_735 ?_
  refine lv_aload_n hx hb dL_law_736 rfl (lv_at hl 3 rfl) ?_
  refine lv_iload_n hx hb dL_law_737 rfl (lv_at hl 0 rfl) ?_
  refine lv_iconst (v := 2) hx hb dL_law_738 (by decide) ?_
  refine lv_iadd hx hb dL_law_739 ?_
  refine va_sld hx hb hX hbl hbA hS (law_in hi h6 hL (ib_c 2 0 5 (by decide))) dL_law_740 ?_
  have hP := jw_swP hP
  have hD := jw_swD hD
  refine lm_trust C0 hZ hA hl (Nat.le_of_ble_eq_true rfl) hc1 hc2 hJ hP hD hS (fun rlm τ H locs hJ eb hP hD hS => ?_)
  have hP := jw_swP hP
  have hD := jw_swD hD
  have hT := lt5_keep ea eb hT
  refine lv_pop hx hb dL_law_744 rfl ?_
  exact lv_goto (tgt := 915) hx hb dL_law_745 (by decide) (kk σ τ H locs hI hJ hT hP hD hS)
set_option maxHeartbeats 4000000 in
set_option maxRecDepth 100000 in
theorem law_case_22 {p : Program} {e : Env} {s : State} {m : MethodId} {below : List Frame} {meth : Method} {c : Code} {l : Launch} {b L : Nat} {xs : Nat → Int32} {dC : Nat → ClassId} {dI : Nat → Nat → Nat} {cy : Nat → ClassId} {sq : Nat → Nat} {cells slots : Nat} {i : Int32} {x0 m0 : Nat} {σ : XS} {τ : MS} {H : Heap} {locs : List Loc} {ls : Array Slot} (C0 : k_cx p s m #[Value.ref b] c code 4 RL dC dI cy sq) (hZ : k_Z sq (fun q : Nat => s.heap.size ≤ q) s s.heap) (hX : va_X b L xs s s.heap) (hbl : b < s.heap.size) (hc1 : cells ≤ 600000) (hc2 : slots ≤ 7302250) (hL : L ≤ 3072) (hi : 0 ≤ i.toInt) (h6 : i.toInt + 6 ≤ (L : Int)) (hI : IX σ) (hJ : IM τ) (hT : LT5 (σ.2.2.2.1 0) (σ.2.2.2.2.2.1 0) (σ.2.2.2.1 7) (σ.2.2.2.1 8) (σ.2.2.2.1 1) (σ.2.2.2.2.2.1 7) (τ.2.1 0) (τ.2.2.2.1 0) τ.2.2.2.1 (τ.2.2.2.1 32) (τ.2.2.2.1 33) (τ.2.2.2.2 0) (τ.2.1 13)) (hP : va_P (dC, dI) vwCl (wX cy x0 σ ++ wM cy m0 τ) H) (hD : va_D (fun q : Nat => s.heap.size ≤ q) (wX cy x0 σ ++ wM cy m0 τ)) (hS : va_S (fun q : Nat => s.heap.size ≤ q) s.heap H locs) (hl : lv_has ls 4 [(3, .int i), (2, .ref m0), (1, .ref x0), (0, .ref b)]) (kk : ∀ (σ1 : XS) (τ1 : MS) (H1 : Heap) (locs1 : List Loc), IX σ1 → IM τ1 → LT5 (σ1.2.2.2.1 0) (σ1.2.2.2.2.2.1 0) (σ1.2.2.2.1 7) (σ1.2.2.2.1 8) (σ1.2.2.2.1 1) (σ1.2.2.2.2.2.1 7) (τ1.2.1 0) (τ1.2.2.2.1 0) τ1.2.2.2.1 (τ1.2.2.2.1 32) (τ1.2.2.2.1 33) (τ1.2.2.2.2 0) (τ1.2.1 13) → va_P (dC, dI) vwCl (wX cy x0 σ1 ++ wM cy m0 τ1) H1 → va_D (fun q : Nat => s.heap.size ≤ q) (wX cy x0 σ1 ++ wM cy m0 τ1) → va_S (fun q : Nat => s.heap.size ≤ q) s.heap H1 locs1 → W p l e room_1 s m #[Value.ref b] below meth c H1 locs1 cells slots (lw_Z below #[Value.ref b] s) (F0 m 915 ls [])) : W p l e room_1 s m #[Value.ref b] below meth c H locs cells slots (lw_Z below #[Value.ref b] s) (F0 m 748 ls []) := by
  have hx := C0.1
  have hb := C0.2.1
  have hA : ∀ q : Nat, s.heap.size ≤ q → (fun q : Nat => s.heap.size ≤ q) q := fun _ h => h
  have hbA : ¬ (fun q : Nat => s.heap.size ≤ q) b := Nat.not_le.mpr hbl
  refine lv_aload_n hx hb dL_law_748 rfl (lv_at hl 2 rfl) ?_
  refine lv_aload_n hx hb dL_law_749 rfl (lv_at hl 3 rfl) ?_
  refine lv_iload_n hx hb dL_law_750 rfl (lv_at hl 0 rfl) ?_
  refine lv_iconst (v := 1) hx hb dL_law_751 (by decide) ?_
  refine lv_iadd hx hb dL_law_752 ?_
  refine va_sld hx hb hX hbl hbA hS (law_in hi h6 hL (ib_c 1 0 5 (by decide))) dL_law_753 ?_
  refine lx_days C0 hZ hA hl (Nat.le_of_ble_eq_true rfl) hc1 hc2 hI hP hD hS (fun rlx σ H locs hI ea hP hD hS => ?_)
  refine lv_pop hx hb dL_law_757 rfl ?_
  refine lv_aload_n hx hb dL_law_758 rfl (lv_at hl 1 rfl) ?_
  refine lv_aload_n hx hb dL_law_759 rfl (lv_at hl 3 rfl) ?_
  refine lv_iload_n hx hb dL_law_760 rfl (lv_at hl 0 rfl) ?_
  refine lv_iconst (v := 1) hx hb dL_law_761 (by decide) ?_
  refine lv_iadd hx hb dL_law_762 ?_
  refine va_sld hx hb hX hbl hbA hS (law_in hi h6 hL (ib_c 1 0 5 (by decide))) dL_law_763 ?_
  have hP := jw_swP hP
  have hD := jw_swD hD
  refine lm_days C0 hZ hA hl (Nat.le_of_ble_eq_true rfl) hc1 hc2 hJ hP hD hS (fun rlm τ H locs hJ eb hP hD hS => ?_)
  have hP := jw_swP hP
  have hD := jw_swD hD
  have hT := lt5_keep ea eb hT
  refine lv_pop hx hb dL_law_767 rfl ?_
  exact lv_goto (tgt := 915) hx hb dL_law_768 (by decide) (kk σ τ H locs hI hJ hT hP hD hS)
set_option maxHeartbeats 4000000 in
set_option maxRecDepth 100000 in
theorem law_case_23 {p : Program} {e : Env} {s : State} {m : MethodId} {below : List Frame} {meth : Method} {c : Code} {l : Launch} {b L : Nat} {xs : Nat → Int32} {dC : Nat → ClassId} {dI : Nat → Nat → Nat} {cy : Nat → ClassId} {sq : Nat → Nat} {cells slots : Nat} {i : Int32} {x0 m0 : Nat} {σ : XS} {τ : MS} {H : Heap} {locs : List Loc} {ls : Array Slot} (C0 : k_cx p s m #[Value.ref b] c code 4 RL dC dI cy sq) (hZ : k_Z sq (fun q : Nat => s.heap.size ≤ q) s s.heap) (hX : va_X b L xs s s.heap) (hbl : b < s.heap.size) (hc1 : cells ≤ 600000) (hc2 : slots ≤ 7302250) (hL : L ≤ 3072) (hi : 0 ≤ i.toInt) (h6 : i.toInt + 6 ≤ (L : Int)) (hI : IX σ) (hJ : IM τ) (hT : LT5 (σ.2.2.2.1 0) (σ.2.2.2.2.2.1 0) (σ.2.2.2.1 7) (σ.2.2.2.1 8) (σ.2.2.2.1 1) (σ.2.2.2.2.2.1 7) (τ.2.1 0) (τ.2.2.2.1 0) τ.2.2.2.1 (τ.2.2.2.1 32) (τ.2.2.2.1 33) (τ.2.2.2.2 0) (τ.2.1 13)) (hP : va_P (dC, dI) vwCl (wX cy x0 σ ++ wM cy m0 τ) H) (hD : va_D (fun q : Nat => s.heap.size ≤ q) (wX cy x0 σ ++ wM cy m0 τ)) (hS : va_S (fun q : Nat => s.heap.size ≤ q) s.heap H locs) (hl : lv_has ls 4 [(3, .int i), (2, .ref m0), (1, .ref x0), (0, .ref b)]) (kk : ∀ (σ1 : XS) (τ1 : MS) (H1 : Heap) (locs1 : List Loc), IX σ1 → IM τ1 → LT5 (σ1.2.2.2.1 0) (σ1.2.2.2.2.2.1 0) (σ1.2.2.2.1 7) (σ1.2.2.2.1 8) (σ1.2.2.2.1 1) (σ1.2.2.2.2.2.1 7) (τ1.2.1 0) (τ1.2.2.2.1 0) τ1.2.2.2.1 (τ1.2.2.2.1 32) (τ1.2.2.2.1 33) (τ1.2.2.2.2 0) (τ1.2.1 13) → va_P (dC, dI) vwCl (wX cy x0 σ1 ++ wM cy m0 τ1) H1 → va_D (fun q : Nat => s.heap.size ≤ q) (wX cy x0 σ1 ++ wM cy m0 τ1) → va_S (fun q : Nat => s.heap.size ≤ q) s.heap H1 locs1 → W p l e room_1 s m #[Value.ref b] below meth c H1 locs1 cells slots (lw_Z below #[Value.ref b] s) (F0 m 915 ls [])) : W p l e room_1 s m #[Value.ref b] below meth c H locs cells slots (lw_Z below #[Value.ref b] s) (F0 m 771 ls []) := by
  have hx := C0.1
  have hb := C0.2.1
  have hA : ∀ q : Nat, s.heap.size ≤ q → (fun q : Nat => s.heap.size ≤ q) q := fun _ h => h
  have hbA : ¬ (fun q : Nat => s.heap.size ≤ q) b := Nat.not_le.mpr hbl
  refine lv_aload_n hx hb dL_law_771 rfl (lv_at hl 2 rfl) ?_
  refine lv_aload_n hx hb dL_law_772 rfl (lv_at hl 3 rfl) ?_
  refine lv_iload_n hx hb dL_law_773 rfl (lv_at hl 0 rfl) ?_
  refine lv_iconst (v := 1) hx hb dL_law_774 (by decide) ?_
  refine lv_iadd hx hb dL_law_775 ?_
  refine va_sld hx hb hX hbl hbA hS (law_in hi h6 hL (ib_c 1 0 5 (by decide))) dL_law_776 ?_
  refine lx_chance C0 hZ hA hl (Nat.le_of_ble_eq_true rfl) hc1 hc2 hI hP hD hS (fun rlx σ H locs hI ea hP hD hS => ?_)
  refine lv_pop hx hb dL_law_780 rfl ?_
  refine lv_aload_n hx hb dL_law_781 rfl (lv_at hl 1 rfl) ?_
  refine lv_aload_n hx hb dL_law_782 rfl (lv_at hl 3 rfl) ?_
  refine lv_iload_n hx hb dL_law_783 rfl (lv_at hl 0 rfl) ?_
  refine lv_iconst (v := 1) hx hb dL_law_784 (by decide) ?_
  refine lv_iadd hx hb dL_law_785 ?_
  refine va_sld hx hb hX hbl hbA hS (law_in hi h6 hL (ib_c 1 0 5 (by decide))) dL_law_786 ?_
  have hP := jw_swP hP
  have hD := jw_swD hD
  refine lm_chance C0 hZ hA hl (Nat.le_of_ble_eq_true rfl) hc1 hc2 hJ hP hD hS (fun rlm τ H locs hJ eb hP hD hS => ?_)
  have hP := jw_swP hP
  have hD := jw_swD hD
  have hT := lt5_keep ea eb hT
  refine lv_pop hx hb dL_law_790 rfl ?_
  exact lv_goto (tgt := 915) hx hb dL_law_791 (by decide) (kk σ τ H locs hI hJ hT hP hD hS)
set_option maxHeartbeats 4000000 in
set_option maxRecDepth 100000 in
theorem law_case_24 {p : Program} {e : Env} {s : State} {m : MethodId} {below : List Frame} {meth : Method} {c : Code} {l : Launch} {b L : Nat} {xs : Nat → Int32} {dC : Nat → ClassId} {dI : Nat → Nat → Nat} {cy : Nat → ClassId} {sq : Nat → Nat} {cells slots : Nat} {i : Int32} {x0 m0 : Nat} {σ : XS} {τ : MS} {H : Heap} {locs : List Loc} {ls : Array Slot} (C0 : k_cx p s m #[Value.ref b] c code 4 RL dC dI cy sq) (hZ : k_Z sq (fun q : Nat => s.heap.size ≤ q) s s.heap) (hX : va_X b L xs s s.heap) (hbl : b < s.heap.size) (hc1 : cells ≤ 600000) (hc2 : slots ≤ 7302250) (hL : L ≤ 3072) (hi : 0 ≤ i.toInt) (h6 : i.toInt + 6 ≤ (L : Int)) (hI : IX σ) (hJ : IM τ) (hT : LT5 (σ.2.2.2.1 0) (σ.2.2.2.2.2.1 0) (σ.2.2.2.1 7) (σ.2.2.2.1 8) (σ.2.2.2.1 1) (σ.2.2.2.2.2.1 7) (τ.2.1 0) (τ.2.2.2.1 0) τ.2.2.2.1 (τ.2.2.2.1 32) (τ.2.2.2.1 33) (τ.2.2.2.2 0) (τ.2.1 13)) (hP : va_P (dC, dI) vwCl (wX cy x0 σ ++ wM cy m0 τ) H) (hD : va_D (fun q : Nat => s.heap.size ≤ q) (wX cy x0 σ ++ wM cy m0 τ)) (hS : va_S (fun q : Nat => s.heap.size ≤ q) s.heap H locs) (hl : lv_has ls 4 [(3, .int i), (2, .ref m0), (1, .ref x0), (0, .ref b)]) (kk : ∀ (σ1 : XS) (τ1 : MS) (H1 : Heap) (locs1 : List Loc), IX σ1 → IM τ1 → LT5 (σ1.2.2.2.1 0) (σ1.2.2.2.2.2.1 0) (σ1.2.2.2.1 7) (σ1.2.2.2.1 8) (σ1.2.2.2.1 1) (σ1.2.2.2.2.2.1 7) (τ1.2.1 0) (τ1.2.2.2.1 0) τ1.2.2.2.1 (τ1.2.2.2.1 32) (τ1.2.2.2.1 33) (τ1.2.2.2.2 0) (τ1.2.1 13) → va_P (dC, dI) vwCl (wX cy x0 σ1 ++ wM cy m0 τ1) H1 → va_D (fun q : Nat => s.heap.size ≤ q) (wX cy x0 σ1 ++ wM cy m0 τ1) → va_S (fun q : Nat => s.heap.size ≤ q) s.heap H1 locs1 → W p l e room_1 s m #[Value.ref b] below meth c H1 locs1 cells slots (lw_Z below #[Value.ref b] s) (F0 m 915 ls [])) : W p l e room_1 s m #[Value.ref b] below meth c H locs cells slots (lw_Z below #[Value.ref b] s) (F0 m 794 ls []) := by
  have hx := C0.1
  have hb := C0.2.1
  have hA : ∀ q : Nat, s.heap.size ≤ q → (fun q : Nat => s.heap.size ≤ q) q := fun _ h => h
  have hbA : ¬ (fun q : Nat => s.heap.size ≤ q) b := Nat.not_le.mpr hbl
  refine lv_aload_n hx hb dL_law_794 rfl (lv_at hl 2 rfl) ?_
  refine lx_undo C0 hZ hA hl (Nat.le_of_ble_eq_true rfl) hc1 hc2 hI hP hD hS (fun rlx σ H locs hI ea hP hD hS => ?_)
  refine lv_pop hx hb dL_law_798 rfl ?_
  refine lv_aload_n hx hb dL_law_799 rfl (lv_at hl 1 rfl) ?_
  have hP := jw_swP hP
  have hD := jw_swD hD
  refine lm_undo C0 hZ hA hl (Nat.le_of_ble_eq_true rfl) hc1 hc2 hJ hP hD hS (fun rlm τ H locs hJ eb hP hD hS => ?_)
  have hP := jw_swP hP
  have hD := jw_swD hD
  have hT := lt5_keep ea eb hT
  refine lv_pop hx hb dL_law_803 rfl ?_
  exact lv_goto (tgt := 915) hx hb dL_law_804 (by decide) (kk σ τ H locs hI hJ hT hP hD hS)
set_option maxHeartbeats 4000000 in
set_option maxRecDepth 100000 in
theorem law_case_25 {p : Program} {e : Env} {s : State} {m : MethodId} {below : List Frame} {meth : Method} {c : Code} {l : Launch} {b L : Nat} {xs : Nat → Int32} {dC : Nat → ClassId} {dI : Nat → Nat → Nat} {cy : Nat → ClassId} {sq : Nat → Nat} {cells slots : Nat} {i : Int32} {x0 m0 : Nat} {σ : XS} {τ : MS} {H : Heap} {locs : List Loc} {ls : Array Slot} (C0 : k_cx p s m #[Value.ref b] c code 4 RL dC dI cy sq) (hZ : k_Z sq (fun q : Nat => s.heap.size ≤ q) s s.heap) (hX : va_X b L xs s s.heap) (hbl : b < s.heap.size) (hc1 : cells ≤ 600000) (hc2 : slots ≤ 7302250) (hL : L ≤ 3072) (hi : 0 ≤ i.toInt) (h6 : i.toInt + 6 ≤ (L : Int)) (hI : IX σ) (hJ : IM τ) (hT : LT5 (σ.2.2.2.1 0) (σ.2.2.2.2.2.1 0) (σ.2.2.2.1 7) (σ.2.2.2.1 8) (σ.2.2.2.1 1) (σ.2.2.2.2.2.1 7) (τ.2.1 0) (τ.2.2.2.1 0) τ.2.2.2.1 (τ.2.2.2.1 32) (τ.2.2.2.1 33) (τ.2.2.2.2 0) (τ.2.1 13)) (hP : va_P (dC, dI) vwCl (wX cy x0 σ ++ wM cy m0 τ) H) (hD : va_D (fun q : Nat => s.heap.size ≤ q) (wX cy x0 σ ++ wM cy m0 τ)) (hS : va_S (fun q : Nat => s.heap.size ≤ q) s.heap H locs) (hl : lv_has ls 4 [(3, .int i), (2, .ref m0), (1, .ref x0), (0, .ref b)]) (kk : ∀ (σ1 : XS) (τ1 : MS) (H1 : Heap) (locs1 : List Loc), IX σ1 → IM τ1 → LT5 (σ1.2.2.2.1 0) (σ1.2.2.2.2.2.1 0) (σ1.2.2.2.1 7) (σ1.2.2.2.1 8) (σ1.2.2.2.1 1) (σ1.2.2.2.2.2.1 7) (τ1.2.1 0) (τ1.2.2.2.1 0) τ1.2.2.2.1 (τ1.2.2.2.1 32) (τ1.2.2.2.1 33) (τ1.2.2.2.2 0) (τ1.2.1 13) → va_P (dC, dI) vwCl (wX cy x0 σ1 ++ wM cy m0 τ1) H1 → va_D (fun q : Nat => s.heap.size ≤ q) (wX cy x0 σ1 ++ wM cy m0 τ1) → va_S (fun q : Nat => s.heap.size ≤ q) s.heap H1 locs1 → W p l e room_1 s m #[Value.ref b] below meth c H1 locs1 cells slots (lw_Z below #[Value.ref b] s) (F0 m 915 ls [])) : W p l e room_1 s m #[Value.ref b] below meth c H locs cells slots (lw_Z below #[Value.ref b] s) (F0 m 807 ls []) := by
  have hx := C0.1
  have hb := C0.2.1
  have hA : ∀ q : Nat, s.heap.size ≤ q → (fun q : Nat => s.heap.size ≤ q) q := fun _ h => h
  have hbA : ¬ (fun q : Nat => s.heap.size ≤ q) b := Nat.not_le.mpr hbl
  refine lv_aload_n hx hb dL_law_807 rfl (lv_at hl 2 rfl) ?_
  refine lv_aload_n hx hb dL_law_808 rfl (lv_at hl 3 rfl) ?_
  refine lv_iload_n hx hb dL_law_809 rfl (lv_at hl 0 rfl) ?_
  refine lv_iconst (v := 1) hx hb dL_law_810 (by decide) ?_
  refine lv_iadd hx hb dL_law_811 ?_
  refine va_sld hx hb hX hbl hbA hS (law_in hi h6 hL (ib_c 1 0 5 (by decide))) dL_law_812 ?_
  refine lx_seed C0 hZ hA hl (Nat.le_of_ble_eq_true rfl) hc1 hc2 hI hP hD hS (fun rlx σ H locs hI ea hP hD hS => ?_)
  refine lv_pop hx hb dL_law_816 rfl ?_
  refine lv_aload_n hx hb dL_law_817 rfl (lv_at hl 1 rfl) ?_
  refine lv_aload_n hx hb dL_law_818 rfl (lv_at hl 3 rfl) ?_
  refine lv_iload_n hx hb dL_law_819 rfl (lv_at hl 0 rfl) ?_
  refine lv_iconst (v := 1) hx hb dL_law_820 (by decide) ?_
  refine lv_iadd hx hb dL_law_821 ?_
  refine va_sld hx hb hX hbl hbA hS (law_in hi h6 hL (ib_c 1 0 5 (by decide))) dL_law_822 ?_
  have hP := jw_swP hP
  have hD := jw_swD hD
  refine lm_seed C0 hZ hA hl (Nat.le_of_ble_eq_true rfl) hc1 hc2 hJ hP hD hS (fun rlm τ H locs hJ eb hP hD hS => ?_)
  have hP := jw_swP hP
  have hD := jw_swD hD
  have hT := lt5_keep ea eb hT
  refine lv_pop hx hb dL_law_826 rfl ?_
  exact lv_goto (tgt := 915) hx hb dL_law_827 (by decide) (kk σ τ H locs hI hJ hT hP hD hS)
set_option maxHeartbeats 4000000 in
set_option maxRecDepth 100000 in
theorem law_case_26 {p : Program} {e : Env} {s : State} {m : MethodId} {below : List Frame} {meth : Method} {c : Code} {l : Launch} {b L : Nat} {xs : Nat → Int32} {dC : Nat → ClassId} {dI : Nat → Nat → Nat} {cy : Nat → ClassId} {sq : Nat → Nat} {cells slots : Nat} {i : Int32} {x0 m0 : Nat} {σ : XS} {τ : MS} {H : Heap} {locs : List Loc} {ls : Array Slot} (C0 : k_cx p s m #[Value.ref b] c code 4 RL dC dI cy sq) (hZ : k_Z sq (fun q : Nat => s.heap.size ≤ q) s s.heap) (hX : va_X b L xs s s.heap) (hbl : b < s.heap.size) (hc1 : cells ≤ 600000) (hc2 : slots ≤ 7302250) (hL : L ≤ 3072) (hi : 0 ≤ i.toInt) (h6 : i.toInt + 6 ≤ (L : Int)) (hI : IX σ) (hJ : IM τ) (hT : LT5 (σ.2.2.2.1 0) (σ.2.2.2.2.2.1 0) (σ.2.2.2.1 7) (σ.2.2.2.1 8) (σ.2.2.2.1 1) (σ.2.2.2.2.2.1 7) (τ.2.1 0) (τ.2.2.2.1 0) τ.2.2.2.1 (τ.2.2.2.1 32) (τ.2.2.2.1 33) (τ.2.2.2.2 0) (τ.2.1 13)) (hP : va_P (dC, dI) vwCl (wX cy x0 σ ++ wM cy m0 τ) H) (hD : va_D (fun q : Nat => s.heap.size ≤ q) (wX cy x0 σ ++ wM cy m0 τ)) (hS : va_S (fun q : Nat => s.heap.size ≤ q) s.heap H locs) (hl : lv_has ls 4 [(3, .int i), (2, .ref m0), (1, .ref x0), (0, .ref b)]) (kk : ∀ (σ1 : XS) (τ1 : MS) (H1 : Heap) (locs1 : List Loc), IX σ1 → IM τ1 → LT5 (σ1.2.2.2.1 0) (σ1.2.2.2.2.2.1 0) (σ1.2.2.2.1 7) (σ1.2.2.2.1 8) (σ1.2.2.2.1 1) (σ1.2.2.2.2.2.1 7) (τ1.2.1 0) (τ1.2.2.2.1 0) τ1.2.2.2.1 (τ1.2.2.2.1 32) (τ1.2.2.2.1 33) (τ1.2.2.2.2 0) (τ1.2.1 13) → va_P (dC, dI) vwCl (wX cy x0 σ1 ++ wM cy m0 τ1) H1 → va_D (fun q : Nat => s.heap.size ≤ q) (wX cy x0 σ1 ++ wM cy m0 τ1) → va_S (fun q : Nat => s.heap.size ≤ q) s.heap H1 locs1 → W p l e room_1 s m #[Value.ref b] below meth c H1 locs1 cells slots (lw_Z below #[Value.ref b] s) (F0 m 915 ls [])) : W p l e room_1 s m #[Value.ref b] below meth c H locs cells slots (lw_Z below #[Value.ref b] s) (F0 m 830 ls []) := by
  have hx := C0.1
  have hb := C0.2.1
  have hA : ∀ q : Nat, s.heap.size ≤ q → (fun q : Nat => s.heap.size ≤ q) q := fun _ h => h
  have hbA : ¬ (fun q : Nat => s.heap.size ≤ q) b := Nat.not_le.mpr hbl
  refine lv_aload_n hx hb dL_law_830 rfl (lv_at hl 2 rfl) ?_
  refine lx_ask C0 hZ hA hl (Nat.le_of_ble_eq_true rfl) hc1 hc2 hI hP hD hS (fun rlx σ H locs hI ea hP hD hS => ?_)
  refine lv_pop2_2 hx hb dL_law_834 rfl ?_
  refine lv_aload_n hx hb dL_law_835 rfl (lv_at hl 1 rfl) ?_
  have hP := jw_swP hP
  have hD := jw_swD hD
  refine lm_ask C0 hZ hA hl (Nat.le_of_ble_eq_true rfl) hc1 hc2 hJ hP hD hS (fun rlm τ H locs hJ eb hP hD hS => ?_)
  have hP := jw_swP hP
  have hD := jw_swD hD
  have hT := lt5_zero ea eb hT
  refine lv_pop2_2 hx hb dL_law_839 rfl ?_
  exact lv_goto (tgt := 915) hx hb dL_law_840 (by decide) (kk σ τ H locs hI hJ hT hP hD hS)
set_option maxHeartbeats 4000000 in
set_option maxRecDepth 100000 in
theorem law_case_27 {p : Program} {e : Env} {s : State} {m : MethodId} {below : List Frame} {meth : Method} {c : Code} {l : Launch} {b L : Nat} {xs : Nat → Int32} {dC : Nat → ClassId} {dI : Nat → Nat → Nat} {cy : Nat → ClassId} {sq : Nat → Nat} {cells slots : Nat} {i : Int32} {x0 m0 : Nat} {σ : XS} {τ : MS} {H : Heap} {locs : List Loc} {ls : Array Slot} (C0 : k_cx p s m #[Value.ref b] c code 4 RL dC dI cy sq) (hZ : k_Z sq (fun q : Nat => s.heap.size ≤ q) s s.heap) (hX : va_X b L xs s s.heap) (hbl : b < s.heap.size) (hc1 : cells ≤ 600000) (hc2 : slots ≤ 7302250) (hL : L ≤ 3072) (hi : 0 ≤ i.toInt) (h6 : i.toInt + 6 ≤ (L : Int)) (hI : IX σ) (hJ : IM τ) (hT : LT5 (σ.2.2.2.1 0) (σ.2.2.2.2.2.1 0) (σ.2.2.2.1 7) (σ.2.2.2.1 8) (σ.2.2.2.1 1) (σ.2.2.2.2.2.1 7) (τ.2.1 0) (τ.2.2.2.1 0) τ.2.2.2.1 (τ.2.2.2.1 32) (τ.2.2.2.1 33) (τ.2.2.2.2 0) (τ.2.1 13)) (hP : va_P (dC, dI) vwCl (wX cy x0 σ ++ wM cy m0 τ) H) (hD : va_D (fun q : Nat => s.heap.size ≤ q) (wX cy x0 σ ++ wM cy m0 τ)) (hS : va_S (fun q : Nat => s.heap.size ≤ q) s.heap H locs) (hl : lv_has ls 4 [(3, .int i), (2, .ref m0), (1, .ref x0), (0, .ref b)]) (kk : ∀ (σ1 : XS) (τ1 : MS) (H1 : Heap) (locs1 : List Loc), IX σ1 → IM τ1 → LT5 (σ1.2.2.2.1 0) (σ1.2.2.2.2.2.1 0) (σ1.2.2.2.1 7) (σ1.2.2.2.1 8) (σ1.2.2.2.1 1) (σ1.2.2.2.2.2.1 7) (τ1.2.1 0) (τ1.2.2.2.1 0) τ1.2.2.2.1 (τ1.2.2.2.1 32) (τ1.2.2.2.1 33) (τ1.2.2.2.2 0) (τ1.2.1 13) → va_P (dC, dI) vwCl (wX cy x0 σ1 ++ wM cy m0 τ1) H1 → va_D (fun q : Nat => s.heap.size ≤ q) (wX cy x0 σ1 ++ wM cy m0 τ1) → va_S (fun q : Nat => s.heap.size ≤ q) s.heap H1 locs1 → W p l e room_1 s m #[Value.ref b] below meth c H1 locs1 cells slots (lw_Z below #[Value.ref b] s) (F0 m 915 ls [])) : W p l e room_1 s m #[Value.ref b] below meth c H locs cells slots (lw_Z below #[Value.ref b] s) (F0 m 843 ls []) := by
  have hx := C0.1
  have hb := C0.2.1
  have hA : ∀ q : Nat, s.heap.size ≤ q → (fun q : Nat => s.heap.size ≤ q) q := fun _ h => h
  have hbA : ¬ (fun q : Nat => s.heap.size ≤ q) b := Nat.not_le.mpr hbl
  refine lv_aload_n hx hb dL_law_843 rfl (lv_at hl 2 rfl) ?_
  refine lx_image C0 hZ hA hl (Nat.le_of_ble_eq_true rfl) hc1 hc2 hI hP hD hS (fun rlx σ H locs hI ea hP hD hS => ?_)
  refine lv_pop hx hb dL_law_847 rfl ?_
  refine lv_aload_n hx hb dL_law_848 rfl (lv_at hl 1 rfl) ?_
  have hP := jw_swP hP
  have hD := jw_swD hD
  refine lm_image C0 hZ hA hl (Nat.le_of_ble_eq_true rfl) hc1 hc2 hJ hP hD hS (fun rlm τ H locs hJ eb hP hD hS => ?_)
  have hP := jw_swP hP
  have hD := jw_swD hD
  have hT := lt5_keep ea eb hT
  refine lv_pop hx hb dL_law_852 rfl ?_
  exact lv_goto (tgt := 915) hx hb dL_law_853 (by decide) (kk σ τ H locs hI hJ hT hP hD hS)
set_option maxHeartbeats 4000000 in
set_option maxRecDepth 100000 in
theorem law_case_28 {p : Program} {e : Env} {s : State} {m : MethodId} {below : List Frame} {meth : Method} {c : Code} {l : Launch} {b L : Nat} {xs : Nat → Int32} {dC : Nat → ClassId} {dI : Nat → Nat → Nat} {cy : Nat → ClassId} {sq : Nat → Nat} {cells slots : Nat} {i : Int32} {x0 m0 : Nat} {σ : XS} {τ : MS} {H : Heap} {locs : List Loc} {ls : Array Slot} (C0 : k_cx p s m #[Value.ref b] c code 4 RL dC dI cy sq) (hZ : k_Z sq (fun q : Nat => s.heap.size ≤ q) s s.heap) (hX : va_X b L xs s s.heap) (hbl : b < s.heap.size) (hc1 : cells ≤ 600000) (hc2 : slots ≤ 7302250) (hL : L ≤ 3072) (hi : 0 ≤ i.toInt) (h6 : i.toInt + 6 ≤ (L : Int)) (hI : IX σ) (hJ : IM τ) (hT : LT5 (σ.2.2.2.1 0) (σ.2.2.2.2.2.1 0) (σ.2.2.2.1 7) (σ.2.2.2.1 8) (σ.2.2.2.1 1) (σ.2.2.2.2.2.1 7) (τ.2.1 0) (τ.2.2.2.1 0) τ.2.2.2.1 (τ.2.2.2.1 32) (τ.2.2.2.1 33) (τ.2.2.2.2 0) (τ.2.1 13)) (hP : va_P (dC, dI) vwCl (wX cy x0 σ ++ wM cy m0 τ) H) (hD : va_D (fun q : Nat => s.heap.size ≤ q) (wX cy x0 σ ++ wM cy m0 τ)) (hS : va_S (fun q : Nat => s.heap.size ≤ q) s.heap H locs) (hl : lv_has ls 4 [(3, .int i), (2, .ref m0), (1, .ref x0), (0, .ref b)]) (kk : ∀ (σ1 : XS) (τ1 : MS) (H1 : Heap) (locs1 : List Loc), IX σ1 → IM τ1 → LT5 (σ1.2.2.2.1 0) (σ1.2.2.2.2.2.1 0) (σ1.2.2.2.1 7) (σ1.2.2.2.1 8) (σ1.2.2.2.1 1) (σ1.2.2.2.2.2.1 7) (τ1.2.1 0) (τ1.2.2.2.1 0) τ1.2.2.2.1 (τ1.2.2.2.1 32) (τ1.2.2.2.1 33) (τ1.2.2.2.2 0) (τ1.2.1 13) → va_P (dC, dI) vwCl (wX cy x0 σ1 ++ wM cy m0 τ1) H1 → va_D (fun q : Nat => s.heap.size ≤ q) (wX cy x0 σ1 ++ wM cy m0 τ1) → va_S (fun q : Nat => s.heap.size ≤ q) s.heap H1 locs1 → W p l e room_1 s m #[Value.ref b] below meth c H1 locs1 cells slots (lw_Z below #[Value.ref b] s) (F0 m 915 ls [])) : W p l e room_1 s m #[Value.ref b] below meth c H locs cells slots (lw_Z below #[Value.ref b] s) (F0 m 856 ls []) := by
  have hx := C0.1
  have hb := C0.2.1
  have hA : ∀ q : Nat, s.heap.size ≤ q → (fun q : Nat => s.heap.size ≤ q) q := fun _ h => h
  have hbA : ¬ (fun q : Nat => s.heap.size ≤ q) b := Nat.not_le.mpr hbl
  refine lv_aload_n hx hb dL_law_856 rfl (lv_at hl 2 rfl) ?_
  refine lv_aload_n hx hb dL_law_857 rfl (lv_at hl 3 rfl) ?_
  refine lv_iload_n hx hb dL_law_858 rfl (lv_at hl 0 rfl) ?_
  refine lv_iconst (v := 1) hx hb dL_law_859 (by decide) ?_
  refine lv_iadd hx hb dL_law_860 ?_
  refine va_sld hx hb hX hbl hbA hS (law_in hi h6 hL (ib_c 1 0 5 (by decide))) dL_law_861 ?_
  refine lx_octet C0 hZ hA hl (Nat.le_of_ble_eq_true rfl) hc1 hc2 hI hP hD hS (fun rlx σ H locs hI ea hP hD hS => ?_)
  refine lv_pop hx hb dL_law_865 rfl ?_
  refine lv_aload_n hx hb dL_law_866 rfl (lv_at hl 1 rfl) ?_
  refine lv_aload_n hx hb dL_law_867 rfl (lv_at hl 3 rfl) ?_
  refine lv_iload_n hx hb dL_law_868 rfl (lv_at hl 0 rfl) ?_
  refine lv_iconst (v := 1) hx hb dL_law_869 (by decide) ?_
  refine lv_iadd hx hb dL_law_870 ?_
  refine va_sld hx hb hX hbl hbA hS (law_in hi h6 hL (ib_c 1 0 5 (by decide))) dL_law_871 ?_
  have hP := jw_swP hP
  have hD := jw_swD hD
  refine lm_octet C0 hZ hA hl (Nat.le_of_ble_eq_true rfl) hc1 hc2 hJ hP hD hS (fun rlm τ H locs hJ eb hP hD hS => ?_)
  have hP := jw_swP hP
  have hD := jw_swD hD
  have hT := lt5_keep ea eb hT
  refine lv_pop hx hb dL_law_875 rfl ?_
  exact lv_goto (tgt := 915) hx hb dL_law_876 (by decide) (kk σ τ H locs hI hJ hT hP hD hS)
set_option maxHeartbeats 4000000 in
set_option maxRecDepth 100000 in
theorem law_case_29 {p : Program} {e : Env} {s : State} {m : MethodId} {below : List Frame} {meth : Method} {c : Code} {l : Launch} {b L : Nat} {xs : Nat → Int32} {dC : Nat → ClassId} {dI : Nat → Nat → Nat} {cy : Nat → ClassId} {sq : Nat → Nat} {cells slots : Nat} {i : Int32} {x0 m0 : Nat} {σ : XS} {τ : MS} {H : Heap} {locs : List Loc} {ls : Array Slot} (C0 : k_cx p s m #[Value.ref b] c code 4 RL dC dI cy sq) (hZ : k_Z sq (fun q : Nat => s.heap.size ≤ q) s s.heap) (hX : va_X b L xs s s.heap) (hbl : b < s.heap.size) (hc1 : cells ≤ 600000) (hc2 : slots ≤ 7302250) (hL : L ≤ 3072) (hi : 0 ≤ i.toInt) (h6 : i.toInt + 6 ≤ (L : Int)) (hI : IX σ) (hJ : IM τ) (hT : LT5 (σ.2.2.2.1 0) (σ.2.2.2.2.2.1 0) (σ.2.2.2.1 7) (σ.2.2.2.1 8) (σ.2.2.2.1 1) (σ.2.2.2.2.2.1 7) (τ.2.1 0) (τ.2.2.2.1 0) τ.2.2.2.1 (τ.2.2.2.1 32) (τ.2.2.2.1 33) (τ.2.2.2.2 0) (τ.2.1 13)) (hP : va_P (dC, dI) vwCl (wX cy x0 σ ++ wM cy m0 τ) H) (hD : va_D (fun q : Nat => s.heap.size ≤ q) (wX cy x0 σ ++ wM cy m0 τ)) (hS : va_S (fun q : Nat => s.heap.size ≤ q) s.heap H locs) (hl : lv_has ls 4 [(3, .int i), (2, .ref m0), (1, .ref x0), (0, .ref b)]) (kk : ∀ (σ1 : XS) (τ1 : MS) (H1 : Heap) (locs1 : List Loc), IX σ1 → IM τ1 → LT5 (σ1.2.2.2.1 0) (σ1.2.2.2.2.2.1 0) (σ1.2.2.2.1 7) (σ1.2.2.2.1 8) (σ1.2.2.2.1 1) (σ1.2.2.2.2.2.1 7) (τ1.2.1 0) (τ1.2.2.2.1 0) τ1.2.2.2.1 (τ1.2.2.2.1 32) (τ1.2.2.2.1 33) (τ1.2.2.2.2 0) (τ1.2.1 13) → va_P (dC, dI) vwCl (wX cy x0 σ1 ++ wM cy m0 τ1) H1 → va_D (fun q : Nat => s.heap.size ≤ q) (wX cy x0 σ1 ++ wM cy m0 τ1) → va_S (fun q : Nat => s.heap.size ≤ q) s.heap H1 locs1 → W p l e room_1 s m #[Value.ref b] below meth c H1 locs1 cells slots (lw_Z below #[Value.ref b] s) (F0 m 915 ls [])) : W p l e room_1 s m #[Value.ref b] below meth c H locs cells slots (lw_Z below #[Value.ref b] s) (F0 m 879 ls []) := by
  have hx := C0.1
  have hb := C0.2.1
  have hA : ∀ q : Nat, s.heap.size ≤ q → (fun q : Nat => s.heap.size ≤ q) q := fun _ h => h
  have hbA : ¬ (fun q : Nat => s.heap.size ≤ q) b := Nat.not_le.mpr hbl
  refine lv_aload_n hx hb dL_law_879 rfl (lv_at hl 2 rfl) ?_
  refine lx_on C0 hZ hA hl (Nat.le_of_ble_eq_true rfl) hc1 hc2 hI hP hD hS (fun rlx σ H locs hI ea hP hD hS => ?_)
  refine lv_pop hx hb dL_law_883 rfl ?_
  refine lv_aload_n hx hb dL_law_884 rfl (lv_at hl 1 rfl) ?_
  have hP := jw_swP hP
  have hD := jw_swD hD
  refine lm_on C0 hZ hA hl (Nat.le_of_ble_eq_true rfl) hc1 hc2 hJ hP hD hS (fun rlm τ H locs hJ eb hP hD hS => ?_)
  have hP := jw_swP hP
  have hD := jw_swD hD
  have hT := lt5_zero ea eb hT
  refine lv_pop hx hb dL_law_888 rfl ?_
  exact lv_goto (tgt := 915) hx hb dL_law_889 (by decide) (kk σ τ H locs hI hJ hT hP hD hS)
set_option maxHeartbeats 4000000 in
set_option maxRecDepth 100000 in
theorem law_case_30 {p : Program} {e : Env} {s : State} {m : MethodId} {below : List Frame} {meth : Method} {c : Code} {l : Launch} {b L : Nat} {xs : Nat → Int32} {dC : Nat → ClassId} {dI : Nat → Nat → Nat} {cy : Nat → ClassId} {sq : Nat → Nat} {cells slots : Nat} {i : Int32} {x0 m0 : Nat} {σ : XS} {τ : MS} {H : Heap} {locs : List Loc} {ls : Array Slot} (C0 : k_cx p s m #[Value.ref b] c code 4 RL dC dI cy sq) (hZ : k_Z sq (fun q : Nat => s.heap.size ≤ q) s s.heap) (hX : va_X b L xs s s.heap) (hbl : b < s.heap.size) (hc1 : cells ≤ 600000) (hc2 : slots ≤ 7302250) (hL : L ≤ 3072) (hi : 0 ≤ i.toInt) (h6 : i.toInt + 6 ≤ (L : Int)) (hI : IX σ) (hJ : IM τ) (hT : LT5 (σ.2.2.2.1 0) (σ.2.2.2.2.2.1 0) (σ.2.2.2.1 7) (σ.2.2.2.1 8) (σ.2.2.2.1 1) (σ.2.2.2.2.2.1 7) (τ.2.1 0) (τ.2.2.2.1 0) τ.2.2.2.1 (τ.2.2.2.1 32) (τ.2.2.2.1 33) (τ.2.2.2.2 0) (τ.2.1 13)) (hP : va_P (dC, dI) vwCl (wX cy x0 σ ++ wM cy m0 τ) H) (hD : va_D (fun q : Nat => s.heap.size ≤ q) (wX cy x0 σ ++ wM cy m0 τ)) (hS : va_S (fun q : Nat => s.heap.size ≤ q) s.heap H locs) (hl : lv_has ls 4 [(3, .int i), (2, .ref m0), (1, .ref x0), (0, .ref b)]) (kk : ∀ (σ1 : XS) (τ1 : MS) (H1 : Heap) (locs1 : List Loc), IX σ1 → IM τ1 → LT5 (σ1.2.2.2.1 0) (σ1.2.2.2.2.2.1 0) (σ1.2.2.2.1 7) (σ1.2.2.2.1 8) (σ1.2.2.2.1 1) (σ1.2.2.2.2.2.1 7) (τ1.2.1 0) (τ1.2.2.2.1 0) τ1.2.2.2.1 (τ1.2.2.2.1 32) (τ1.2.2.2.1 33) (τ1.2.2.2.2 0) (τ1.2.1 13) → va_P (dC, dI) vwCl (wX cy x0 σ1 ++ wM cy m0 τ1) H1 → va_D (fun q : Nat => s.heap.size ≤ q) (wX cy x0 σ1 ++ wM cy m0 τ1) → va_S (fun q : Nat => s.heap.size ≤ q) s.heap H1 locs1 → W p l e room_1 s m #[Value.ref b] below meth c H1 locs1 cells slots (lw_Z below #[Value.ref b] s) (F0 m 915 ls [])) : W p l e room_1 s m #[Value.ref b] below meth c H locs cells slots (lw_Z below #[Value.ref b] s) (F0 m 892 ls []) := by
  have hx := C0.1
  have hb := C0.2.1
  have hA : ∀ q : Nat, s.heap.size ≤ q → (fun q : Nat => s.heap.size ≤ q) q := fun _ h => h
  have hbA : ¬ (fun q : Nat => s.heap.size ≤ q) b := Nat.not_le.mpr hbl
  refine lv_aload_n hx hb dL_law_892 rfl (lv_at hl 2 rfl) ?_
  refine lv_aload_n hx hb dL_law_893 rfl (lv_at hl 3 rfl) ?_
  refine lv_iload_n hx hb dL_law_894 rfl (lv_at hl 0 rfl) ?_
  refine lv_iconst (v := 1) hx hb dL_law_895 (by decide) ?_
  refine lv_iadd hx hb dL_law_896 ?_
  refine va_sld hx hb hX hbl hbA hS (law_in hi h6 hL (ib_c 1 0 5 (by decide))) dL_law_897 ?_
  refine lx_status C0 hZ hA hl (Nat.le_of_ble_eq_true rfl) hc1 hc2 hI hP hD hS (fun rlx σ H locs hI ea hP hD hS => ?_)
  refine lv_pop hx hb dL_law_901 rfl ?_
  refine lv_aload_n hx hb dL_law_902 rfl (lv_at hl 1 rfl) ?_
  refine lv_aload_n hx hb dL_law_903 rfl (lv_at hl 3 rfl) ?_
  refine lv_iload_n hx hb dL_law_904 rfl (lv_at hl 0 rfl) ?_
  refine lv_iconst (v := 1) hx hb dL_law_905 (by decide) ?_
  refine lv_iadd hx hb dL_law_906 ?_
  refine va_sld hx hb hX hbl hbA hS (law_in hi h6 hL (ib_c 1 0 5 (by decide))) dL_law_907 ?_
  have hP := jw_swP hP
  have hD := jw_swD hD
  refine lm_status C0 hZ hA hl (Nat.le_of_ble_eq_true rfl) hc1 hc2 hJ hP hD hS (fun rlm τ H locs hJ eb hP hD hS => ?_)
  have hP := jw_swP hP
  have hD := jw_swD hD
  have hT := lt5_keep ea eb hT
  refine lv_pop hx hb dL_law_911 rfl ?_
  exact lv_goto (tgt := 915) hx hb dL_law_912 (by decide) (kk σ τ H locs hI hJ hT hP hD hS)
set_option maxHeartbeats 4000000 in
set_option maxRecDepth 100000 in
theorem law_loop {p : Program} {e : Env} {s : State} {m : MethodId} {below : List Frame} {meth : Method} {c : Code} {l : Launch} {b L : Nat} {xs : Nat → Int32} {dC : Nat → ClassId} {dI : Nat → Nat → Nat} {cy : Nat → ClassId} {sq : Nat → Nat} {cells slots : Nat} (C0 : k_cx p s m #[Value.ref b] c code 4 RL dC dI cy sq) (hZ : k_Z sq (fun q : Nat => s.heap.size ≤ q) s s.heap) (hX : va_X b L xs s s.heap) (hbl : b < s.heap.size) (hc1 : cells ≤ 600000) (hc2 : slots ≤ 7302250) (hr : meth.sig.returnType = ret) (hlk : meth.locks = false) (hL : L ≤ 3072) {x0 m0 : Nat} : ∀ (n : Nat) {i : Int32} {σ : XS} {τ : MS} {H : Heap} {locs : List Loc} {ls : Array Slot}, 0 ≤ i.toInt → i.toInt ≤ 3078 → (L : Int) < i.toInt + 6 * (n : Int) + 6 → IX σ → IM τ → LT5 (σ.2.2.2.1 0) (σ.2.2.2.2.2.1 0) (σ.2.2.2.1 7) (σ.2.2.2.1 8) (σ.2.2.2.1 1) (σ.2.2.2.2.2.1 7) (τ.2.1 0) (τ.2.2.2.1 0) τ.2.2.2.1 (τ.2.2.2.1 32) (τ.2.2.2.1 33) (τ.2.2.2.2 0) (τ.2.1 13) → va_P (dC, dI) vwCl (wX cy x0 σ ++ wM cy m0 τ) H → va_D (fun q : Nat => s.heap.size ≤ q) (wX cy x0 σ ++ wM cy m0 τ) → va_S (fun q : Nat => s.heap.size ≤ q) s.heap H locs → lv_has ls 4 [(3, .int i), (2, .ref m0), (1, .ref x0), (0, .ref b)] → W p l e room_1 s m #[Value.ref b] below meth c H locs cells slots (lw_Z below #[Value.ref b] s) (F0 m 18 ls []) := by
  have hx := C0.1
  have hb := C0.2.1
  have hbA : ¬ (fun q : Nat => s.heap.size ≤ q) b := Nat.not_le.mpr hbl
  have e6 : (6 : Int32).toInt = 6 := by decide
  have eL : (Int32.ofNat L).toInt = (L : Int) := Int32.toInt_ofNat_of_lt (by omega)
  intro n
  induction n with
  | zero =>
    intro i σ τ H locs ls hi hi2 hn hI hJ hT hP hD hS hl
    refine lv_iload_n hx hb dL_law_18 rfl (lv_at hl 0 rfl) ?_
    refine lv_aload_n hx hb dL_law_19 rfl (lv_at hl 3 rfl) ?_
    refine va_slen hx hb hX hbl hbA hS dL_law_20 ?_
    refine lv_bipush (v := 6) hx hb dL_law_21 (by decide) ?_
    refine lv_isub hx hb dL_law_23 ?_
    have h1 := (ib_sub (x := Int32.ofNat L) (y := 6) (a := 0) (b := 3072) (c := 6) (d := 6) ⟨by omega, by omega⟩ (ib_c 6 6 6 (by decide)) (by decide)).2
    exact lv_icmp_gt (tgt := 921) hx hb dL_law_24 (by decide) (fun _ => law_exit C0 hr hlk hS hc1 hc2) (fun h => absurd (Int32.lt_iff_toInt_lt.mpr (by omega)) h)
  | succ n ih =>
    intro i σ τ H locs ls hi hi2 hn hI hJ hT hP hD hS hl
    refine lv_iload_n hx hb dL_law_18 rfl (lv_at hl 0 rfl) ?_
    refine lv_aload_n hx hb dL_law_19 rfl (lv_at hl 3 rfl) ?_
    refine va_slen hx hb hX hbl hbA hS dL_law_20 ?_
    refine lv_bipush (v := 6) hx hb dL_law_21 (by decide) ?_
    refine lv_isub hx hb dL_law_23 ?_
    have h1 := (ib_sub (x := Int32.ofNat L) (y := 6) (a := 0) (b := 3072) (c := 6) (d := 6) ⟨by omega, by omega⟩ (ib_c 6 6 6 (by decide)) (by decide)).2
    refine lv_icmp_gt (tgt := 921) hx hb dL_law_24 (by decide) (fun _ => law_exit C0 hr hlk hS hc1 hc2) (fun h => ?_)
    have h6 : i.toInt + 6 ≤ (L : Int) := by
      have h2 : ¬ (Int32.ofNat L - 6).toInt < i.toInt := fun q => h (Int32.lt_iff_toInt_lt.mpr q)
      omega
    have next : ∀ (σ1 : XS) (τ1 : MS) (H1 : Heap) (locs1 : List Loc), IX σ1 → IM τ1 → LT5 (σ1.2.2.2.1 0) (σ1.2.2.2.2.2.1 0) (σ1.2.2.2.1 7) (σ1.2.2.2.1 8) (σ1.2.2.2.1 1) (σ1.2.2.2.2.2.1 7) (τ1.2.1 0) (τ1.2.2.2.1 0) τ1.2.2.2.1 (τ1.2.2.2.1 32) (τ1.2.2.2.1 33) (τ1.2.2.2.2 0) (τ1.2.1 13) → va_P (dC, dI) vwCl (wX cy x0 σ1 ++ wM cy m0 τ1) H1 → va_D (fun q : Nat => s.heap.size ≤ q) (wX cy x0 σ1 ++ wM cy m0 τ1) → va_S (fun q : Nat => s.heap.size ≤ q) s.heap H1 locs1 → W p l e room_1 s m #[Value.ref b] below meth c H1 locs1 cells slots (lw_Z below #[Value.ref b] s) (F0 m 915 ls []) := by
      intro σ1 τ1 H1 locs1 hI hJ hT hP hD hS
      refine lv_iinc (v := i + 6) (lv' := [(3, .int (i + 6)), (2, .ref m0), (1, .ref x0), (0, .ref b)]) hx hb dL_law_915 hl (k := 0) rfl (by rw [show Int32.ofInt 6 = (6 : Int32) by decide]) (by decide) rfl (fun ls hl => ?_)
      refine lv_goto (tgt := 18) hx hb dL_law_918 (by decide) ?_
      have h3 := (ib_add (x := i) (y := 6) (a := 0) (b := 3078) (c := 6) (d := 6) ⟨hi, hi2⟩ (ib_c 6 6 6 (by decide)) (by decide)).2
      exact ih (by omega) (by omega) (by omega) hI hJ hT hP hD hS hl
    refine lv_aload_n hx hb dL_law_27 rfl (lv_at hl 3 rfl) ?_
    refine lv_iload_n hx hb dL_law_28 rfl (lv_at hl 0 rfl) ?_
    refine va_sld hx hb hX hbl hbA hS (law_in0 hi h6) dL_law_29 ?_
    refine lv_bipush (v := 31) hx hb dL_law_30 (by decide) ?_
    refine lv_iand hx hb dL_law_32 ?_
    obtain ⟨j, hj, ej⟩ := pk_andE (xs (Int32.toNatClampNeg i)) (m := 31) 5 (by decide)
    have hj : j = 0 ∨ j = 1 ∨ j = 2 ∨ j = 3 ∨ j = 4 ∨ j = 5 ∨ j = 6 ∨ j = 7 ∨ j = 8 ∨ j = 9 ∨ j = 10 ∨ j = 11 ∨ j = 12 ∨ j = 13 ∨ j = 14 ∨ j = 15 ∨ j = 16 ∨ j = 17 ∨ j = 18 ∨ j = 19 ∨ j = 20 ∨ j = 21 ∨ j = 22 ∨ j = 23 ∨ j = 24 ∨ j = 25 ∨ j = 26 ∨ j = 27 ∨ j = 28 ∨ j = 29 ∨ j = 30 ∨ j = 31 := by omega
    rcases hj with rfl | rfl | rfl | rfl | rfl | rfl | rfl | rfl | rfl | rfl | rfl | rfl | rfl | rfl | rfl | rfl | rfl | rfl | rfl | rfl | rfl | rfl | rfl | rfl | rfl | rfl | rfl | rfl | rfl | rfl | rfl | rfl
    · refine k_topi (y := 0) (ej.trans (by decide)) ?_
      refine lv_tableIn (off := 139) (tgt := 172) hx hb dL_law_33 (by decide) (by decide) (by decide) (by decide) ?_
      exact law_case_0 C0 hZ hX hbl hc1 hc2 hL hi h6 hI hJ hT hP hD hS hl next
    · refine k_topi (y := 1) (ej.trans (by decide)) ?_
      refine lv_tableIn (off := 202) (tgt := 235) hx hb dL_law_33 (by decide) (by decide) (by decide) (by decide) ?_
      exact law_case_1 C0 hZ hX hbl hc1 hc2 hL hi h6 hI hJ hT hP hD hS hl next
    · refine k_topi (y := 2) (ej.trans (by decide)) ?_
      refine lv_tableIn (off := 225) (tgt := 258) hx hb dL_law_33 (by decide) (by decide) (by decide) (by decide) ?_
      exact law_case_2 C0 hZ hX hbl hc1 hc2 hL hi h6 hI hJ hT hP hD hS hl next
    · refine k_topi (y := 3) (ej.trans (by decide)) ?_
      refine lv_tableIn (off := 238) (tgt := 271) hx hb dL_law_33 (by decide) (by decide) (by decide) (by decide) ?_
      exact law_case_3 C0 hZ hX hbl hc1 hc2 hL hi h6 hI hJ hT hP hD hS hl next
    · refine k_topi (y := 4) (ej.trans (by decide)) ?_
      refine lv_tableIn (off := 261) (tgt := 294) hx hb dL_law_33 (by decide) (by decide) (by decide) (by decide) ?_
      exact law_case_4 C0 hZ hX hbl hc1 hc2 hL hi h6 hI hJ hT hP hD hS hl next
    · refine k_topi (y := 5) (ej.trans (by decide)) ?_
      refine lv_tableIn (off := 284) (tgt := 317) hx hb dL_law_33 (by decide) (by decide) (by decide) (by decide) ?_
      exact law_case_5 C0 hZ hX hbl hc1 hc2 hL hi h6 hI hJ hT hP hD hS hl next
    · refine k_topi (y := 6) (ej.trans (by decide)) ?_
      refine lv_tableIn (off := 327) (tgt := 360) hx hb dL_law_33 (by decide) (by decide) (by decide) (by decide) ?_
      exact law_case_6 C0 hZ hX hbl hc1 hc2 hL hi h6 hI hJ hT hP hD hS hl next
    · refine k_topi (y := 7) (ej.trans (by decide)) ?_
      refine lv_tableIn (off := 360) (tgt := 393) hx hb dL_law_33 (by decide) (by decide) (by decide) (by decide) ?_
      exact law_case_7 C0 hZ hX hbl hc1 hc2 hL hi h6 hI hJ hT hP hD hS hl next
    · refine k_topi (y := 8) (ej.trans (by decide)) ?_
      refine lv_tableIn (off := 393) (tgt := 426) hx hb dL_law_33 (by decide) (by decide) (by decide) (by decide) ?_
      exact law_case_8 C0 hZ hX hbl hc1 hc2 hL hi h6 hI hJ hT hP hD hS hl next
    · refine k_topi (y := 9) (ej.trans (by decide)) ?_
      refine lv_tableIn (off := 416) (tgt := 449) hx hb dL_law_33 (by decide) (by decide) (by decide) (by decide) ?_
      exact law_case_9 C0 hZ hX hbl hc1 hc2 hL hi h6 hI hJ hT hP hD hS hl next
    · refine k_topi (y := 10) (ej.trans (by decide)) ?_
      refine lv_tableIn (off := 439) (tgt := 472) hx hb dL_law_33 (by decide) (by decide) (by decide) (by decide) ?_
      exact law_case_10 C0 hZ hX hbl hc1 hc2 hL hi h6 hI hJ hT hP hD hS hl next
    · refine k_topi (y := 11) (ej.trans (by decide)) ?_
      refine lv_tableIn (off := 462) (tgt := 495) hx hb dL_law_33 (by decide) (by decide) (by decide) (by decide) ?_
      exact law_case_11 C0 hZ hX hbl hc1 hc2 hL hi h6 hI hJ hT hP hD hS hl next
    · refine k_topi (y := 12) (ej.trans (by decide)) ?_
      refine lv_tableIn (off := 495) (tgt := 528) hx hb dL_law_33 (by decide) (by decide) (by decide) (by decide) ?_
      exact law_case_12 C0 hZ hX hbl hc1 hc2 hL hi h6 hI hJ hT hP hD hS hl next
    · refine k_topi (y := 13) (ej.trans (by decide)) ?_
      refine lv_tableIn (off := 508) (tgt := 541) hx hb dL_law_33 (by decide) (by decide) (by decide) (by decide) ?_
      exact law_case_13 C0 hZ hX hbl hc1 hc2 hL hi h6 hI hJ hT hP hD hS hl next
    · refine k_topi (y := 14) (ej.trans (by decide)) ?_
      refine lv_tableIn (off := 521) (tgt := 554) hx hb dL_law_33 (by decide) (by decide) (by decide) (by decide) ?_
      exact law_case_14 C0 hZ hX hbl hc1 hc2 hL hi h6 hI hJ hT hP hD hS hl next
    · refine k_topi (y := 15) (ej.trans (by decide)) ?_
      refine lv_tableIn (off := 554) (tgt := 587) hx hb dL_law_33 (by decide) (by decide) (by decide) (by decide) ?_
      exact law_case_15 C0 hZ hX hbl hc1 hc2 hL hi h6 hI hJ hT hP hD hS hl next
    · refine k_topi (y := 16) (ej.trans (by decide)) ?_
      refine lv_tableIn (off := 577) (tgt := 610) hx hb dL_law_33 (by decide) (by decide) (by decide) (by decide) ?_
      exact law_case_16 C0 hZ hX hbl hc1 hc2 hL hi h6 hI hJ hT hP hD hS hl next
    · refine k_topi (y := 17) (ej.trans (by decide)) ?_
      refine lv_tableIn (off := 590) (tgt := 623) hx hb dL_law_33 (by decide) (by decide) (by decide) (by decide) ?_
      exact law_case_17 C0 hZ hX hbl hc1 hc2 hL hi h6 hI hJ hT hP hD hS hl next
    · refine k_topi (y := 18) (ej.trans (by decide)) ?_
      refine lv_tableIn (off := 613) (tgt := 646) hx hb dL_law_33 (by decide) (by decide) (by decide) (by decide) ?_
      exact law_case_18 C0 hZ hX hbl hc1 hc2 hL hi h6 hI hJ hT hP hD hS hl next
    · refine k_topi (y := 19) (ej.trans (by decide)) ?_
      refine lv_tableIn (off := 636) (tgt := 669) hx hb dL_law_33 (by decide) (by decide) (by decide) (by decide) ?_
      exact law_case_19 C0 hZ hX hbl hc1 hc2 hL hi h6 hI hJ hT hP hD hS hl next
    · refine k_topi (y := 20) (ej.trans (by decide)) ?_
      refine lv_tableIn (off := 659) (tgt := 692) hx hb dL_law_33 (by decide) (by decide) (by decide) (by decide) ?_
      exact law_case_20 C0 hZ hX hbl hc1 hc2 hL hi h6 hI hJ hT hP hD hS hl next
    · refine k_topi (y := 21) (ej.trans (by decide)) ?_
      refine lv_tableIn (off := 682) (tgt := 715) hx hb dL_law_33 (by decide) (by decide) (by decide) (by decide) ?_
      exact law_case_21 C0 hZ hX hbl hc1 hc2 hL hi h6 hI hJ hT hP hD hS hl next
    · refine k_topi (y := 22) (ej.trans (by decide)) ?_
      refine lv_tableIn (off := 715) (tgt := 748) hx hb dL_law_33 (by decide) (by decide) (by decide) (by decide) ?_
      exact law_case_22 C0 hZ hX hbl hc1 hc2 hL hi h6 hI hJ hT hP hD hS hl next
    · refine k_topi (y := 23) (ej.trans (by decide)) ?_
      refine lv_tableIn (off := 738) (tgt := 771) hx hb dL_law_33 (by decide) (by decide) (by decide) (by decide) ?_
      exact law_case_23 C0 hZ hX hbl hc1 hc2 hL hi h6 hI hJ hT hP hD hS hl next
    · refine k_topi (y := 24) (ej.trans (by decide)) ?_
      refine lv_tableIn (off := 761) (tgt := 794) hx hb dL_law_33 (by decide) (by decide) (by decide) (by decide) ?_
      exact law_case_24 C0 hZ hX hbl hc1 hc2 hL hi h6 hI hJ hT hP hD hS hl next
    · refine k_topi (y := 25) (ej.trans (by decide)) ?_
      refine lv_tableIn (off := 774) (tgt := 807) hx hb dL_law_33 (by decide) (by decide) (by decide) (by decide) ?_
      exact law_case_25 C0 hZ hX hbl hc1 hc2 hL hi h6 hI hJ hT hP hD hS hl next
    · refine k_topi (y := 26) (ej.trans (by decide)) ?_
      refine lv_tableIn (off := 797) (tgt := 830) hx hb dL_law_33 (by decide) (by decide) (by decide) (by decide) ?_
      exact law_case_26 C0 hZ hX hbl hc1 hc2 hL hi h6 hI hJ hT hP hD hS hl next
    · refine k_topi (y := 27) (ej.trans (by decide)) ?_
      refine lv_tableIn (off := 810) (tgt := 843) hx hb dL_law_33 (by decide) (by decide) (by decide) (by decide) ?_
      exact law_case_27 C0 hZ hX hbl hc1 hc2 hL hi h6 hI hJ hT hP hD hS hl next
    · refine k_topi (y := 28) (ej.trans (by decide)) ?_
      refine lv_tableIn (off := 823) (tgt := 856) hx hb dL_law_33 (by decide) (by decide) (by decide) (by decide) ?_
      exact law_case_28 C0 hZ hX hbl hc1 hc2 hL hi h6 hI hJ hT hP hD hS hl next
    · refine k_topi (y := 29) (ej.trans (by decide)) ?_
      refine lv_tableIn (off := 846) (tgt := 879) hx hb dL_law_33 (by decide) (by decide) (by decide) (by decide) ?_
      exact law_case_29 C0 hZ hX hbl hc1 hc2 hL hi h6 hI hJ hT hP hD hS hl next
    · refine k_topi (y := 30) (ej.trans (by decide)) ?_
      refine lv_tableIn (off := 859) (tgt := 892) hx hb dL_law_33 (by decide) (by decide) (by decide) (by decide) ?_
      exact law_case_30 C0 hZ hX hbl hc1 hc2 hL hi h6 hI hJ hT hP hD hS hl next
    · refine k_topi (y := 31) (ej.trans (by decide)) ?_
      refine lv_tableOut (tgt := 915) hx hb dL_law_33 (by decide) (by decide) ?_
      exact next σ τ H locs hI hJ hT hP hD hS
set_option maxHeartbeats 4000000 in
set_option maxRecDepth 100000 in
/-- THE LAW, from its entry -/
theorem whole_start {p : Program} {e : Env} {s : State} {m : MethodId} {below : List Frame} {meth : Method} {c : Code} (l : Launch) (hflags : l.flags = flags0) {b L : Nat} {xs : Nat → Int32} (hL : L ≤ 3072) (C0 : lw_At p s m meth c b L xs) : W p l e room_1 s m #[Value.ref b] below meth c s.heap [] 0 0 (lw_Z below #[Value.ref b] s) (entryFrame m ([Value.ref b] : List Value).toArray 4) := by
  obtain ⟨hx, hb, hr, hml, hown, hts, hX, hbl, hlk, hgv⟩ := C0
  have hA : ∀ q : Nat, s.heap.size ≤ q → (fun q : Nat => s.heap.size ≤ q) q := fun _ h => h
  have hbA : ¬ (fun q : Nat => s.heap.size ≤ q) b := Nat.not_le.mpr hbl
  obtain ⟨dC, dI, cy, sq, hK, hZ⟩ := law_K hts hgv
  have C0 : k_cx p s m #[Value.ref b] c code 4 RL dC dI cy sq := ⟨hx, hb, hml, hown, fun w h => hts w (wsL_law_in w h), hK⟩
  have hS : va_S (fun q : Nat => s.heap.size ≤ q) s.heap s.heap [] := va_S.rf
  have hP : va_P (dC, dI) vwCl [] s.heap := fun k q h => by simp at h
  have hD : va_D (fun q : Nat => s.heap.size ≤ q) [] := ⟨fun i j p q h => by simp at h, fun k q h => by simp at h⟩
  have hl := lv_entry ([.ref b]) (n := 4) (Nat.le_of_ble_eq_true rfl)
  rw [lg_entry_eq]
  generalize (lg_sl ([.ref b]) ++ List.replicate (4 - (lg_sl ([.ref b])).length) Slot.unset).toArray = ls at hl ⊢
  have hl : lv_has ls 4 [(0, .ref b)] := hl
  refine k_new C0 n_L_7 hP hD hS hA 1 16 (Nat.le_of_ble_eq_true rfl) (Nat.le_of_ble_eq_true rfl) (Nat.le_of_ble_eq_true rfl) (Nat.le_of_ble_eq_true rfl) dL_law_0 (fun x0 H hP hD hS => ?_)
  have hP : va_P (dC, dI) vwCl ([(x0, .inr (9, [.null, .int 0, .null, .null, .null, .null, .null, .null, .null, .null, .null, .null, .null, .int 0, .null, .long 0]))] ++ []) H := hP
  have hD : va_D (fun q : Nat => s.heap.size ≤ q) ([(x0, .inr (9, [.null, .int 0, .null, .null, .null, .null, .null, .null, .null, .null, .null, .null, .null, .int 0, .null, .long 0]))] ++ []) := hD
  refine lv_dup hx hb dL_law_3 rfl ?_
  refine jw_v hP hD hS hA 90 11657 (Nat.le_of_ble_eq_true rfl) (Nat.le_of_ble_eq_true rfl) (fun hPc hDc => k_runI (As := []) (rest := [.ref x0]) C0 hZ hS hA (c_X9_init l dC dI cy sq x0) mI_L_9 hPc hDc hl rfl rfl (Nat.le_of_ble_eq_true rfl) ⟨(Nat.le_of_ble_eq_true rfl), (Nat.le_of_ble_eq_true rfl)⟩ ⟨(Nat.le_of_ble_eq_true rfl), (Nat.le_of_ble_eq_true rfl)⟩ dL_law_4) (fun u H locs hw hP hD hS => ?_)
  have hP : va_P (dC, dI) vwCl (wXx cy x0 (lf_n ((u 0) :: (u 1) :: (u 13) :: (u 14) :: (u 15) :: (u 16) :: (u 17) :: (u 18) :: (u 19) :: (u 20) :: (u 21) :: (u 2) :: (u 22) :: (u 23) :: (u 24) :: (u 25) :: (u 26) :: (u 27) :: (u 28) :: (u 29) :: (u 30) :: (u 3) :: (u 31) :: (u 4) :: (u 32) :: (u 5) :: (u 73) :: (u 74) :: (u 2) :: (u 6) :: (u 7) :: (u 75) :: (u 76) :: (u 77) :: (u 78) :: (u 79) :: (u 80) :: (u 8) :: (u 81) :: (u 9) :: (u 82) :: (u 85) :: (u 83) :: (u 84) :: (u 10) :: (u 86) :: (u 87) :: (u 88) :: (u 11) :: (u 12) :: [])) (fun k => [(u 33), (u 34), (u 35), (u 36), (u 37), (u 38), (u 39), (u 40), (u 41), (u 42), (u 43), (u 44), (u 45), (u 46), (u 47), (u 48), (u 49), (u 50), (u 51), (u 52)].getD k 0) (fun k => [(u 53), (u 54), (u 55), (u 56), (u 57), (u 58), (u 59), (u 60), (u 61), (u 62), (u 63), (u 64), (u 65), (u 66), (u 67), (u 68), (u 69), (u 70), (u 71), (u 72)].getD k 0) (lf_i (0 :: 0 :: 0 :: 0 :: 0 :: 0 :: 0 :: 0 :: 0 :: 0 :: 0 :: 0 :: 0 :: 0 :: 0 :: 0 :: 0 :: 0 :: 0 :: 0 :: 0 :: 0 :: 0 :: 0 :: 0 :: 0 :: 0 :: 0 :: 0 :: 0 :: (-1) :: (-1) :: (-1) :: 0 :: 0 :: 0 :: 0 :: 0 :: 0 :: 0 :: 0 :: 0 :: 0 :: 0 :: 0 :: 0 :: 0 :: 0 :: 0 :: (-1) :: (-1) :: (-1) :: 0 :: [])) 1 (lf_f ((fun _ => 0) :: (fun _ => 0) :: (fun _ => 0) :: (fun _ => 0) :: (fun _ => 0) :: (fun _ => 0) :: (fun _ => 0) :: (fun _ => 0) :: (fun _ => 0) :: (fun _ => 0) :: (fun _ => 0) :: (fun _ => 0) :: (fun _ => 0) :: (fun _ => 0) :: (fun _ => 0) :: (fun _ => 0) :: (fun _ => 0) :: (fun _ => 0) :: (fun _ => 0) :: (fun _ => 0) :: (fun _ => 0) :: (fun _ => 0) :: (fun _ => 0) :: (fun _ => 0) :: (fun _ => 0) :: (fun _ => 0) :: (fun _ => 0) :: (fun _ => 0) :: (fun _ => 0) :: (fun _ => 0) :: (fun _ => 0) :: (fun _ => 0) :: (fun _ => 0) :: (fun _ => 0) :: (fun _ => 0) :: (fun _ => 0) :: (fun _ => 0) :: [])) (fun _ => 0) (fun _ => 0) (fun _ => 0) (fun _ _ => 0) ++ []) H := hP.part [0, 1, 2, 3, 4, 5, 6, 7, 8, 9, 10, 11, 12, 13, 14, 15, 16, 17, 18, 19, 20, 21, 22, 23, 24, 25, 26, 27, 28, 29, 30, 31, 32, 33, 34, 35, 36, 37, 38, 39, 40, 41, 42, 43, 44, 45, 46, 47, 48, 49, 50, 51, 52, 53, 54, 55, 56, 57, 58, 59, 60, 61, 62, 63, 64, 65, 66, 67, 68, 69, 70, 71, 72, 73, 74, 75, 76, 77, 78, 79, 80, 81, 82, 83, 84, 85, 86, 87, 88, 89] rfl
  have hD : va_D (fun q : Nat => s.heap.size ≤ q) (wXx cy x0 (lf_n ((u 0) :: (u 1) :: (u 13) :: (u 14) :: (u 15) :: (u 16) :: (u 17) :: (u 18) :: (u 19) :: (u 20) :: (u 21) :: (u 2) :: (u 22) :: (u 23) :: (u 24) :: (u 25) :: (u 26) :: (u 27) :: (u 28) :: (u 29) :: (u 30) :: (u 3) :: (u 31) :: (u 4) :: (u 32) :: (u 5) :: (u 73) :: (u 74) :: (u 2) :: (u 6) :: (u 7) :: (u 75) :: (u 76) :: (u 77) :: (u 78) :: (u 79) :: (u 80) :: (u 8) :: (u 81) :: (u 9) :: (u 82) :: (u 85) :: (u 83) :: (u 84) :: (u 10) :: (u 86) :: (u 87) :: (u 88) :: (u 11) :: (u 12) :: [])) (fun k => [(u 33), (u 34), (u 35), (u 36), (u 37), (u 38), (u 39), (u 40), (u 41), (u 42), (u 43), (u 44), (u 45), (u 46), (u 47), (u 48), (u 49), (u 50), (u 51), (u 52)].getD k 0) (fun k => [(u 53), (u 54), (u 55), (u 56), (u 57), (u 58), (u 59), (u 60), (u 61), (u 62), (u 63), (u 64), (u 65), (u 66), (u 67), (u 68), (u 69), (u 70), (u 71), (u 72)].getD k 0) (lf_i (0 :: 0 :: 0 :: 0 :: 0 :: 0 :: 0 :: 0 :: 0 :: 0 :: 0 :: 0 :: 0 :: 0 :: 0 :: 0 :: 0 :: 0 :: 0 :: 0 :: 0 :: 0 :: 0 :: 0 :: 0 :: 0 :: 0 :: 0 :: 0 :: 0 :: (-1) :: (-1) :: (-1) :: 0 :: 0 :: 0 :: 0 :: 0 :: 0 :: 0 :: 0 :: 0 :: 0 :: 0 :: 0 :: 0 :: 0 :: 0 :: 0 :: (-1) :: (-1) :: (-1) :: 0 :: [])) 1 (lf_f ((fun _ => 0) :: (fun _ => 0) :: (fun _ => 0) :: (fun _ => 0) :: (fun _ => 0) :: (fun _ => 0) :: (fun _ => 0) :: (fun _ => 0) :: (fun _ => 0) :: (fun _ => 0) :: (fun _ => 0) :: (fun _ => 0) :: (fun _ => 0) :: (fun _ => 0) :: (fun _ => 0) :: (fun _ => 0) :: (fun _ => 0) :: (fun _ => 0) :: (fun _ => 0) :: (fun _ => 0) :: (fun _ => 0) :: (fun _ => 0) :: (fun _ => 0) :: (fun _ => 0) :: (fun _ => 0) :: (fun _ => 0) :: (fun _ => 0) :: (fun _ => 0) :: (fun _ => 0) :: (fun _ => 0) :: (fun _ => 0) :: (fun _ => 0) :: (fun _ => 0) :: (fun _ => 0) :: (fun _ => 0) :: (fun _ => 0) :: (fun _ => 0) :: [])) (fun _ => 0) (fun _ => 0) (fun _ => 0) (fun _ _ => 0) ++ []) := hD.part [0, 1, 2, 3, 4, 5, 6, 7, 8, 9, 10, 11, 12, 13, 14, 15, 16, 17, 18, 19, 20, 21, 22, 23, 24, 25, 26, 27, 28, 29, 30, 31, 32, 33, 34, 35, 36, 37, 38, 39, 40, 41, 42, 43, 44, 45, 46, 47, 48, 49, 50, 51, 52, 53, 54, 55, 56, 57, 58, 59, 60, 61, 62, 63, 64, 65, 66, 67, 68, 69, 70, 71, 72, 73, 74, 75, 76, 77, 78, 79, 80, 81, 82, 83, 84, 85, 86, 87, 88, 89] (by decide +kernel) rfl
  have hI : IX ((lf_n ((u 0) :: (u 1) :: (u 13) :: (u 14) :: (u 15) :: (u 16) :: (u 17) :: (u 18) :: (u 19) :: (u 20) :: (u 21) :: (u 2) :: (u 22) :: (u 23) :: (u 24) :: (u 25) :: (u 26) :: (u 27) :: (u 28) :: (u 29) :: (u 30) :: (u 3) :: (u 31) :: (u 4) :: (u 32) :: (u 5) :: (u 73) :: (u 74) :: (u 2) :: (u 6) :: (u 7) :: (u 75) :: (u 76) :: (u 77) :: (u 78) :: (u 79) :: (u 80) :: (u 8) :: (u 81) :: (u 9) :: (u 82) :: (u 85) :: (u 83) :: (u 84) :: (u 10) :: (u 86) :: (u 87) :: (u 88) :: (u 11) :: (u 12) :: [])), (fun k => [(u 33), (u 34), (u 35), (u 36), (u 37), (u 38), (u 39), (u 40), (u 41), (u 42), (u 43), (u 44), (u 45), (u 46), (u 47), (u 48), (u 49), (u 50), (u 51), (u 52)].getD k 0), (fun k => [(u 53), (u 54), (u 55), (u 56), (u 57), (u 58), (u 59), (u 60), (u 61), (u 62), (u 63), (u 64), (u 65), (u 66), (u 67), (u 68), (u 69), (u 70), (u 71), (u 72)].getD k 0), (lf_i (0 :: 0 :: 0 :: 0 :: 0 :: 0 :: 0 :: 0 :: 0 :: 0 :: 0 :: 0 :: 0 :: 0 :: 0 :: 0 :: 0 :: 0 :: 0 :: 0 :: 0 :: 0 :: 0 :: 0 :: 0 :: 0 :: 0 :: 0 :: 0 :: 0 :: (-1) :: (-1) :: (-1) :: 0 :: 0 :: 0 :: 0 :: 0 :: 0 :: 0 :: 0 :: 0 :: 0 :: 0 :: 0 :: 0 :: 0 :: 0 :: 0 :: (-1) :: (-1) :: (-1) :: 0 :: [])), 1, (lf_f ((fun _ => 0) :: (fun _ => 0) :: (fun _ => 0) :: (fun _ => 0) :: (fun _ => 0) :: (fun _ => 0) :: (fun _ => 0) :: (fun _ => 0) :: (fun _ => 0) :: (fun _ => 0) :: (fun _ => 0) :: (fun _ => 0) :: (fun _ => 0) :: (fun _ => 0) :: (fun _ => 0) :: (fun _ => 0) :: (fun _ => 0) :: (fun _ => 0) :: (fun _ => 0) :: (fun _ => 0) :: (fun _ => 0) :: (fun _ => 0) :: (fun _ => 0) :: (fun _ => 0) :: (fun _ => 0) :: (fun _ => 0) :: (fun _ => 0) :: (fun _ => 0) :: (fun _ => 0) :: (fun _ => 0) :: (fun _ => 0) :: (fun _ => 0) :: (fun _ => 0) :: (fun _ => 0) :: (fun _ => 0) :: (fun _ => 0) :: (fun _ => 0) :: [])), (fun _ => 0), (fun _ => 0), (fun _ => 0), (fun _ _ => 0)) := And.intro (ia_0 1600 (by decide)) (And.intro (ib_c 0 0 1600 (by decide)) (And.intro (ib_c 0 0 120 (by decide)) (And.intro (ib_c 0 0 99 (by decide)) (And.intro (ib_c 0 0 81 (by decide)) (And.intro (ib_c 0 0 6 (by decide)) (And.intro (ib_c 0 0 12 (by decide)) (And.intro (ia_0 12 (by decide)) (And.intro (ia_0 12 (by decide)) (And.intro (ib_c 0 0 1600 (by decide)) (And.intro (ia_0 6 (by decide)) (And.intro (ib_c 0 0 120 (by decide)) (And.intro (ib_c 0 0 99 (by decide)) (And.intro (ib_c 0 0 81 (by decide)) (And.intro (ib_c 0 0 6 (by decide)) (And.intro (ib_c 0 0 12 (by decide)) (And.intro (ia_0 12 (by decide)) (And.intro (ia_0 12 (by decide)) (And.intro (ib_c 0 0 1600 (by decide)) (And.intro (ia_0 6 (by decide)) (And.intro (ib_c 0 0 19 (by decide)) (And.intro (ib_c 0 0 20 (by decide)) (And.intro (ib_c 0 0 1600 (by decide)) (And.intro (ib_c 0 0 1600 (by decide)) (And.intro (ib_c 0 0 1600 (by decide)) (And.intro (ib_c 0 0 4 (by decide)) (And.intro (fun q => absurd rfl q) (And.intro (ib_c 0 0 1 (by decide)) (And.intro (ib_c 0 0 1 (by decide)) (And.intro (ib_c 0 0 30 (by decide)) (And.intro (ia_0 16 (by decide)) (And.intro (ib_c 0 0 16 (by decide)) (And.intro (ib_c 0 0 1 (by decide)) (And.intro (ib_c 0 0 60 (by decide)) (ib_c 0 0 11 (by decide)))))))))))))))))))))))))))))))))))
  obtain ⟨σ, eσ⟩ : ∃ σ : XS, σ = ((lf_n ((u 0) :: (u 1) :: (u 13) :: (u 14) :: (u 15) :: (u 16) :: (u 17) :: (u 18) :: (u 19) :: (u 20) :: (u 21) :: (u 2) :: (u 22) :: (u 23) :: (u 24) :: (u 25) :: (u 26) :: (u 27) :: (u 28) :: (u 29) :: (u 30) :: (u 3) :: (u 31) :: (u 4) :: (u 32) :: (u 5) :: (u 73) :: (u 74) :: (u 2) :: (u 6) :: (u 7) :: (u 75) :: (u 76) :: (u 77) :: (u 78) :: (u 79) :: (u 80) :: (u 8) :: (u 81) :: (u 9) :: (u 82) :: (u 85) :: (u 83) :: (u 84) :: (u 10) :: (u 86) :: (u 87) :: (u 88) :: (u 11) :: (u 12) :: [])), (fun k => [(u 33), (u 34), (u 35), (u 36), (u 37), (u 38), (u 39), (u 40), (u 41), (u 42), (u 43), (u 44), (u 45), (u 46), (u 47), (u 48), (u 49), (u 50), (u 51), (u 52)].getD k 0), (fun k => [(u 53), (u 54), (u 55), (u 56), (u 57), (u 58), (u 59), (u 60), (u 61), (u 62), (u 63), (u 64), (u 65), (u 66), (u 67), (u 68), (u 69), (u 70), (u 71), (u 72)].getD k 0), (lf_i (0 :: 0 :: 0 :: 0 :: 0 :: 0 :: 0 :: 0 :: 0 :: 0 :: 0 :: 0 :: 0 :: 0 :: 0 :: 0 :: 0 :: 0 :: 0 :: 0 :: 0 :: 0 :: 0 :: 0 :: 0 :: 0 :: 0 :: 0 :: 0 :: 0 :: (-1) :: (-1) :: (-1) :: 0 :: 0 :: 0 :: 0 :: 0 :: 0 :: 0 :: 0 :: 0 :: 0 :: 0 :: 0 :: 0 :: 0 :: 0 :: 0 :: (-1) :: (-1) :: (-1) :: 0 :: [])), 1, (lf_f ((fun _ => 0) :: (fun _ => 0) :: (fun _ => 0) :: (fun _ => 0) :: (fun _ => 0) :: (fun _ => 0) :: (fun _ => 0) :: (fun _ => 0) :: (fun _ => 0) :: (fun _ => 0) :: (fun _ => 0) :: (fun _ => 0) :: (fun _ => 0) :: (fun _ => 0) :: (fun _ => 0) :: (fun _ => 0) :: (fun _ => 0) :: (fun _ => 0) :: (fun _ => 0) :: (fun _ => 0) :: (fun _ => 0) :: (fun _ => 0) :: (fun _ => 0) :: (fun _ => 0) :: (fun _ => 0) :: (fun _ => 0) :: (fun _ => 0) :: (fun _ => 0) :: (fun _ => 0) :: (fun _ => 0) :: (fun _ => 0) :: (fun _ => 0) :: (fun _ => 0) :: (fun _ => 0) :: (fun _ => 0) :: (fun _ => 0) :: (fun _ => 0) :: [])), (fun _ => 0), (fun _ => 0), (fun _ => 0), (fun _ _ => 0)) := ⟨_, rfl⟩
  have hI : IX σ := by rw [eσ]; exact hI
  have hP : va_P (dC, dI) vwCl ([] ++ wX cy x0 σ) H := by
    rw [eσ]
    intro k q hq
    exact hP k q (by rw [List.append_nil]; exact hq)
  have hD : va_D (fun q : Nat => s.heap.size ≤ q) ([] ++ wX cy x0 σ) := by
    rw [eσ]
    rw [List.append_nil] at hD
    exact hD
  have hT0 : σ.2.2.2.1 0 = 0 := by rw [eσ]; rfl
  have hTg : σ.2.2.2.2.2.1 0 = (fun _ => 0) := by rw [eσ]; rfl
  have hTk5 : σ.2.2.2.1 7 = 0 := by rw [eσ]; rfl
  have hTw5 : σ.2.2.2.1 8 = 0 := by rw [eσ]; rfl
  have hTc5 : σ.2.2.2.1 1 = 0 := by rw [eσ]; rfl
  clear eσ
  refine lv_astore_n (lv' := [(1, .ref x0), (0, .ref b)]) hx hb dL_law_7 rfl hl (by decide) rfl (fun ls hl => ?_)
  refine k_new C0 n_L_10 hP hD hS hA 91 11779 (Nat.le_of_ble_eq_true rfl) (Nat.le_of_ble_eq_true rfl) (Nat.le_of_ble_eq_true rfl) (Nat.le_of_ble_eq_true rfl) dL_law_8 (fun m0 H hP hD hS => ?_)
  have hP : va_P (dC, dI) vwCl ([(m0, .inr (10, (.null :: .int 0 :: .int 0 :: .int 0 :: .int 0 :: .int 0 :: .int 0 :: .int 0 :: .int 0 :: .null :: .null :: .null :: .null :: .null :: .null :: .null :: .null :: .null :: .null :: .null :: .null :: .null :: .null :: .null :: .null :: .null :: .null :: .null :: .null :: .null :: .null :: .null :: .null :: .null :: .null :: .null :: .null :: .null :: .null :: .null :: .int 0 :: .null :: .null :: .null :: .null :: .null :: .null :: .int 0 :: .int 0 :: .null :: .null :: .null :: .int 0 :: .int 0 :: .int 0 :: .int 0 :: .null :: .null :: .int 0 :: .int 0 :: .null :: .null :: .null :: .null :: .null :: .null :: .null :: .null :: .null :: .null :: .int 0 :: .int 0 :: .int 0 :: .int 0 :: .int 0 :: .int 0 :: .null :: .null :: .int 0 :: .int 0 :: .int 0 :: .null :: .int 0 :: .int 0 :: .long 0 :: .null :: .null :: .null :: .null :: .null :: .null :: .null :: .null :: .null :: .null :: .null :: .null :: .null :: .null :: .null :: .null :: .null :: .null :: .null :: .null :: .null :: .null :: .null :: .null :: .null :: .null :: .int 0 :: .null :: .int 0 :: .int 0 :: .int 0 :: .null :: .int 0 :: .long 0 :: .int 0 :: .null :: .int 0 :: [])))] ++ wX cy x0 σ) H := va_P.swap hP
  have hD : va_D (fun q : Nat => s.heap.size ≤ q) ([(m0, .inr (10, (.null :: .int 0 :: .int 0 :: .int 0 :: .int 0 :: .int 0 :: .int 0 :: .int 0 :: .int 0 :: .null :: .null :: .null :: .null :: .null :: .null :: .null :: .null :: .null :: .null :: .null :: .null :: .null :: .null :: .null :: .null :: .null :: .null :: .null :: .null :: .null :: .null :: .null :: .null :: .null :: .null :: .null :: .null :: .null :: .null :: .null :: .int 0 :: .null :: .null :: .null :: .null :: .null :: .null :: .int 0 :: .int 0 :: .null :: .null :: .null :: .int 0 :: .int 0 :: .int 0 :: .int 0 :: .null :: .null :: .int 0 :: .int 0 :: .null :: .null :: .null :: .null :: .null :: .null :: .null :: .null :: .null :: .null :: .int 0 :: .int 0 :: .int 0 :: .int 0 :: .int 0 :: .int 0 :: .null :: .null :: .int 0 :: .int 0 :: .int 0 :: .null :: .int 0 :: .int 0 :: .long 0 :: .null :: .null :: .null :: .null :: .null :: .null :: .null :: .null :: .null :: .null :: .null :: .null :: .null :: .null :: .null :: .null :: .null :: .null :: .null :: .null :: .null :: .null :: .null :: .null :: .null :: .null :: .int 0 :: .null :: .int 0 :: .int 0 :: .int 0 :: .null :: .int 0 :: .long 0 :: .int 0 :: .null :: .int 0 :: [])))] ++ wX cy x0 σ) := va_D.swap hD
  refine lv_dup hx hb dL_law_11 rfl ?_
  refine jw_v hP hD hS hA 176 24312 (Nat.le_of_ble_eq_true rfl) (Nat.le_of_ble_eq_true rfl) (fun hPc hDc => k_runI (As := []) (rest := [.ref m0]) C0 hZ hS hA (c_X10_init l dC dI cy sq m0) mI_L_12 hPc hDc hl rfl rfl (Nat.le_of_ble_eq_true rfl) ⟨(Nat.le_of_ble_eq_true rfl), (Nat.le_of_ble_eq_true rfl)⟩ ⟨(Nat.le_of_ble_eq_true rfl), (Nat.le_of_ble_eq_true rfl)⟩ dL_law_12) (fun τ H locs hJ hP hD hS => ?_)
  have hT : LT5 (σ.2.2.2.1 0) (σ.2.2.2.2.2.1 0) (σ.2.2.2.1 7) (σ.2.2.2.1 8) (σ.2.2.2.1 1) (σ.2.2.2.2.2.1 7) (τ.2.1 0) (τ.2.2.2.1 0) τ.2.2.2.1 (τ.2.2.2.1 32) (τ.2.2.2.1 33) (τ.2.2.2.2 0) (τ.2.1 13) := ⟨⟨hT0.trans hJ.2.1.symm, by rw [hTg, hJ.2.2.1], hJ.2.2.2.1⟩, sp5_0 hTk5 hTw5 hTc5 hJ.2.2.2.2.1 hJ.2.2.2.2.2.1 hJ.2.2.2.2.2.2⟩
  have hJ := hJ.1
  have hP := jw_swP hP
  have hD := jw_swD hD
  refine lv_astore_n (lv' := [(2, .ref m0), (1, .ref x0), (0, .ref b)]) hx hb dL_law_15 rfl hl (by decide) rfl (fun ls hl => ?_)
  refine lv_iconst (v := 0) hx hb dL_law_16 (by decide) ?_
  refine lv_istore_n (lv' := [(3, .int 0), (2, .ref m0), (1, .ref x0), (0, .ref b)]) hx hb dL_law_17 rfl hl (by decide) rfl (fun ls hl => ?_)
  exact law_loop (cells := 176) (slots := 24312) C0 hZ hX hbl (Nat.le_of_ble_eq_true rfl) (Nat.le_of_ble_eq_true rfl) hr hlk hL 512 (by decide) (by decide) (by have e0 : (0 : Int32).toInt = 0 := (by decide); omega) hI hJ hT hP hD hS hl
