section
/-! calls -/
/-! calls by contract, the world split and joined in one row -/
abbrev k_Qi {S : Type} (dC : Nat → ClassId) (dI : Nat → Nat → Nat) (post : Int32 → S → Prop) (B : S → va_W) : (Nat → Prop) → Array Value → State → Outcome → State → Prop := fun A => va_Qi post (k_B dC dI A B) A
abbrev k_Ql {S : Type} (dC : Nat → ClassId) (dI : Nat → Nat → Nat) (post : Int64 → S → Prop) (B : S → va_W) : (Nat → Prop) → Array Value → State → Outcome → State → Prop := fun A => va_Ql post (k_B dC dI A B) A
abbrev k_Qv {S : Type} (dC : Nat → ClassId) (dI : Nat → Nat → Nat) (post : S → Prop) (B : S → va_W) : (Nat → Prop) → Array Value → State → Outcome → State → Prop := fun A => va_Qv post (k_B dC dI A B) A
/-- a contract -/
def k_Met (l : Launch) (y : MethodName) (bytes : ByteArray) (maxL : Nat) (ret : Option FieldType) (rm : Room) (dC : Nat → ClassId) (dI : Nat → Nat → Nat) (cy : Nat → ClassId) (sq : Nat → Nat) (av : List Value) (wc : va_W) (Qc : (Nat → Prop) → Array Value → State → Outcome → State → Prop) : Prop :=
  ∀ sz : Nat, Met l y (Cond.code y bytes maxL ret :: wsL_law) rm (va_Pc av (k_Pre dC dI cy sq sz wc)) (Qc (va_A wc sz)) rm.cells rm.slots (va_A wc sz)
theorem k_P_sub {D : va_G} {cl : List vw_C} {ws wc : va_W} {H : Heap} (hP : va_P D cl ws H) (is : List Nat) (hC : is.map (fun i => ws[i]?) = wc.map some) : va_P D cl wc H := by
  intro k q hq
  have h1 : (is.map (fun i => ws[i]?))[k]? = some (some q) := by rw [hC, List.getElem?_map, hq]; rfl
  rw [List.getElem?_map] at h1
  cases hi : is[k]? with
  | none => rw [hi] at h1; cases h1
  | some i => rw [hi] at h1; exact hP i q (Option.some.inj h1)
section KC
variable {p : Program} {l : Launch} {e : Env} {R : Room} {s : State} {m : MethodId} {args : Array Value} {below : List Frame} {meth : Method} {c : Code} {H : Heap} {locs : List Loc} {cells slots : Nat} {Q : State → Prop}
variable {cc : ByteArray} {pc : Nat} {ls : Array Slot} {rest st0 : List Value} {A : Nat → Prop} {ws : va_W} {H0 : Heap} {nL : Nat} {own : String} {dC : Nat → ClassId} {dI : Nat → Nat → Nat} {cy : Nat → ClassId} {sq : Nat → Nat}
variable {y : MethodName} {bytes : ByteArray} {maxL n index mc ms : Nat} {ret : Option FieldType} {rm : Room} {C host : String} {b : Nat} {As av : List Value} {wc wr : va_W} {S : Type} {Qc : (Nat → Prop) → Array Value → State → Outcome → State → Prop}
theorem k_preS (C0 : k_cx p s m args c cc nL own dC dI cy sq) (hZ : k_Z sq A s s.heap) (hS : va_S A s.heap H locs) (hA : ∀ q, s.heap.size ≤ q → A q) (hP : va_P (dC, dI) vwCl wc H) (hD : va_D A wc) : PreS s H (va_Pc av (k_Pre dC dI cy sq H.size wc)) av :=
  ⟨fun a U g mk q => ⟨q.1, q.2.1, q.2.2.1, q.2.2.2.1.calling, q.2.2.2.2.1, k_Z.moved (u := U) (U := U.calling g mk a) (Vm.Alike.refl U.vm) q.2.2.2.2.2⟩, fun U hU hW => ⟨rfl, by rw [hU], by rw [hU]; exact hP, C0.2.2.2.2.2.warm hW, hD.weaken (fun _ _ _ _ => trivial), by rw [hU]; exact ((hZ.kept hS.2.1).narrow (fun q h => h.elim (fun ⟨k, e, h⟩ => hD.2 k (q, e) h) (fun h => hA q (Nat.le_trans hS.1 h)))).moved hW.alike⟩⟩
theorem k_runV (C0 : k_cx p s m args c cc nL own dC dI cy sq) (hZ : k_Z sq A s s.heap) (hS : va_S A s.heap H locs) (hA : ∀ q, s.heap.size ≤ q → A q) (hM : k_Met l y bytes maxL ret rm dC dI cy sq (.ref b :: As) wc Qc) (hm : k_mv own index C y bytes maxL ret n) (hP : va_P (dC, dI) vwCl wc H) (hD : va_D A wc) {ci : Nat} {cq : vw_C} {fs : List Value} (hci : vwCl[ci]? = some cq) (hcq : cq.1 = C) (hrv : wc[0]? = some (b, .inr (ci, fs))) {lv : List (Nat × Value)} (hl : lv_has ls nL lv) (hn : As.length = n) (hst : st0 = As.reverse ++ .ref b :: rest) (hrest : (rest.map fun v => v.category).sum ≤ 8) (hR : rm.frames + 1 ≤ R.frames ∧ 8 + (maxL + 11) + rm.locals ≤ R.locals) (hf : cells + rm.cells ≤ R.cells ∧ slots + rm.slots ≤ R.slots) (hdg : decode cc pc = .ok (.invokevirtual index, 3)) :
    va_Run p l e R s m args below meth c H locs cells slots rm.cells rm.slots (F0 m pc ls st0) rest (Qc (va_A wc H.size) (Value.ref b :: As).toArray) (va_A wc H.size) := by
  have C1 := C0
  obtain ⟨hx, hb, hml, hown, hts, hK⟩ := C1
  obtain ⟨m1, m2, m3, m4, m5, m6, m7⟩ := hm
  subst m6
  subst hst
  have hr := va_recv hK.1 hP hci hrv
  rw [hcq] at hr
  have hps := k_preS (av := .ref b :: As) C0 hZ hS hA hP hD
  exact va_runV (n := n) (index := index) (bytes := bytes) (maxL := maxL) (ret := ret) (As := As) (rest := rest) ⟨hx, hb, hml, hown, hts⟩ (hM H.size) ⟨callB_of n hts (k_goodC m5) rfl rfl rfl (hts _ m4) (hts _ m1) m7 hR, hts _ m2, hts _ m3⟩ ⟨hps.1, hr, hps.2⟩ rfl hn hl.1 rfl (lv_room hrest) hdg hf
/-- the same, its receiver outside of the world -/
theorem k_runVO (C0 : k_cx p s m args c cc nL own dC dI cy sq) (hZ : k_Z sq A s s.heap) (hS : va_S A s.heap H locs) (hA : ∀ q, s.heap.size ≤ q → A q) (hM : k_Met l y bytes maxL ret rm dC dI cy sq (.ref b :: As) wc Qc) (hm : k_mv own index C y bytes maxL ret n) (hP : va_P (dC, dI) vwCl wc H) (hD : va_D A wc) (hr : ∃ cell : Cell, H[b]? = some cell ∧ cell.vm.isStatics = false ∧ s.vm.findClass C = some cell.cls) {lv : List (Nat × Value)} (hl : lv_has ls nL lv) (hn : As.length = n) (hst : st0 = As.reverse ++ .ref b :: rest) (hrest : (rest.map fun v => v.category).sum ≤ 8) (hR : rm.frames + 1 ≤ R.frames ∧ 8 + (maxL + 11) + rm.locals ≤ R.locals) (hf : cells + rm.cells ≤ R.cells ∧ slots + rm.slots ≤ R.slots) (hdg : decode cc pc = .ok (.invokevirtual index, 3)) :
    va_Run p l e R s m args below meth c H locs cells slots rm.cells rm.slots (F0 m pc ls st0) rest (Qc (va_A wc H.size) (Value.ref b :: As).toArray) (va_A wc H.size) := by
  have C1 := C0
  obtain ⟨hx, hb, hml, hown, hts, hK⟩ := C1
  obtain ⟨m1, m2, m3, m4, m5, m6, m7⟩ := hm
  subst m6
  subst hst
  have hps := k_preS (av := .ref b :: As) C0 hZ hS hA hP hD
  exact va_runV (n := n) (index := index) (bytes := bytes) (maxL := maxL) (ret := ret) (As := As) (rest := rest) ⟨hx, hb, hml, hown, hts⟩ (hM H.size) ⟨callB_of n hts (k_goodC m5) rfl rfl rfl (hts _ m4) (hts _ m1) m7 hR, hts _ m2, hts _ m3⟩ ⟨hps.1, hr, hps.2⟩ rfl hn hl.1 rfl (lv_room hrest) hdg hf
theorem k_runI (C0 : k_cx p s m args c cc nL own dC dI cy sq) (hZ : k_Z sq A s s.heap) (hS : va_S A s.heap H locs) (hA : ∀ q, s.heap.size ≤ q → A q) (hM : k_Met l y bytes maxL none rm dC dI cy sq (.ref b :: As) wc Qc) (hm : k_mi own index y bytes maxL n) (hP : va_P (dC, dI) vwCl wc H) (hD : va_D A wc) {lv : List (Nat × Value)} (hl : lv_has ls nL lv) (hn : As.length = n) (hst : st0 = As.reverse ++ .ref b :: rest) (hrest : (rest.map fun v => v.category).sum ≤ 8) (hR : rm.frames + 1 ≤ R.frames ∧ 8 + (maxL + 11) + rm.locals ≤ R.locals) (hf : cells + rm.cells ≤ R.cells ∧ slots + rm.slots ≤ R.slots) (hdg : decode cc pc = .ok (.invokespecial index, 3)) :
    va_Run p l e R s m args below meth c H locs cells slots rm.cells rm.slots (F0 m pc ls st0) rest (Qc (va_A wc H.size) (Value.ref b :: As).toArray) (va_A wc H.size) := by
  have C1 := C0
  obtain ⟨hx, hb, hml, hown, hts, hK⟩ := C1
  obtain ⟨m1, m2, m3, m4, m5, m6⟩ := hm
  subst hst
  exact va_runI (n := n) (index := index) (bytes := bytes) (maxL := maxL) (As := As) (rest := rest) ⟨hx, hb, hml, hown, hts⟩ (hM H.size) ⟨callB_of n hts (k_goodC m4) rfl rfl rfl (hts _ m3) (hts _ m1) m6 hR, m5, hts _ m2⟩ (k_preS (av := .ref b :: As) C0 hZ hS hA hP hD) rfl hn hl.1 rfl (lv_room hrest) hdg hf
theorem k_runN (C0 : k_cx p s m args c cc nL own dC dI cy sq) (hZ : k_Z sq A s s.heap) (hS : va_S A s.heap H locs) (hA : ∀ q, s.heap.size ≤ q → A q) (hM : k_Met l y bytes maxL none rm dC dI cy sq (.ref b :: As) wc Qc) (hm : k_mn y bytes maxL n) (hlk : va_Nw (.methodLinkNest own index y host) s) (hP : va_P (dC, dI) vwCl wc H) (hD : va_D A wc) {lv : List (Nat × Value)} (hl : lv_has ls nL lv) (hn : As.length = n) (hst : st0 = As.reverse ++ .ref b :: rest) (hrest : (rest.map fun v => v.category).sum ≤ 8) (hR : rm.frames + 1 ≤ R.frames ∧ 8 + (maxL + 11) + rm.locals ≤ R.locals) (hf : cells + rm.cells ≤ R.cells ∧ slots + rm.slots ≤ R.slots) (hdg : decode cc pc = .ok (.invokespecial index, 3)) :
    va_Run p l e R s m args below meth c H locs cells slots rm.cells rm.slots (F0 m pc ls st0) rest (Qc (va_A wc H.size) (Value.ref b :: As).toArray) (va_A wc H.size) := by
  have C1 := C0
  obtain ⟨hx, hb, hml, hown, hts, hK⟩ := C1
  obtain ⟨m2, m3, m4, m5, m6⟩ := hm
  subst hst
  exact va_runIN (n := n) (index := index) (bytes := bytes) (maxL := maxL) (host := host) (As := As) (rest := rest) ⟨hx, hb, hml, hown, hts⟩ (hM H.size) ⟨va_cnB n hts (k_goodC m4) rfl rfl rfl hlk (hts _ m3) m6 hR, m5, hts _ m2⟩ (k_preS (av := .ref b :: As) C0 hZ hS hA hP hD) rfl hn hl.1 rfl (lv_room hrest) hdg hf
theorem k_runS (C0 : k_cx p s m args c cc nL own dC dI cy sq) (hZ : k_Z sq A s s.heap) (hS : va_S A s.heap H locs) (hA : ∀ q, s.heap.size ≤ q → A q) (hM : k_Met l y bytes maxL ret rm dC dI cy sq As wc Qc) (hm : k_ms own index y bytes maxL ret n) (hP : va_P (dC, dI) vwCl wc H) (hD : va_D A wc) {lv : List (Nat × Value)} (hl : lv_has ls nL lv) (hn : As.length = n) (hst : st0 = As.reverse ++ rest) (hrest : (rest.map fun v => v.category).sum ≤ 8) (hR : rm.frames + 1 ≤ R.frames ∧ 8 + (maxL + 11) + rm.locals ≤ R.locals) (hf : cells + rm.cells ≤ R.cells ∧ slots + rm.slots ≤ R.slots) (hdg : decode cc pc = .ok (.invokestatic index, 3)) :
    va_Run p l e R s m args below meth c H locs cells slots rm.cells rm.slots (F0 m pc ls st0) rest (Qc (va_A wc H.size) As.toArray) (va_A wc H.size) := by
  have C1 := C0
  obtain ⟨hx, hb, hml, hown, hts, hK⟩ := C1
  obtain ⟨m1, m2, m3, m4, m6⟩ := hm
  subst hst
  exact va_runS (n := n) (index := index) (bytes := bytes) (maxL := maxL) (ret := ret) (As := As) (rest := rest) ⟨hx, hb, hml, hown, hts⟩ (hM H.size) ⟨callB_of n hts (k_goodC m4) rfl rfl rfl (hts _ m3) (hts _ m1) m6 hR, hts _ m2⟩ (k_preS (av := As) C0 hZ hS hA hP hD) rfl hn hl.1 rfl (lv_room hrest) hdg hf
/-- the world split by places, a call, the world joined: an int, a long, nothing comes back -/
theorem k_ji {post : Int32 → S → Prop} {B : S → va_W} {a : Array Value} (hP : va_P (dC, dI) vwCl ws H) (hD : va_D A ws) (hS : va_S A H0 H locs) (hA : ∀ q, H0.size ≤ q → A q) (isC isR : List Nat) (hC : isC.map (fun i => ws[i]?) = wc.map some) (hRr : isR.map (fun i => ws[i]?) = wr.map some) (hnC : va_nd isC = true) (hnR : va_nd isR = true) (hdis : ∀ i ∈ isR, i ∉ isC) (k j : Nat) (h1 : cells + mc ≤ k) (h2 : slots + ms ≤ j)
    (hr : va_P (dC, dI) vwCl wc H → va_D A wc → va_Run p l e R s m args below meth c H locs cells slots mc ms (F0 m pc ls st0) rest (k_Qi dC dI post B (va_A wc H.size) a) (va_A wc H.size))
    (kk : ∀ (r : Int32) (u : S) (H1 : Heap) (locs1 : List Loc), post r u → va_P (dC, dI) vwCl (wr ++ B u) H1 → va_D A (wr ++ B u) → va_S A H0 H1 locs1 → W p l e R s m args below meth c H1 locs1 k j Q (F0 m (pc + 3) ls (.int r :: rest))) : W p l e R s m args below meth c H locs cells slots Q (F0 m pc ls st0) := by
  have hFc := va_free (wc := wc) hD hS hA isC hC
  refine va_calli (hr (k_P_sub hP isC hC) (hD.sub isC hnC hC)) hS (fun q _ h => hFc q h) hFc (fun r u t H1 locs1 ht hvm hw hB hz hk hS1 => ?_)
  obtain ⟨hP1, hD1⟩ := hB
  rw [ht] at hP1
  obtain ⟨hP2, hD2⟩ := va_join hP hD isC isR hC hRr hnR hdis hk hFc hP1 hD1
  exact W.widen h1 h2 (kk r u H1 locs1 hw hP2 hD2 hS1)
theorem k_jl {post : Int64 → S → Prop} {B : S → va_W} {a : Array Value} (hP : va_P (dC, dI) vwCl ws H) (hD : va_D A ws) (hS : va_S A H0 H locs) (hA : ∀ q, H0.size ≤ q → A q) (isC isR : List Nat) (hC : isC.map (fun i => ws[i]?) = wc.map some) (hRr : isR.map (fun i => ws[i]?) = wr.map some) (hnC : va_nd isC = true) (hnR : va_nd isR = true) (hdis : ∀ i ∈ isR, i ∉ isC) (k j : Nat) (h1 : cells + mc ≤ k) (h2 : slots + ms ≤ j)
    (hr : va_P (dC, dI) vwCl wc H → va_D A wc → va_Run p l e R s m args below meth c H locs cells slots mc ms (F0 m pc ls st0) rest (k_Ql dC dI post B (va_A wc H.size) a) (va_A wc H.size))
    (kk : ∀ (r : Int64) (u : S) (H1 : Heap) (locs1 : List Loc), post r u → va_P (dC, dI) vwCl (wr ++ B u) H1 → va_D A (wr ++ B u) → va_S A H0 H1 locs1 → W p l e R s m args below meth c H1 locs1 k j Q (F0 m (pc + 3) ls (.long r :: rest))) : W p l e R s m args below meth c H locs cells slots Q (F0 m pc ls st0) := by
  have hFc := va_free (wc := wc) hD hS hA isC hC
  refine va_calll (hr (k_P_sub hP isC hC) (hD.sub isC hnC hC)) hS (fun q _ h => hFc q h) hFc (fun r u t H1 locs1 ht hvm hw hB hz hk hS1 => ?_)
  obtain ⟨hP1, hD1⟩ := hB
  rw [ht] at hP1
  obtain ⟨hP2, hD2⟩ := va_join hP hD isC isR hC hRr hnR hdis hk hFc hP1 hD1
  exact W.widen h1 h2 (kk r u H1 locs1 hw hP2 hD2 hS1)
theorem k_jv {post : S → Prop} {B : S → va_W} {a : Array Value} (hP : va_P (dC, dI) vwCl ws H) (hD : va_D A ws) (hS : va_S A H0 H locs) (hA : ∀ q, H0.size ≤ q → A q) (isC isR : List Nat) (hC : isC.map (fun i => ws[i]?) = wc.map some) (hRr : isR.map (fun i => ws[i]?) = wr.map some) (hnC : va_nd isC = true) (hnR : va_nd isR = true) (hdis : ∀ i ∈ isR, i ∉ isC) (k j : Nat) (h1 : cells + mc ≤ k) (h2 : slots + ms ≤ j)
    (hr : va_P (dC, dI) vwCl wc H → va_D A wc → va_Run p l e R s m args below meth c H locs cells slots mc ms (F0 m pc ls st0) rest (k_Qv dC dI post B (va_A wc H.size) a) (va_A wc H.size))
    (kk : ∀ (u : S) (H1 : Heap) (locs1 : List Loc), post u → va_P (dC, dI) vwCl (wr ++ B u) H1 → va_D A (wr ++ B u) → va_S A H0 H1 locs1 → W p l e R s m args below meth c H1 locs1 k j Q (F0 m (pc + 3) ls rest)) : W p l e R s m args below meth c H locs cells slots Q (F0 m pc ls st0) := by
  have hFc := va_free (wc := wc) hD hS hA isC hC
  refine va_callv (hr (k_P_sub hP isC hC) (hD.sub isC hnC hC)) hS (fun q _ h => hFc q h) hFc (fun u t H1 locs1 ht hvm hw hB hz hk hS1 => ?_)
  obtain ⟨hP1, hD1⟩ := hB
  rw [ht] at hP1
  obtain ⟨hP2, hD2⟩ := va_join hP hD isC isR hC hRr hnR hdis hk hFc hP1 hD1
  exact W.widen h1 h2 (kk u H1 locs1 hw hP2 hD2 hS1)
/-- a method's return -/
theorem k_iret (hx : p.tables.exec = Jvm.exec) (hb : c.code = cc) {ty : FieldType} (hr : meth.sig.returnType = some ty) (hlk : meth.locks = false) {post : Int32 → S → Prop} {B : S → va_W} {v : Int32} (hn : narrow ty (.int v) = .int v) (u : S) (hS : va_S A s.heap H locs) (hp : post v u) (hP : va_P (dC, dI) vwCl (B u) H) (hD : va_D A (B u)) (h1 : cells ≤ mc) (h2 : slots ≤ ms) (hdg : decode cc pc = .ok (.ireturn, 1)) :
    W p l e R s m args below meth c H locs cells slots (MQ below (k_Qi dC dI post B A) args s mc ms A) (F0 m pc ls [.int v]) :=
  W.widen h1 h2 (W.zret hx hb hr hn (fun t ht hW => ⟨⟨v, u, rfl, hp, by rw [ht]; exact hP, hD⟩, hS.F ht⟩) hS.2.2 hdg hlk)
theorem k_lret (hx : p.tables.exec = Jvm.exec) (hb : c.code = cc) (hr : meth.sig.returnType = some .long) (hlk : meth.locks = false) {post : Int64 → S → Prop} {B : S → va_W} {v : Int64} (u : S) (hS : va_S A s.heap H locs) (hp : post v u) (hP : va_P (dC, dI) vwCl (B u) H) (hD : va_D A (B u)) (h1 : cells ≤ mc) (h2 : slots ≤ ms) (hdg : decode cc pc = .ok (.lreturn, 1)) :
    W p l e R s m args below meth c H locs cells slots (MQ below (k_Ql dC dI post B A) args s mc ms A) (F0 m pc ls [.long v]) :=
  W.widen h1 h2 (W.lret hx hb hr (fun t ht hW => ⟨⟨v, u, rfl, hp, by rw [ht]; exact hP, hD⟩, hS.F ht⟩) hS.2.2 hdg hlk)
theorem k_vret (hx : p.tables.exec = Jvm.exec) (hb : c.code = cc) (hr : meth.sig.returnType = none) (hlk : meth.locks = false) {post : S → Prop} {B : S → va_W} (u : S) (hS : va_S A s.heap H locs) (hp : post u) (hP : va_P (dC, dI) vwCl (B u) H) (hD : va_D A (B u)) (h1 : cells ≤ mc) (h2 : slots ≤ ms) (hdg : decode cc pc = .ok (.return_, 1)) :
    W p l e R s m args below meth c H locs cells slots (MQ below (k_Qv dC dI post B A) args s mc ms A) (F0 m pc ls []) :=
  W.widen h1 h2 (W.vret hx hb hr (fun t ht hW => ⟨⟨u, rfl, hp, by rw [ht]; exact hP, hD⟩, hS.F ht⟩) hS.2.2 hdg hlk)
end KC
/-- a contract out of the walk of its body -/
theorem k_ofW {l : Launch} {y : MethodName} {bytes : ByteArray} {maxL : Nat} {ret : Option FieldType} {rm : Room} {dC : Nat → ClassId} {dI : Nat → Nat → Nat} {cy : Nat → ClassId} {sq : Nat → Nat} {av : List Value} {wc : va_W} {Qc : (Nat → Prop) → Array Value → State → Outcome → State → Prop} (hy : plainName y.cls = true) (hlen : (lg_sl av).length ≤ maxL)
    (body : ∀ (p : Program) (e : Env) (s : State) (m : MethodId) (below : List Frame) (meth : Method) (c : Code) (A : Nat → Prop) (ls : Array Slot) (H : Heap) (locs : List Loc), k_cx p s m av.toArray c bytes maxL y.cls dC dI cy sq → k_Z sq A s s.heap → meth.sig.returnType = ret → meth.locks = false → meth.name = y.name → va_P (dC, dI) vwCl wc H → va_D A wc → (∀ q, s.heap.size ≤ q → A q) → va_S A s.heap H locs → lv_has ls maxL (lv_args 0 av) → W p l e rm s m av.toArray below meth c H locs 0 0 (MQ below (Qc A) av.toArray s rm.cells rm.slots A) (F0 m 0 ls [])) :
    k_Met l y bytes maxL ret rm dC dI cy sq av wc Qc := by
  intro sz
  refine Met.ofW (cc := bytes) (maxL := maxL) (ret := ret) hy rfl ?_
  intro p e s m args below meth c s₁ B hml hv
  obtain ⟨rfl, hsz, hP, hK, hD0, hZ⟩ := hv
  have hts := atoms_spec (ws := Cond.code y bytes maxL ret :: wsL_law) B.pre
  subst hsz
  have hl := lv_entry av (n := maxL) hlen
  rw [lg_entry_eq]
  exact body p e s m below meth c _ _ s.heap [] ⟨B.exec, B.bytes, hml, findClass_of_methodNamed B.named, fun w h => hts w (List.mem_cons_of_mem _ h), hK⟩ hZ B.returns B.notSynchronized (name_of_methodNamed B.named B.method).1 hP hD0.self (fun q h => Or.inr h) va_S.rf hl
end
section
/-! ib -/
/-! intervals: what is known of a number, and how it goes through the machine's arithmetic; all proofs by rows, no search over a long context -/
def ib (x : Int32) (lo hi : Int) : Prop := lo ≤ x.toInt ∧ x.toInt ≤ hi
def il (x : Int64) (lo hi : Int) : Prop := lo ≤ x.toInt ∧ x.toInt ≤ hi
/-- the values of a row, the first n of them -/
def ia (f : Nat → Int32) (n : Nat) (lo hi : Int) : Prop := ∀ k, k < n → ib (f k) lo hi
theorem ib_any (x : Int32) : ib x (-2147483648) 2147483647 := ⟨by have := Int32.le_toInt x; omega, by have := Int32.toInt_lt x; omega⟩
theorem ib_c (x : Int32) (lo hi : Int) (h : (decide (lo ≤ x.toInt) && decide (x.toInt ≤ hi)) = true) : ib x lo hi := by
  simp only [Bool.and_eq_true, decide_eq_true_eq] at h
  exact h
theorem ib_w {x : Int32} {a b : Int} (lo hi : Int) (h : ib x a b) (h1 : (decide (lo ≤ a) && decide (b ≤ hi)) = true) : ib x lo hi := by
  simp only [Bool.and_eq_true, decide_eq_true_eq] at h1
  exact ⟨Int.le_trans h1.1 h.1, Int.le_trans h.2 h1.2⟩
theorem ib_two {x : Int32} {a b c d : Int} (h : ib x a b) (h2 : ib x c d) : ib x (max a c) (min b d) := ⟨Int.max_le.mpr ⟨h.1, h2.1⟩, Int.le_min.mpr ⟨h.2, h2.2⟩⟩
theorem ib_add {x y : Int32} {a b c d : Int} (hx : ib x a b) (hy : ib y c d) (h : (decide (-2147483648 ≤ a + c) && decide (b + d ≤ 2147483647)) = true) : ib (x + y) (a + c) (b + d) ∧ (x + y).toInt = x.toInt + y.toInt := by
  simp only [Bool.and_eq_true, decide_eq_true_eq] at h
  obtain ⟨h1, h2⟩ := hx
  obtain ⟨h3, h4⟩ := hy
  have e : (x + y).toInt = x.toInt + y.toInt := by
    rw [Int32.toInt_add]
    exact Int.bmod_eq_of_le (by omega) (by omega)
  exact ⟨⟨by omega, by omega⟩, e⟩
theorem ib_sub {x y : Int32} {a b c d : Int} (hx : ib x a b) (hy : ib y c d) (h : (decide (-2147483648 ≤ a - d) && decide (b - c ≤ 2147483647)) = true) : ib (x - y) (a - d) (b - c) ∧ (x - y).toInt = x.toInt - y.toInt := by
  simp only [Bool.and_eq_true, decide_eq_true_eq] at h
  obtain ⟨h1, h2⟩ := hx
  obtain ⟨h3, h4⟩ := hy
  have e : (x - y).toInt = x.toInt - y.toInt := by
    rw [Int32.toInt_sub]
    exact Int.bmod_eq_of_le (by omega) (by omega)
  exact ⟨⟨by omega, by omega⟩, e⟩
/-- a product of numbers that aren't below 0 -/
theorem ib_mul {x y : Int32} {a b c d : Int} (hx : ib x a b) (hy : ib y c d) (h : (decide (0 ≤ a) && decide (0 ≤ c) && decide (b * d ≤ 2147483647)) = true) : ib (x * y) 0 (b * d) ∧ (x * y).toInt = x.toInt * y.toInt := by
  simp only [Bool.and_eq_true, decide_eq_true_eq] at h
  obtain ⟨h1, h2⟩ := hx
  obtain ⟨h3, h4⟩ := hy
  have p0 : 0 ≤ x.toInt := by omega
  have p1 : 0 ≤ y.toInt := by omega
  have q0 : 0 ≤ x.toInt * y.toInt := Int.mul_nonneg p0 p1
  have q1 : x.toInt * y.toInt ≤ b * d := Int.le_trans (Int.mul_le_mul_of_nonneg_right h2 p1) (Int.mul_le_mul_of_nonneg_left h4 (by omega))
  have e : (x * y).toInt = x.toInt * y.toInt := by
    rw [Int32.toInt_mul]
    exact Int.bmod_eq_of_le (by omega) (by omega)
  exact ⟨⟨by omega, by omega⟩, e⟩
theorem ib_in {x : Int32} {a b : Int} (n : Nat) (h : ib x a b) (h1 : (decide (0 ≤ a) && decide (b < n)) = true) : vp_in x n := by
  simp only [Bool.and_eq_true, decide_eq_true_eq] at h1
  rw [vp_in_iff]
  exact ⟨Int.le_trans h1.1 h.1, Int.lt_of_le_of_lt h.2 h1.2⟩
/-- what a branch tells -/
theorem ib_lt {x y : Int32} {a b c d : Int} (hx : ib x a b) (hy : ib y c d) (h : x < y) : ib x a (min b (d - 1)) ∧ ib y (max c (a + 1)) d := by
  rw [Int32.lt_iff_toInt_lt] at h
  obtain ⟨h1, h2⟩ := hx
  obtain ⟨h3, h4⟩ := hy
  exact ⟨⟨by omega, by omega⟩, ⟨by omega, by omega⟩⟩
theorem ib_nlt {x y : Int32} {a b c d : Int} (hx : ib x a b) (hy : ib y c d) (h : ¬ x < y) : ib x (max a c) b ∧ ib y c (min d b) := by
  rw [Int32.lt_iff_toInt_lt] at h
  obtain ⟨h1, h2⟩ := hx
  obtain ⟨h3, h4⟩ := hy
  exact ⟨⟨by omega, by omega⟩, ⟨by omega, by omega⟩⟩
theorem ib_le {x y : Int32} {a b c d : Int} (hx : ib x a b) (hy : ib y c d) (h : x ≤ y) : ib x a (min b d) ∧ ib y (max c a) d := by
  rw [Int32.le_iff_toInt_le] at h
  obtain ⟨h1, h2⟩ := hx
  obtain ⟨h3, h4⟩ := hy
  exact ⟨⟨by omega, by omega⟩, ⟨by omega, by omega⟩⟩
theorem ib_nle {x y : Int32} {a b c d : Int} (hx : ib x a b) (hy : ib y c d) (h : ¬ x ≤ y) : ib x (max a (c + 1)) b ∧ ib y c (min d (b - 1)) := by
  rw [Int32.le_iff_toInt_le] at h
  obtain ⟨h1, h2⟩ := hx
  obtain ⟨h3, h4⟩ := hy
  exact ⟨⟨by omega, by omega⟩, ⟨by omega, by omega⟩⟩
theorem ib_eq {x y : Int32} {a b c d : Int} (hx : ib x a b) (hy : ib y c d) (h : x = y) : ib x (max a c) (min b d) ∧ ib y (max a c) (min b d) := by
  subst h
  exact ⟨ib_two hx hy, ib_two hx hy⟩
/-- an empty interval: this way isn't gone -/
theorem ib_no {x : Int32} {a b : Int} {P : Prop} (h : ib x a b) (h1 : decide (b < a) = true) : P := by
  simp only [decide_eq_true_eq] at h1
  have := h.1
  have := h.2
  omega
/-- not equal to an end of its interval -/
theorem ib_ne_lo {x : Int32} {a b : Int} (c : Int32) (hx : ib x a b) (hc : decide (c.toInt = a) = true) (h : ¬ x = c) : ib x (a + 1) b := by
  simp only [decide_eq_true_eq] at hc
  have e : ¬ x.toInt = a := fun q => h (Int32.toInt_inj.mp (q.trans hc.symm))
  obtain ⟨h1, h2⟩ := hx
  exact ⟨by omega, h2⟩
theorem ib_ne_hi {x : Int32} {a b : Int} (c : Int32) (hx : ib x a b) (hc : decide (c.toInt = b) = true) (h : ¬ x = c) : ib x a (b - 1) := by
  simp only [decide_eq_true_eq] at hc
  have e : ¬ x.toInt = b := fun q => h (Int32.toInt_inj.mp (q.trans hc.symm))
  obtain ⟨h1, h2⟩ := hx
  exact ⟨h1, by omega⟩
/-- a mask of low bits -/
theorem ib_and {x m : Int32} (k : Nat) (hm : m.toBitVec.toNat = 2 ^ k - 1) (hk : k ≤ 30) (M : Int) (hM : decide (((2 ^ k - 1 : Nat) : Int) ≤ M) = true) : ib (x &&& m) 0 M := by
  simp only [decide_eq_true_eq] at hM
  obtain ⟨j, hj, e⟩ := pk_andE x k hm
  have hp : (2 : Nat) ^ k ≤ 2 ^ 30 := Nat.pow_le_pow_right (by decide) hk
  rw [e]
  have e2 : (nI j).toInt = (j : Int) := nI_toInt (by omega)
  constructor
  · omega
  · omega
/-- rows -/
theorem ia_at {f : Nat → Int32} {n : Nat} {lo hi : Int} (h : ia f n lo hi) {i : Int32} (hv : vp_in i n) : ib (f i.toNatClampNeg) lo hi := h _ (Nat.not_le.mp fun q => hv (Or.inr q))
theorem ia_upd {f : Nat → Int32} {n : Nat} {lo hi : Int} (h : ia f n lo hi) (i : Nat) {x : Int32} (hx : ib x lo hi) : ia (upd f i x) n lo hi := by
  intro k hk
  by_cases e : k = i
  · subst e; rw [pk_us]; exact hx
  · rw [pk_un e]; exact h k hk
theorem ia_0 (n : Nat) {lo hi : Int} (h : (decide (lo ≤ 0) && decide (0 ≤ hi)) = true) : ia (fun _ => 0) n lo hi := fun _ _ => ib_c 0 lo hi (by simpa using h)
theorem ia_any (f : Nat → Int32) (n : Nat) : ia f n (-2147483648) 2147483647 := fun k _ => ib_any (f k)
theorem ib_nz {x : Int32} {a b : Int} (h : ib x a b) (h1 : (decide (0 < a) || decide (b < 0)) = true) : ¬ x = 0 := by
  intro e
  subst e
  simp only [Bool.or_eq_true, decide_eq_true_eq] at h1
  have h2 := h.1
  have h3 := h.2
  have e0 : (0 : Int32).toInt = 0 := by decide
  omega
theorem ib_one {x c : Int32} {a b : Int} (h : ib x a b) (h1 : (decide (a = c.toInt) && decide (b = c.toInt)) = true) : x = c := by
  simp only [Bool.and_eq_true, decide_eq_true_eq] at h1
  have h2 := h.1
  have h3 := h.2
  exact Int32.toInt_inj.mp (by omega)
/-- a quotient, a rest, of numbers that aren't below 0, by one above 0 -/
theorem ib_nat {x : Int32} {a b : Int} (h : ib x a b) (h1 : 0 ≤ a) : ∃ n : Nat, n < 2 ^ 31 ∧ x = nI n ∧ (n : Int) ≤ b := by
  have h2 := h.1
  have h3 := h.2
  have e0 : (0 : Int32).toInt = 0 := by decide
  obtain ⟨n, hn, e⟩ := nI_of (x := x) (by rw [Int32.lt_iff_toInt_lt]; omega)
  refine ⟨n, hn, e, ?_⟩
  rw [e, nI_toInt hn] at h3
  exact h3
theorem ib_div {x y : Int32} {a b c d : Int} (hx : ib x a b) (hy : ib y c d) (h : (decide (0 ≤ a) && decide (0 < c)) = true) : ib (x / y) 0 (b / c) := by
  simp only [Bool.and_eq_true, decide_eq_true_eq] at h
  have hyl := hy.1
  obtain ⟨n, hn, ex, hb⟩ := ib_nat hx h.1
  obtain ⟨m, hm, ey, hd⟩ := ib_nat hy (by omega)
  rw [ey, nI_toInt hm] at hyl
  have h0 : 0 < m := by omega
  subst ex
  subst ey
  rw [pk_div hn h0 hm]
  have hq : n / m < 2 ^ 31 := Nat.lt_of_le_of_lt (Nat.div_le_self n m) hn
  refine ⟨by rw [nI_toInt hq]; exact Int.natCast_nonneg _, ?_⟩
  rw [nI_toInt hq]
  refine Int.le_ediv_of_mul_le (by omega) ?_
  have h5 : n / m * m ≤ n := Nat.div_mul_le_self n m
  have h6 : ((n / m : Nat) : Int) * c ≤ ((n / m : Nat) : Int) * (m : Int) := Int.mul_le_mul_of_nonneg_left hyl (Int.natCast_nonneg _)
  have h7 : ((n / m : Nat) : Int) * (m : Int) ≤ (n : Int) := by exact_mod_cast h5
  omega
theorem ib_rem {x y : Int32} {a b c d : Int} (hx : ib x a b) (hy : ib y c d) (h : (decide (0 ≤ a) && decide (0 < c)) = true) : ib (x - x / y * y) 0 (min b (d - 1)) := by
  simp only [Bool.and_eq_true, decide_eq_true_eq] at h
  have hyl := hy.1
  obtain ⟨n, hn, ex, hb⟩ := ib_nat hx h.1
  obtain ⟨m, hm, ey, hd⟩ := ib_nat hy (by omega)
  rw [ey, nI_toInt hm] at hyl
  have h0 : 0 < m := by omega
  subst ex
  subst ey
  rw [pk_rem hn h0 hm]
  have h1 : n % m < m := Nat.mod_lt n h0
  have h2 : n % m ≤ n := Nat.mod_le n m
  have hq : n % m < 2 ^ 31 := by omega
  refine ⟨by rw [nI_toInt hq]; omega, ?_⟩
  rw [nI_toInt hq]
  omega
theorem ib_01 {z : Int32} (h : ib z 0 1) : z = 0 ∨ z = 1 := by
  have h1 := h.1
  have h2 := h.2
  have e0 : (0 : Int32).toInt = 0 := by decide
  have e1 : (1 : Int32).toInt = 1 := by decide
  rcases (show z.toInt = 0 ∨ z.toInt = 1 by omega) with e | e
  · exact Or.inl (Int32.toInt_inj.mp (e.trans e0.symm))
  · exact Or.inr (Int32.toInt_inj.mp (e.trans e1.symm))
theorem ib_bool {z : Int32} (h : ib z 0 1) : narrow .boolean (.int z) = .int z := by
  rcases ib_01 h with rfl | rfl <;> decide
theorem ib_boolf {z : Int32} (h : ib z 0 1) : fits .boolean (.int z) = true := by
  rcases ib_01 h with rfl | rfl <;> decide
theorem ib_min {x y : Int32} {a b c d : Int} (hx : ib x a b) (hy : ib y c d) : ib (if y < x then y else x) (min a c) (min b d) := by
  obtain ⟨h1, h2⟩ := hx
  obtain ⟨h3, h4⟩ := hy
  split
  · rename_i h; rw [Int32.lt_iff_toInt_lt] at h; exact ⟨by omega, by omega⟩
  · rename_i h; rw [Int32.lt_iff_toInt_lt] at h; exact ⟨by omega, by omega⟩
theorem ib_max {x y : Int32} {a b c d : Int} (hx : ib x a b) (hy : ib y c d) : ib (if x < y then y else x) (max a c) (max b d) := by
  obtain ⟨h1, h2⟩ := hx
  obtain ⟨h3, h4⟩ := hy
  split
  · rename_i h; rw [Int32.lt_iff_toInt_lt] at h; exact ⟨by omega, by omega⟩
  · rename_i h; rw [Int32.lt_iff_toInt_lt] at h; exact ⟨by omega, by omega⟩
theorem ib_cmp (x y : Int64) : ib (lg_cmp x y) (-1) 1 := by
  unfold lg_cmp
  split
  · exact ib_c 1 (-1) 1 (by decide)
  · split
    · exact ib_c 0 (-1) 1 (by decide)
    · exact ib_c (-1) (-1) 1 (by decide)
theorem ib_nei {x : Int32} (c : Int32) (v : Int) (hc : decide (c.toInt = v) = true) (h : ¬ x = c) : ¬ x.toInt = v := by
  simp only [decide_eq_true_eq] at hc
  exact fun q => h (Int32.toInt_inj.mp (q.trans hc.symm))
theorem ib_nn {x : Int32} {a b : Int} (h : ib x a b) (h1 : decide (0 ≤ a) = true) : ¬ x < 0 := by
  simp only [decide_eq_true_eq] at h1
  rw [Int32.lt_iff_toInt_lt]
  have := h.1
  have e0 : (0 : Int32).toInt = 0 := by decide
  omega
theorem ib_two_le {x y : Int32} {a b c d : Int} (n : Nat) (hx : ib x a b) (hy : ib y c d) (h : (decide (0 ≤ a) && decide (0 ≤ c) && decide (b + d ≤ (n : Int))) = true) : x.toNatClampNeg + y.toNatClampNeg ≤ n := by
  simp only [Bool.and_eq_true, decide_eq_true_eq] at h
  have h1 := hx.1
  have h2 := hx.2
  have h3 := hy.1
  have h4 := hy.2
  show x.toInt.toNat + y.toInt.toNat ≤ n
  omega
theorem ib_dv {x : Int32} {a b : Int} (c : Int32) (hx : ib x a b) (h : decide (0 ≤ a) = true) (hc : decide (0 < c.toInt) = true) : c.toInt * (x / c).toInt ≤ x.toInt := by
  simp only [decide_eq_true_eq] at h hc
  obtain ⟨n, hn, ex, -⟩ := ib_nat hx h
  obtain ⟨m, hm, ey, -⟩ := ib_nat (x := c) (a := c.toInt) (b := c.toInt) ⟨Int.le_refl _, Int.le_refl _⟩ (by omega)
  subst ex
  subst ey
  rw [nI_toInt hm] at hc
  have hq : n / m < 2 ^ 31 := Nat.lt_of_le_of_lt (Nat.div_le_self n m) hn
  rw [pk_div hn (by omega) hm, nI_toInt hq, nI_toInt hn, nI_toInt hm]
  have := Nat.mul_div_le n m
  exact_mod_cast this
end
section
/-! ofw -/
/-- a contract out of the walk of its body, its end under a name -/
theorem k_ofW2 {l : Launch} {y : MethodName} {bytes : ByteArray} {maxL : Nat} {ret : Option FieldType} {rm : Room} {dC : Nat → ClassId} {dI : Nat → Nat → Nat} {cy : Nat → ClassId} {sq : Nat → Nat} {av : List Value} {wc : va_W} {Qc : (Nat → Prop) → Array Value → State → Outcome → State → Prop} (hy : plainName y.cls = true) (hlen : (lg_sl av).length ≤ maxL)
    (body : ∀ (p : Program) (e : Env) (s : State) (m : MethodId) (below : List Frame) (meth : Method) (c : Code) (A : Nat → Prop) (ls : Array Slot) (H : Heap) (locs : List Loc) (args : Array Value) (Q : State → Prop), Q = MQ below (Qc A) args s rm.cells rm.slots A → k_cx p s m args c bytes maxL y.cls dC dI cy sq → k_Z sq A s s.heap → meth.sig.returnType = ret → meth.locks = false → meth.name = y.name → va_P (dC, dI) vwCl wc H → va_D A wc → (∀ q, s.heap.size ≤ q → A q) → va_S A s.heap H locs → lv_has ls maxL (lv_args 0 av) → W p l e rm s m args below meth c H locs 0 0 Q (F0 m 0 ls [])) :
    k_Met l y bytes maxL ret rm dC dI cy sq av wc Qc :=
  k_ofW hy hlen (fun p e s m below meth c A ls H locs C0 hZ hr hlk hin hP hD hA hS hl => body p e s m below meth c A ls H locs _ _ rfl C0 hZ hr hlk hin hP hD hA hS hl)
theorem ia_w {f : Nat → Int32} {n : Nat} {a b : Int} (lo hi : Int) (h : ia f n a b) (h1 : (decide (lo ≤ a) && decide (b ≤ hi)) = true) : ia f n lo hi := fun k hk => ib_w lo hi (h k hk) h1
/-- the ring of States: which lies where -/
def rg_f (q : Nat → Nat) : Nat → Option Nat := fun k => if k < 20 then some (q k) else none
def rg_u {α : Type} (f : Nat → α) (i : Nat) (x : α) : Nat → α := fun k => if k = i then x else f k
theorem ib_20 {x : Int32} (h : ib x 0 19) : x = 0 ∨ x = 1 ∨ x = 2 ∨ x = 3 ∨ x = 4 ∨ x = 5 ∨ x = 6 ∨ x = 7 ∨ x = 8 ∨ x = 9 ∨ x = 10 ∨ x = 11 ∨ x = 12 ∨ x = 13 ∨ x = 14 ∨ x = 15 ∨ x = 16 ∨ x = 17 ∨ x = 18 ∨ x = 19 := by
  have h1 := h.1
  have h2 := h.2
  have q : x.toInt = 0 ∨ x.toInt = 1 ∨ x.toInt = 2 ∨ x.toInt = 3 ∨ x.toInt = 4 ∨ x.toInt = 5 ∨ x.toInt = 6 ∨ x.toInt = 7 ∨ x.toInt = 8 ∨ x.toInt = 9 ∨ x.toInt = 10 ∨ x.toInt = 11 ∨ x.toInt = 12 ∨ x.toInt = 13 ∨ x.toInt = 14 ∨ x.toInt = 15 ∨ x.toInt = 16 ∨ x.toInt = 17 ∨ x.toInt = 18 ∨ x.toInt = 19 := by omega
  rcases q with q | q | q | q | q | q | q | q | q | q | q | q | q | q | q | q | q | q | q | q
  · exact Or.inl (Int32.toInt_inj.mp (q.trans (show (0 : Int) = (0 : Int32).toInt by decide)))
  · exact Or.inr (Or.inl (Int32.toInt_inj.mp (q.trans (show (1 : Int) = (1 : Int32).toInt by decide))))
  · exact Or.inr (Or.inr (Or.inl (Int32.toInt_inj.mp (q.trans (show (2 : Int) = (2 : Int32).toInt by decide)))))
  · exact Or.inr (Or.inr (Or.inr (Or.inl (Int32.toInt_inj.mp (q.trans (show (3 : Int) = (3 : Int32).toInt by decide))))))
  · exact Or.inr (Or.inr (Or.inr (Or.inr (Or.inl (Int32.toInt_inj.mp (q.trans (show (4 : Int) = (4 : Int32).toInt by decide)))))))
  · exact Or.inr (Or.inr (Or.inr (Or.inr (Or.inr (Or.inl (Int32.toInt_inj.mp (q.trans (show (5 : Int) = (5 : Int32).toInt by decide))))))))
  · exact Or.inr (Or.inr (Or.inr (Or.inr (Or.inr (Or.inr (Or.inl (Int32.toInt_inj.mp (q.trans (show (6 : Int) = (6 : Int32).toInt by decide)))))))))
  · exact Or.inr (Or.inr (Or.inr (Or.inr (Or.inr (Or.inr (Or.inr (Or.inl (Int32.toInt_inj.mp (q.trans (show (7 : Int) = (7 : Int32).toInt by decide))))))))))
  · exact Or.inr (Or.inr (Or.inr (Or.inr (Or.inr (Or.inr (Or.inr (Or.inr (Or.inl (Int32.toInt_inj.mp (q.trans (show (8 : Int) = (8 : Int32).toInt by decide)))))))))))
  · exact Or.inr (Or.inr (Or.inr (Or.inr (Or.inr (Or.inr (Or.inr (Or.inr (Or.inr (Or.inl (Int32.toInt_inj.mp (q.trans (show (9 : Int) = (9 : Int32).toInt by decide))))))))))))
  · exact Or.inr (Or.inr (Or.inr (Or.inr (Or.inr (Or.inr (Or.inr (Or.inr (Or.inr (Or.inr (Or.inl (Int32.toInt_inj.mp (q.trans (show (10 : Int) = (10 : Int32).toInt by decide)))))))))))))
  · exact Or.inr (Or.inr (Or.inr (Or.inr (Or.inr (Or.inr (Or.inr (Or.inr (Or.inr (Or.inr (Or.inr (Or.inl (Int32.toInt_inj.mp (q.trans (show (11 : Int) = (11 : Int32).toInt by decide))))))))))))))
  · exact Or.inr (Or.inr (Or.inr (Or.inr (Or.inr (Or.inr (Or.inr (Or.inr (Or.inr (Or.inr (Or.inr (Or.inr (Or.inl (Int32.toInt_inj.mp (q.trans (show (12 : Int) = (12 : Int32).toInt by decide)))))))))))))))
  · exact Or.inr (Or.inr (Or.inr (Or.inr (Or.inr (Or.inr (Or.inr (Or.inr (Or.inr (Or.inr (Or.inr (Or.inr (Or.inr (Or.inl (Int32.toInt_inj.mp (q.trans (show (13 : Int) = (13 : Int32).toInt by decide))))))))))))))))
  · exact Or.inr (Or.inr (Or.inr (Or.inr (Or.inr (Or.inr (Or.inr (Or.inr (Or.inr (Or.inr (Or.inr (Or.inr (Or.inr (Or.inr (Or.inl (Int32.toInt_inj.mp (q.trans (show (14 : Int) = (14 : Int32).toInt by decide)))))))))))))))))
  · exact Or.inr (Or.inr (Or.inr (Or.inr (Or.inr (Or.inr (Or.inr (Or.inr (Or.inr (Or.inr (Or.inr (Or.inr (Or.inr (Or.inr (Or.inr (Or.inl (Int32.toInt_inj.mp (q.trans (show (15 : Int) = (15 : Int32).toInt by decide))))))))))))))))))
  · exact Or.inr (Or.inr (Or.inr (Or.inr (Or.inr (Or.inr (Or.inr (Or.inr (Or.inr (Or.inr (Or.inr (Or.inr (Or.inr (Or.inr (Or.inr (Or.inr (Or.inl (Int32.toInt_inj.mp (q.trans (show (16 : Int) = (16 : Int32).toInt by decide)))))))))))))))))))
  · exact Or.inr (Or.inr (Or.inr (Or.inr (Or.inr (Or.inr (Or.inr (Or.inr (Or.inr (Or.inr (Or.inr (Or.inr (Or.inr (Or.inr (Or.inr (Or.inr (Or.inr (Or.inl (Int32.toInt_inj.mp (q.trans (show (17 : Int) = (17 : Int32).toInt by decide))))))))))))))))))))
  · exact Or.inr (Or.inr (Or.inr (Or.inr (Or.inr (Or.inr (Or.inr (Or.inr (Or.inr (Or.inr (Or.inr (Or.inr (Or.inr (Or.inr (Or.inr (Or.inr (Or.inr (Or.inr (Or.inl (Int32.toInt_inj.mp (q.trans (show (18 : Int) = (18 : Int32).toInt by decide)))))))))))))))))))))
  · exact Or.inr (Or.inr (Or.inr (Or.inr (Or.inr (Or.inr (Or.inr (Or.inr (Or.inr (Or.inr (Or.inr (Or.inr (Or.inr (Or.inr (Or.inr (Or.inr (Or.inr (Or.inr (Or.inr ((Int32.toInt_inj.mp (q.trans (show (19 : Int) = (19 : Int32).toInt by decide))))))))))))))))))))))
theorem k_topv {p : Program} {l : Launch} {e : Env} {R : Room} {s : State} {m : MethodId} {args : Array Value} {below : List Frame} {meth : Method} {c : Code} {H : Heap} {locs : List Loc} {cells slots : Nat} {Q : State → Prop} {pc : Nat} {ls : Array Slot} {rest : List Value} {x y : Value} (h : x = y) (k : W p l e R s m args below meth c H locs cells slots Q (F0 m pc ls (y :: rest))) : W p l e R s m args below meth c H locs cells slots Q (F0 m pc ls (x :: rest)) := by subst h; exact k
/-- every third entry, below a place -/
def sd (f : Nat → Int32) (x : Int32) : Prop := (∃ m : Int, x.toInt = 3 * m) ∧ ∀ j : Nat, 3 * (j : Int) < x.toInt → ib (f (3 * j)) 0 11
theorem sd_0 (f : Nat → Int32) : sd f 0 := by
  have e0 : (0 : Int32).toInt = 0 := by decide
  refine ⟨⟨0, by omega⟩, fun j h => ?_⟩
  exact absurd h (by omega)
theorem sd_step {f : Nat → Int32} {x z : Int32} (h : sd f x) (hx : ib x 0 50) (hv : ib (f (Int32.toNatClampNeg x)) 0 11) (hz : z.toInt = x.toInt + (3 : Int32).toInt) : sd f z := by
  have e3 : (3 : Int32).toInt = 3 := by decide
  obtain ⟨⟨m, hm⟩, h2⟩ := h
  refine ⟨⟨m + 1, by omega⟩, fun j hj => ?_⟩
  by_cases q : 3 * (j : Int) < x.toInt
  · exact h2 j q
  · have e : Int32.toNatClampNeg x = 3 * j := by
      show x.toInt.toNat = 3 * j
      omega
    rw [e] at hv
    exact hv
theorem sd_end {f : Nat → Int32} {x y : Int32} (h : sd f x) (hy : y ≤ x) : ∀ j : Nat, 3 * (j : Int) < y.toInt → ib (f (3 * j)) 0 11 := by
  rw [Int32.le_iff_toInt_le] at hy
  exact fun j hj => h.2 j (by omega)
theorem sd_use {f : Nat → Int32} {y : Int32} (h : ∀ j : Nat, 3 * (j : Int) < y.toInt → ib (f (3 * j)) 0 11) (i k : Int32) (hi : i.toInt = k.toInt * (3 : Int32).toInt) (h0 : 0 ≤ k.toInt) (h1 : 3 * k.toInt < y.toInt) : ib (f (Int32.toNatClampNeg i)) 0 11 := by
  have e3 : (3 : Int32).toInt = 3 := by decide
  rw [e3] at hi
  have e : Int32.toNatClampNeg i = 3 * k.toInt.toNat := by
    show i.toInt.toNat = 3 * k.toInt.toNat
    omega
  rw [e]
  exact h _ (by omega)
end
section
/-! lf -/
/-! a method's numbers as whole numbers, and what it makes of them as a function -/
def lf_A (f : Nat → Int32) : Nat → Int := fun k => (f k).toInt
def lf_L (f : Nat → Int64) : Nat → Int := fun k => (f k).toInt
def lf_up (F : Nat → Int) (i v : Int) : Nat → Int := fun k => if k = i.toNat then v else F k
def lf_fl (F : Nat → Int) (n : Nat) (v : Int) : Nat → Int := fun k => if k < n then v else F k
def lf_p {α β γ : Type} (a : α × β) (G : α → β → γ) : γ := G a.1 a.2
def lf_b {α γ : Type} (a : α) (G : α → γ) : γ := G a
theorem lf_b_e {α γ : Type} (a : α) (G : α → γ) : lf_b a G = G a := rfl
def lf_o (op : Int32 → Int32 → Int32) (X Y : Int) : Int := (op (Int32.ofInt X) (Int32.ofInt Y)).toInt
def lf_iadd (x y : Int32) : Int32 := x + y
def lf_isub (x y : Int32) : Int32 := x - y
def lf_imul (x y : Int32) : Int32 := x * y
def lf_iand (x y : Int32) : Int32 := x &&& y
def lf_ior (x y : Int32) : Int32 := x ||| y
def lf_ixor (x y : Int32) : Int32 := x ^^^ y
def lf_ishl (x y : Int32) : Int32 := x <<< (y &&& 31)
def lf_ishr (x y : Int32) : Int32 := x >>> (y &&& 31)
def lf_iushr (x y : Int32) : Int32 := (x.toUInt32 >>> (y.toUInt32 &&& Int32.toUInt32 31)).toInt32
def lf_idiv (x y : Int32) : Int32 := x / y
def lf_irem (x y : Int32) : Int32 := x - x / y * y
def lf_e (x : Int32) (X : Int) : Prop := x.toInt = X
def lf_el (x : Int64) (X : Int) : Prop := x.toInt = X
def lf_ea (f : Nat → Int32) (F : Nat → Int) : Prop := lf_A f = F
theorem lf_u {x : Int32} {X : Int} (h : lf_e x X) : x.toInt = X := h
theorem lf_ul {x : Int64} {X : Int} (h : lf_el x X) : x.toInt = X := h
theorem lf_ua {f : Nat → Int32} {F : Nat → Int} (h : lf_ea f F) : lf_A f = F := h
theorem lf_pos {α : Type} {O a b : α} {c : Prop} {d : Decidable c} (q : O = @ite α c d a b) (h : c) : O = a := q.trans (if_pos h)
theorem lf_neg {α : Type} {O a b : α} {c : Prop} {d : Decidable c} (q : O = @ite α c d a b) (h : ¬ c) : O = b := q.trans (if_neg h)
theorem lf_p1 {α β γ : Type} {O : γ} {a : α × β} {G : α → β → γ} {x : α} {y : β} (q : O = lf_p a G) (h : a = (x, y)) : O = G x y := by subst h; exact q
theorem lf_b1 {α γ : Type} {O : γ} {a : α} {G : α → γ} {x : α} (q : O = lf_b a G) (h : a = x) : O = G x := by subst h; exact q
theorem lf_lt {x y : Int32} {X Y : Int} (hx : lf_e x X) (hy : lf_e y Y) (c : x < y) : X < Y := by rw [← hx, ← hy]; exact Int32.lt_iff_toInt_lt.mp c
theorem lf_nlt {x y : Int32} {X Y : Int} (hx : lf_e x X) (hy : lf_e y Y) (c : ¬ x < y) : ¬ X < Y := by rw [← hx, ← hy]; exact mt Int32.lt_iff_toInt_lt.mpr c
theorem lf_le {x y : Int32} {X Y : Int} (hx : lf_e x X) (hy : lf_e y Y) (c : x ≤ y) : X ≤ Y := by rw [← hx, ← hy]; exact Int32.le_iff_toInt_le.mp c
theorem lf_nle {x y : Int32} {X Y : Int} (hx : lf_e x X) (hy : lf_e y Y) (c : ¬ x ≤ y) : ¬ X ≤ Y := by rw [← hx, ← hy]; exact mt Int32.le_iff_toInt_le.mpr c
theorem lf_eq {x y : Int32} {X Y : Int} (hx : lf_e x X) (hy : lf_e y Y) (c : x = y) : X = Y := by rw [← hx, ← hy, c]
theorem lf_ne {x y : Int32} {X Y : Int} (hx : lf_e x X) (hy : lf_e y Y) (c : ¬ x = y) : ¬ X = Y := by rw [← hx, ← hy]; exact mt Int32.toInt_inj.mp c
theorem lf_lc (x : Int32) (X : Int) (h : x.toInt = X) : lf_e x X := h
theorem lf_ll (x : Int64) (X : Int) (h : x.toInt = X) : lf_el x X := h
theorem lf_rf (x : Int32) : lf_e x x.toInt := rfl
theorem lf_rl (x : Int64) : lf_el x x.toInt := rfl
theorem lf_ra (f : Nat → Int32) : lf_ea f (lf_A f) := rfl
theorem lf_add {x y z : Int32} {X Y : Int} (h : z.toInt = x.toInt + y.toInt) (hx : lf_e x X) (hy : lf_e y Y) : lf_e z (X + Y) := by rw [← hx, ← hy]; exact h
theorem lf_sub {x y z : Int32} {X Y : Int} (h : z.toInt = x.toInt - y.toInt) (hx : lf_e x X) (hy : lf_e y Y) : lf_e z (X - Y) := by rw [← hx, ← hy]; exact h
theorem lf_mul {x y z : Int32} {X Y : Int} (h : z.toInt = x.toInt * y.toInt) (hx : lf_e x X) (hy : lf_e y Y) : lf_e z (X * Y) := by rw [← hx, ← hy]; exact h
theorem lf_op (op : Int32 → Int32 → Int32) {x y z : Int32} {X Y : Int} (h : z = op x y) (hx : lf_e x X) (hy : lf_e y Y) : lf_e z (lf_o op X Y) := by
  rw [← hx, ← hy]
  show z.toInt = (op (Int32.ofInt x.toInt) (Int32.ofInt y.toInt)).toInt
  rw [Int32.ofInt_toInt, Int32.ofInt_toInt, h]
theorem lf_min {x y z : Int32} {X Y : Int} (h : z = if y < x then y else x) (hx : lf_e x X) (hy : lf_e y Y) : lf_e z (min X Y) := by
  rw [← hx, ← hy]
  show z.toInt = _
  by_cases q : y < x
  · rw [if_pos q] at h
    rw [Int32.lt_iff_toInt_lt] at q
    rw [h]
    omega
  · rw [if_neg q] at h
    rw [Int32.lt_iff_toInt_lt] at q
    rw [h]
    omega
theorem lf_max {x y z : Int32} {X Y : Int} (h : z = if x < y then y else x) (hx : lf_e x X) (hy : lf_e y Y) : lf_e z (max X Y) := by
  rw [← hx, ← hy]
  show z.toInt = _
  by_cases q : x < y
  · rw [if_pos q] at h
    rw [Int32.lt_iff_toInt_lt] at q
    rw [h]
    omega
  · rw [if_neg q] at h
    rw [Int32.lt_iff_toInt_lt] at q
    rw [h]
    omega
theorem lf_ld {f : Nat → Int32} {F : Nat → Int} {i z : Int32} {X : Int} (h : z = f (Int32.toNatClampNeg i)) (hf : lf_ea f F) (hi : lf_e i X) : lf_e z (F X.toNat) := by
  rw [← hf, ← hi]
  show z.toInt = (f _).toInt
  rw [h]
  rfl
theorem lf_st {f g : Nat → Int32} {F : Nat → Int} {i v : Int32} {X Y : Int} (h : upd f (Int32.toNatClampNeg i) v = g) (hf : lf_ea f F) (hi : lf_e i X) (hv : lf_e v Y) : lf_ea g (lf_up F X Y) := by
  rw [← hf, ← hi, ← hv, ← h]
  show lf_A _ = _
  funext k
  show (if k = Int32.toNatClampNeg i then v else f k).toInt = if k = Int32.toNatClampNeg i then v.toInt else (f k).toInt
  by_cases q : k = Int32.toNatClampNeg i
  · rw [if_pos q, if_pos q]
  · rw [if_neg q, if_neg q]
def lf_fill (f : Nat → Int32) (n : Nat) (x : Int32) : Nat → Int32 := fun k => if k < n then x else f k
theorem lf_fle {f g : Nat → Int32} {F : Nat → Int} {n : Nat} {x : Int32} {X : Int} (h : g = lf_fill f n x) (hf : lf_ea f F) (hv : lf_e x X) : lf_ea g (lf_fl F n X) := by
  rw [← hf, ← hv, h]
  show lf_A _ = _
  funext k
  show (if k < n then x else f k).toInt = if k < n then x.toInt else (f k).toInt
  by_cases q : k < n
  · rw [if_pos q, if_pos q]
  · rw [if_neg q, if_neg q]
theorem lf_fill_ia {f : Nat → Int32} {n : Nat} {x : Int32} {lo hi : Int} (hx : ib x lo hi) : ia (lf_fill f n x) n lo hi := by
  intro k hk
  show ib (if k < n then x else f k) lo hi
  rw [if_pos hk]
  exact hx
theorem lf_fill_s (f : Nat → Int32) (i : Nat) (x : Int32) : upd (lf_fill f i x) i x = lf_fill f (i + 1) x := by
  funext k
  show (if k = i then x else if k < i then x else f k) = if k < i + 1 then x else f k
  by_cases q : k = i
  · rw [if_pos q, if_pos (by omega)]
  · by_cases q2 : k < i
    · rw [if_neg q, if_pos q2, if_pos (by omega)]
    · rw [if_neg q, if_neg q2, if_neg (by omega)]
theorem lf_fill_0 (f : Nat → Int32) (x : Int32) : f = lf_fill f 0 x := by
  funext k
  show f k = if k < 0 then x else f k
  rw [if_neg (Nat.not_lt_zero k)]
/-- the byte of a text -/
def lf_ch (j : Nat) (X : Int) : Int := ((k_byt.getD j []).getD X.toNat 0).toInt
theorem lf_cha {j : Nat} {i z : Int32} {X : Int} (h : z = (k_byt.getD j []).getD (Int32.toNatClampNeg i) 0) (hi : lf_e i X) : lf_e z (lf_ch j X) := by
  rw [← hi]
  show z.toInt = _
  rw [h]
  rfl
def lf_eL (f : Nat → Int64) (F : Nat → Int) : Prop := lf_L f = F
theorem lf_uaL {f : Nat → Int64} {F : Nat → Int} (h : lf_eL f F) : lf_L f = F := h
theorem lf_raL (f : Nat → Int64) : lf_eL f (lf_L f) := rfl
theorem lf_pt {f : Nat → Int32} {F : Nat → Int} (h : lf_ea f F) (j : Nat) : lf_e (f j) (F j) := by rw [← h]; exact rfl
theorem lf_i2l {x : Int32} {X : Int} (h : lf_e x X) : lf_el x.toInt64 X := (Int32.toInt_toInt64 x).trans h
def lf_ol (op : Int64 → Int64 → Int64) (X Y : Int) : Int := (op (Int64.ofInt X) (Int64.ofInt Y)).toInt
def lf_ladd (x y : Int64) : Int64 := x + y
def lf_lsub (x y : Int64) : Int64 := x - y
def lf_lmul (x y : Int64) : Int64 := x * y
def lf_ldiv (x y : Int64) : Int64 := x / y
def lf_lrem (x y : Int64) : Int64 := x % y
theorem lf_opl (op : Int64 → Int64 → Int64) {x y z : Int64} {X Y : Int} (h : z = op x y) (hx : lf_el x X) (hy : lf_el y Y) : lf_el z (lf_ol op X Y) := by
  rw [← hx, ← hy]
  show z.toInt = (op (Int64.ofInt x.toInt) (Int64.ofInt y.toInt)).toInt
  rw [Int64.ofInt_toInt, Int64.ofInt_toInt, h]
def lf_l2i (X : Int) : Int := (Int64.toInt32 (Int64.ofInt X)).toInt
theorem lf_l2ie {x : Int64} {z : Int32} {X : Int} (h : z = x.toInt32) (hx : lf_el x X) : lf_e z (lf_l2i X) := by
  rw [← hx]
  show z.toInt = (Int64.toInt32 (Int64.ofInt x.toInt)).toInt
  rw [Int64.ofInt_toInt, h]
def lf_cmp (X Y : Int) : Int := if Y < X then 1 else if X = Y then 0 else -1
theorem lf_cmpe {x y : Int64} {z : Int32} {X Y : Int} (h : z = lg_cmp x y) (hx : lf_el x X) (hy : lf_el y Y) : lf_e z (lf_cmp X Y) := by
  rw [← hx, ← hy]
  show z.toInt = _
  rw [h]
  show (if y < x then (1 : Int32) else if x = y then 0 else -1).toInt = if y.toInt < x.toInt then 1 else if x.toInt = y.toInt then 0 else -1
  by_cases q : y < x
  · rw [if_pos q, if_pos (Int64.lt_iff_toInt_lt.mp q)]
    decide
  · rw [if_neg q, if_neg (mt Int64.lt_iff_toInt_lt.mpr q)]
    by_cases q2 : x = y
    · rw [if_pos q2, if_pos (by rw [q2])]
      decide
    · rw [if_neg q2, if_neg (mt Int64.toInt_inj.mp q2)]
      decide
theorem lf_ldl {f : Nat → Int64} {F : Nat → Int} {i : Int32} {z : Int64} {X : Int} (h : z = f (Int32.toNatClampNeg i)) (hf : lf_eL f F) (hi : lf_e i X) : lf_el z (F X.toNat) := by
  rw [← hf, ← hi]
  show z.toInt = (f _).toInt
  rw [h]
  rfl
theorem lf_stn {f g : Nat → Int32} {F : Nat → Int} {j : Nat} {v : Int32} {X Y : Int} (h : upd f j v = g) (hf : lf_ea f F) (hi : X.toNat = j) (hv : lf_e v Y) : lf_ea g (lf_up F X Y) := by
  rw [← hf, ← hv, ← h]
  show lf_A _ = _
  funext k
  show (if k = j then v else f k).toInt = if k = X.toNat then v.toInt else (f k).toInt
  rw [hi]
  by_cases q : k = j
  · rw [if_pos q, if_pos q]
  · rw [if_neg q, if_neg q]
theorem lf_stLn {f g : Nat → Int64} {F : Nat → Int} {j : Nat} {v : Int64} {X Y : Int} (h : vp_updL f j v = g) (hf : lf_eL f F) (hi : X.toNat = j) (hv : lf_el v Y) : lf_eL g (lf_up F X Y) := by
  rw [← hf, ← hv, ← h]
  show lf_L _ = _
  funext k
  show (if k = j then v else f k).toInt = if k = X.toNat then v.toInt else (f k).toInt
  rw [hi]
  by_cases q : k = j
  · rw [if_pos q, if_pos q]
  · rw [if_neg q, if_neg q]
theorem lf_stL {f g : Nat → Int64} {F : Nat → Int} {i : Int32} {v : Int64} {X Y : Int} (h : vp_updL f (Int32.toNatClampNeg i) v = g) (hf : lf_eL f F) (hi : lf_e i X) (hv : lf_el v Y) : lf_eL g (lf_up F X Y) := by
  rw [← hf, ← hi, ← hv, ← h]
  show lf_L _ = _
  funext k
  show (if k = Int32.toNatClampNeg i then v else f k).toInt = if k = Int32.toNatClampNeg i then v.toInt else (f k).toInt
  by_cases q : k = Int32.toNatClampNeg i
  · rw [if_pos q, if_pos q]
  · rw [if_neg q, if_neg q]
def lf_isin (V A B : Int) : Int := if A ≤ V ∧ V ≤ B then 1 else 0
/-- rows of truths; System.arraycopy -/
theorem lf_nb {f g : Nat → Int32} {j : Nat} {v : Int32} (h : upd f j (vp_nar .boolean v) = g) (hb : ib v 0 1) : upd f j v = g := by
  have e : vp_nar .boolean v = v := by
    unfold vp_nar
    rw [ib_bool hb]
  rw [← h, e]
def lf_cpy (F G : Nat → Int) (a b c : Int) : Nat → Int := fun k => if b.toNat ≤ k ∧ k < b.toNat + c.toNat then F (a.toNat + (k - b.toNat)) else G k
theorem lf_cpe {f g h : Nat → Int32} {F G : Nat → Int} {a b c : Int32} {A B C : Int} (e : va_cpy f g a.toNatClampNeg b.toNatClampNeg c.toNatClampNeg = h) (hf : lf_ea f F) (hg : lf_ea g G) (ha : lf_e a A) (hb : lf_e b B) (hc : lf_e c C) : lf_ea h (lf_cpy F G A B C) := by
  rw [← hf, ← hg, ← ha, ← hb, ← hc, ← e]
  show lf_A _ = _
  funext k
  show (if b.toNatClampNeg ≤ k ∧ k < b.toNatClampNeg + c.toNatClampNeg then f (a.toNatClampNeg + (k - b.toNatClampNeg)) else g k).toInt = if b.toNatClampNeg ≤ k ∧ k < b.toNatClampNeg + c.toNatClampNeg then (f (a.toNatClampNeg + (k - b.toNatClampNeg))).toInt else (g k).toInt
  split
  · rfl
  · rfl
end
section
/-! rg -/
/-! Math.floorDiv's number; 'and' of 64 bits; rings of states as functions of the place -/
def lf_fdv (x y : Int32) : Int32 := if 0 ≤ x ^^^ y then x / y else if x / y * y = x then x / y else x / y - 1
def lf_land (x y : Int64) : Int64 := x &&& y
def lf_R (f : Nat → Nat → Int32) : Nat → Nat → Int := fun k => lf_A (f k)
def lf_eR (f : Nat → Nat → Int32) (F : Nat → Nat → Int) : Prop := lf_R f = F
def lf_upR (F : Nat → Nat → Int) (i : Int) (V : Nat → Int) : Nat → Nat → Int := fun k => if k = i.toNat then V else F k
theorem lf_uR {f : Nat → Nat → Int32} {F : Nat → Nat → Int} (h : lf_eR f F) : lf_R f = F := h
theorem lf_raR (f : Nat → Nat → Int32) : lf_eR f (lf_R f) := rfl
theorem lf_ix {z y : Int32} {X : Int} {j : Nat} (h : lf_e z X) (c : z = y) (e : y.toInt = (j : Int)) : X.toNat = j := by
  have h' : z.toInt = X := h
  rw [c, e] at h'
  omega
theorem lf_ptx {f : Nat → Int32} {F : Nat → Int} (h : lf_ea f F) {X : Int} {j : Nat} (hi : X.toNat = j) : lf_e (f j) (F X.toNat) := by
  rw [hi]
  exact lf_pt h j
theorem lf_Rtx {f : Nat → Nat → Int32} {F : Nat → Nat → Int} (h : lf_eR f F) {X : Int} {j : Nat} (hi : X.toNat = j) : lf_ea (f j) (F X.toNat) := by
  rw [hi, ← lf_uR h]
  exact rfl
theorem lf_gux {f : Nat → Int32} {F : Nat → Int} (hf : lf_ea f F) {X Y : Int} {j : Nat} {x : Int32} (hi : X.toNat = j) (hv : lf_e x Y) : lf_A (rg_u f j x) = lf_up F X Y := by
  rw [← hf, ← hv]
  funext k
  show (if k = j then x else f k).toInt = if k = X.toNat then x.toInt else (f k).toInt
  rw [hi]
  by_cases q : k = j
  · rw [if_pos q, if_pos q]
  · rw [if_neg q, if_neg q]
theorem lf_Gux {f : Nat → Nat → Int32} {F : Nat → Nat → Int} (hf : lf_eR f F) {X : Int} {Y : Nat → Int} {j : Nat} {x : Nat → Int32} (hi : X.toNat = j) (hv : lf_ea x Y) : lf_R (rg_u f j x) = lf_upR F X Y := by
  rw [← hf, ← hv]
  funext k
  show lf_A (if k = j then x else f k) = if k = X.toNat then lf_A x else lf_A (f k)
  rw [hi]
  by_cases q : k = j
  · rw [if_pos q, if_pos q]
  · rw [if_neg q, if_neg q]
end
