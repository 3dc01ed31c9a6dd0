/-! calls by contract, the world split and joined in one row -/
abbrev k_Qi {S : Type} (dC : Nat → ClassId) (dI : Nat → Nat → Nat) (post : Int32 → S → Prop) (B : S → va_W) : (Nat → Prop) → Array Value → State → Outcome → State → Prop := fun A => va_Qi post (k_B dC dI A B) A
abbrev k_Ql {S : Type} (dC : Nat → ClassId) (dI : Nat → Nat → Nat) (post : Int64 → S → Prop) (B : S → va_W) : (Nat → Prop) → Array Value → State → Outcome → State → Prop := fun A => va_Ql post (k_B dC dI A B) A
abbrev k_Qv {S : Type} (dC : Nat → ClassId) (dI : Nat → Nat → Nat) (post : S → Prop) (B : S → va_W) : (Nat → Prop) → Array Value → State → Outcome → State → Prop := fun A => va_Qv post (k_B dC dI A B) A
/-- a contract -/
def k_Met (l : Launch) (y : MethodName) (bytes : ByteArray) (maxL : Nat) (ret : Option FieldType) (rm : Room) (dC : Nat → ClassId) (dI : Nat → Nat → Nat) (cy : Nat → ClassId) (sq : Nat → Nat) (av : List Value) (wc : va_W) (Qc : (Nat → Prop) → Array Value → State → Outcome → State → Prop) : Prop :=
  ∀ sz : Nat, Met l y (Cond.code y bytes maxL ret :: wsL_law) rm (va_Pc av (k_Pre dC dI cy sq sz wc)) (Qc (va_A wc sz)) rm.cells rm.slots (va_A wc sz)
theorem k_P_sub {D : va_G} {cl : List vw_C} {ws wc : va_W} {H : Heap} (hP : va_P D cl ws H) (is : List Nat) (hC : is.map (fun i => ws[i]?) = wc.map some) : va_P D cl wc H := by
  intro k q hq
  have h1 : (is.map (fun i => ws[i]?))[k]? = some (some q) := by rw [hC, List.getElem?_map, hq]; rfl
  rw [List.getElem?_map] at h1
  cases hi : is[k]? with
  | none => rw [hi] at h1; cases h1
  | some i => rw [hi] at h1; exact hP i q (Option.some.inj h1)
section KC
variable {p : Program} {l : Launch} {e : Env} {R : Room} {s : State} {m : MethodId} {args : Array Value} {below : List Frame} {meth : Method} {c : Code} {H : Heap} {locs : List Loc} {cells slots : Nat} {Q : State → Prop}
variable {cc : ByteArray} {pc : Nat} {ls : Array Slot} {rest st0 : List Value} {A : Nat → Prop} {ws : va_W} {H0 : Heap} {nL : Nat} {own : String} {dC : Nat → ClassId} {dI : Nat → Nat → Nat} {cy : Nat → ClassId} {sq : Nat → Nat}
variable {y : MethodName} {bytes : ByteArray} {maxL n index mc ms : Nat} {ret : Option FieldType} {rm : Room} {C host : String} {b : Nat} {As av : List Value} {wc wr : va_W} {S : Type} {Qc : (Nat → Prop) → Array Value → State → Outcome → State → Prop}
theorem k_preS (C0 : k_cx p s m args c cc nL own dC dI cy sq) (hZ : k_Z sq A s s.heap) (hS : va_S A s.heap H locs) (hA : ∀ q, s.heap.size ≤ q → A q) (hP : va_P (dC, dI) vwCl wc H) (hD : va_D A wc) : PreS s H (va_Pc av (k_Pre dC dI cy sq H.size wc)) av :=
  ⟨fun a U g mk q => ⟨q.1, q.2.1, q.2.2.1, q.2.2.2.1.calling, q.2.2.2.2.1, k_Z.moved (u := U) (U := U.calling g mk a) (Vm.Alike.refl U.vm) q.2.2.2.2.2⟩, fun U hU hW => ⟨rfl, by rw [hU], by rw [hU]; exact hP, C0.2.2.2.2.2.warm hW, hD.weaken (fun _ _ _ _ => trivial), by rw [hU]; exact ((hZ.kept hS.2.1).narrow (fun q h => h.elim (fun ⟨k, e, h⟩ => hD.2 k (q, e) h) (fun h => hA q (Nat.le_trans hS.1 h)))).moved hW.alike⟩⟩
theorem k_runV (C0 : k_cx p s m args c cc nL own dC dI cy sq) (hZ : k_Z sq A s s.heap) (hS : va_S A s.heap H locs) (hA : ∀ q, s.heap.size ≤ q → A q) (hM : k_Met l y bytes maxL ret rm dC dI cy sq (.ref b :: As) wc Qc) (hm : k_mv own index C y bytes maxL ret n) (hP : va_P (dC, dI) vwCl wc H) (hD : va_D A wc) {ci : Nat} {cq : vw_C} {fs : List Value} (hci : vwCl[ci]? = some cq) (hcq : cq.1 = C) (hrv : wc[0]? = some (b, .inr (ci, fs))) {lv : List (Nat × Value)} (hl : lv_has ls nL lv) (hn : As.length = n) (hst : st0 = As.reverse ++ .ref b :: rest) (hrest : (rest.map fun v => v.category).sum ≤ 8) (hR : rm.frames + 1 ≤ R.frames ∧ 8 + (maxL + 11) + rm.locals ≤ R.locals) (hf : cells + rm.cells ≤ R.cells ∧ slots + rm.slots ≤ R.slots) (hdg : decode cc pc = .ok (.invokevirtual index, 3)) :
    va_Run p l e R s m args below meth c H locs cells slots rm.cells rm.slots (F0 m pc ls st0) rest (Qc (va_A wc H.size) (Value.ref b :: As).toArray) (va_A wc H.size) := by
  have C1 := C0
  obtain ⟨hx, hb, hml, hown, hts, hK⟩ := C1
  obtain ⟨m1, m2, m3, m4, m5, m6, m7⟩ := hm
  subst m6
  subst hst
  have hr := va_recv hK.1 hP hci hrv
  rw [hcq] at hr
  have hps := k_preS (av := .ref b :: As) C0 hZ hS hA hP hD
  exact va_runV (n := n) (index := index) (bytes := bytes) (maxL := maxL) (ret := ret) (As := As) (rest := rest) ⟨hx, hb, hml, hown, hts⟩ (hM H.size) ⟨callB_of n hts (k_goodC m5) rfl rfl rfl (hts _ m4) (hts _ m1) m7 hR, hts _ m2, hts _ m3⟩ ⟨hps.1, hr, hps.2⟩ rfl hn hl.1 rfl (lv_room hrest) hdg hf
/-- the same, its receiver outside of the world -/
theorem k_runVO (C0 : k_cx p s m args c cc nL own dC dI cy sq) (hZ : k_Z sq A s s.heap) (hS : va_S A s.heap H locs) (hA : ∀ q, s.heap.size ≤ q → A q) (hM : k_Met l y bytes maxL ret rm dC dI cy sq (.ref b :: As) wc Qc) (hm : k_mv own index C y bytes maxL ret n) (hP : va_P (dC, dI) vwCl wc H) (hD : va_D A wc) (hr : ∃ cell : Cell, H[b]? = some cell ∧ cell.vm.isStatics = false ∧ s.vm.findClass C = some cell.cls) {lv : List (Nat × Value)} (hl : lv_has ls nL lv) (hn : As.length = n) (hst : st0 = As.reverse ++ .ref b :: rest) (hrest : (rest.map fun v => v.category).sum ≤ 8) (hR : rm.frames + 1 ≤ R.frames ∧ 8 + (maxL + 11) + rm.locals ≤ R.locals) (hf : cells + rm.cells ≤ R.cells ∧ slots + rm.slots ≤ R.slots) (hdg : decode cc pc = .ok (.invokevirtual index, 3)) :
    va_Run p l e R s m args below meth c H locs cells slots rm.cells rm.slots (F0 m pc ls st0) rest (Qc (va_A wc H.size) (Value.ref b :: As).toArray) (va_A wc H.size) := by
  have C1 := C0
  obtain ⟨hx, hb, hml, hown, hts, hK⟩ := C1
  obtain ⟨m1, m2, m3, m4, m5, m6, m7⟩ := hm
  subst m6
  subst hst
  have hps := k_preS (av := .ref b :: As) C0 hZ hS hA hP hD
  exact va_runV (n := n) (index := index) (bytes := bytes) (maxL := maxL) (ret := ret) (As := As) (rest := rest) ⟨hx, hb, hml, hown, hts⟩ (hM H.size) ⟨callB_of n hts (k_goodC m5) rfl rfl rfl (hts _ m4) (hts _ m1) m7 hR, hts _ m2, hts _ m3⟩ ⟨hps.1, hr, hps.2⟩ rfl hn hl.1 rfl (lv_room hrest) hdg hf
theorem k_runI (C0 : k_cx p s m args c cc nL own dC dI cy sq) (hZ : k_Z sq A s s.heap) (hS : va_S A s.heap H locs) (hA : ∀ q, s.heap.size ≤ q → A q) (hM : k_Met l y bytes maxL none rm dC dI cy sq (.ref b :: As) wc Qc) (hm : k_mi own index y bytes maxL n) (hP : va_P (dC, dI) vwCl wc H) (hD : va_D A wc) {lv : List (Nat × Value)} (hl : lv_has ls nL lv) (hn : As.length = n) (hst : st0 = As.reverse ++ .ref b :: rest) (hrest : (rest.map fun v => v.category).sum ≤ 8) (hR : rm.frames + 1 ≤ R.frames ∧ 8 + (maxL + 11) + rm.locals ≤ R.locals) (hf : cells + rm.cells ≤ R.cells ∧ slots + rm.slots ≤ R.slots) (hdg : decode cc pc = .ok (.invokespecial index, 3)) :
    va_Run p l e R s m args below meth c H locs cells slots rm.cells rm.slots (F0 m pc ls st0) rest (Qc (va_A wc H.size) (Value.ref b :: As).toArray) (va_A wc H.size) := by
  have C1 := C0
  obtain ⟨hx, hb, hml, hown, hts, hK⟩ := C1
  obtain ⟨m1, m2, m3, m4, m5, m6⟩ := hm
  subst hst
  exact va_runI (n := n) (index := index) (bytes := bytes) (maxL := maxL) (As := As) (rest := rest) ⟨hx, hb, hml, hown, hts⟩ (hM H.size) ⟨callB_of n hts (k_goodC m4) rfl rfl rfl (hts _ m3) (hts _ m1) m6 hR, m5, hts _ m2⟩ (k_preS (av := .ref b :: As) C0 hZ hS hA hP hD) rfl hn hl.1 rfl (lv_room hrest) hdg hf
theorem k_runN (C0 : k_cx p s m args c cc nL own dC dI cy sq) (hZ : k_Z sq A s s.heap) (hS : va_S A s.heap H locs) (hA : ∀ q, s.heap.size ≤ q → A q) (hM : k_Met l y bytes maxL none rm dC dI cy sq (.ref b :: As) wc Qc) (hm : k_mn y bytes maxL n) (hlk : va_Nw (.methodLinkNest own index y host) s) (hP : va_P (dC, dI) vwCl wc H) (hD : va_D A wc) {lv : List (Nat × Value)} (hl : lv_has ls nL lv) (hn : As.length = n) (hst : st0 = As.reverse ++ .ref b :: rest) (hrest : (rest.map fun v => v.category).sum ≤ 8) (hR : rm.frames + 1 ≤ R.frames ∧ 8 + (maxL + 11) + rm.locals ≤ R.locals) (hf : cells + rm.cells ≤ R.cells ∧ slots + rm.slots ≤ R.slots) (hdg : decode cc pc = .ok (.invokespecial index, 3)) :
    va_Run p l e R s m args below meth c H locs cells slots rm.cells rm.slots (F0 m pc ls st0) rest (Qc (va_A wc H.size) (Value.ref b :: As).toArray) (va_A wc H.size) := by
  have C1 := C0
  obtain ⟨hx, hb, hml, hown, hts, hK⟩ := C1
  obtain ⟨m2, m3, m4, m5, m6⟩ := hm
  subst hst
  exact va_runIN (n := n) (index := index) (bytes := bytes) (maxL := maxL) (host := host) (As := As) (rest := rest) ⟨hx, hb, hml, hown, hts⟩ (hM H.size) ⟨va_cnB n hts (k_goodC m4) rfl rfl rfl hlk (hts _ m3) m6 hR, m5, hts _ m2⟩ (k_preS (av := .ref b :: As) C0 hZ hS hA hP hD) rfl hn hl.1 rfl (lv_room hrest) hdg hf
theorem k_runS (C0 : k_cx p s m args c cc nL own dC dI cy sq) (hZ : k_Z sq A s s.heap) (hS : va_S A s.heap H locs) (hA : ∀ q, s.heap.size ≤ q → A q) (hM : k_Met l y bytes maxL ret rm dC dI cy sq As wc Qc) (hm : k_ms own index y bytes maxL ret n) (hP : va_P (dC, dI) vwCl wc H) (hD : va_D A wc) {lv : List (Nat × Value)} (hl : lv_has ls nL lv) (hn : As.length = n) (hst : st0 = As.reverse ++ rest) (hrest : (rest.map fun v => v.category).sum ≤ 8) (hR : rm.frames + 1 ≤ R.frames ∧ 8 + (maxL + 11) + rm.locals ≤ R.locals) (hf : cells + rm.cells ≤ R.cells ∧ slots + rm.slots ≤ R.slots) (hdg : decode cc pc = .ok (.invokestatic index, 3)) :
    va_Run p l e R s m args below meth c H locs cells slots rm.cells rm.slots (F0 m pc ls st0) rest (Qc (va_A wc H.size) As.toArray) (va_A wc H.size) := by
  have C1 := C0
  obtain ⟨hx, hb, hml, hown, hts, hK⟩ := C1
  obtain ⟨m1, m2, m3, m4, m6⟩ := hm
  subst hst
  exact va_runS (n := n) (index := index) (bytes := bytes) (maxL := maxL) (ret := ret) (As := As) (rest := rest) ⟨hx, hb, hml, hown, hts⟩ (hM H.size) ⟨callB_of n hts (k_goodC m4) rfl rfl rfl (hts _ m3) (hts _ m1) m6 hR, hts _ m2⟩ (k_preS (av := As) C0 hZ hS hA hP hD) rfl hn hl.1 rfl (lv_room hrest) hdg hf
/-- the world split by places, a call, the world joined: an int, a long, nothing comes back -/
theorem k_ji {post : Int32 → S → Prop} {B : S → va_W} {a : Array Value} (hP : va_P (dC, dI) vwCl ws H) (hD : va_D A ws) (hS : va_S A H0 H locs) (hA : ∀ q, H0.size ≤ q → A q) (isC isR : List Nat) (hC : isC.map (fun i => ws[i]?) = wc.map some) (hRr : isR.map (fun i => ws[i]?) = wr.map some) (hnC : va_nd isC = true) (hnR : va_nd isR = true) (hdis : ∀ i ∈ isR, i ∉ isC) (k j : Nat) (h1 : cells + mc ≤ k) (h2 : slots + ms ≤ j)
    (hr : va_P (dC, dI) vwCl wc H → va_D A wc → va_Run p l e R s m args below meth c H locs cells slots mc ms (F0 m pc ls st0) rest (k_Qi dC dI post B (va_A wc H.size) a) (va_A wc H.size))
    (kk : ∀ (r : Int32) (u : S) (H1 : Heap) (locs1 : List Loc), post r u → va_P (dC, dI) vwCl (wr ++ B u) H1 → va_D A (wr ++ B u) → va_S A H0 H1 locs1 → W p l e R s m args below meth c H1 locs1 k j Q (F0 m (pc + 3) ls (.int r :: rest))) : W p l e R s m args below meth c H locs cells slots Q (F0 m pc ls st0) := by
  have hFc := va_free (wc := wc) hD hS hA isC hC
  refine va_calli (hr (k_P_sub hP isC hC) (hD.sub isC hnC hC)) hS (fun q _ h => hFc q h) hFc (fun r u t H1 locs1 ht hvm hw hB hz hk hS1 => ?_)
  obtain ⟨hP1, hD1⟩ := hB
  rw [ht] at hP1
  obtain ⟨hP2, hD2⟩ := va_join hP hD isC isR hC hRr hnR hdis hk hFc hP1 hD1
  exact W.widen h1 h2 (kk r u H1 locs1 hw hP2 hD2 hS1)
theorem k_jl {post : Int64 → S → Prop} {B : S → va_W} {a : Array Value} (hP : va_P (dC, dI) vwCl ws H) (hD : va_D A ws) (hS : va_S A H0 H locs) (hA : ∀ q, H0.size ≤ q → A q) (isC isR : List Nat) (hC : isC.map (fun i => ws[i]?) = wc.map some) (hRr : isR.map (fun i => ws[i]?) = wr.map some) (hnC : va_nd isC = true) (hnR : va_nd isR = true) (hdis : ∀ i ∈ isR, i ∉ isC) (k j : Nat) (h1 : cells + mc ≤ k) (h2 : slots + ms ≤ j)
    (hr : va_P (dC, dI) vwCl wc H → va_D A wc → va_Run p l e R s m args below meth c H locs cells slots mc ms (F0 m pc ls st0) rest (k_Ql dC dI post B (va_A wc H.size) a) (va_A wc H.size))
    (kk : ∀ (r : Int64) (u : S) (H1 : Heap) (locs1 : List Loc), post r u → va_P (dC, dI) vwCl (wr ++ B u) H1 → va_D A (wr ++ B u) → va_S A H0 H1 locs1 → W p l e R s m args below meth c H1 locs1 k j Q (F0 m (pc + 3) ls (.long r :: rest))) : W p l e R s m args below meth c H locs cells slots Q (F0 m pc ls st0) := by
  have hFc := va_free (wc := wc) hD hS hA isC hC
  refine va_calll (hr (k_P_sub hP isC hC) (hD.sub isC hnC hC)) hS (fun q _ h => hFc q h) hFc (fun r u t H1 locs1 ht hvm hw hB hz hk hS1 => ?_)
  obtain ⟨hP1, hD1⟩ := hB
  rw [ht] at hP1
  obtain ⟨hP2, hD2⟩ := va_join hP hD isC isR hC hRr hnR hdis hk hFc hP1 hD1
  exact W.widen h1 h2 (kk r u H1 locs1 hw hP2 hD2 hS1)
theorem k_jv {post : S → Prop} {B : S → va_W} {a : Array Value} (hP : va_P (dC, dI) vwCl ws H) (hD : va_D A ws) (hS : va_S A H0 H locs) (hA : ∀ q, H0.size ≤ q → A q) (isC isR : List Nat) (hC : isC.map (fun i => ws[i]?) = wc.map some) (hRr : isR.map (fun i => ws[i]?) = wr.map some) (hnC : va_nd isC = true) (hnR : va_nd isR = true) (hdis : ∀ i ∈ isR, i ∉ isC) (k j : Nat) (h1 : cells + mc ≤ k) (h2 : slots + ms ≤ j)
    (hr : va_P (dC, dI) vwCl wc H → va_D A wc → va_Run p l e R s m args below meth c H locs cells slots mc ms (F0 m pc ls st0) rest (k_Qv dC dI post B (va_A wc H.size) a) (va_A wc H.size))
    (kk : ∀ (u : S) (H1 : Heap) (locs1 : List Loc), post u → va_P (dC, dI) vwCl (wr ++ B u) H1 → va_D A (wr ++ B u) → va_S A H0 H1 locs1 → W p l e R s m args below meth c H1 locs1 k j Q (F0 m (pc + 3) ls rest)) : W p l e R s m args below meth c H locs cells slots Q (F0 m pc ls st0) := by
  have hFc := va_free (wc := wc) hD hS hA isC hC
  refine va_callv (hr (k_P_sub hP isC hC) (hD.sub isC hnC hC)) hS (fun q _ h => hFc q h) hFc (fun u t H1 locs1 ht hvm hw hB hz hk hS1 => ?_)
  obtain ⟨hP1, hD1⟩ := hB
  rw [ht] at hP1
  obtain ⟨hP2, hD2⟩ := va_join hP hD isC isR hC hRr hnR hdis hk hFc hP1 hD1
  exact W.widen h1 h2 (kk u H1 locs1 hw hP2 hD2 hS1)
/-- a method's return -/
theorem k_iret (hx : p.tables.exec = Jvm.exec) (hb : c.code = cc) {ty : FieldType} (hr : meth.sig.returnType = some ty) (hlk : meth.locks = false) {post : Int32 → S → Prop} {B : S → va_W} {v : Int32} (hn : narrow ty (.int v) = .int v) (u : S) (hS : va_S A s.heap H locs) (hp : post v u) (hP : va_P (dC, dI) vwCl (B u) H) (hD : va_D A (B u)) (h1 : cells ≤ mc) (h2 : slots ≤ ms) (hdg : decode cc pc = .ok (.ireturn, 1)) :
    W p l e R s m args below meth c H locs cells slots (MQ below (k_Qi dC dI post B A) args s mc ms A) (F0 m pc ls [.int v]) :=
  W.widen h1 h2 (W.zret hx hb hr hn (fun t ht hW => ⟨⟨v, u, rfl, hp, by rw [ht]; exact hP, hD⟩, hS.F ht⟩) hS.2.2 hdg hlk)
theorem k_lret (hx : p.tables.exec = Jvm.exec) (hb : c.code = cc) (hr : meth.sig.returnType = some .long) (hlk : meth.locks = false) {post : Int64 → S → Prop} {B : S → va_W} {v : Int64} (u : S) (hS : va_S A s.heap H locs) (hp : post v u) (hP : va_P (dC, dI) vwCl (B u) H) (hD : va_D A (B u)) (h1 : cells ≤ mc) (h2 : slots ≤ ms) (hdg : decode cc pc = .ok (.lreturn, 1)) :
    W p l e R s m args below meth c H locs cells slots (MQ below (k_Ql dC dI post B A) args s mc ms A) (F0 m pc ls [.long v]) :=
  W.widen h1 h2 (W.lret hx hb hr (fun t ht hW => ⟨⟨v, u, rfl, hp, by rw [ht]; exact hP, hD⟩, hS.F ht⟩) hS.2.2 hdg hlk)
theorem k_vret (hx : p.tables.exec = Jvm.exec) (hb : c.code = cc) (hr : meth.sig.returnType = none) (hlk : meth.locks = false) {post : S → Prop} {B : S → va_W} (u : S) (hS : va_S A s.heap H locs) (hp : post u) (hP : va_P (dC, dI) vwCl (B u) H) (hD : va_D A (B u)) (h1 : cells ≤ mc) (h2 : slots ≤ ms) (hdg : decode cc pc = .ok (.return_, 1)) :
    W p l e R s m args below meth c H locs cells slots (MQ below (k_Qv dC dI post B A) args s mc ms A) (F0 m pc ls []) :=
  W.widen h1 h2 (W.vret hx hb hr (fun t ht hW => ⟨⟨u, rfl, hp, by rw [ht]; exact hP, hD⟩, hS.F ht⟩) hS.2.2 hdg hlk)
end KC
/-- a contract out of the walk of its body -/
theorem k_ofW {l : Launch} {y : MethodName} {bytes : ByteArray} {maxL : Nat} {ret : Option FieldType} {rm : Room} {dC : Nat → ClassId} {dI : Nat → Nat → Nat} {cy : Nat → ClassId} {sq : Nat → Nat} {av : List Value} {wc : va_W} {Qc : (Nat → Prop) → Array Value → State → Outcome → State → Prop} (hy : plainName y.cls = true) (hlen : (lg_sl av).length ≤ maxL)
    (body : ∀ (p : Program) (e : Env) (s : State) (m : MethodId) (below : List Frame) (meth : Method) (c : Code) (A : Nat → Prop) (ls : Array Slot) (H : Heap) (locs : List Loc), k_cx p s m av.toArray c bytes maxL y.cls dC dI cy sq → k_Z sq A s s.heap → meth.sig.returnType = ret → meth.locks = false → meth.name = y.name → va_P (dC, dI) vwCl wc H → va_D A wc → (∀ q, s.heap.size ≤ q → A q) → va_S A s.heap H locs → lv_has ls maxL (lv_args 0 av) → W p l e rm s m av.toArray below meth c H locs 0 0 (MQ below (Qc A) av.toArray s rm.cells rm.slots A) (F0 m 0 ls [])) :
    k_Met l y bytes maxL ret rm dC dI cy sq av wc Qc := by
  intro sz
  refine Met.ofW (cc := bytes) (maxL := maxL) (ret := ret) hy rfl ?_
  intro p e s m args below meth c s₁ B hml hv
  obtain ⟨rfl, hsz, hP, hK, hD0, hZ⟩ := hv
  have hts := atoms_spec (ws := Cond.code y bytes maxL ret :: wsL_law) B.pre
  subst hsz
  have hl := lv_entry av (n := maxL) hlen
  rw [lg_entry_eq]
  exact body p e s m below meth c _ _ s.heap [] ⟨B.exec, B.bytes, hml, findClass_of_methodNamed B.named, fun w h => hts w (List.mem_cons_of_mem _ h), hK⟩ hZ B.returns B.notSynchronized (name_of_methodNamed B.named B.method).1 hP hD0.self (fun q h => Or.inr h) va_S.rf hl
