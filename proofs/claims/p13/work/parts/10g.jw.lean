section
/-! jw -/
/-! the same calls, the cells that stay written out once -/
section JX
variable {p : Program} {l : Launch} {e : Env} {R : Room} {s : State} {m : MethodId} {args : Array Value} {below : List Frame} {meth : Method} {c : Code} {H : Heap} {locs : List Loc} {cells slots : Nat} {Q : State → Prop}
variable {pc : Nat} {ls : Array Slot} {rest st0 : List Value} {A : Nat → Prop} {ws T : va_W} {H0 : Heap} {dC : Nat → ClassId} {dI : Nat → Nat → Nat} {wc : va_W} {S : Type}
theorem jx_i {post : Int32 → S → Prop} {B : S → va_W} {a : Array Value} (n : Nat) (isC isR : List Nat) (wr : va_W) (hP : va_P (dC, dI) vwCl (ws ++ T) H) (hD : va_D A (ws ++ T)) (hS : va_S A H0 H locs) (hA : ∀ q, H0.size ≤ q → A q)
    (hr : va_P (dC, dI) vwCl wc H → va_D A wc → va_Run p l e R s m args below meth c H locs cells slots 0 0 (F0 m pc ls st0) rest (k_Qi dC dI post B (va_A wc H.size) a) (va_A wc H.size))
    (hC : isC.map (fun i => ws[i]?) = wc.map some) (hR : isR.map (fun i => ws[i]?) = wr.map some) (hck : jw_ck n isC isR = true)
    (kk : ∀ (r : Int32) (u : S) (H1 : Heap) (locs1 : List Loc), post r u → (∀ X : va_W, X.length = n → isC.map (fun i => X[i]?) = (B u).map some → isR.map (fun i => X[i]?) = wr.map some → va_P (dC, dI) vwCl (X ++ T) H1 ∧ va_D A (X ++ T)) → va_S A H0 H1 locs1 → W p l e R s m args below meth c H1 locs1 cells slots Q (F0 m (pc + 3) ls (.int r :: rest))) : W p l e R s m args below meth c H locs cells slots Q (F0 m pc ls st0) :=
  jw_i n isC isR hP hD hS hA hr hC hck (fun r u H1 locs1 hw hX hS1 => kk r u H1 locs1 hw (fun X h1 h2 h3 => hX X h1 h2 (h3.trans hR.symm)) hS1)
theorem jx_l {post : Int64 → S → Prop} {B : S → va_W} {a : Array Value} (n : Nat) (isC isR : List Nat) (wr : va_W) (hP : va_P (dC, dI) vwCl (ws ++ T) H) (hD : va_D A (ws ++ T)) (hS : va_S A H0 H locs) (hA : ∀ q, H0.size ≤ q → A q)
    (hr : va_P (dC, dI) vwCl wc H → va_D A wc → va_Run p l e R s m args below meth c H locs cells slots 0 0 (F0 m pc ls st0) rest (k_Ql dC dI post B (va_A wc H.size) a) (va_A wc H.size))
    (hC : isC.map (fun i => ws[i]?) = wc.map some) (hR : isR.map (fun i => ws[i]?) = wr.map some) (hck : jw_ck n isC isR = true)
    (kk : ∀ (r : Int64) (u : S) (H1 : Heap) (locs1 : List Loc), post r u → (∀ X : va_W, X.length = n → isC.map (fun i => X[i]?) = (B u).map some → isR.map (fun i => X[i]?) = wr.map some → va_P (dC, dI) vwCl (X ++ T) H1 ∧ va_D A (X ++ T)) → va_S A H0 H1 locs1 → W p l e R s m args below meth c H1 locs1 cells slots Q (F0 m (pc + 3) ls (.long r :: rest))) : W p l e R s m args below meth c H locs cells slots Q (F0 m pc ls st0) :=
  jw_l n isC isR hP hD hS hA hr hC hck (fun r u H1 locs1 hw hX hS1 => kk r u H1 locs1 hw (fun X h1 h2 h3 => hX X h1 h2 (h3.trans hR.symm)) hS1)
end JX
end
section
/-! jm -/
theorem km_le_of {α : Type} : ∀ {bs : List Bool} {ws : List α}, bs.length ≤ ws.length → km_le bs ws = true
  | [], _, _ => rfl
  | _ :: _, [], h => absurd h (Nat.not_succ_le_zero _)
  | _ :: bs, _ :: ws, h => km_le_of (bs := bs) (ws := ws) (Nat.le_of_succ_le_succ h)
section JM
variable {p : Program} {l : Launch} {e : Env} {R : Room} {s : State} {m : MethodId} {args : Array Value} {below : List Frame} {meth : Method} {c : Code} {H : Heap} {locs : List Loc} {cells slots : Nat} {Q : State → Prop}
variable {pc : Nat} {ls : Array Slot} {rest st0 : List Value} {A : Nat → Prop} {ws T : va_W} {H0 : Heap} {dC : Nat → ClassId} {dI : Nat → Nat → Nat} {wc : va_W} {S : Type}
theorem jx_im {post : Int32 → S → Prop} {B : S → va_W} {a : Array Value} (n : Nat) (isC : List Nat) (bs : List Bool) (wr : va_W) (hP : va_P (dC, dI) vwCl (ws ++ T) H) (hD : va_D A (ws ++ T)) (hS : va_S A H0 H locs) (hA : ∀ q, H0.size ≤ q → A q)
    (hr : va_P (dC, dI) vwCl wc H → va_D A wc → va_Run p l e R s m args below meth c H locs cells slots 0 0 (F0 m pc ls st0) rest (k_Qi dC dI post B (va_A wc H.size) a) (va_A wc H.size))
    (hC : isC.map (fun i => ws[i]?) = wc.map some) (hR : km_kp bs ws = wr) (hle : km_le bs ws = true) (hck : (Nat.ble bs.length n && jw_ck n isC (km_ix bs 0)) = true)
    (kk : ∀ (r : Int32) (u : S) (H1 : Heap) (locs1 : List Loc), post r u → (∀ X : va_W, X.length = n → isC.map (fun i => X[i]?) = (B u).map some → km_kp bs X = wr → va_P (dC, dI) vwCl (X ++ T) H1 ∧ va_D A (X ++ T)) → va_S A H0 H1 locs1 → W p l e R s m args below meth c H1 locs1 cells slots Q (F0 m (pc + 3) ls (.int r :: rest))) : W p l e R s m args below meth c H locs cells slots Q (F0 m pc ls st0) :=
  jx_i n isC (km_ix bs 0) wr hP hD hS hA hr hC ((km_selR hle).trans (congrArg (List.map some) hR)) ((Bool.and_eq_true _ _).mp hck).2 (fun r u H1 locs1 hw hX hS1 => kk r u H1 locs1 hw (fun X h1 h2 h3 => hX X h1 h2 ((km_selR (km_le_of (h1 ▸ Nat.le_of_ble_eq_true ((Bool.and_eq_true _ _).mp hck).1))).trans (congrArg (List.map some) h3))) hS1)
theorem jx_lm {post : Int64 → S → Prop} {B : S → va_W} {a : Array Value} (n : Nat) (isC : List Nat) (bs : List Bool) (wr : va_W) (hP : va_P (dC, dI) vwCl (ws ++ T) H) (hD : va_D A (ws ++ T)) (hS : va_S A H0 H locs) (hA : ∀ q, H0.size ≤ q → A q)
    (hr : va_P (dC, dI) vwCl wc H → va_D A wc → va_Run p l e R s m args below meth c H locs cells slots 0 0 (F0 m pc ls st0) rest (k_Ql dC dI post B (va_A wc H.size) a) (va_A wc H.size))
    (hC : isC.map (fun i => ws[i]?) = wc.map some) (hR : km_kp bs ws = wr) (hle : km_le bs ws = true) (hck : (Nat.ble bs.length n && jw_ck n isC (km_ix bs 0)) = true)
    (kk : ∀ (r : Int64) (u : S) (H1 : Heap) (locs1 : List Loc), post r u → (∀ X : va_W, X.length = n → isC.map (fun i => X[i]?) = (B u).map some → km_kp bs X = wr → va_P (dC, dI) vwCl (X ++ T) H1 ∧ va_D A (X ++ T)) → va_S A H0 H1 locs1 → W p l e R s m args below meth c H1 locs1 cells slots Q (F0 m (pc + 3) ls (.long r :: rest))) : W p l e R s m args below meth c H locs cells slots Q (F0 m pc ls st0) :=
  jx_l n isC (km_ix bs 0) wr hP hD hS hA hr hC ((km_selR hle).trans (congrArg (List.map some) hR)) ((Bool.and_eq_true _ _).mp hck).2 (fun r u H1 locs1 hw hX hS1 => kk r u H1 locs1 hw (fun X h1 h2 h3 => hX X h1 h2 ((km_selR (km_le_of (h1 ▸ Nat.le_of_ble_eq_true ((Bool.and_eq_true _ _).mp hck).1))).trans (congrArg (List.map some) h3))) hS1)
end JM
end
section
/-! lu -/
def lu_u {α : Type} (f : Nat → α) (j : Nat) (a : α) : Nat → α := fun k => bif Nat.beq k j then a else f k
end
