/-- a contract out of the walk of its body, its end under a name -/
theorem k_ofW2 {l : Launch} {y : MethodName} {bytes : ByteArray} {maxL : Nat} {ret : Option FieldType} {rm : Room} {dC : Nat → ClassId} {dI : Nat → Nat → Nat} {cy : Nat → ClassId} {sq : Nat → Nat} {av : List Value} {wc : va_W} {Qc : (Nat → Prop) → Array Value → State → Outcome → State → Prop} (hy : plainName y.cls = true) (hlen : (lg_sl av).length ≤ maxL)
    (body : ∀ (p : Program) (e : Env) (s : State) (m : MethodId) (below : List Frame) (meth : Method) (c : Code) (A : Nat → Prop) (ls : Array Slot) (H : Heap) (locs : List Loc) (args : Array Value) (Q : State → Prop), Q = MQ below (Qc A) args s rm.cells rm.slots A → k_cx p s m args c bytes maxL y.cls dC dI cy sq → k_Z sq A s s.heap → meth.sig.returnType = ret → meth.locks = false → meth.name = y.name → va_P (dC, dI) vwCl wc H → va_D A wc → (∀ q, s.heap.size ≤ q → A q) → va_S A s.heap H locs → lv_has ls maxL (lv_args 0 av) → W p l e rm s m args below meth c H locs 0 0 Q (F0 m 0 ls [])) :
    k_Met l y bytes maxL ret rm dC dI cy sq av wc Qc :=
  k_ofW hy hlen (fun p e s m below meth c A ls H locs C0 hZ hr hlk hin hP hD hA hS hl => body p e s m below meth c A ls H locs _ _ rfl C0 hZ hr hlk hin hP hD hA hS hl)
theorem ia_w {f : Nat → Int32} {n : Nat} {a b : Int} (lo hi : Int) (h : ia f n a b) (h1 : (decide (lo ≤ a) && decide (b ≤ hi)) = true) : ia f n lo hi := fun k hk => ib_w lo hi (h k hk) h1
/-- the ring of States: which lies where -/
def rg_f (q : Nat → Nat) : Nat → Option Nat := fun k => if k < 20 then some (q k) else none
def rg_u {α : Type} (f : Nat → α) (i : Nat) (x : α) : Nat → α := fun k => if k = i then x else f k
theorem ib_20 {x : Int32} (h : ib x 0 19) : x = 0 ∨ x = 1 ∨ x = 2 ∨ x = 3 ∨ x = 4 ∨ x = 5 ∨ x = 6 ∨ x = 7 ∨ x = 8 ∨ x = 9 ∨ x = 10 ∨ x = 11 ∨ x = 12 ∨ x = 13 ∨ x = 14 ∨ x = 15 ∨ x = 16 ∨ x = 17 ∨ x = 18 ∨ x = 19 := by
  have h1 := h.1
  have h2 := h.2
  have q : x.toInt = 0 ∨ x.toInt = 1 ∨ x.toInt = 2 ∨ x.toInt = 3 ∨ x.toInt = 4 ∨ x.toInt = 5 ∨ x.toInt = 6 ∨ x.toInt = 7 ∨ x.toInt = 8 ∨ x.toInt = 9 ∨ x.toInt = 10 ∨ x.toInt = 11 ∨ x.toInt = 12 ∨ x.toInt = 13 ∨ x.toInt = 14 ∨ x.toInt = 15 ∨ x.toInt = 16 ∨ x.toInt = 17 ∨ x.toInt = 18 ∨ x.toInt = 19 := by omega
  rcases q with q | q | q | q | q | q | q | q | q | q | q | q | q | q | q | q | q | q | q | q
  · exact Or.inl (Int32.toInt_inj.mp (q.trans (show (0 : Int) = (0 : Int32).toInt by decide)))
  · exact Or.inr (Or.inl (Int32.toInt_inj.mp (q.trans (show (1 : Int) = (1 : Int32).toInt by decide))))
  · exact Or.inr (Or.inr (Or.inl (Int32.toInt_inj.mp (q.trans (show (2 : Int) = (2 : Int32).toInt by decide)))))
  · exact Or.inr (Or.inr (Or.inr (Or.inl (Int32.toInt_inj.mp (q.trans (show (3 : Int) = (3 : Int32).toInt by decide))))))
  · exact Or.inr (Or.inr (Or.inr (Or.inr (Or.inl (Int32.toInt_inj.mp (q.trans (show (4 : Int) = (4 : Int32).toInt by decide)))))))
  · exact Or.inr (Or.inr (Or.inr (Or.inr (Or.inr (Or.inl (Int32.toInt_inj.mp (q.trans (show (5 : Int) = (5 : Int32).toInt by decide))))))))
  · exact Or.inr (Or.inr (Or.inr (Or.inr (Or.inr (Or.inr (Or.inl (Int32.toInt_inj.mp (q.trans (show (6 : Int) = (6 : Int32).toInt by decide)))))))))
  · exact Or.inr (Or.inr (Or.inr (Or.inr (Or.inr (Or.inr (Or.inr (Or.inl (Int32.toInt_inj.mp (q.trans (show (7 : Int) = (7 : Int32).toInt by decide))))))))))
  · exact Or.inr (Or.inr (Or.inr (Or.inr (Or.inr (Or.inr (Or.inr (Or.inr (Or.inl (Int32.toInt_inj.mp (q.trans (show (8 : Int) = (8 : Int32).toInt by decide)))))))))))
  · exact Or.inr (Or.inr (Or.inr (Or.inr (Or.inr (Or.inr (Or.inr (Or.inr (Or.inr (Or.inl (Int32.toInt_inj.mp (q.trans (show (9 : Int) = (9 : Int32).toInt by decide))))))))))))
  · exact Or.inr (Or.inr (Or.inr (Or.inr (Or.inr (Or.inr (Or.inr (Or.inr (Or.inr (Or.inr (Or.inl (Int32.toInt_inj.mp (q.trans (show (10 : Int) = (10 : Int32).toInt by decide)))))))))))))
  · exact Or.inr (Or.inr (Or.inr (Or.inr (Or.inr (Or.inr (Or.inr (Or.inr (Or.inr (Or.inr (Or.inr (Or.inl (Int32.toInt_inj.mp (q.trans (show (11 : Int) = (11 : Int32).toInt by decide))))))))))))))
  · exact Or.inr (Or.inr (Or.inr (Or.inr (Or.inr (Or.inr (Or.inr (Or.inr (Or.inr (Or.inr (Or.inr (Or.inr (Or.inl (Int32.toInt_inj.mp (q.trans (show (12 : Int) = (12 : Int32).toInt by decide)))))))))))))))
  · exact Or.inr (Or.inr (Or.inr (Or.inr (Or.inr (Or.inr (Or.inr (Or.inr (Or.inr (Or.inr (Or.inr (Or.inr (Or.inr (Or.inl (Int32.toInt_inj.mp (q.trans (show (13 : Int) = (13 : Int32).toInt by decide))))))))))))))))
  · exact Or.inr (Or.inr (Or.inr (Or.inr (Or.inr (Or.inr (Or.inr (Or.inr (Or.inr (Or.inr (Or.inr (Or.inr (Or.inr (Or.inr (Or.inl (Int32.toInt_inj.mp (q.trans (show (14 : Int) = (14 : Int32).toInt by decide)))))))))))))))))
  · exact Or.inr (Or.inr (Or.inr (Or.inr (Or.inr (Or.inr (Or.inr (Or.inr (Or.inr (Or.inr (Or.inr (Or.inr (Or.inr (Or.inr (Or.inr (Or.inl (Int32.toInt_inj.mp (q.trans (show (15 : Int) = (15 : Int32).toInt by decide))))))))))))))))))
  · exact Or.inr (Or.inr (Or.inr (Or.inr (Or.inr (Or.inr (Or.inr (Or.inr (Or.inr (Or.inr (Or.inr (Or.inr (Or.inr (Or.inr (Or.inr (Or.inr (Or.inl (Int32.toInt_inj.mp (q.trans (show (16 : Int) = (16 : Int32).toInt by decide)))))))))))))))))))
  · exact Or.inr (Or.inr (Or.inr (Or.inr (Or.inr (Or.inr (Or.inr (Or.inr (Or.inr (Or.inr (Or.inr (Or.inr (Or.inr (Or.inr (Or.inr (Or.inr (Or.inr (Or.inl (Int32.toInt_inj.mp (q.trans (show (17 : Int) = (17 : Int32).toInt by decide))))))))))))))))))))
  · exact Or.inr (Or.inr (Or.inr (Or.inr (Or.inr (Or.inr (Or.inr (Or.inr (Or.inr (Or.inr (Or.inr (Or.inr (Or.inr (Or.inr (Or.inr (Or.inr (Or.inr (Or.inr (Or.inl (Int32.toInt_inj.mp (q.trans (show (18 : Int) = (18 : Int32).toInt by decide)))))))))))))))))))))
  · exact Or.inr (Or.inr (Or.inr (Or.inr (Or.inr (Or.inr (Or.inr (Or.inr (Or.inr (Or.inr (Or.inr (Or.inr (Or.inr (Or.inr (Or.inr (Or.inr (Or.inr (Or.inr (Or.inr ((Int32.toInt_inj.mp (q.trans (show (19 : Int) = (19 : Int32).toInt by decide))))))))))))))))))))))
theorem k_topv {p : Program} {l : Launch} {e : Env} {R : Room} {s : State} {m : MethodId} {args : Array Value} {below : List Frame} {meth : Method} {c : Code} {H : Heap} {locs : List Loc} {cells slots : Nat} {Q : State → Prop} {pc : Nat} {ls : Array Slot} {rest : List Value} {x y : Value} (h : x = y) (k : W p l e R s m args below meth c H locs cells slots Q (F0 m pc ls (y :: rest))) : W p l e R s m args below meth c H locs cells slots Q (F0 m pc ls (x :: rest)) := by subst h; exact k
/-- every third entry, below a place -/
def sd (f : Nat → Int32) (x : Int32) : Prop := (∃ m : Int, x.toInt = 3 * m) ∧ ∀ j : Nat, 3 * (j : Int) < x.toInt → ib (f (3 * j)) 0 11
theorem sd_0 (f : Nat → Int32) : sd f 0 := by
  have e0 : (0 : Int32).toInt = 0 := by decide
  refine ⟨⟨0, by omega⟩, fun j h => ?_⟩
  exact absurd h (by omega)
theorem sd_step {f : Nat → Int32} {x z : Int32} (h : sd f x) (hx : ib x 0 50) (hv : ib (f (Int32.toNatClampNeg x)) 0 11) (hz : z.toInt = x.toInt + (3 : Int32).toInt) : sd f z := by
  have e3 : (3 : Int32).toInt = 3 := by decide
  obtain ⟨⟨m, hm⟩, h2⟩ := h
  refine ⟨⟨m + 1, by omega⟩, fun j hj => ?_⟩
  by_cases q : 3 * (j : Int) < x.toInt
  · exact h2 j q
  · have e : Int32.toNatClampNeg x = 3 * j := by
      show x.toInt.toNat = 3 * j
      omega
    rw [e] at hv
    exact hv
theorem sd_end {f : Nat → Int32} {x y : Int32} (h : sd f x) (hy : y ≤ x) : ∀ j : Nat, 3 * (j : Int) < y.toInt → ib (f (3 * j)) 0 11 := by
  rw [Int32.le_iff_toInt_le] at hy
  exact fun j hj => h.2 j (by omega)
theorem sd_use {f : Nat → Int32} {y : Int32} (h : ∀ j : Nat, 3 * (j : Int) < y.toInt → ib (f (3 * j)) 0 11) (i k : Int32) (hi : i.toInt = k.toInt * (3 : Int32).toInt) (h0 : 0 ≤ k.toInt) (h1 : 3 * k.toInt < y.toInt) : ib (f (Int32.toNatClampNeg i)) 0 11 := by
  have e3 : (3 : Int32).toInt = 3 := by decide
  rw [e3] at hi
  have e : Int32.toNatClampNeg i = 3 * k.toInt.toNat := by
    show i.toInt.toNat = 3 * k.toInt.toNat
    omega
  rw [e]
  exact h _ (by omega)
