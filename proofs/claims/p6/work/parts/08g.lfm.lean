theorem lf_isine {v a b : Int64} {z : Int32} {V A B : Int} (h : z = k_isf v a b) (hv : lf_el v V) (ha : lf_el a A) (hb : lf_el b B) : lf_e z (lf_isin V A B) := by
  rw [← hv, ← ha, ← hb]
  show z.toInt = _
  rw [h]
  show (if a ≤ v ∧ v ≤ b then (1 : Int32) else 0).toInt = if a.toInt ≤ v.toInt ∧ v.toInt ≤ b.toInt then 1 else 0
  by_cases q : a ≤ v ∧ v ≤ b
  · rw [if_pos q, if_pos ⟨Int64.le_iff_toInt_le.mp q.1, Int64.le_iff_toInt_le.mp q.2⟩]
    decide
  · rw [if_neg q, if_neg (fun w => q ⟨Int64.le_iff_toInt_le.mpr w.1, Int64.le_iff_toInt_le.mpr w.2⟩)]
    decide
