def k_PD (dC : Nat → ClassId) (dI : Nat → Nat → Nat) (A : Nat → Prop) (L : va_W) (H : Heap) : Prop := va_P (dC, dI) vwCl L H ∧ va_D A L
