/-! ===== builders and texts: what they do to the logical memory ===== -/
/-- a builder's new capacity -/
def grown (m n : Nat) : Nat := m + max (n - m) (m + 2)
/-- w letters more -/
def sbPut (σ : Mem) (o w : Nat) (t : Nat → Nat) : Mem :=
  if (gB σ o).2.1 + w ≤ (gB σ o).1 then pB σ o ((gB σ o).1, (gB σ o).2.1 + w, sb_cat (gB σ o).2.2 (gB σ o).2.1 t)
  else pN (pB σ o (grown (gB σ o).1 ((gB σ o).2.1 + w), (gB σ o).2.1 + w, sb_cat (gB σ o).2.2 (gB σ o).2.1 t)) 1 (grown (gB σ o).1 ((gB σ o).2.1 + w))
def sbC (σ : Mem) (o : Nat) (c : Int32) : Mem := sbPut σ o 1 (fun _ => c.toNatClampNeg)
def sbI (σ : Mem) (o : Nat) (v : Int32) : Mem := sbPut σ o (sb_dg v.toNatClampNeg) (sb_dec v.toNatClampNeg)
def sbZ (σ : Mem) (o : Nat) : Mem := pB σ o ((gB σ o).1, 0, (gB σ o).2.2)
abbrev sbGC (σ : Mem) (o : Nat) (c : Int32) : Prop := (0 ≤ c ∧ c ≤ 255) ∧ (gB σ o).2.1 ≤ 30000
abbrev sbGI (σ : Mem) (o : Nat) (v : Int32) : Prop := 0 ≤ v ∧ (gB σ o).2.1 ≤ 30000
/-- a String constant's letters -/
def strN (q : Nat) : Nat := ((strL.getD (q - 3000) ("", 0, "")).2.2.toList).length
def strC (q k : Nat) : Nat := (((strL.getD (q - 3000) ("", 0, "")).2.2.toList).getD k ' ').toNat
def FUEL : Nat := 4096
abbrev np32 (r : UInt32) : Prop := r &&& 0x7fffffff ≤ 0x7f800000
abbrev np64 (r : UInt64) : Prop := r &&& 0x7fffffffffffffff ≤ 0x7ff0000000000000
