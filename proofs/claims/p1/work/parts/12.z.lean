theorem tq_cx {x : Int32} {n : Nat} (h : x.toInt < n) (h0 : 0 < n) : x.toNatClampNeg < n := by
  show x.toInt.toNat < n
  omega
