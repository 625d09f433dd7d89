theorem rfx_9 {rf : Nat → Int} {v : Int} (h : v = -9 ∨ 0 ≤ v) : rfx rf v = rf := if_neg (by omega)
