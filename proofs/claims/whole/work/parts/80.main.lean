theorem oa_main (xs : Nat → Int32) (L : Nat) (hL : L ≤ 2560) : oa_fix (fun k => oa_u fun (B : oa_I3) => oa_u fun (J : oa_J2) => oa_u fun (M : oa_I2) => oa_u fun (K : oa_J2) (x3 : Int32) => b_law xs L (fun B J M K x3 => k (B, J, M, K, x3)) B J M K x3) oa_fu (oa_B0, oa_J0, oa_M0, oa_J0, 0) = some 1 := by
  sorry
