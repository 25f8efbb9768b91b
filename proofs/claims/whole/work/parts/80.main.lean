/-! the law's loop from the start -/
theorem oa_Rel0 : Rel oa_B0 oa_M0 := by
  have hX : TDX 0 0 (oa_clr oa_V0) (oa_M0 1) := TDX_0 (fun _ _ => rfl)
  have hR : TDR (oa_clr oa_V0) (oa_M0 2) := TDR_0 rfl rfl rfl
  refine ⟨0, 4, ⟨⟨rfl, by omega, by omega⟩, Or.inl rfl⟩, RV_of hX hR rfl rfl rfl (by omega), fun k hk => ?_, RT_0 rfl rfl, ⟨rfl, rfl⟩, fun k hk => ?_, ?_, ?_⟩
  · exact ⟨rfl, Or.inl rfl⟩
  · rcases k with _ | _ | _ | _ | k
    · exact Or.inl ⟨rfl, rfl⟩
    · exact Or.inl ⟨rfl, rfl⟩
    · exact Or.inl ⟨rfl, rfl⟩
    · exact Or.inl ⟨rfl, rfl⟩
    · omega
  · decide +kernel
  · decide +kernel
theorem oa_main (xs : Nat → Int32) (L : Nat) (hL : L ≤ 2560) : oa_fix (fun k => oa_u fun (B : oa_I3) => oa_u fun (J : oa_J2) => oa_u fun (M : oa_I2) => oa_u fun (K : oa_J2) (x3 : Int32) => b_law xs L (fun B J M K x3 => k (B, J, M, K, x3)) B J M K x3) oa_fu (oa_B0, oa_J0, oa_M0, oa_J0, 0) = some 1 := oa_law_ok xs L hL oa_B0 oa_J0 oa_M0 oa_J0 oa_Rel0
