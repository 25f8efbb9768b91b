/-! a line in the class's loop -/
section TL
variable {T V : oa_I2}
theorem tell_s {i : Nat} {k : Nat} (hi : i < 320) (h5 : T 1 5 = nI k) (hk : k ≠ 0) (hk3 : k ≤ 3) (kk : oa_I2 → oa_I2 → Int32 → Int32 → Option (oa_I2 × oa_I2)) : b_X4_tell_34 kk T V 1 (nI i) = (((f_X4_lineNamed T V).bind fun (y19 : Int32) => if y19 = (-4) then ((f_X4_misplaced T V).bind <| oa_u fun (y34 : Int32) (T35 : oa_I2) => some (y34, T35, V)) else if y19 = 3 then f_X4_takeOne T V else f_X4_takeRule T V y19).bind <| oa_u fun (y : Int32) => oa_u fun (T1 : oa_I2) (V1 : oa_I2) => kk T1 V1 y (nI (i + 1))) := by
  unfold b_X4_tell_34
  rw [if_neg (show ¬ (320 : Int32) ≤ nI i from nI_ge (b := 320) hi (by omega)), if_neg (show ¬ (1 : Int32) = 0 by decide), h5, if_neg (show ¬ nI k = 0 from nI_neq (b := 0) hk (by omega) (by omega)), nI_1]
  cases f_X4_lineNamed T V with
  | none => rfl
  | some y =>
    simp only [oa_bs]
    by_cases c : y = -4
    · rw [if_pos c, if_pos c]
      cases f_X4_misplaced T V with
      | none => rfl
      | some z => rfl
    · rw [if_neg c, if_neg c]
      by_cases c3 : y = 3
      · rw [if_pos c3, if_pos c3]
      · rw [if_neg c3, if_neg c3]
end TL
