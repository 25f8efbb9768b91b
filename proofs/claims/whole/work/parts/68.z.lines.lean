/-! the lines -/
/-- where both loops of lines end -/
def ZE (t : Nat) (f : Nat → Nat) (K : oa_J2) (T0 M0 : oa_I2) (o1 : Option (oa_I2 × oa_I2)) (o2 : Option (Int32 × oa_I2)) : Prop := ∃ T' V' M' c, FC T0 T' ∧ FG M0 M' ∧ o2 = b_X7_village_88 K M' c ∧ ((o1 = b_X4_tell_95 T' V' 1 ∧ T' 1 3 = c ∧ TDR V' (M' 3) ∧ (∃ m : Nat, V' 5 0 = nI m ∧ M' 4 99 = nI m ∧ TDX m 0 V' (M' 4)) ∧ ∃ s e, OKt t f T' M' s e 0) ∨ (o1 = b_X4_tell_95 T' V' 0 ∧ BRt t T' M' ∧ ∃ q : Nat, q ≤ 6 ∧ M' 4 99 = nI q))
section LZ
variable {K : oa_J2} {t : Nat} {f : Nat → Nat}
theorem v88_br {T M : oa_I2} {c : Int32} {kk : oa_I2 → Int32 → Option (Int32 × oa_I2)} (h : BRt t T M) : b_X7_village_64 K kk M c = b_X7_village_88 K M c := by
  unfold b_X7_village_64
  rw [if_neg (br_ne h)]
theorem v88_end {T M : oa_I2} {c : Int32} {s e : Nat} {kk : oa_I2 → Int32 → Option (Int32 × oa_I2)} (h : OKt t f T M s e 0) : b_X7_village_64 K kk M c = b_X7_village_88 K M c := by
  obtain ⟨o1, o2, o3, o4, o5, o6, o7, o8, o9, o10, o11, o12, o13, o14⟩ := h
  unfold b_X7_village_64
  rw [if_pos o9, o6, if_pos (show nI 0 = 0 from rfl)]
theorem t34_0 {T V : oa_I2} {x : Int32} {kk : oa_I2 → oa_I2 → Int32 → Int32 → Option (oa_I2 × oa_I2)} : b_X4_tell_34 kk T V 0 x = b_X4_tell_95 T V 0 := by
  unfold b_X4_tell_34
  rw [if_pos (rfl : (0 : Int32) = 0), ite_self]
theorem t34_e {T V : oa_I2} {x : Int32} {kk : oa_I2 → oa_I2 → Int32 → Int32 → Option (oa_I2 × oa_I2)} (h : T 1 5 = 0) : b_X4_tell_34 kk T V 1 x = b_X4_tell_95 T V 1 := by
  unfold b_X4_tell_34
  rw [if_neg (show ¬ (1 : Int32) = 0 by decide), h, if_pos (rfl : (0 : Int32) = 0), ite_self]
end LZ
