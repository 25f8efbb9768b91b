theorem c_village {B : oa_I3} {J : oa_J2} {M : oa_I2} {K : oa_J2} (h : Rel B M) : ∃ a B' M', f_X6_village B J = some (a, B') ∧ f_X7_village M K = some (a, M') ∧ Rel B' M' := by
  sorry
