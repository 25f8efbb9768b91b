/-! calls that ask or change the village -/
section C1
variable {B : oa_I3} {J : oa_J2} {M : oa_I2} {K : oa_J2}
theorem c_fault (h : Rel B M) : ∃ a, f_X6_fault B J = some a ∧ f_X7_fault M K = some a := by
  obtain ⟨n, L, hR, hV, hI, hT, hF, hS, hC⟩ := h
  exact ⟨_, rfl, congrArg some hF.1.symm⟩
theorem c_torn (h : Rel B M) : ∃ a, f_X6_torn B J = some a ∧ f_X7_torn M K = some a := by
  obtain ⟨n, L, hR, hV, hI, hT, hF, hS, hC⟩ := h
  exact ⟨_, rfl, congrArg some hF.2.symm⟩
theorem c_rule (h : Rel B M) (x : Int32) : ∃ a, f_X6_rule B J x = some a ∧ f_X7_rule M K x = some a := by
  obtain ⟨n, L, hR, ⟨cv, hp, h99, tb⟩, hI, hT, hF, hS, hC⟩ := h
  unfold f_X6_rule f_X7_rule
  simp (disch := (first | omega | assumption | decide)) only [f_within, f_in_0_1, f_in_0_2, f_in_0_3, f_in_0_4, f_in_0_6, f_in_0_7, f_in_0_12, f_in_0_20, f_in_0_99, f_in_1_4, f_in_1_99, oa_ut, oa_bs, oa_lt, oa_ile, oa_inle, oa_ilt, oa_inlt, oa_ieq, oa_ineq, oa_rd_nI, oa_wr_nI, oa_rd_0, oa_rd_1, oa_wr_0, oa_wr_1, oa_rdL_nI, oa_wrL_nI, oa_bi_if0, oa_bi_if1, oa_zc_bi, oa_if_b0, oa_if_b1, nI_1, nI_add, pk_mul, Nat.add_assoc, Int32.add_zero, Int32.sub_zero, Int32.or_zero, Int32.and_neg_one, va_up_s, va_up_n, upd_s, oa_up2, ite_self, if_true, if_false, oa_10, oa_01, oa_neg4, oa_ifno, oa_l2, oa_l3, oa_l4, oa_l5, oa_l6, oa_l7, oa_l8, oa_l9, oa_l10, oa_l12, oa_l15, oa_l16, oa_l20, oa_l32, oa_l40, oa_l42, oa_l48, oa_l64, oa_l90, oa_l96, oa_l97, oa_l98, oa_l99, oa_l100, oa_l120, oa_l360, oa_l450, oa_l457, oa_l458, oa_l480, oa_l528]
  cases hx : oa_wi x 0 (nI 2)
  · exact ⟨_, rfl, rfl⟩
  · obtain ⟨w, _, hw, rfl⟩ := oa_wi_t (a := 0) (by omega) hx (by omega)
    simp (disch := (first | omega | assumption | decide)) only [oa_ut, oa_bs, oa_lt, oa_ile, oa_inle, oa_ilt, oa_inlt, oa_ieq, oa_ineq, oa_rd_nI, oa_wr_nI, oa_rd_0, oa_rd_1, oa_wr_0, oa_wr_1, oa_rdL_nI, oa_wrL_nI, oa_bi_if0, oa_bi_if1, oa_zc_bi, oa_if_b0, oa_if_b1, nI_1, nI_add, pk_mul, Nat.add_assoc, Int32.add_zero, Int32.sub_zero, Int32.or_zero, Int32.and_neg_one, va_up_s, va_up_n, upd_s, oa_up2, ite_self, if_true, if_false, oa_10, oa_01, oa_neg4, oa_ifno, oa_l2, oa_l3, oa_l4, oa_l5, oa_l6, oa_l7, oa_l8, oa_l9, oa_l10, oa_l12, oa_l15, oa_l16, oa_l20, oa_l32, oa_l40, oa_l42, oa_l48, oa_l64, oa_l90, oa_l96, oa_l97, oa_l98, oa_l99, oa_l100, oa_l120, oa_l360, oa_l450, oa_l457, oa_l458, oa_l480, oa_l528]
    exact ⟨_, rfl, congrArg some (cv.1.2.2.1 w (by omega)).symm⟩
theorem c_got (h : Rel B M) (x : Int32) : ∃ a, f_X6_got B J x = some a ∧ f_X7_got M K x = some a := by
  obtain ⟨n, L, hR, ⟨cv, hp, h99, tb⟩, hI, hT, hF, hS, hC⟩ := h
  have h6 := cv.1.1
  unfold f_X6_got f_X7_got
  simp (disch := (first | omega | assumption | decide)) only [ct_has cv.1, md_isOne h99, oa_ut, oa_bs, oa_lt, oa_ile, oa_inle, oa_ilt, oa_inlt, oa_ieq, oa_ineq, oa_rd_nI, oa_wr_nI, oa_rd_0, oa_rd_1, oa_wr_0, oa_wr_1, oa_rdL_nI, oa_wrL_nI, oa_bi_if0, oa_bi_if1, oa_zc_bi, oa_if_b0, oa_if_b1, nI_1, nI_add, pk_mul, Nat.add_assoc, Int32.add_zero, Int32.sub_zero, Int32.or_zero, Int32.and_neg_one, va_up_s, va_up_n, upd_s, oa_up2, ite_self, if_true, if_false, oa_10, oa_01, oa_neg4, oa_ifno, oa_l2, oa_l3, oa_l4, oa_l5, oa_l6, oa_l7, oa_l8, oa_l9, oa_l10, oa_l12, oa_l15, oa_l16, oa_l20, oa_l32, oa_l40, oa_l42, oa_l48, oa_l64, oa_l90, oa_l96, oa_l97, oa_l98, oa_l99, oa_l100, oa_l120, oa_l360, oa_l450, oa_l457, oa_l458, oa_l480, oa_l528]
  cases hx : oa_wi x 0 (nI n - 1)
  · exact ⟨_, rfl, rfl⟩
  · obtain ⟨p, hp, rfl⟩ := oa_has_t h6 hx
    simp (disch := (first | omega | assumption | decide)) only [oa_ut, oa_bs, oa_lt, oa_ile, oa_inle, oa_ilt, oa_inlt, oa_ieq, oa_ineq, oa_rd_nI, oa_wr_nI, oa_rd_0, oa_rd_1, oa_wr_0, oa_wr_1, oa_rdL_nI, oa_wrL_nI, oa_bi_if0, oa_bi_if1, oa_zc_bi, oa_if_b0, oa_if_b1, nI_1, nI_add, pk_mul, Nat.add_assoc, Int32.add_zero, Int32.sub_zero, Int32.or_zero, Int32.and_neg_one, va_up_s, va_up_n, upd_s, oa_up2, ite_self, if_true, if_false, oa_10, oa_01, oa_neg4, oa_ifno, oa_l2, oa_l3, oa_l4, oa_l5, oa_l6, oa_l7, oa_l8, oa_l9, oa_l10, oa_l12, oa_l15, oa_l16, oa_l20, oa_l32, oa_l40, oa_l42, oa_l48, oa_l64, oa_l90, oa_l96, oa_l97, oa_l98, oa_l99, oa_l100, oa_l120, oa_l360, oa_l450, oa_l457, oa_l458, oa_l480, oa_l528]
    have := cv.2.2.1 p (by omega)
    rw [Int32.add_zero] at this
    exact ⟨_, rfl, congrArg some this.symm⟩
theorem md_angerBits {r : Nat} (hr : r < 6) : f_X7_angerBits M K (nI r) = some (oa_mk (an (M 1) r) 7) := by
  unfold f_X7_angerBits l_X7_angerBits_4
  refine oa_for (fun i => (oa_mk (an (M 1) r) i, nI i)) 7 rfl ?_ ?_ oa_fu (by rw [oa_fu_eq]; omega)
  · intro i hi k
    simp (disch := (first | omega | assumption | decide)) only [b_X7_angerBits_4, md_age0, oa_mk_succ, oa_ut, oa_bs, oa_lt, oa_ile, oa_inle, oa_ilt, oa_inlt, oa_ieq, oa_ineq, oa_rd_nI, oa_wr_nI, oa_rd_0, oa_rd_1, oa_wr_0, oa_wr_1, oa_rdL_nI, oa_wrL_nI, oa_bi_if0, oa_bi_if1, oa_zc_bi, oa_if_b0, oa_if_b1, nI_1, nI_add, pk_mul, Nat.add_assoc, Int32.add_zero, Int32.sub_zero, Int32.or_zero, Int32.and_neg_one, va_up_s, va_up_n, upd_s, oa_up2, ite_self, if_true, if_false, oa_10, oa_01, oa_neg4, oa_ifno, oa_l2, oa_l3, oa_l4, oa_l5, oa_l6, oa_l7, oa_l8, oa_l9, oa_l10, oa_l12, oa_l15, oa_l16, oa_l20, oa_l32, oa_l40, oa_l42, oa_l48, oa_l64, oa_l90, oa_l96, oa_l97, oa_l98, oa_l99, oa_l100, oa_l120, oa_l360, oa_l450, oa_l457, oa_l458, oa_l480, oa_l528]
    unfold an
    by_cases h : 0 < M 1 (48 + (7 * r + i))
    · rw [if_neg (Int32.not_le.mpr h), decide_eq_true h]; rfl
    · rw [if_pos (Int32.not_lt.mp h), decide_eq_false h]; rfl
  · intro k
    simp (disch := (first | omega | assumption | decide)) only [b_X7_angerBits_4, oa_ut, oa_bs, oa_lt, oa_ile, oa_inle, oa_ilt, oa_inlt, oa_ieq, oa_ineq, oa_rd_nI, oa_wr_nI, oa_rd_0, oa_rd_1, oa_wr_0, oa_wr_1, oa_rdL_nI, oa_wrL_nI, oa_bi_if0, oa_bi_if1, oa_zc_bi, oa_if_b0, oa_if_b1, nI_1, nI_add, pk_mul, Nat.add_assoc, Int32.add_zero, Int32.sub_zero, Int32.or_zero, Int32.and_neg_one, va_up_s, va_up_n, upd_s, oa_up2, ite_self, if_true, if_false, oa_10, oa_01, oa_neg4, oa_ifno, oa_l2, oa_l3, oa_l4, oa_l5, oa_l6, oa_l7, oa_l8, oa_l9, oa_l10, oa_l12, oa_l15, oa_l16, oa_l20, oa_l32, oa_l40, oa_l42, oa_l48, oa_l64, oa_l90, oa_l96, oa_l97, oa_l98, oa_l99, oa_l100, oa_l120, oa_l360, oa_l450, oa_l457, oa_l458, oa_l480, oa_l528]
theorem c_one (h : Rel B M) (x y : Int32) : ∃ a, f_X6_one B J x y = some a ∧ f_X7_one M K x y = some a := by
  obtain ⟨n, L, hR, ⟨cv, hp, h99, tb⟩, hI, hT, hF, hS, hC⟩ := h
  have h6 := cv.1.1
  unfold f_X6_one f_X7_one
  simp (disch := (first | omega | assumption | decide)) only [ct_has cv.1, md_isOne h99, f_within, f_in_0_1, f_in_0_2, f_in_0_3, f_in_0_4, f_in_0_6, f_in_0_7, f_in_0_12, f_in_0_20, f_in_0_99, f_in_1_4, f_in_1_99, oa_ut, oa_bs, oa_lt, oa_ile, oa_inle, oa_ilt, oa_inlt, oa_ieq, oa_ineq, oa_rd_nI, oa_wr_nI, oa_rd_0, oa_rd_1, oa_wr_0, oa_wr_1, oa_rdL_nI, oa_wrL_nI, oa_bi_if0, oa_bi_if1, oa_zc_bi, oa_if_b0, oa_if_b1, nI_1, nI_add, pk_mul, Nat.add_assoc, Int32.add_zero, Int32.sub_zero, Int32.or_zero, Int32.and_neg_one, va_up_s, va_up_n, upd_s, oa_up2, ite_self, if_true, if_false, oa_10, oa_01, oa_neg4, oa_ifno, oa_l2, oa_l3, oa_l4, oa_l5, oa_l6, oa_l7, oa_l8, oa_l9, oa_l10, oa_l12, oa_l15, oa_l16, oa_l20, oa_l32, oa_l40, oa_l42, oa_l48, oa_l64, oa_l90, oa_l96, oa_l97, oa_l98, oa_l99, oa_l100, oa_l120, oa_l360, oa_l450, oa_l457, oa_l458, oa_l480, oa_l528]
  cases hx : oa_wi x 0 (nI n - 1)
  · exact ⟨_, rfl, rfl⟩
  · obtain ⟨p, hp, rfl⟩ := oa_has_t h6 hx
    by_cases e8 : y = nI 8
    · subst e8
      simp (disch := (first | omega | assumption | decide)) only [oa_wi_n (a := 0) (b := 10) (j := 8), md_angerBits, show oa_wi (nI 8) 0 (nI 10) = true from oa_wi_n (a := 0) (by omega) (by omega) (by omega), oa_ut, oa_bs, oa_lt, oa_ile, oa_inle, oa_ilt, oa_inlt, oa_ieq, oa_ineq, oa_rd_nI, oa_wr_nI, oa_rd_0, oa_rd_1, oa_wr_0, oa_wr_1, oa_rdL_nI, oa_wrL_nI, oa_bi_if0, oa_bi_if1, oa_zc_bi, oa_if_b0, oa_if_b1, nI_1, nI_add, pk_mul, Nat.add_assoc, Int32.add_zero, Int32.sub_zero, Int32.or_zero, Int32.and_neg_one, va_up_s, va_up_n, upd_s, oa_up2, ite_self, if_true, if_false, oa_10, oa_01, oa_neg4, oa_ifno, oa_l2, oa_l3, oa_l4, oa_l5, oa_l6, oa_l7, oa_l8, oa_l9, oa_l10, oa_l12, oa_l15, oa_l16, oa_l20, oa_l32, oa_l40, oa_l42, oa_l48, oa_l64, oa_l90, oa_l96, oa_l97, oa_l98, oa_l99, oa_l100, oa_l120, oa_l360, oa_l450, oa_l457, oa_l458, oa_l480, oa_l528]
      exact ⟨_, rfl, congrArg some (cv.2.1.1 p (by omega)).symm⟩
    by_cases e9 : y = nI 9
    · subst e9
      simp (disch := (first | omega | assumption | decide)) only [show oa_wi (nI 9) 0 (nI 10) = true from oa_wi_n (a := 0) (by omega) (by omega) (by omega), cv_isFree cv, md_isFree0, oa_ut, oa_bs, oa_lt, oa_ile, oa_inle, oa_ilt, oa_inlt, oa_ieq, oa_ineq, oa_rd_nI, oa_wr_nI, oa_rd_0, oa_rd_1, oa_wr_0, oa_wr_1, oa_rdL_nI, oa_wrL_nI, oa_bi_if0, oa_bi_if1, oa_zc_bi, oa_if_b0, oa_if_b1, nI_1, nI_add, pk_mul, Nat.add_assoc, Int32.add_zero, Int32.sub_zero, Int32.or_zero, Int32.and_neg_one, va_up_s, va_up_n, upd_s, oa_up2, ite_self, if_true, if_false, oa_10, oa_01, oa_neg4, oa_ifno, oa_l2, oa_l3, oa_l4, oa_l5, oa_l6, oa_l7, oa_l8, oa_l9, oa_l10, oa_l12, oa_l15, oa_l16, oa_l20, oa_l32, oa_l40, oa_l42, oa_l48, oa_l64, oa_l90, oa_l96, oa_l97, oa_l98, oa_l99, oa_l100, oa_l120, oa_l360, oa_l450, oa_l457, oa_l458, oa_l480, oa_l528]
      cases fr (M 2) (M 1) p <;> exact ⟨_, rfl, rfl⟩
    by_cases e10 : y = nI 10
    · subst e10
      simp (disch := (first | omega | assumption | decide)) only [show oa_wi (nI 10) 0 (nI 10) = true from oa_wi_n (a := 0) (by omega) (by omega) (by omega), ct_costOf cv.1, md_cost0, oa_ut, oa_bs, oa_lt, oa_ile, oa_inle, oa_ilt, oa_inlt, oa_ieq, oa_ineq, oa_rd_nI, oa_wr_nI, oa_rd_0, oa_rd_1, oa_wr_0, oa_wr_1, oa_rdL_nI, oa_wrL_nI, oa_bi_if0, oa_bi_if1, oa_zc_bi, oa_if_b0, oa_if_b1, nI_1, nI_add, pk_mul, Nat.add_assoc, Int32.add_zero, Int32.sub_zero, Int32.or_zero, Int32.and_neg_one, va_up_s, va_up_n, upd_s, oa_up2, ite_self, if_true, if_false, oa_10, oa_01, oa_neg4, oa_ifno, oa_l2, oa_l3, oa_l4, oa_l5, oa_l6, oa_l7, oa_l8, oa_l9, oa_l10, oa_l12, oa_l15, oa_l16, oa_l20, oa_l32, oa_l40, oa_l42, oa_l48, oa_l64, oa_l90, oa_l96, oa_l97, oa_l98, oa_l99, oa_l100, oa_l120, oa_l360, oa_l450, oa_l457, oa_l458, oa_l480, oa_l528]
      exact ⟨_, rfl, rfl⟩
    simp only [if_neg e8, if_neg e9, if_neg e10, if_true]
    cases hy : oa_wi y 0 (nI 7)
    · cases hz : oa_wi y 0 (nI 10)
      · exact ⟨_, rfl, rfl⟩
      · obtain ⟨w, _, hw, rfl⟩ := oa_wi_t (a := 0) (by omega) hz (by omega)
        have : w ≠ 8 ∧ w ≠ 9 ∧ w ≠ 10 := ⟨fun c => e8 (by rw [c]), fun c => e9 (by rw [c]), fun c => e10 (by rw [c])⟩
        have h7 : oa_wi (nI w) 0 (nI 7) = true := oa_wi_n (a := 0) (by omega) (by omega) (by omega)
        rw [hy] at h7
        cases h7
    · obtain ⟨w, _, hw, rfl⟩ := oa_wi_t (a := 0) (by omega) hy (by omega)
      simp (disch := (first | omega | assumption | decide)) only [show oa_wi (nI w) 0 (nI 10) = true from oa_wi_n (a := 0) (by omega) (by omega) (by omega), ct_w cv.1, oa_ut, oa_bs, oa_lt, oa_ile, oa_inle, oa_ilt, oa_inlt, oa_ieq, oa_ineq, oa_rd_nI, oa_wr_nI, oa_rd_0, oa_rd_1, oa_wr_0, oa_wr_1, oa_rdL_nI, oa_wrL_nI, oa_bi_if0, oa_bi_if1, oa_zc_bi, oa_if_b0, oa_if_b1, nI_1, nI_add, pk_mul, Nat.add_assoc, Int32.add_zero, Int32.sub_zero, Int32.or_zero, Int32.and_neg_one, va_up_s, va_up_n, upd_s, oa_up2, ite_self, if_true, if_false, oa_10, oa_01, oa_neg4, oa_ifno, oa_l2, oa_l3, oa_l4, oa_l5, oa_l6, oa_l7, oa_l8, oa_l9, oa_l10, oa_l12, oa_l15, oa_l16, oa_l20, oa_l32, oa_l40, oa_l42, oa_l48, oa_l64, oa_l90, oa_l96, oa_l97, oa_l98, oa_l99, oa_l100, oa_l120, oa_l360, oa_l450, oa_l457, oa_l458, oa_l480, oa_l528]
      exact ⟨_, rfl, rfl⟩
theorem c_old (h : Rel B M) (x y : Int32) : ∃ a, f_X6_old B J x y = some a ∧ f_X7_old M K x y = some a := by
  obtain ⟨n, L, hR, ⟨cv, hp, h99, tb⟩, hI, hT, hF, hS, hC⟩ := h
  have h6 := cv.1.1
  unfold f_X6_old f_X7_old
  simp (disch := (first | omega | assumption | decide)) only [ct_hasTwo cv.1, md_isWrong h99, oa_ut, oa_bs, oa_lt, oa_ile, oa_inle, oa_ilt, oa_inlt, oa_ieq, oa_ineq, oa_rd_nI, oa_wr_nI, oa_rd_0, oa_rd_1, oa_wr_0, oa_wr_1, oa_rdL_nI, oa_wrL_nI, oa_bi_if0, oa_bi_if1, oa_zc_bi, oa_if_b0, oa_if_b1, nI_1, nI_add, pk_mul, Nat.add_assoc, Int32.add_zero, Int32.sub_zero, Int32.or_zero, Int32.and_neg_one, va_up_s, va_up_n, upd_s, oa_up2, ite_self, if_true, if_false, oa_10, oa_01, oa_neg4, oa_ifno, oa_l2, oa_l3, oa_l4, oa_l5, oa_l6, oa_l7, oa_l8, oa_l9, oa_l10, oa_l12, oa_l15, oa_l16, oa_l20, oa_l32, oa_l40, oa_l42, oa_l48, oa_l64, oa_l90, oa_l96, oa_l97, oa_l98, oa_l99, oa_l100, oa_l120, oa_l360, oa_l450, oa_l457, oa_l458, oa_l480, oa_l528]
  cases hx : (oa_wi x 0 (nI n - 1) && oa_wi y 0 (nI n - 1) && !decide (x = y))
  · exact ⟨_, rfl, rfl⟩
  · obtain ⟨r, p, hr, hp', _, rfl, rfl⟩ := oa_two h6 hx
    obtain ⟨a, a1, a2, a3, a4⟩ := hp r (by omega) p (by omega)
    have hL := hR.1.2.2
    simp (disch := (first | omega | assumption | decide)) only [cv_isAngry cv, md_age0, a1, oa_ut, oa_bs, oa_lt, oa_ile, oa_inle, oa_ilt, oa_inlt, oa_ieq, oa_ineq, oa_rd_nI, oa_wr_nI, oa_rd_0, oa_rd_1, oa_wr_0, oa_wr_1, oa_rdL_nI, oa_wrL_nI, oa_bi_if0, oa_bi_if1, oa_zc_bi, oa_if_b0, oa_if_b1, nI_1, nI_add, pk_mul, Nat.add_assoc, Int32.add_zero, Int32.sub_zero, Int32.or_zero, Int32.and_neg_one, va_up_s, va_up_n, upd_s, oa_up2, ite_self, if_true, if_false, oa_10, oa_01, oa_neg4, oa_ifno, oa_l2, oa_l3, oa_l4, oa_l5, oa_l6, oa_l7, oa_l8, oa_l9, oa_l10, oa_l12, oa_l15, oa_l16, oa_l20, oa_l32, oa_l40, oa_l42, oa_l48, oa_l64, oa_l90, oa_l96, oa_l97, oa_l98, oa_l99, oa_l100, oa_l120, oa_l360, oa_l450, oa_l457, oa_l458, oa_l480, oa_l528]
    rcases a with _ | a
    · have : an (M 1) r p = false := by unfold an; rw [a1]; decide
      rw [this]
      exact ⟨oNO, rfl, rfl⟩
    · have hpos : (0 : Int32) < nI (a + 1) := nI_lt (a := 0) (by omega) (by omega)
      have : an (M 1) r p = true := by unfold an; rw [a1]; exact decide_eq_true hpos
      rw [this, if_neg (nI_ne0 (by omega) (by omega)), cv_ageOf cv (by omega) (by omega) this a1, nI_pred]
      exact ⟨nI a, rfl, rfl⟩
theorem c_would (h : Rel B M) (x y : Int32) : ∃ a, f_X6_would B J x y = some a ∧ f_X7_would M K x y = some a := by
  obtain ⟨n, L, hR, ⟨cv, hp, h99, tb⟩, hI, hT, hF, hS, hC⟩ := h
  have h6 := cv.1.1
  unfold f_X6_would f_X7_would
  simp (disch := (first | omega | assumption | decide)) only [ct_hasTwo cv.1, md_isWrong h99, oa_ut, oa_bs, oa_lt, oa_ile, oa_inle, oa_ilt, oa_inlt, oa_ieq, oa_ineq, oa_rd_nI, oa_wr_nI, oa_rd_0, oa_rd_1, oa_wr_0, oa_wr_1, oa_rdL_nI, oa_wrL_nI, oa_bi_if0, oa_bi_if1, oa_zc_bi, oa_if_b0, oa_if_b1, nI_1, nI_add, pk_mul, Nat.add_assoc, Int32.add_zero, Int32.sub_zero, Int32.or_zero, Int32.and_neg_one, va_up_s, va_up_n, upd_s, oa_up2, ite_self, if_true, if_false, oa_10, oa_01, oa_neg4, oa_ifno, oa_l2, oa_l3, oa_l4, oa_l5, oa_l6, oa_l7, oa_l8, oa_l9, oa_l10, oa_l12, oa_l15, oa_l16, oa_l20, oa_l32, oa_l40, oa_l42, oa_l48, oa_l64, oa_l90, oa_l96, oa_l97, oa_l98, oa_l99, oa_l100, oa_l120, oa_l360, oa_l450, oa_l457, oa_l458, oa_l480, oa_l528]
  cases hx : (oa_wi x 0 (nI n - 1) && oa_wi y 0 (nI n - 1) && !decide (x = y))
  · exact ⟨_, rfl, rfl⟩
  · obtain ⟨r, p, hr, hp', _, rfl, rfl⟩ := oa_two h6 hx
    simp (disch := (first | omega | assumption | decide)) only [cv_able cv, cv_minders cv, md_wouldOf0 h99, oa_ut, oa_bs, oa_lt, oa_ile, oa_inle, oa_ilt, oa_inlt, oa_ieq, oa_ineq, oa_rd_nI, oa_wr_nI, oa_rd_0, oa_rd_1, oa_wr_0, oa_wr_1, oa_rdL_nI, oa_wrL_nI, oa_bi_if0, oa_bi_if1, oa_zc_bi, oa_if_b0, oa_if_b1, nI_1, nI_add, pk_mul, Nat.add_assoc, Int32.add_zero, Int32.sub_zero, Int32.or_zero, Int32.and_neg_one, va_up_s, va_up_n, upd_s, oa_up2, ite_self, if_true, if_false, oa_10, oa_01, oa_neg4, oa_ifno, oa_l2, oa_l3, oa_l4, oa_l5, oa_l6, oa_l7, oa_l8, oa_l9, oa_l10, oa_l12, oa_l15, oa_l16, oa_l20, oa_l32, oa_l40, oa_l42, oa_l48, oa_l64, oa_l90, oa_l96, oa_l97, oa_l98, oa_l99, oa_l100, oa_l120, oa_l360, oa_l450, oa_l457, oa_l458, oa_l480, oa_l528]
    exact ⟨_, rfl, rfl⟩
theorem val_abl {R P : oa_P} {n p q : Nat} (h6 : n ≤ 6) : val R P q (fun r => bt (oa_mk (fr R P) n) r && can P p r) n = val R P q (abl R P p) n :=
  val_cong fun r hr => by rw [bt_mk (by omega) hr]; rfl
theorem val_abs {R P : oa_P} {n p q : Nat} (h6 : n ≤ 6) : val R P q (fun r => bt (oa_mk (sn R P) n) r && can P p r) n = val R P q (abs' R P p) n :=
  val_cong fun r hr => by rw [bt_mk (by omega) hr]; rfl
theorem chs_abs {R P : oa_P} {n p : Nat} (h6 : n ≤ 6) : (chs R P n p (fun r => bt (oa_mk (sn R P) n) r && can P p r) n).1 = cho R P n p := by
  unfold cho
  rw [chs_cong (fun r hr => abs_bt h6 hr)]
theorem c_worth (h : Rel B M) (x y z : Int32) : ∃ a, f_X6_worth B J x y z = some a ∧ f_X7_worth M K x y z = some a := by
  obtain ⟨n, L, hR, ⟨cv, hp, h99, tb⟩, hI, hT, hF, hS, hC⟩ := h
  have h6 := cv.1.1
  unfold f_X6_worth f_X7_worth
  simp (disch := (first | omega | assumption | decide)) only [ct_hasTwo cv.1, md_isWrong h99, f_within, f_in_0_1, f_in_0_2, f_in_0_3, f_in_0_4, f_in_0_6, f_in_0_7, f_in_0_12, f_in_0_20, f_in_0_99, f_in_1_4, f_in_1_99, oa_ut, oa_bs, oa_lt, oa_ile, oa_inle, oa_ilt, oa_inlt, oa_ieq, oa_ineq, oa_rd_nI, oa_wr_nI, oa_rd_0, oa_rd_1, oa_wr_0, oa_wr_1, oa_rdL_nI, oa_wrL_nI, oa_bi_if0, oa_bi_if1, oa_zc_bi, oa_if_b0, oa_if_b1, nI_1, nI_add, pk_mul, Nat.add_assoc, Int32.add_zero, Int32.sub_zero, Int32.or_zero, Int32.and_neg_one, va_up_s, va_up_n, upd_s, oa_up2, ite_self, if_true, if_false, oa_10, oa_01, oa_neg4, oa_ifno, oa_l2, oa_l3, oa_l4, oa_l5, oa_l6, oa_l7, oa_l8, oa_l9, oa_l10, oa_l12, oa_l15, oa_l16, oa_l20, oa_l32, oa_l40, oa_l42, oa_l48, oa_l64, oa_l90, oa_l96, oa_l97, oa_l98, oa_l99, oa_l100, oa_l120, oa_l360, oa_l450, oa_l457, oa_l458, oa_l480, oa_l528]
  cases hx : (oa_wi x 0 (nI n - 1) && oa_wi y 0 (nI n - 1) && !decide (x = y))
  · exact ⟨_, rfl, rfl⟩
  · obtain ⟨r, p, hr, hp', _, rfl, rfl⟩ := oa_two h6 hx
    cases hz : oa_wi z 0 1
    · exact ⟨_, rfl, rfl⟩
    · by_cases e : z = 0
      · simp (disch := (first | omega | assumption | decide)) only [if_pos e, b_X6_worth_52, b_X7_worth_43, cv_ableAsSeen cv, cv_val cv, md_seenFree0 h99, md_worthBy0 h99, val_abs h6, oa_ut, oa_bs, oa_lt, oa_ile, oa_inle, oa_ilt, oa_inlt, oa_ieq, oa_ineq, oa_rd_nI, oa_wr_nI, oa_rd_0, oa_rd_1, oa_wr_0, oa_wr_1, oa_rdL_nI, oa_wrL_nI, oa_bi_if0, oa_bi_if1, oa_zc_bi, oa_if_b0, oa_if_b1, nI_1, nI_add, pk_mul, Nat.add_assoc, Int32.add_zero, Int32.sub_zero, Int32.or_zero, Int32.and_neg_one, va_up_s, va_up_n, upd_s, oa_up2, ite_self, if_true, if_false, oa_10, oa_01, oa_neg4, oa_ifno, oa_l2, oa_l3, oa_l4, oa_l5, oa_l6, oa_l7, oa_l8, oa_l9, oa_l10, oa_l12, oa_l15, oa_l16, oa_l20, oa_l32, oa_l40, oa_l42, oa_l48, oa_l64, oa_l90, oa_l96, oa_l97, oa_l98, oa_l99, oa_l100, oa_l120, oa_l360, oa_l450, oa_l457, oa_l458, oa_l480, oa_l528]
        exact ⟨_, rfl, rfl⟩
      · simp (disch := (first | omega | assumption | decide)) only [if_neg e, b_X6_worth_52, b_X7_worth_43, cv_able cv, cv_val cv, md_freeOnes0 h99, md_worthBy0 h99, val_abl h6, oa_ut, oa_bs, oa_lt, oa_ile, oa_inle, oa_ilt, oa_inlt, oa_ieq, oa_ineq, oa_rd_nI, oa_wr_nI, oa_rd_0, oa_rd_1, oa_wr_0, oa_wr_1, oa_rdL_nI, oa_wrL_nI, oa_bi_if0, oa_bi_if1, oa_zc_bi, oa_if_b0, oa_if_b1, nI_1, nI_add, pk_mul, Nat.add_assoc, Int32.add_zero, Int32.sub_zero, Int32.or_zero, Int32.and_neg_one, va_up_s, va_up_n, upd_s, oa_up2, ite_self, if_true, if_false, oa_10, oa_01, oa_neg4, oa_ifno, oa_l2, oa_l3, oa_l4, oa_l5, oa_l6, oa_l7, oa_l8, oa_l9, oa_l10, oa_l12, oa_l15, oa_l16, oa_l20, oa_l32, oa_l40, oa_l42, oa_l48, oa_l64, oa_l90, oa_l96, oa_l97, oa_l98, oa_l99, oa_l100, oa_l120, oa_l360, oa_l450, oa_l457, oa_l458, oa_l480, oa_l528]
        exact ⟨_, rfl, rfl⟩
theorem c_whom (h : Rel B M) (x : Int32) : ∃ a, f_X6_whom B J x = some a ∧ f_X7_whom M K x = some a := by
  obtain ⟨n, L, hR, ⟨cv, hp, h99, tb⟩, hI, hT, hF, hS, hC⟩ := h
  have h6 := cv.1.1
  unfold f_X6_whom f_X7_whom
  simp (disch := (first | omega | assumption | decide)) only [ct_has cv.1, md_isOne h99, oa_ut, oa_bs, oa_lt, oa_ile, oa_inle, oa_ilt, oa_inlt, oa_ieq, oa_ineq, oa_rd_nI, oa_wr_nI, oa_rd_0, oa_rd_1, oa_wr_0, oa_wr_1, oa_rdL_nI, oa_wrL_nI, oa_bi_if0, oa_bi_if1, oa_zc_bi, oa_if_b0, oa_if_b1, nI_1, nI_add, pk_mul, Nat.add_assoc, Int32.add_zero, Int32.sub_zero, Int32.or_zero, Int32.and_neg_one, va_up_s, va_up_n, upd_s, oa_up2, ite_self, if_true, if_false, oa_10, oa_01, oa_neg4, oa_ifno, oa_l2, oa_l3, oa_l4, oa_l5, oa_l6, oa_l7, oa_l8, oa_l9, oa_l10, oa_l12, oa_l15, oa_l16, oa_l20, oa_l32, oa_l40, oa_l42, oa_l48, oa_l64, oa_l90, oa_l96, oa_l97, oa_l98, oa_l99, oa_l100, oa_l120, oa_l360, oa_l450, oa_l457, oa_l458, oa_l480, oa_l528]
  cases hx : oa_wi x 0 (nI n - 1)
  · exact ⟨_, rfl, rfl⟩
  · obtain ⟨p, hp, rfl⟩ := oa_has_t h6 hx
    simp (disch := (first | omega | assumption | decide)) only [cv_ableAsSeen cv, cv_choice cv, md_seenFree0 h99, md_chosen0 h99, chs_abs h6, oa_ut, oa_bs, oa_lt, oa_ile, oa_inle, oa_ilt, oa_inlt, oa_ieq, oa_ineq, oa_rd_nI, oa_wr_nI, oa_rd_0, oa_rd_1, oa_wr_0, oa_wr_1, oa_rdL_nI, oa_wrL_nI, oa_bi_if0, oa_bi_if1, oa_zc_bi, oa_if_b0, oa_if_b1, nI_1, nI_add, pk_mul, Nat.add_assoc, Int32.add_zero, Int32.sub_zero, Int32.or_zero, Int32.and_neg_one, va_up_s, va_up_n, upd_s, oa_up2, ite_self, if_true, if_false, oa_10, oa_01, oa_neg4, oa_ifno, oa_l2, oa_l3, oa_l4, oa_l5, oa_l6, oa_l7, oa_l8, oa_l9, oa_l10, oa_l12, oa_l15, oa_l16, oa_l20, oa_l32, oa_l40, oa_l42, oa_l48, oa_l64, oa_l90, oa_l96, oa_l97, oa_l98, oa_l99, oa_l100, oa_l120, oa_l360, oa_l450, oa_l457, oa_l458, oa_l480, oa_l528]
    exact ⟨_, rfl, rfl⟩
/-- a change of the village alone -/
theorem Rel_main {V' : oa_I2} {P' : oa_P} {w : Int32} (h : Rel B M) (t : ∀ k, 100 ≤ k → P' k = M 1 k) (hv : ∀ n L, RR (M 2) L → RV n L (M 2) (M 1) (B 0) → RV n L (M 2) P' V') : Rel (va_up B 0 V') (oa_ms M 0 P' w) :=
  Rel_step h ⟨rfl, rfl, rfl, rfl, rfl, rfl, rfl, rfl, rfl, rfl, rfl⟩ (fun k hk _ => t k hk) (fun a h1 h2 => va_up_n _ _ (by omega)) hv
end C1
