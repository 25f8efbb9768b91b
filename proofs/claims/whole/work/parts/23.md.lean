/-! the model's readers, at a page that begins at a -/
def oa_pg (M : oa_I2) (a : Nat) : oa_P := fun k => M 1 (a + k)
theorem oa_pg0 (M : oa_I2) : oa_pg M 0 = M 1 := by
  funext k
  unfold oa_pg
  rw [Nat.zero_add]
section MD
variable {M : oa_I2} {K : oa_J2} {n : Nat}
theorem md_rd (M : oa_I2) (a : Nat) {k : Nat} (h : a + k < 600) : oa_rd (M 1) 600 (nI (a + k)) = some (oa_pg M a k) := oa_rd_nI h (by omega)
theorem md_many (hn : M 1 99 = nI n) : f_X7_many M K = some (nI n) := by
  unfold f_X7_many
  simp (disch := (first | omega | assumption | decide)) only [hn, oa_ut, oa_bs, oa_lt, oa_ile, oa_inle, oa_ilt, oa_inlt, oa_ieq, oa_ineq, oa_rd_nI, oa_wr_nI, oa_rd_0, oa_rd_1, oa_wr_0, oa_wr_1, oa_rdL_nI, oa_wrL_nI, oa_bi_if0, oa_bi_if1, oa_zc_bi, oa_if_b0, oa_if_b1, nI_1, nI_add, pk_mul, Nat.add_assoc, Int32.add_zero, Int32.sub_zero, Int32.or_zero, Int32.and_neg_one, va_up_s, va_up_n, upd_s, oa_up2, ite_self, if_true, if_false, oa_10, oa_01, oa_neg4, oa_ifno, oa_l2, oa_l3, oa_l4, oa_l5, oa_l6, oa_l7, oa_l8, oa_l9, oa_l10, oa_l12, oa_l15, oa_l16, oa_l20, oa_l32, oa_l40, oa_l42, oa_l48, oa_l64, oa_l90, oa_l96, oa_l97, oa_l98, oa_l99, oa_l100, oa_l120, oa_l360, oa_l450, oa_l457, oa_l458, oa_l480, oa_l528]
theorem md_age {a r p : Nat} (ha : a ≤ 480) (hr : r < 6) (hp : p < 7) : f_X7_age M K (nI a) (nI r) (nI p) = some (oa_pg M a (48 + (7 * r + p))) := by
  unfold f_X7_age
  simp (disch := (first | omega | assumption | decide)) only [md_rd M a, oa_ut, oa_bs, oa_lt, oa_ile, oa_inle, oa_ilt, oa_inlt, oa_ieq, oa_ineq, oa_rd_nI, oa_wr_nI, oa_rd_0, oa_rd_1, oa_wr_0, oa_wr_1, oa_rdL_nI, oa_wrL_nI, oa_bi_if0, oa_bi_if1, oa_zc_bi, oa_if_b0, oa_if_b1, nI_1, nI_add, pk_mul, Nat.add_assoc, Int32.add_zero, Int32.sub_zero, Int32.or_zero, Int32.and_neg_one, va_up_s, va_up_n, upd_s, oa_up2, ite_self, if_true, if_false, oa_10, oa_01, oa_neg4, oa_ifno, oa_l2, oa_l3, oa_l4, oa_l5, oa_l6, oa_l7, oa_l8, oa_l9, oa_l10, oa_l12, oa_l15, oa_l16, oa_l20, oa_l32, oa_l40, oa_l42, oa_l48, oa_l64, oa_l90, oa_l96, oa_l97, oa_l98, oa_l99, oa_l100, oa_l120, oa_l360, oa_l450, oa_l457, oa_l458, oa_l480, oa_l528]
theorem md_angers {a r : Nat} (ha : a ≤ 480) (hr : r < 6) : f_X7_angers M K (nI a) (nI r) = some (oa_cn (an (oa_pg M a) r) 7) := by
  unfold f_X7_angers l_X7_angers_5
  refine oa_for (fun i => (oa_cn (an (oa_pg M a) r) i, nI i)) 7 rfl ?_ ?_ _ (by rw [oa_fu_eq]; omega)
  · intro i hi k
    simp (disch := (first | omega | assumption | decide)) only [b_X7_angers_5, md_age, oa_cn_succ, oa_ut, oa_bs, oa_lt, oa_ile, oa_inle, oa_ilt, oa_inlt, oa_ieq, oa_ineq, oa_rd_nI, oa_wr_nI, oa_rd_0, oa_rd_1, oa_wr_0, oa_wr_1, oa_rdL_nI, oa_wrL_nI, oa_bi_if0, oa_bi_if1, oa_zc_bi, oa_if_b0, oa_if_b1, nI_1, nI_add, pk_mul, Nat.add_assoc, Int32.add_zero, Int32.sub_zero, Int32.or_zero, Int32.and_neg_one, va_up_s, va_up_n, upd_s, oa_up2, ite_self, if_true, if_false, oa_10, oa_01, oa_neg4, oa_ifno, oa_l2, oa_l3, oa_l4, oa_l5, oa_l6, oa_l7, oa_l8, oa_l9, oa_l10, oa_l12, oa_l15, oa_l16, oa_l20, oa_l32, oa_l40, oa_l42, oa_l48, oa_l64, oa_l90, oa_l96, oa_l97, oa_l98, oa_l99, oa_l100, oa_l120, oa_l360, oa_l450, oa_l457, oa_l458, oa_l480, oa_l528]
    unfold an
    by_cases h : 0 < oa_pg M a (48 + (7 * r + i))
    · rw [if_neg (Int32.not_le.mpr h), decide_eq_true h]; rfl
    · rw [if_pos (Int32.not_lt.mp h), decide_eq_false h]; rfl
  · intro k
    simp (disch := (first | omega | assumption | decide)) only [b_X7_angers_5, oa_ut, oa_bs, oa_lt, oa_ile, oa_inle, oa_ilt, oa_inlt, oa_ieq, oa_ineq, oa_rd_nI, oa_wr_nI, oa_rd_0, oa_rd_1, oa_wr_0, oa_wr_1, oa_rdL_nI, oa_wrL_nI, oa_bi_if0, oa_bi_if1, oa_zc_bi, oa_if_b0, oa_if_b1, nI_1, nI_add, pk_mul, Nat.add_assoc, Int32.add_zero, Int32.sub_zero, Int32.or_zero, Int32.and_neg_one, va_up_s, va_up_n, upd_s, oa_up2, ite_self, if_true, if_false, oa_10, oa_01, oa_neg4, oa_ifno, oa_l2, oa_l3, oa_l4, oa_l5, oa_l6, oa_l7, oa_l8, oa_l9, oa_l10, oa_l12, oa_l15, oa_l16, oa_l20, oa_l32, oa_l40, oa_l42, oa_l48, oa_l64, oa_l90, oa_l96, oa_l97, oa_l98, oa_l99, oa_l100, oa_l120, oa_l360, oa_l450, oa_l457, oa_l458, oa_l480, oa_l528]
theorem md_isFree {a r : Nat} (ha : a ≤ 480) (hr : r < 6) : f_X7_isFree M K (nI a) (nI r) = some (oa_bi (fr (M 2) (oa_pg M a) r)) := by
  unfold f_X7_isFree fr
  simp (disch := (first | omega | assumption | decide)) only [md_angers, oa_ut, oa_bs, oa_lt, oa_ile, oa_inle, oa_ilt, oa_inlt, oa_ieq, oa_ineq, oa_rd_nI, oa_wr_nI, oa_rd_0, oa_rd_1, oa_wr_0, oa_wr_1, oa_rdL_nI, oa_wrL_nI, oa_bi_if0, oa_bi_if1, oa_zc_bi, oa_if_b0, oa_if_b1, nI_1, nI_add, pk_mul, Nat.add_assoc, Int32.add_zero, Int32.sub_zero, Int32.or_zero, Int32.and_neg_one, va_up_s, va_up_n, upd_s, oa_up2, ite_self, if_true, if_false, oa_10, oa_01, oa_neg4, oa_ifno, oa_l2, oa_l3, oa_l4, oa_l5, oa_l6, oa_l7, oa_l8, oa_l9, oa_l10, oa_l12, oa_l15, oa_l16, oa_l20, oa_l32, oa_l40, oa_l42, oa_l48, oa_l64, oa_l90, oa_l96, oa_l97, oa_l98, oa_l99, oa_l100, oa_l120, oa_l360, oa_l450, oa_l457, oa_l458, oa_l480, oa_l528]
  by_cases h : oa_cn (an (oa_pg M a) r) 7 < M 2 0
  · rw [if_neg (Int32.not_le.mpr h), decide_eq_true h]; rfl
  · rw [if_pos (Int32.not_lt.mp h), decide_eq_false h]; rfl
theorem md_freeOnes {a : Nat} (hn : M 1 99 = nI n) (h6 : n ≤ 6) (ha : a ≤ 480) : f_X7_freeOnes M K (nI a) = some (oa_mk (fr (M 2) (oa_pg M a)) n) := by
  unfold f_X7_freeOnes l_X7_freeOnes_4
  refine oa_for (fun i => (oa_mk (fr (M 2) (oa_pg M a)) i, nI i)) n rfl ?_ ?_ _ (by rw [oa_fu_eq]; omega)
  · intro i hi k
    simp (disch := (first | omega | assumption | decide)) only [b_X7_freeOnes_4, md_many hn, md_isFree, oa_mk_succ, oa_ut, oa_bs, oa_lt, oa_ile, oa_inle, oa_ilt, oa_inlt, oa_ieq, oa_ineq, oa_rd_nI, oa_wr_nI, oa_rd_0, oa_rd_1, oa_wr_0, oa_wr_1, oa_rdL_nI, oa_wrL_nI, oa_bi_if0, oa_bi_if1, oa_zc_bi, oa_if_b0, oa_if_b1, nI_1, nI_add, pk_mul, Nat.add_assoc, Int32.add_zero, Int32.sub_zero, Int32.or_zero, Int32.and_neg_one, va_up_s, va_up_n, upd_s, oa_up2, ite_self, if_true, if_false, oa_10, oa_01, oa_neg4, oa_ifno, oa_l2, oa_l3, oa_l4, oa_l5, oa_l6, oa_l7, oa_l8, oa_l9, oa_l10, oa_l12, oa_l15, oa_l16, oa_l20, oa_l32, oa_l40, oa_l42, oa_l48, oa_l64, oa_l90, oa_l96, oa_l97, oa_l98, oa_l99, oa_l100, oa_l120, oa_l360, oa_l450, oa_l457, oa_l458, oa_l480, oa_l528]
    cases fr (M 2) (oa_pg M a) i <;> rfl
  · intro k
    simp (disch := (first | omega | assumption | decide)) only [b_X7_freeOnes_4, md_many hn, oa_ut, oa_bs, oa_lt, oa_ile, oa_inle, oa_ilt, oa_inlt, oa_ieq, oa_ineq, oa_rd_nI, oa_wr_nI, oa_rd_0, oa_rd_1, oa_wr_0, oa_wr_1, oa_rdL_nI, oa_wrL_nI, oa_bi_if0, oa_bi_if1, oa_zc_bi, oa_if_b0, oa_if_b1, nI_1, nI_add, pk_mul, Nat.add_assoc, Int32.add_zero, Int32.sub_zero, Int32.or_zero, Int32.and_neg_one, va_up_s, va_up_n, upd_s, oa_up2, ite_self, if_true, if_false, oa_10, oa_01, oa_neg4, oa_ifno, oa_l2, oa_l3, oa_l4, oa_l5, oa_l6, oa_l7, oa_l8, oa_l9, oa_l10, oa_l12, oa_l15, oa_l16, oa_l20, oa_l32, oa_l40, oa_l42, oa_l48, oa_l64, oa_l90, oa_l96, oa_l97, oa_l98, oa_l99, oa_l100, oa_l120, oa_l360, oa_l450, oa_l457, oa_l458, oa_l480, oa_l528]
theorem md_seenFree {a : Nat} (hn : M 1 99 = nI n) (h6 : n ≤ 6) (ha : a ≤ 480) : f_X7_seenFree M K (nI a) = some (oa_mk (sn (M 2) (oa_pg M a)) n) := by
  unfold f_X7_seenFree l_X7_seenFree_8
  simp (disch := (first | omega | assumption | decide)) only [md_freeOnes hn, oa_ut, oa_bs, oa_lt, oa_ile, oa_inle, oa_ilt, oa_inlt, oa_ieq, oa_ineq, oa_rd_nI, oa_wr_nI, oa_rd_0, oa_rd_1, oa_wr_0, oa_wr_1, oa_rdL_nI, oa_wrL_nI, oa_bi_if0, oa_bi_if1, oa_zc_bi, oa_if_b0, oa_if_b1, nI_1, nI_add, pk_mul, Nat.add_assoc, Int32.add_zero, Int32.sub_zero, Int32.or_zero, Int32.and_neg_one, va_up_s, va_up_n, upd_s, oa_up2, ite_self, if_true, if_false, oa_10, oa_01, oa_neg4, oa_ifno, oa_l2, oa_l3, oa_l4, oa_l5, oa_l6, oa_l7, oa_l8, oa_l9, oa_l10, oa_l12, oa_l15, oa_l16, oa_l20, oa_l32, oa_l40, oa_l42, oa_l48, oa_l64, oa_l90, oa_l96, oa_l97, oa_l98, oa_l99, oa_l100, oa_l120, oa_l360, oa_l450, oa_l457, oa_l458, oa_l480, oa_l528]
  refine oa_for (fun i => (oa_mk (fun r => fr (M 2) (oa_pg M a) r && !(decide (r < i) && fg (oa_pg M a) 3 r)) n, nI i)) n ?_ ?_ ?_ _ (by rw [oa_fu_eq]; omega)
  · refine Prod.ext (oa_mk_cong fun k _ => ?_) rfl
    simp
  · intro i hi k
    simp (disch := (first | omega | assumption | decide)) only [b_X7_seenFree_8, md_many hn, md_rd M a, oa_ut, oa_bs, oa_lt, oa_ile, oa_inle, oa_ilt, oa_inlt, oa_ieq, oa_ineq, oa_rd_nI, oa_wr_nI, oa_rd_0, oa_rd_1, oa_wr_0, oa_wr_1, oa_rdL_nI, oa_wrL_nI, oa_bi_if0, oa_bi_if1, oa_zc_bi, oa_if_b0, oa_if_b1, nI_1, nI_add, pk_mul, Nat.add_assoc, Int32.add_zero, Int32.sub_zero, Int32.or_zero, Int32.and_neg_one, va_up_s, va_up_n, upd_s, oa_up2, ite_self, if_true, if_false, oa_10, oa_01, oa_neg4, oa_ifno, oa_l2, oa_l3, oa_l4, oa_l5, oa_l6, oa_l7, oa_l8, oa_l9, oa_l10, oa_l12, oa_l15, oa_l16, oa_l20, oa_l32, oa_l40, oa_l42, oa_l48, oa_l64, oa_l90, oa_l96, oa_l97, oa_l98, oa_l99, oa_l100, oa_l120, oa_l360, oa_l450, oa_l457, oa_l458, oa_l480, oa_l528]
    by_cases h : oa_pg M a (8 * i) = nI 3
    · rw [if_pos h, oa_mk_and1 _ (by omega) (by omega)]
      refine congrArg k (Prod.ext (oa_mk_cong fun r hr => ?_) rfl)
      by_cases e : r = i
      · subst e
        have : fg (oa_pg M a) (nI 3) r = true := decide_eq_true h
        simp [this]
      · have : decide (r < i + 1) = decide (r < i) := decide_eq_decide.mpr (by omega)
        simp [e, this]
    · rw [if_neg h]
      refine congrArg k (Prod.ext (oa_mk_cong fun r hr => ?_) rfl)
      by_cases e : r = i
      · subst e
        have : fg (oa_pg M a) (nI 3) r = false := decide_eq_false h
        simp [this]
      · have : decide (r < i + 1) = decide (r < i) := decide_eq_decide.mpr (by omega)
        simp [this]
  · intro k
    simp (disch := (first | omega | assumption | decide)) only [b_X7_seenFree_8, md_many hn, oa_ut, oa_bs, oa_lt, oa_ile, oa_inle, oa_ilt, oa_inlt, oa_ieq, oa_ineq, oa_rd_nI, oa_wr_nI, oa_rd_0, oa_rd_1, oa_wr_0, oa_wr_1, oa_rdL_nI, oa_wrL_nI, oa_bi_if0, oa_bi_if1, oa_zc_bi, oa_if_b0, oa_if_b1, nI_1, nI_add, pk_mul, Nat.add_assoc, Int32.add_zero, Int32.sub_zero, Int32.or_zero, Int32.and_neg_one, va_up_s, va_up_n, upd_s, oa_up2, ite_self, if_true, if_false, oa_10, oa_01, oa_neg4, oa_ifno, oa_l2, oa_l3, oa_l4, oa_l5, oa_l6, oa_l7, oa_l8, oa_l9, oa_l10, oa_l12, oa_l15, oa_l16, oa_l20, oa_l32, oa_l40, oa_l42, oa_l48, oa_l64, oa_l90, oa_l96, oa_l97, oa_l98, oa_l99, oa_l100, oa_l120, oa_l360, oa_l450, oa_l457, oa_l458, oa_l480, oa_l528]
    refine congrArg some (oa_mk_cong fun r hr => ?_)
    unfold sn
    rw [decide_eq_true hr]; rfl
theorem md_minds {a r p q : Nat} (ha : a ≤ 480) (hr : r < 6) (hp : p < 6) (hq : q < 6) : f_X7_minds M K (nI a) (nI r) (nI p) (nI q) = some (oa_bi (can (oa_pg M a) p r && mi (oa_pg M a) r q)) := by
  unfold f_X7_minds
  simp (disch := (first | omega | assumption | decide)) only [md_rd M a, oa_ut, oa_bs, oa_lt, oa_ile, oa_inle, oa_ilt, oa_inlt, oa_ieq, oa_ineq, oa_rd_nI, oa_wr_nI, oa_rd_0, oa_rd_1, oa_wr_0, oa_wr_1, oa_rdL_nI, oa_wrL_nI, oa_bi_if0, oa_bi_if1, oa_zc_bi, oa_if_b0, oa_if_b1, nI_1, nI_add, pk_mul, Nat.add_assoc, Int32.add_zero, Int32.sub_zero, Int32.or_zero, Int32.and_neg_one, va_up_s, va_up_n, upd_s, oa_up2, ite_self, if_true, if_false, oa_10, oa_01, oa_neg4, oa_ifno, oa_l2, oa_l3, oa_l4, oa_l5, oa_l6, oa_l7, oa_l8, oa_l9, oa_l10, oa_l12, oa_l15, oa_l16, oa_l20, oa_l32, oa_l40, oa_l42, oa_l48, oa_l64, oa_l90, oa_l96, oa_l97, oa_l98, oa_l99, oa_l100, oa_l120, oa_l360, oa_l450, oa_l457, oa_l458, oa_l480, oa_l528]
  by_cases e : r = p
  · have : can (oa_pg M a) p r = false := by unfold can; simp [e]
    by_cases e2 : r = q
    · simp (disch := (first | omega | assumption | decide)) only [b_X7_minds_26, this, oa_ut, oa_bs, oa_lt, oa_ile, oa_inle, oa_ilt, oa_inlt, oa_ieq, oa_ineq, oa_rd_nI, oa_wr_nI, oa_rd_0, oa_rd_1, oa_wr_0, oa_wr_1, oa_rdL_nI, oa_wrL_nI, oa_bi_if0, oa_bi_if1, oa_zc_bi, oa_if_b0, oa_if_b1, nI_1, nI_add, pk_mul, Nat.add_assoc, Int32.add_zero, Int32.sub_zero, Int32.or_zero, Int32.and_neg_one, va_up_s, va_up_n, upd_s, oa_up2, ite_self, if_true, if_false, oa_10, oa_01, oa_neg4, oa_ifno, oa_l2, oa_l3, oa_l4, oa_l5, oa_l6, oa_l7, oa_l8, oa_l9, oa_l10, oa_l12, oa_l15, oa_l16, oa_l20, oa_l32, oa_l40, oa_l42, oa_l48, oa_l64, oa_l90, oa_l96, oa_l97, oa_l98, oa_l99, oa_l100, oa_l120, oa_l360, oa_l450, oa_l457, oa_l458, oa_l480, oa_l528]
      rfl
    · simp (disch := (first | omega | assumption | decide)) only [b_X7_minds_26, this, oa_ut, oa_bs, oa_lt, oa_ile, oa_inle, oa_ilt, oa_inlt, oa_ieq, oa_ineq, oa_rd_nI, oa_wr_nI, oa_rd_0, oa_rd_1, oa_wr_0, oa_wr_1, oa_rdL_nI, oa_wrL_nI, oa_bi_if0, oa_bi_if1, oa_zc_bi, oa_if_b0, oa_if_b1, nI_1, nI_add, pk_mul, Nat.add_assoc, Int32.add_zero, Int32.sub_zero, Int32.or_zero, Int32.and_neg_one, va_up_s, va_up_n, upd_s, oa_up2, ite_self, if_true, if_false, oa_10, oa_01, oa_neg4, oa_ifno, oa_l2, oa_l3, oa_l4, oa_l5, oa_l6, oa_l7, oa_l8, oa_l9, oa_l10, oa_l12, oa_l15, oa_l16, oa_l20, oa_l32, oa_l40, oa_l42, oa_l48, oa_l64, oa_l90, oa_l96, oa_l97, oa_l98, oa_l99, oa_l100, oa_l120, oa_l360, oa_l450, oa_l457, oa_l458, oa_l480, oa_l528]
      rfl
  by_cases g : 0 < oa_pg M a (48 + (7 * r + p))
  · have : can (oa_pg M a) p r = false := by unfold can an; simp [e, g]
    by_cases e2 : r = q
    · simp (disch := (first | omega | assumption | decide)) only [b_X7_minds_26, this, md_age, if_neg (Int32.not_le.mpr g), oa_ut, oa_bs, oa_lt, oa_ile, oa_inle, oa_ilt, oa_inlt, oa_ieq, oa_ineq, oa_rd_nI, oa_wr_nI, oa_rd_0, oa_rd_1, oa_wr_0, oa_wr_1, oa_rdL_nI, oa_wrL_nI, oa_bi_if0, oa_bi_if1, oa_zc_bi, oa_if_b0, oa_if_b1, nI_1, nI_add, pk_mul, Nat.add_assoc, Int32.add_zero, Int32.sub_zero, Int32.or_zero, Int32.and_neg_one, va_up_s, va_up_n, upd_s, oa_up2, ite_self, if_true, if_false, oa_10, oa_01, oa_neg4, oa_ifno, oa_l2, oa_l3, oa_l4, oa_l5, oa_l6, oa_l7, oa_l8, oa_l9, oa_l10, oa_l12, oa_l15, oa_l16, oa_l20, oa_l32, oa_l40, oa_l42, oa_l48, oa_l64, oa_l90, oa_l96, oa_l97, oa_l98, oa_l99, oa_l100, oa_l120, oa_l360, oa_l450, oa_l457, oa_l458, oa_l480, oa_l528]
      rfl
    · simp (disch := (first | omega | assumption | decide)) only [b_X7_minds_26, this, md_age, if_neg (Int32.not_le.mpr g), oa_ut, oa_bs, oa_lt, oa_ile, oa_inle, oa_ilt, oa_inlt, oa_ieq, oa_ineq, oa_rd_nI, oa_wr_nI, oa_rd_0, oa_rd_1, oa_wr_0, oa_wr_1, oa_rdL_nI, oa_wrL_nI, oa_bi_if0, oa_bi_if1, oa_zc_bi, oa_if_b0, oa_if_b1, nI_1, nI_add, pk_mul, Nat.add_assoc, Int32.add_zero, Int32.sub_zero, Int32.or_zero, Int32.and_neg_one, va_up_s, va_up_n, upd_s, oa_up2, ite_self, if_true, if_false, oa_10, oa_01, oa_neg4, oa_ifno, oa_l2, oa_l3, oa_l4, oa_l5, oa_l6, oa_l7, oa_l8, oa_l9, oa_l10, oa_l12, oa_l15, oa_l16, oa_l20, oa_l32, oa_l40, oa_l42, oa_l48, oa_l64, oa_l90, oa_l96, oa_l97, oa_l98, oa_l99, oa_l100, oa_l120, oa_l360, oa_l450, oa_l457, oa_l458, oa_l480, oa_l528]
      rfl
  have hc : can (oa_pg M a) p r = true := by unfold can an; simp [e, g]
  rw [hc, Bool.true_and]
  unfold mi b_X7_minds_26
  have ep : ¬ nI r = nI p := fun c => e ((nI_eq (by omega) (by omega)).mp c)
  simp only [if_neg ep]
  rw [md_age ha hr (by omega)]
  simp only [oa_bs, if_pos (Int32.not_lt.mp g)]
  by_cases s0 : oa_pg M a (8 * r) = 0
  · simp only [if_pos s0]
    by_cases e2 : r = q
    · simp (disch := (first | omega | assumption | decide)) only [decide_eq_true e2, oa_ut, oa_bs, oa_lt, oa_ile, oa_inle, oa_ilt, oa_inlt, oa_ieq, oa_ineq, oa_rd_nI, oa_wr_nI, oa_rd_0, oa_rd_1, oa_wr_0, oa_wr_1, oa_rdL_nI, oa_wrL_nI, oa_bi_if0, oa_bi_if1, oa_zc_bi, oa_if_b0, oa_if_b1, nI_1, nI_add, pk_mul, Nat.add_assoc, Int32.add_zero, Int32.sub_zero, Int32.or_zero, Int32.and_neg_one, va_up_s, va_up_n, upd_s, oa_up2, ite_self, if_true, if_false, oa_10, oa_01, oa_neg4, oa_ifno, oa_l2, oa_l3, oa_l4, oa_l5, oa_l6, oa_l7, oa_l8, oa_l9, oa_l10, oa_l12, oa_l15, oa_l16, oa_l20, oa_l32, oa_l40, oa_l42, oa_l48, oa_l64, oa_l90, oa_l96, oa_l97, oa_l98, oa_l99, oa_l100, oa_l120, oa_l360, oa_l450, oa_l457, oa_l458, oa_l480, oa_l528]
      rfl
    · simp (disch := (first | omega | assumption | decide)) only [decide_eq_false e2, oa_ut, oa_bs, oa_lt, oa_ile, oa_inle, oa_ilt, oa_inlt, oa_ieq, oa_ineq, oa_rd_nI, oa_wr_nI, oa_rd_0, oa_rd_1, oa_wr_0, oa_wr_1, oa_rdL_nI, oa_wrL_nI, oa_bi_if0, oa_bi_if1, oa_zc_bi, oa_if_b0, oa_if_b1, nI_1, nI_add, pk_mul, Nat.add_assoc, Int32.add_zero, Int32.sub_zero, Int32.or_zero, Int32.and_neg_one, va_up_s, va_up_n, upd_s, oa_up2, ite_self, if_true, if_false, oa_10, oa_01, oa_neg4, oa_ifno, oa_l2, oa_l3, oa_l4, oa_l5, oa_l6, oa_l7, oa_l8, oa_l9, oa_l10, oa_l12, oa_l15, oa_l16, oa_l20, oa_l32, oa_l40, oa_l42, oa_l48, oa_l64, oa_l90, oa_l96, oa_l97, oa_l98, oa_l99, oa_l100, oa_l120, oa_l360, oa_l450, oa_l457, oa_l458, oa_l480, oa_l528]
      rfl
  by_cases s1 : oa_pg M a (8 * r) = 1
  · simp only [if_neg s0, if_pos s1]
    by_cases e2 : r = q
    · subst e2
      simp (disch := (first | omega | assumption | decide)) only [md_rd M a, if_neg (show ¬ (1 : Int32) = 0 by decide), oa_ut, oa_bs, oa_lt, oa_ile, oa_inle, oa_ilt, oa_inlt, oa_ieq, oa_ineq, oa_rd_nI, oa_wr_nI, oa_rd_0, oa_rd_1, oa_wr_0, oa_wr_1, oa_rdL_nI, oa_wrL_nI, oa_bi_if0, oa_bi_if1, oa_zc_bi, oa_if_b0, oa_if_b1, nI_1, nI_add, pk_mul, Nat.add_assoc, Int32.add_zero, Int32.sub_zero, Int32.or_zero, Int32.and_neg_one, va_up_s, va_up_n, upd_s, oa_up2, ite_self, if_true, if_false, oa_10, oa_01, oa_neg4, oa_ifno, oa_l2, oa_l3, oa_l4, oa_l5, oa_l6, oa_l7, oa_l8, oa_l9, oa_l10, oa_l12, oa_l15, oa_l16, oa_l20, oa_l32, oa_l40, oa_l42, oa_l48, oa_l64, oa_l90, oa_l96, oa_l97, oa_l98, oa_l99, oa_l100, oa_l120, oa_l360, oa_l450, oa_l457, oa_l458, oa_l480, oa_l528]
      by_cases l : oa_pg M a (8 * r + 2) < oa_pg M a (8 * r + 6)
      · rw [if_pos l]; simp [Int32.not_le.mpr l, oa_bi]
      · rw [if_neg l]; simp [Int32.not_lt.mp l, oa_bi]
    · simp (disch := (first | omega | assumption | decide)) only [decide_eq_false e2, if_pos (show (0 : Int32) = 0 from rfl), oa_ut, oa_bs, oa_lt, oa_ile, oa_inle, oa_ilt, oa_inlt, oa_ieq, oa_ineq, oa_rd_nI, oa_wr_nI, oa_rd_0, oa_rd_1, oa_wr_0, oa_wr_1, oa_rdL_nI, oa_wrL_nI, oa_bi_if0, oa_bi_if1, oa_zc_bi, oa_if_b0, oa_if_b1, nI_1, nI_add, pk_mul, Nat.add_assoc, Int32.add_zero, Int32.sub_zero, Int32.or_zero, Int32.and_neg_one, va_up_s, va_up_n, upd_s, oa_up2, ite_self, if_true, if_false, oa_10, oa_01, oa_neg4, oa_ifno, oa_l2, oa_l3, oa_l4, oa_l5, oa_l6, oa_l7, oa_l8, oa_l9, oa_l10, oa_l12, oa_l15, oa_l16, oa_l20, oa_l32, oa_l40, oa_l42, oa_l48, oa_l64, oa_l90, oa_l96, oa_l97, oa_l98, oa_l99, oa_l100, oa_l120, oa_l360, oa_l450, oa_l457, oa_l458, oa_l480, oa_l528]
      rfl
  by_cases s2 : oa_pg M a (8 * r) = 2
  · simp only [if_neg s0, if_neg s1, if_pos s2]
    by_cases e2 : r = q
    · simp (disch := (first | omega | assumption | decide)) only [decide_eq_true e2, if_neg (show ¬ (1 : Int32) = 0 by decide), oa_ut, oa_bs, oa_lt, oa_ile, oa_inle, oa_ilt, oa_inlt, oa_ieq, oa_ineq, oa_rd_nI, oa_wr_nI, oa_rd_0, oa_rd_1, oa_wr_0, oa_wr_1, oa_rdL_nI, oa_wrL_nI, oa_bi_if0, oa_bi_if1, oa_zc_bi, oa_if_b0, oa_if_b1, nI_1, nI_add, pk_mul, Nat.add_assoc, Int32.add_zero, Int32.sub_zero, Int32.or_zero, Int32.and_neg_one, va_up_s, va_up_n, upd_s, oa_up2, ite_self, if_true, if_false, oa_10, oa_01, oa_neg4, oa_ifno, oa_l2, oa_l3, oa_l4, oa_l5, oa_l6, oa_l7, oa_l8, oa_l9, oa_l10, oa_l12, oa_l15, oa_l16, oa_l20, oa_l32, oa_l40, oa_l42, oa_l48, oa_l64, oa_l90, oa_l96, oa_l97, oa_l98, oa_l99, oa_l100, oa_l120, oa_l360, oa_l450, oa_l457, oa_l458, oa_l480, oa_l528]
      rfl
    · simp (disch := (first | omega | assumption | decide)) only [decide_eq_false e2, if_pos (show (0 : Int32) = 0 from rfl), md_rd M a, oa_ut, oa_bs, oa_lt, oa_ile, oa_inle, oa_ilt, oa_inlt, oa_ieq, oa_ineq, oa_rd_nI, oa_wr_nI, oa_rd_0, oa_rd_1, oa_wr_0, oa_wr_1, oa_rdL_nI, oa_wrL_nI, oa_bi_if0, oa_bi_if1, oa_zc_bi, oa_if_b0, oa_if_b1, nI_1, nI_add, pk_mul, Nat.add_assoc, Int32.add_zero, Int32.sub_zero, Int32.or_zero, Int32.and_neg_one, va_up_s, va_up_n, upd_s, oa_up2, ite_self, if_true, if_false, oa_10, oa_01, oa_neg4, oa_ifno, oa_l2, oa_l3, oa_l4, oa_l5, oa_l6, oa_l7, oa_l8, oa_l9, oa_l10, oa_l12, oa_l15, oa_l16, oa_l20, oa_l32, oa_l40, oa_l42, oa_l48, oa_l64, oa_l90, oa_l96, oa_l97, oa_l98, oa_l99, oa_l100, oa_l120, oa_l360, oa_l450, oa_l457, oa_l458, oa_l480, oa_l528]
      by_cases l : oa_pg M a (8 * r + 7) = nI q
      · simp [l, oa_bi]
      · simp [l, oa_bi]
  by_cases s3 : oa_pg M a (8 * r) = 3
  · simp only [if_neg s0, if_neg s1, if_neg s2, if_pos s3]
    by_cases e2 : r = q
    · simp (disch := (first | omega | assumption | decide)) only [decide_eq_true e2, oa_ut, oa_bs, oa_lt, oa_ile, oa_inle, oa_ilt, oa_inlt, oa_ieq, oa_ineq, oa_rd_nI, oa_wr_nI, oa_rd_0, oa_rd_1, oa_wr_0, oa_wr_1, oa_rdL_nI, oa_wrL_nI, oa_bi_if0, oa_bi_if1, oa_zc_bi, oa_if_b0, oa_if_b1, nI_1, nI_add, pk_mul, Nat.add_assoc, Int32.add_zero, Int32.sub_zero, Int32.or_zero, Int32.and_neg_one, va_up_s, va_up_n, upd_s, oa_up2, ite_self, if_true, if_false, oa_10, oa_01, oa_neg4, oa_ifno, oa_l2, oa_l3, oa_l4, oa_l5, oa_l6, oa_l7, oa_l8, oa_l9, oa_l10, oa_l12, oa_l15, oa_l16, oa_l20, oa_l32, oa_l40, oa_l42, oa_l48, oa_l64, oa_l90, oa_l96, oa_l97, oa_l98, oa_l99, oa_l100, oa_l120, oa_l360, oa_l450, oa_l457, oa_l458, oa_l480, oa_l528]
      rfl
    · simp (disch := (first | omega | assumption | decide)) only [decide_eq_false e2, oa_ut, oa_bs, oa_lt, oa_ile, oa_inle, oa_ilt, oa_inlt, oa_ieq, oa_ineq, oa_rd_nI, oa_wr_nI, oa_rd_0, oa_rd_1, oa_wr_0, oa_wr_1, oa_rdL_nI, oa_wrL_nI, oa_bi_if0, oa_bi_if1, oa_zc_bi, oa_if_b0, oa_if_b1, nI_1, nI_add, pk_mul, Nat.add_assoc, Int32.add_zero, Int32.sub_zero, Int32.or_zero, Int32.and_neg_one, va_up_s, va_up_n, upd_s, oa_up2, ite_self, if_true, if_false, oa_10, oa_01, oa_neg4, oa_ifno, oa_l2, oa_l3, oa_l4, oa_l5, oa_l6, oa_l7, oa_l8, oa_l9, oa_l10, oa_l12, oa_l15, oa_l16, oa_l20, oa_l32, oa_l40, oa_l42, oa_l48, oa_l64, oa_l90, oa_l96, oa_l97, oa_l98, oa_l99, oa_l100, oa_l120, oa_l360, oa_l450, oa_l457, oa_l458, oa_l480, oa_l528]
      rfl
  · simp only [if_neg s0, if_neg s1, if_neg s2, if_neg s3]
    by_cases e2 : r = q
    · simp (disch := (first | omega | assumption | decide)) only [oa_ut, oa_bs, oa_lt, oa_ile, oa_inle, oa_ilt, oa_inlt, oa_ieq, oa_ineq, oa_rd_nI, oa_wr_nI, oa_rd_0, oa_rd_1, oa_wr_0, oa_wr_1, oa_rdL_nI, oa_wrL_nI, oa_bi_if0, oa_bi_if1, oa_zc_bi, oa_if_b0, oa_if_b1, nI_1, nI_add, pk_mul, Nat.add_assoc, Int32.add_zero, Int32.sub_zero, Int32.or_zero, Int32.and_neg_one, va_up_s, va_up_n, upd_s, oa_up2, ite_self, if_true, if_false, oa_10, oa_01, oa_neg4, oa_ifno, oa_l2, oa_l3, oa_l4, oa_l5, oa_l6, oa_l7, oa_l8, oa_l9, oa_l10, oa_l12, oa_l15, oa_l16, oa_l20, oa_l32, oa_l40, oa_l42, oa_l48, oa_l64, oa_l90, oa_l96, oa_l97, oa_l98, oa_l99, oa_l100, oa_l120, oa_l360, oa_l450, oa_l457, oa_l458, oa_l480, oa_l528]
      rfl
    · simp (disch := (first | omega | assumption | decide)) only [oa_ut, oa_bs, oa_lt, oa_ile, oa_inle, oa_ilt, oa_inlt, oa_ieq, oa_ineq, oa_rd_nI, oa_wr_nI, oa_rd_0, oa_rd_1, oa_wr_0, oa_wr_1, oa_rdL_nI, oa_wrL_nI, oa_bi_if0, oa_bi_if1, oa_zc_bi, oa_if_b0, oa_if_b1, nI_1, nI_add, pk_mul, Nat.add_assoc, Int32.add_zero, Int32.sub_zero, Int32.or_zero, Int32.and_neg_one, va_up_s, va_up_n, upd_s, oa_up2, ite_self, if_true, if_false, oa_10, oa_01, oa_neg4, oa_ifno, oa_l2, oa_l3, oa_l4, oa_l5, oa_l6, oa_l7, oa_l8, oa_l9, oa_l10, oa_l12, oa_l15, oa_l16, oa_l20, oa_l32, oa_l40, oa_l42, oa_l48, oa_l64, oa_l90, oa_l96, oa_l97, oa_l98, oa_l99, oa_l100, oa_l120, oa_l360, oa_l450, oa_l457, oa_l458, oa_l480, oa_l528]
      rfl
theorem md_cost {a r : Nat} (ha : a ≤ 480) (hr : r < 6) : f_X7_cost M K (nI a) (nI r) = some (co (M 2) (oa_pg M a) r) := by
  unfold f_X7_cost f_X7_lesser co
  simp (disch := (first | omega | assumption | decide)) only [md_rd M a, oa_ut, oa_bs, oa_lt, oa_ile, oa_inle, oa_ilt, oa_inlt, oa_ieq, oa_ineq, oa_rd_nI, oa_wr_nI, oa_rd_0, oa_rd_1, oa_wr_0, oa_wr_1, oa_rdL_nI, oa_wrL_nI, oa_bi_if0, oa_bi_if1, oa_zc_bi, oa_if_b0, oa_if_b1, nI_1, nI_add, pk_mul, Nat.add_assoc, Int32.add_zero, Int32.sub_zero, Int32.or_zero, Int32.and_neg_one, va_up_s, va_up_n, upd_s, oa_up2, ite_self, if_true, if_false, oa_10, oa_01, oa_neg4, oa_ifno, oa_l2, oa_l3, oa_l4, oa_l5, oa_l6, oa_l7, oa_l8, oa_l9, oa_l10, oa_l12, oa_l15, oa_l16, oa_l20, oa_l32, oa_l40, oa_l42, oa_l48, oa_l64, oa_l90, oa_l96, oa_l97, oa_l98, oa_l99, oa_l100, oa_l120, oa_l360, oa_l450, oa_l457, oa_l458, oa_l480, oa_l528]
  by_cases h : oa_pg M a (8 * r + 3) * oa_pg M a (8 * r + 5) + oa_pg M a (8 * r + 4) < oa_pg M a (8 * r + 3) * M 2 1
  · rw [if_pos h, if_pos (Int32.le_of_lt h)]
    rfl
  · rw [if_neg h]
    by_cases h2 : oa_pg M a (8 * r + 3) * oa_pg M a (8 * r + 5) + oa_pg M a (8 * r + 4) ≤ oa_pg M a (8 * r + 3) * M 2 1
    · rw [if_pos h2]
      exact congrArg some (Int32.le_antisymm h2 (Int32.not_lt.mp h))
    · rw [if_neg h2]
      rfl
theorem md_worthBy {a p q : Nat} {x : Int32} (hn : M 1 99 = nI n) (h6 : n ≤ 6) (ha : a ≤ 480) (hp : p < 6) (hq : q < 6) : f_X7_worthBy M K (nI a) (nI p) (nI q) x = some (val (M 2) (oa_pg M a) q (fun r => bt x r && can (oa_pg M a) p r) n) := by
  unfold f_X7_worthBy l_X7_worthBy_18
  simp (disch := (first | omega | assumption | decide)) only [md_rd M a, oa_ut, oa_bs, oa_lt, oa_ile, oa_inle, oa_ilt, oa_inlt, oa_ieq, oa_ineq, oa_rd_nI, oa_wr_nI, oa_rd_0, oa_rd_1, oa_wr_0, oa_wr_1, oa_rdL_nI, oa_wrL_nI, oa_bi_if0, oa_bi_if1, oa_zc_bi, oa_if_b0, oa_if_b1, nI_1, nI_add, pk_mul, Nat.add_assoc, Int32.add_zero, Int32.sub_zero, Int32.or_zero, Int32.and_neg_one, va_up_s, va_up_n, upd_s, oa_up2, ite_self, if_true, if_false, oa_10, oa_01, oa_neg4, oa_ifno, oa_l2, oa_l3, oa_l4, oa_l5, oa_l6, oa_l7, oa_l8, oa_l9, oa_l10, oa_l12, oa_l15, oa_l16, oa_l20, oa_l32, oa_l40, oa_l42, oa_l48, oa_l64, oa_l90, oa_l96, oa_l97, oa_l98, oa_l99, oa_l100, oa_l120, oa_l360, oa_l450, oa_l457, oa_l458, oa_l480, oa_l528]
  refine oa_for (fun i => (val (M 2) (oa_pg M a) q (fun r => bt x r && can (oa_pg M a) p r) i, nI i)) n rfl ?_ ?_ _ (by rw [oa_fu_eq]; omega)
  · intro i hi k
    simp (disch := (first | omega | assumption | decide)) only [b_X7_worthBy_18, md_many hn, md_minds, md_cost, val_succ, oa_ut, oa_bs, oa_lt, oa_ile, oa_inle, oa_ilt, oa_inlt, oa_ieq, oa_ineq, oa_rd_nI, oa_wr_nI, oa_rd_0, oa_rd_1, oa_wr_0, oa_wr_1, oa_rdL_nI, oa_wrL_nI, oa_bi_if0, oa_bi_if1, oa_zc_bi, oa_if_b0, oa_if_b1, nI_1, nI_add, pk_mul, Nat.add_assoc, Int32.add_zero, Int32.sub_zero, Int32.or_zero, Int32.and_neg_one, va_up_s, va_up_n, upd_s, oa_up2, ite_self, if_true, if_false, oa_10, oa_01, oa_neg4, oa_ifno, oa_l2, oa_l3, oa_l4, oa_l5, oa_l6, oa_l7, oa_l8, oa_l9, oa_l10, oa_l12, oa_l15, oa_l16, oa_l20, oa_l32, oa_l40, oa_l42, oa_l48, oa_l64, oa_l90, oa_l96, oa_l97, oa_l98, oa_l99, oa_l100, oa_l120, oa_l360, oa_l450, oa_l457, oa_l458, oa_l480, oa_l528]
    cases bt x i <;> cases can (oa_pg M a) p i <;> cases mi (oa_pg M a) i q <;> rfl
  · intro k
    simp (disch := (first | omega | assumption | decide)) only [b_X7_worthBy_18, md_many hn, oa_ut, oa_bs, oa_lt, oa_ile, oa_inle, oa_ilt, oa_inlt, oa_ieq, oa_ineq, oa_rd_nI, oa_wr_nI, oa_rd_0, oa_rd_1, oa_wr_0, oa_wr_1, oa_rdL_nI, oa_wrL_nI, oa_bi_if0, oa_bi_if1, oa_zc_bi, oa_if_b0, oa_if_b1, nI_1, nI_add, pk_mul, Nat.add_assoc, Int32.add_zero, Int32.sub_zero, Int32.or_zero, Int32.and_neg_one, va_up_s, va_up_n, upd_s, oa_up2, ite_self, if_true, if_false, oa_10, oa_01, oa_neg4, oa_ifno, oa_l2, oa_l3, oa_l4, oa_l5, oa_l6, oa_l7, oa_l8, oa_l9, oa_l10, oa_l12, oa_l15, oa_l16, oa_l20, oa_l32, oa_l40, oa_l42, oa_l48, oa_l64, oa_l90, oa_l96, oa_l97, oa_l98, oa_l99, oa_l100, oa_l120, oa_l360, oa_l450, oa_l457, oa_l458, oa_l480, oa_l528]
theorem md_chosen {a p : Nat} {x : Int32} (hn : M 1 99 = nI n) (h6 : n ≤ 6) (ha : a ≤ 480) (hp : p < 6) : f_X7_chosen M K (nI a) (nI p) x = some (chs (M 2) (oa_pg M a) n p (fun r => bt x r && can (oa_pg M a) p r) n).1 := by
  unfold f_X7_chosen l_X7_chosen_10
  have pos : ∀ i, 0 ≤ (chs (M 2) (oa_pg M a) n p (fun r => bt x r && can (oa_pg M a) p r) i).2 := by
    intro i
    induction i with
    | zero => exact Int32.le_refl _
    | succ i ih =>
      rw [chs_succ]
      by_cases e : i = p
      · rw [if_pos e]; exact ih
      · rw [if_neg e]
        split
        · rename_i h; exact Int32.le_of_lt (Int32.lt_of_le_of_lt ih h)
        · exact ih
  refine oa_for (fun i => ((chs (M 2) (oa_pg M a) n p (fun r => bt x r && can (oa_pg M a) p r) i).1, (chs (M 2) (oa_pg M a) n p (fun r => bt x r && can (oa_pg M a) p r) i).2, nI i)) n rfl ?_ ?_ _ (by rw [oa_fu_eq]; omega)
  · intro i hi k
    rw [chs_succ]
    by_cases e : i = p
    · have := pos i
      simp (disch := (first | omega | assumption | decide)) only [b_X7_chosen_10, b_X7_chosen_38, b_X7_chosen_54, md_many hn, if_pos e, if_pos this, oa_ut, oa_bs, oa_lt, oa_ile, oa_inle, oa_ilt, oa_inlt, oa_ieq, oa_ineq, oa_rd_nI, oa_wr_nI, oa_rd_0, oa_rd_1, oa_wr_0, oa_wr_1, oa_rdL_nI, oa_wrL_nI, oa_bi_if0, oa_bi_if1, oa_zc_bi, oa_if_b0, oa_if_b1, nI_1, nI_add, pk_mul, Nat.add_assoc, Int32.add_zero, Int32.sub_zero, Int32.or_zero, Int32.and_neg_one, va_up_s, va_up_n, upd_s, oa_up2, ite_self, if_true, if_false, oa_10, oa_01, oa_neg4, oa_ifno, oa_l2, oa_l3, oa_l4, oa_l5, oa_l6, oa_l7, oa_l8, oa_l9, oa_l10, oa_l12, oa_l15, oa_l16, oa_l20, oa_l32, oa_l40, oa_l42, oa_l48, oa_l64, oa_l90, oa_l96, oa_l97, oa_l98, oa_l99, oa_l100, oa_l120, oa_l360, oa_l450, oa_l457, oa_l458, oa_l480, oa_l528]
    · simp (disch := (first | omega | assumption | decide)) only [b_X7_chosen_10, b_X7_chosen_38, b_X7_chosen_54, md_many hn, if_neg e, md_worthBy hn, oa_ut, oa_bs, oa_lt, oa_ile, oa_inle, oa_ilt, oa_inlt, oa_ieq, oa_ineq, oa_rd_nI, oa_wr_nI, oa_rd_0, oa_rd_1, oa_wr_0, oa_wr_1, oa_rdL_nI, oa_wrL_nI, oa_bi_if0, oa_bi_if1, oa_zc_bi, oa_if_b0, oa_if_b1, nI_1, nI_add, pk_mul, Nat.add_assoc, Int32.add_zero, Int32.sub_zero, Int32.or_zero, Int32.and_neg_one, va_up_s, va_up_n, upd_s, oa_up2, ite_self, if_true, if_false, oa_10, oa_01, oa_neg4, oa_ifno, oa_l2, oa_l3, oa_l4, oa_l5, oa_l6, oa_l7, oa_l8, oa_l9, oa_l10, oa_l12, oa_l15, oa_l16, oa_l20, oa_l32, oa_l40, oa_l42, oa_l48, oa_l64, oa_l90, oa_l96, oa_l97, oa_l98, oa_l99, oa_l100, oa_l120, oa_l360, oa_l450, oa_l457, oa_l458, oa_l480, oa_l528]
      by_cases l : (chs (M 2) (oa_pg M a) n p (fun r => bt x r && can (oa_pg M a) p r) i).2 < val (M 2) (oa_pg M a) i (fun r => bt x r && can (oa_pg M a) p r) n
      · simp only [if_neg (Int32.not_le.mpr l), if_pos l]
      · simp only [if_pos (Int32.not_lt.mp l), if_neg l]
  · intro k
    simp (disch := (first | omega | assumption | decide)) only [b_X7_chosen_10, md_many hn, oa_ut, oa_bs, oa_lt, oa_ile, oa_inle, oa_ilt, oa_inlt, oa_ieq, oa_ineq, oa_rd_nI, oa_wr_nI, oa_rd_0, oa_rd_1, oa_wr_0, oa_wr_1, oa_rdL_nI, oa_wrL_nI, oa_bi_if0, oa_bi_if1, oa_zc_bi, oa_if_b0, oa_if_b1, nI_1, nI_add, pk_mul, Nat.add_assoc, Int32.add_zero, Int32.sub_zero, Int32.or_zero, Int32.and_neg_one, va_up_s, va_up_n, upd_s, oa_up2, ite_self, if_true, if_false, oa_10, oa_01, oa_neg4, oa_ifno, oa_l2, oa_l3, oa_l4, oa_l5, oa_l6, oa_l7, oa_l8, oa_l9, oa_l10, oa_l12, oa_l15, oa_l16, oa_l20, oa_l32, oa_l40, oa_l42, oa_l48, oa_l64, oa_l90, oa_l96, oa_l97, oa_l98, oa_l99, oa_l100, oa_l120, oa_l360, oa_l450, oa_l457, oa_l458, oa_l480, oa_l528]
/-- who would be angry -/
def wo (R P : oa_P) (p q r : Nat) : Bool := fr R P r && (can P p r && mi P r q)
theorem md_wouldOf {a p q : Nat} (hn : M 1 99 = nI n) (h6 : n ≤ 6) (ha : a ≤ 480) (hp : p < 6) (hq : q < 6) : f_X7_wouldOf M K (nI a) (nI p) (nI q) = some (oa_mk (wo (M 2) (oa_pg M a) p q) n) := by
  unfold f_X7_wouldOf l_X7_wouldOf_6
  refine oa_for (fun i => (oa_mk (wo (M 2) (oa_pg M a) p q) i, nI i)) n rfl ?_ ?_ _ (by rw [oa_fu_eq]; omega)
  · intro i hi k
    simp (disch := (first | omega | assumption | decide)) only [b_X7_wouldOf_6, md_many hn, md_isFree, md_minds, oa_mk_succ, oa_ut, oa_bs, oa_lt, oa_ile, oa_inle, oa_ilt, oa_inlt, oa_ieq, oa_ineq, oa_rd_nI, oa_wr_nI, oa_rd_0, oa_rd_1, oa_wr_0, oa_wr_1, oa_rdL_nI, oa_wrL_nI, oa_bi_if0, oa_bi_if1, oa_zc_bi, oa_if_b0, oa_if_b1, nI_1, nI_add, pk_mul, Nat.add_assoc, Int32.add_zero, Int32.sub_zero, Int32.or_zero, Int32.and_neg_one, va_up_s, va_up_n, upd_s, oa_up2, ite_self, if_true, if_false, oa_10, oa_01, oa_neg4, oa_ifno, oa_l2, oa_l3, oa_l4, oa_l5, oa_l6, oa_l7, oa_l8, oa_l9, oa_l10, oa_l12, oa_l15, oa_l16, oa_l20, oa_l32, oa_l40, oa_l42, oa_l48, oa_l64, oa_l90, oa_l96, oa_l97, oa_l98, oa_l99, oa_l100, oa_l120, oa_l360, oa_l450, oa_l457, oa_l458, oa_l480, oa_l528]
    unfold wo
    cases fr (M 2) (oa_pg M a) i <;> cases can (oa_pg M a) p i <;> cases mi (oa_pg M a) i q <;> rfl
  · intro k
    simp (disch := (first | omega | assumption | decide)) only [b_X7_wouldOf_6, md_many hn, oa_ut, oa_bs, oa_lt, oa_ile, oa_inle, oa_ilt, oa_inlt, oa_ieq, oa_ineq, oa_rd_nI, oa_wr_nI, oa_rd_0, oa_rd_1, oa_wr_0, oa_wr_1, oa_rdL_nI, oa_wrL_nI, oa_bi_if0, oa_bi_if1, oa_zc_bi, oa_if_b0, oa_if_b1, nI_1, nI_add, pk_mul, Nat.add_assoc, Int32.add_zero, Int32.sub_zero, Int32.or_zero, Int32.and_neg_one, va_up_s, va_up_n, upd_s, oa_up2, ite_self, if_true, if_false, oa_10, oa_01, oa_neg4, oa_ifno, oa_l2, oa_l3, oa_l4, oa_l5, oa_l6, oa_l7, oa_l8, oa_l9, oa_l10, oa_l12, oa_l15, oa_l16, oa_l20, oa_l32, oa_l40, oa_l42, oa_l48, oa_l64, oa_l90, oa_l96, oa_l97, oa_l98, oa_l99, oa_l100, oa_l120, oa_l360, oa_l450, oa_l457, oa_l458, oa_l480, oa_l528]
end MD
