/-! the model's copies and trials -/
section TRY
variable {M : oa_I2} {K : oa_J2} {a n : Nat} {P P' : oa_P} {w w' : Int32}
theorem oa_ms_wr' {j k : Nat} {x : Int32} (e : j = a + k) (h : j < 600) : oa_wr (oa_ms M a P w 1) 600 (nI j) x = some (upd (oa_ms M a P w 1) (a + k) x) := by
  subst e; exact oa_ms_wr h
theorem oa_ms_at {k : Nat} : oa_ms M a P w 1 k = if k < a then M 1 k else P (k - a) := rfl
def cpp (M : oa_I2) (a b i : Nat) : oa_P := fun k => if k < i then M 1 (a + k) else M 1 (b + k)
theorem cpp_s {b i : Nat} : upd (cpp M a b i) i (M 1 (a + i)) = cpp M a b (i + 1) := by
  funext k
  unfold upd cpp
  by_cases e : k = i
  · rw [if_pos e, if_pos (by omega), e]
  · by_cases l : k < i
    · rw [if_neg e, if_pos l, if_pos (by omega)]
    · rw [if_neg e, if_neg l, if_neg (by omega)]
theorem md_copies {b : Nat} (ha : a ≤ 480) (hb : b ≤ 480) (h : a + 100 ≤ b ∨ b + 100 ≤ a) : f_X7_copies M K (nI a) (nI b) = some (oa_ms M b (cpp M a b 100) (M 0 9)) := by
  unfold f_X7_copies l_X7_copies_2
  refine oa_for (fun i => (oa_ms M b (cpp M a b i) (M 0 9), nI i)) 100 ?_ ?_ ?_ oa_fu (by rw [oa_fu_eq]; omega)
  · refine Prod.ext ?_ rfl
    have : cpp M a b 0 = oa_pg M b := by
      funext k
      unfold cpp oa_pg
      rw [if_neg (by omega)]
    show M = oa_ms M b (cpp M a b 0) (M 0 9)
    rw [this, oa_ms_id]
  · intro i hi k
    have hr : oa_ms M b (cpp M a b i) (M 0 9) 1 (a + i) = M 1 (a + i) := by
      rw [oa_ms_at]
      by_cases l : a + i < b
      · rw [if_pos l]
      · rw [if_neg l]
        unfold cpp
        rw [if_neg (by omega), show b + (a + i - b) = a + i by omega]
    simp (disch := (first | omega | assumption | decide)) only [b_X7_copies_2, oa_rd_nI, hr, oa_ms_wr, oa_ms_up, cpp_s, oa_ut, oa_bs, oa_lt, oa_ile, oa_inle, oa_ilt, oa_inlt, oa_ieq, oa_ineq, oa_rd_0, oa_rd_1, oa_wr_0, oa_wr_1, oa_rdL_nI, oa_wrL_nI, oa_bi_if0, oa_bi_if1, oa_zc_bi, oa_if_b0, oa_if_b1, nI_1, nI_add, pk_mul, Nat.add_assoc, Int32.add_zero, Int32.sub_zero, Int32.or_zero, Int32.and_neg_one, ite_self, if_true, if_false, oa_10, oa_01, oa_neg4, oa_ifno, oa_l2, oa_l3, oa_l4, oa_l5, oa_l6, oa_l7, oa_l8, oa_l9, oa_l10, oa_l12, oa_l15, oa_l16, oa_l20, oa_l32, oa_l40, oa_l42, oa_l48, oa_l64, oa_l90, oa_l96, oa_l97, oa_l98, oa_l99, oa_l100, oa_l120, oa_l360, oa_l450, oa_l457, oa_l458, oa_l480, oa_l528]
  · intro k
    simp (disch := (first | omega | assumption | decide)) only [b_X7_copies_2, oa_ut, oa_bs, oa_lt, oa_ile, oa_inle, oa_ilt, oa_inlt, oa_ieq, oa_ineq, oa_rd_0, oa_rd_1, oa_wr_0, oa_wr_1, oa_rdL_nI, oa_wrL_nI, oa_bi_if0, oa_bi_if1, oa_zc_bi, oa_if_b0, oa_if_b1, nI_1, nI_add, pk_mul, Nat.add_assoc, Int32.add_zero, Int32.sub_zero, Int32.or_zero, Int32.and_neg_one, ite_self, if_true, if_false, oa_10, oa_01, oa_neg4, oa_ifno, oa_l2, oa_l3, oa_l4, oa_l5, oa_l6, oa_l7, oa_l8, oa_l9, oa_l10, oa_l12, oa_l15, oa_l16, oa_l20, oa_l32, oa_l40, oa_l42, oa_l48, oa_l64, oa_l90, oa_l96, oa_l97, oa_l98, oa_l99, oa_l100, oa_l120, oa_l360, oa_l450, oa_l457, oa_l458, oa_l480, oa_l528]
theorem md_copies0 {b : Nat} (hb : b ≤ 480) (h : 100 ≤ b) : f_X7_copies M K 0 (nI b) = some (oa_ms M b (cpp M 0 b 100) (M 0 9)) := md_copies (a := 0) (by omega) hb (by omega)
theorem md_copies1 (ha : a ≤ 480) (h : 100 ≤ a) : f_X7_copies M K (nI a) 0 = some (oa_ms M 0 (cpp M a 0 100) (M 0 9)) := md_copies (b := 0) ha (by omega) (by omega)
/-- the trial's page at first -/
def T0 (M : oa_I2) : oa_P := it (fun i Q => upd Q (90 + i) 0) 6 (upd (upd (cpp M 0 360 100) 97 0) 98 0)
theorem T0_at {k : Nat} (hk : k < 99) : T0 M k = pz (M 1) k := by
  unfold T0 pz cpp
  simp only [it, upd]
  by_cases h : (90 ≤ k ∧ k < 96) ∨ k = 97 ∨ k = 98
  · rw [if_pos h]
    repeat' split
    all_goals first | rfl | omega
  · rw [if_neg h, if_neg (by omega), if_neg (by omega), if_neg (by omega), if_neg (by omega), if_neg (by omega), if_neg (by omega), if_neg (by omega), if_neg (by omega), if_pos (by omega), Nat.zero_add]
theorem md_tries {m : Nat} (hn : M 1 99 = nI n) (h6 : n ≤ 6) (hm : m ≤ 99) : f_X7_tries M K (nI m) = some (oa_ms M 360 (wks (M 2) n m (T0 M)).1 (wks (M 2) n m (T0 M)).2) := by
  have hN : ∀ Q, HN M 360 n Q := fun Q => ⟨h6, by omega, Or.inr ⟨by omega, hn⟩⟩
  unfold f_X7_tries
  simp (disch := (first | omega | assumption | decide)) only [md_copies0, oa_ms_wr' (a := 360) (j := 457) (k := 97), oa_ms_wr' (a := 360) (j := 458) (k := 98), oa_ms_up, oa_ms_w, oa_ut, oa_bs, oa_lt, oa_ile, oa_inle, oa_ilt, oa_inlt, oa_ieq, oa_ineq, oa_rd_0, oa_rd_1, oa_wr_0, oa_wr_1, oa_rdL_nI, oa_wrL_nI, oa_bi_if0, oa_bi_if1, oa_zc_bi, oa_if_b0, oa_if_b1, nI_1, nI_add, pk_mul, Nat.add_assoc, Int32.add_zero, Int32.sub_zero, Int32.or_zero, Int32.and_neg_one, ite_self, if_true, if_false, oa_10, oa_01, oa_neg4, oa_ifno, oa_l2, oa_l3, oa_l4, oa_l5, oa_l6, oa_l7, oa_l8, oa_l9, oa_l10, oa_l12, oa_l15, oa_l16, oa_l20, oa_l32, oa_l40, oa_l42, oa_l48, oa_l64, oa_l90, oa_l96, oa_l97, oa_l98, oa_l99, oa_l100, oa_l120, oa_l360, oa_l450, oa_l457, oa_l458, oa_l480, oa_l528]
  unfold l_X7_tries_33
  refine oa_for (fun i => (oa_ms M 360 (it (fun i Q => upd Q (90 + i) 0) i (upd (upd (cpp M 0 360 100) 97 0) 98 0)) 0, nI i)) 6 rfl ?_ ?_ oa_fu (by rw [oa_fu_eq]; omega)
  · intro i hi k
    simp (disch := (first | omega | assumption | decide)) only [b_X7_tries_33, oa_ms_wr' (a := 360) (j := 450 + i) (k := 90 + i), oa_ms_up, it_succ, oa_ut, oa_bs, oa_lt, oa_ile, oa_inle, oa_ilt, oa_inlt, oa_ieq, oa_ineq, oa_rd_0, oa_rd_1, oa_wr_0, oa_wr_1, oa_rdL_nI, oa_wrL_nI, oa_bi_if0, oa_bi_if1, oa_zc_bi, oa_if_b0, oa_if_b1, nI_1, nI_add, pk_mul, Nat.add_assoc, Int32.add_zero, Int32.sub_zero, Int32.or_zero, Int32.and_neg_one, ite_self, if_true, if_false, oa_10, oa_01, oa_neg4, oa_ifno, oa_l2, oa_l3, oa_l4, oa_l5, oa_l6, oa_l7, oa_l8, oa_l9, oa_l10, oa_l12, oa_l15, oa_l16, oa_l20, oa_l32, oa_l40, oa_l42, oa_l48, oa_l64, oa_l90, oa_l96, oa_l97, oa_l98, oa_l99, oa_l100, oa_l120, oa_l360, oa_l450, oa_l457, oa_l458, oa_l480, oa_l528]
  · intro k
    simp (disch := (first | omega | assumption | decide)) only [b_X7_tries_33, oa_ut, oa_bs, oa_lt, oa_ile, oa_inle, oa_ilt, oa_inlt, oa_ieq, oa_ineq, oa_rd_0, oa_rd_1, oa_wr_0, oa_wr_1, oa_rdL_nI, oa_wrL_nI, oa_bi_if0, oa_bi_if1, oa_zc_bi, oa_if_b0, oa_if_b1, nI_1, nI_add, pk_mul, Nat.add_assoc, Int32.add_zero, Int32.sub_zero, Int32.or_zero, Int32.and_neg_one, ite_self, if_true, if_false, oa_10, oa_01, oa_neg4, oa_ifno, oa_l2, oa_l3, oa_l4, oa_l5, oa_l6, oa_l7, oa_l8, oa_l9, oa_l10, oa_l12, oa_l15, oa_l16, oa_l20, oa_l32, oa_l40, oa_l42, oa_l48, oa_l64, oa_l90, oa_l96, oa_l97, oa_l98, oa_l99, oa_l100, oa_l120, oa_l360, oa_l450, oa_l457, oa_l458, oa_l480, oa_l528]
    unfold l_X7_tries_58
    refine oa_for (fun i => (oa_ms M 360 (wks (M 2) n i (T0 M)).1 (wks (M 2) n i (T0 M)).2, nI i)) m rfl ?_ ?_ oa_fu (by rw [oa_fu_eq]; omega)
    · intro i hi k
      simp (disch := (first | omega | assumption | decide)) only [b_X7_tries_58, md_week (hN _), oa_ut, oa_bs, oa_lt, oa_ile, oa_inle, oa_ilt, oa_inlt, oa_ieq, oa_ineq, oa_rd_0, oa_rd_1, oa_wr_0, oa_wr_1, oa_rdL_nI, oa_wrL_nI, oa_bi_if0, oa_bi_if1, oa_zc_bi, oa_if_b0, oa_if_b1, nI_1, nI_add, pk_mul, Nat.add_assoc, Int32.add_zero, Int32.sub_zero, Int32.or_zero, Int32.and_neg_one, ite_self, if_true, if_false, oa_10, oa_01, oa_neg4, oa_ifno, oa_l2, oa_l3, oa_l4, oa_l5, oa_l6, oa_l7, oa_l8, oa_l9, oa_l10, oa_l12, oa_l15, oa_l16, oa_l20, oa_l32, oa_l40, oa_l42, oa_l48, oa_l64, oa_l90, oa_l96, oa_l97, oa_l98, oa_l99, oa_l100, oa_l120, oa_l360, oa_l450, oa_l457, oa_l458, oa_l480, oa_l528]
      rfl
    · intro k
      simp (disch := (first | omega | assumption | decide)) only [b_X7_tries_58, oa_ut, oa_bs, oa_lt, oa_ile, oa_inle, oa_ilt, oa_inlt, oa_ieq, oa_ineq, oa_rd_0, oa_rd_1, oa_wr_0, oa_wr_1, oa_rdL_nI, oa_wrL_nI, oa_bi_if0, oa_bi_if1, oa_zc_bi, oa_if_b0, oa_if_b1, nI_1, nI_add, pk_mul, Nat.add_assoc, Int32.add_zero, Int32.sub_zero, Int32.or_zero, Int32.and_neg_one, ite_self, if_true, if_false, oa_10, oa_01, oa_neg4, oa_ifno, oa_l2, oa_l3, oa_l4, oa_l5, oa_l6, oa_l7, oa_l8, oa_l9, oa_l10, oa_l12, oa_l15, oa_l16, oa_l20, oa_l32, oa_l40, oa_l42, oa_l48, oa_l64, oa_l90, oa_l96, oa_l97, oa_l98, oa_l99, oa_l100, oa_l120, oa_l360, oa_l450, oa_l457, oa_l458, oa_l480, oa_l528]
theorem md_tries0 (hn : M 1 99 = nI n) (h6 : n ≤ 6) : f_X7_tries M K 0 = some (oa_ms M 360 (T0 M) 0) := md_tries (m := 0) hn h6 (by omega)
end TRY
