/-! one that is hired -/
theorem oa_subsub (a b c : Int32) : a - b - c = a - (b + c) := by
  rw [Int32.sub_eq_add_neg, Int32.sub_eq_add_neg, Int32.sub_eq_add_neg, Int32.neg_add, Int32.sub_eq_add_neg, Int32.add_assoc]
theorem co_bd {n L : Nat} {R P : oa_P} {r : Nat} (hR : RB R L) (tb : TB n P) (hr : r < n) : ∃ x : Nat, x ≤ 180 ∧ co R P r = nI x := by
  obtain ⟨_, k2, d, d1, d2, d3⟩ := tb r hr
  obtain ⟨h, h1, h2⟩ := k2 3 (by omega) (by omega)
  obtain ⟨p, p1, p2⟩ := k2 4 (by omega) (by omega)
  have hL := hR.2.2
  have e1 : h * d ≤ 20 * 4 := Nat.mul_le_mul h1 d2
  have e2 : h * L ≤ 20 * 9 := Nat.mul_le_mul h1 hL
  unfold co
  rw [h2, p2, d3, hR.1, pk_mul, nI_add, pk_mul]
  split
  · exact ⟨_, by omega, rfl⟩
  · exact ⟨_, by omega, rfl⟩
theorem val_bd {n L : Nat} {R P : oa_P} {q : Nat} {m : Nat → Bool} (hR : RB R L) (tb : TB n P) (hq : q < n) : ∀ k, k ≤ n → ∃ s t : Nat, s ≤ 20 ∧ t ≤ 180 * k ∧ val R P q m k = nI s - nI t
  | 0, _ => by
    obtain ⟨s, s1, s2⟩ := (tb q hq).2.1 1 (by omega) (by omega)
    refine ⟨s, 0, s1, by omega, ?_⟩
    show P (8 * q + 1) = _
    rw [s2, nI_0, Int32.sub_zero]
  | k + 1, hk => by
    obtain ⟨s, t, s1, t1, e⟩ := val_bd (m := m) hR tb hq k (by omega)
    rw [val_succ]
    split
    · obtain ⟨x, x1, x2⟩ := co_bd hR tb (show k < n by omega)
      refine ⟨s, t + x, s1, by omega, ?_⟩
      rw [e, x2, oa_subsub, nI_add]
    · exact ⟨s, t, s1, by omega, e⟩
theorem val_less {n L : Nat} {R P : oa_P} {q c : Nat} {m : Nat → Bool} (h6 : n ≤ 6) (hR : RB R L) (tb : TB n P) (hq : q < n) (hc : c ≤ 2000) : (nI c < val R P q m n) ↔ (0 < val R P q m n - nI c) := by
  obtain ⟨s, t, s1, t1, e⟩ := val_bd (m := m) hR tb hq n (Nat.le_refl n)
  have : t ≤ 180 * 6 := Nat.le_trans t1 (Nat.mul_le_mul_left 180 h6)
  rw [e, oa_subsub, nI_add, Int32.lt_iff_toInt_lt, Int32.lt_iff_toInt_lt, pk_sub_toInt (by omega) (by omega), pk_sub_toInt (by omega) (by omega), nI_toInt (by omega)]
  have e0 : (0 : Int32).toInt = 0 := by decide
  omega
/-- the cost of one of hurt h -/
def hc (L h : Nat) : Nat := if h * 4 + 20 < h * L then h * 4 + 20 else h * L
theorem hc_le {L h : Nat} (hL : L ≤ 9) (hh : h ≤ 99) : hc L h ≤ 891 := by
  have e2 : h * L ≤ 99 * 9 := Nat.mul_le_mul hh hL
  unfold hc
  split <;> omega
section HI
variable {B : oa_I3} {J : oa_J2} {M : oa_I2} {K : oa_J2} {n L : Nat}
theorem cl_hiredCost {h : Nat} (hb : B 0 0 1 = nI L) (hL : L ≤ 9) (hh : h ≤ 99) : f_X6_hiredCost B J (nI h) = some (nI (hc L h)) := by
  have e2 : h * L ≤ 99 * 9 := Nat.mul_le_mul hh hL
  unfold f_X6_hiredCost f_X6_costFor hc
  simp (disch := (first | omega | assumption | decide)) only [hb, oa_ut, oa_bs, oa_lt, oa_ile, oa_inle, oa_ilt, oa_inlt, oa_ieq, oa_ineq, oa_rd_nI, oa_wr_nI, oa_rd_0, oa_rd_1, oa_wr_0, oa_wr_1, oa_rdL_nI, oa_wrL_nI, oa_bi_if0, oa_bi_if1, oa_zc_bi, oa_if_b0, oa_if_b1, nI_1, nI_add, pk_mul, Nat.add_assoc, Int32.add_zero, Int32.sub_zero, Int32.or_zero, Int32.and_neg_one, va_up_s, va_up_n, upd_s, oa_up2, ite_self, if_true, if_false, oa_10, oa_01, oa_neg4, oa_ifno, oa_l2, oa_l3, oa_l4, oa_l5, oa_l6, oa_l7, oa_l8, oa_l9, oa_l10, oa_l12, oa_l15, oa_l16, oa_l20, oa_l32, oa_l40, oa_l42, oa_l48, oa_l64, oa_l90, oa_l96, oa_l97, oa_l98, oa_l99, oa_l100, oa_l120, oa_l360, oa_l450, oa_l457, oa_l458, oa_l480, oa_l528]
  by_cases l : h * 4 + 20 < h * L
  · rw [if_pos (nI_lt l (by omega)), if_pos l]
  · rw [if_neg (nI_nlt (by omega) (by omega)), if_neg l]
theorem md_hiredCost {h : Nat} (hb : M 2 1 = nI L) (hL : L ≤ 9) (hh : h ≤ 99) : f_X7_hiredCost M K (nI h) = some (nI (hc L h)) := by
  have e2 : h * L ≤ 99 * 9 := Nat.mul_le_mul hh hL
  unfold f_X7_hiredCost f_X7_lesser hc
  simp (disch := (first | omega | assumption | decide)) only [hb, oa_ut, oa_bs, oa_lt, oa_ile, oa_inle, oa_ilt, oa_inlt, oa_ieq, oa_ineq, oa_rd_nI, oa_wr_nI, oa_rd_0, oa_rd_1, oa_wr_0, oa_wr_1, oa_rdL_nI, oa_wrL_nI, oa_bi_if0, oa_bi_if1, oa_zc_bi, oa_if_b0, oa_if_b1, nI_1, nI_add, pk_mul, Nat.add_assoc, Int32.add_zero, Int32.sub_zero, Int32.or_zero, Int32.and_neg_one, va_up_s, va_up_n, upd_s, oa_up2, ite_self, if_true, if_false, oa_10, oa_01, oa_neg4, oa_ifno, oa_l2, oa_l3, oa_l4, oa_l5, oa_l6, oa_l7, oa_l8, oa_l9, oa_l10, oa_l12, oa_l15, oa_l16, oa_l20, oa_l32, oa_l40, oa_l42, oa_l48, oa_l64, oa_l90, oa_l96, oa_l97, oa_l98, oa_l99, oa_l100, oa_l120, oa_l360, oa_l450, oa_l457, oa_l458, oa_l480, oa_l528]
  by_cases l : h * 4 + 20 < h * L
  · rw [if_pos (nI_le (by omega) (by omega)), if_pos l, Nat.mul_comm]; rfl
  · rw [if_neg l]
    by_cases l2 : 4 * h + 20 ≤ h * L
    · rw [if_pos (nI_le l2 (by omega))]
      exact congrArg (fun v => some (nI v)) (by omega)
    · rw [if_neg (nI_ge (by omega) (by omega))]; rfl
/-- open with one hired; to him alone, if told so -/
def opw (R P : oa_P) (n : Nat) (c q : Nat) (al : Bool) (p t : Nat) : Bool := (!decide (t = p) && decide ((if t = q then nI c else 0) < val R P t (abs' R P p) n)) && (!al || decide (t = q))
theorem md_openWith_in {h q p : Nat} {al : Bool} {k2 : Int32 → Int32 → Option Int32} (x0 : Int32) (hR : RB (M 2) L) (hn : M 1 99 = nI n) (h6 : n ≤ 6) (tb : TB n (M 1)) (hh : h ≤ 99) (hq : q < n) (hp : p < n) : l_X7_openWith_25 M K (nI h) (nI q) (oa_bi al) (oa_mk (sn (M 2) (M 1)) n) (nI p) k2 oa_fu x0 0 = k2 (it (fun t x => if opw (M 2) (M 1) n (hc L h) q al p t = true then x + 1 else x) n x0) (nI (p + 1)) := by
  have hL := hR.2.2
  have hcl := hc_le hL hh
  unfold l_X7_openWith_25
  refine oa_for (fun i => (it (fun t x => if opw (M 2) (M 1) n (hc L h) q al p t = true then x + 1 else x) i x0, nI i)) n rfl ?_ ?_ oa_fu (by rw [oa_fu_eq]; omega)
  · intro i hi k
    rw [it_succ]
    unfold opw
    have hz : ¬ (0 : Int32) < 0 := by decide
    by_cases e : i = p
    · simp (disch := (first | omega | assumption | decide)) only [b_X7_openWith_25, b_X7_openWith_72, md_many hn, decide_eq_true e, Bool.not_true, Bool.false_and, if_pos (Int32.not_lt.mp hz), oa_ut, oa_bs, oa_lt, oa_ile, oa_inle, oa_ilt, oa_inlt, oa_ieq, oa_ineq, oa_rd_nI, oa_wr_nI, oa_rd_0, oa_rd_1, oa_wr_0, oa_wr_1, oa_rdL_nI, oa_wrL_nI, oa_bi_if0, oa_bi_if1, oa_zc_bi, oa_if_b0, oa_if_b1, nI_1, nI_add, pk_mul, Nat.add_assoc, Int32.add_zero, Int32.sub_zero, Int32.or_zero, Int32.and_neg_one, va_up_s, va_up_n, upd_s, oa_up2, ite_self, if_true, if_false, oa_10, oa_01, oa_neg4, oa_ifno, oa_l2, oa_l3, oa_l4, oa_l5, oa_l6, oa_l7, oa_l8, oa_l9, oa_l10, oa_l12, oa_l15, oa_l16, oa_l20, oa_l32, oa_l40, oa_l42, oa_l48, oa_l64, oa_l90, oa_l96, oa_l97, oa_l98, oa_l99, oa_l100, oa_l120, oa_l360, oa_l450, oa_l457, oa_l458, oa_l480, oa_l528]
      rw [if_neg (by decide)]
    · by_cases eq : i = q
      · have hv := val_less (q := i) (c := hc L h) (m := abs' (M 2) (M 1) p) h6 hR tb hi (by omega)
        simp (disch := (first | omega | assumption | decide)) only [b_X7_openWith_25, md_many hn, md_worthBy0 hn, val_abs h6, md_hiredCost hR.1 hL hh, if_pos eq, decide_eq_false e, decide_eq_true eq, Bool.or_true, Bool.not_false, Bool.true_and, Bool.and_true, decide_eq_true_eq, oa_ut, oa_bs, oa_lt, oa_ile, oa_inle, oa_ilt, oa_inlt, oa_ieq, oa_ineq, oa_rd_nI, oa_wr_nI, oa_rd_0, oa_rd_1, oa_wr_0, oa_wr_1, oa_rdL_nI, oa_wrL_nI, oa_bi_if0, oa_bi_if1, oa_zc_bi, oa_if_b0, oa_if_b1, nI_1, nI_add, pk_mul, Nat.add_assoc, Int32.add_zero, Int32.sub_zero, Int32.or_zero, Int32.and_neg_one, va_up_s, va_up_n, upd_s, oa_up2, ite_self, if_true, if_false, oa_10, oa_01, oa_neg4, oa_ifno, oa_l2, oa_l3, oa_l4, oa_l5, oa_l6, oa_l7, oa_l8, oa_l9, oa_l10, oa_l12, oa_l15, oa_l16, oa_l20, oa_l32, oa_l40, oa_l42, oa_l48, oa_l64, oa_l90, oa_l96, oa_l97, oa_l98, oa_l99, oa_l100, oa_l120, oa_l360, oa_l450, oa_l457, oa_l458, oa_l480, oa_l528]
        unfold b_X7_openWith_72
        by_cases l : nI (hc L h) < val (M 2) (M 1) i (abs' (M 2) (M 1) p) n
        · rw [if_pos l, if_neg (Int32.not_le.mpr (hv.mp l))]
          cases al
          · simp (disch := (first | omega | assumption | decide)) only [oa_ut, oa_bs, oa_lt, oa_ile, oa_inle, oa_ilt, oa_inlt, oa_ieq, oa_ineq, oa_rd_nI, oa_wr_nI, oa_rd_0, oa_rd_1, oa_wr_0, oa_wr_1, oa_rdL_nI, oa_wrL_nI, oa_bi_if0, oa_bi_if1, oa_zc_bi, oa_if_b0, oa_if_b1, nI_1, nI_add, pk_mul, Nat.add_assoc, Int32.add_zero, Int32.sub_zero, Int32.or_zero, Int32.and_neg_one, va_up_s, va_up_n, upd_s, oa_up2, ite_self, if_true, if_false, oa_10, oa_01, oa_neg4, oa_ifno, oa_l2, oa_l3, oa_l4, oa_l5, oa_l6, oa_l7, oa_l8, oa_l9, oa_l10, oa_l12, oa_l15, oa_l16, oa_l20, oa_l32, oa_l40, oa_l42, oa_l48, oa_l64, oa_l90, oa_l96, oa_l97, oa_l98, oa_l99, oa_l100, oa_l120, oa_l360, oa_l450, oa_l457, oa_l458, oa_l480, oa_l528]
          · simp (disch := (first | omega | assumption | decide)) only [oa_ut, oa_bs, oa_lt, oa_ile, oa_inle, oa_ilt, oa_inlt, oa_ieq, oa_ineq, oa_rd_nI, oa_wr_nI, oa_rd_0, oa_rd_1, oa_wr_0, oa_wr_1, oa_rdL_nI, oa_wrL_nI, oa_bi_if0, oa_bi_if1, oa_zc_bi, oa_if_b0, oa_if_b1, nI_1, nI_add, pk_mul, Nat.add_assoc, Int32.add_zero, Int32.sub_zero, Int32.or_zero, Int32.and_neg_one, va_up_s, va_up_n, upd_s, oa_up2, ite_self, if_true, if_false, oa_10, oa_01, oa_neg4, oa_ifno, oa_l2, oa_l3, oa_l4, oa_l5, oa_l6, oa_l7, oa_l8, oa_l9, oa_l10, oa_l12, oa_l15, oa_l16, oa_l20, oa_l32, oa_l40, oa_l42, oa_l48, oa_l64, oa_l90, oa_l96, oa_l97, oa_l98, oa_l99, oa_l100, oa_l120, oa_l360, oa_l450, oa_l457, oa_l458, oa_l480, oa_l528]
        · rw [if_neg l, if_pos (Int32.not_lt.mp (fun c => l (hv.mpr c)))]
          simp (disch := (first | omega | assumption | decide)) only [oa_ut, oa_bs, oa_lt, oa_ile, oa_inle, oa_ilt, oa_inlt, oa_ieq, oa_ineq, oa_rd_nI, oa_wr_nI, oa_rd_0, oa_rd_1, oa_wr_0, oa_wr_1, oa_rdL_nI, oa_wrL_nI, oa_bi_if0, oa_bi_if1, oa_zc_bi, oa_if_b0, oa_if_b1, nI_1, nI_add, pk_mul, Nat.add_assoc, Int32.add_zero, Int32.sub_zero, Int32.or_zero, Int32.and_neg_one, va_up_s, va_up_n, upd_s, oa_up2, ite_self, if_true, if_false, oa_10, oa_01, oa_neg4, oa_ifno, oa_l2, oa_l3, oa_l4, oa_l5, oa_l6, oa_l7, oa_l8, oa_l9, oa_l10, oa_l12, oa_l15, oa_l16, oa_l20, oa_l32, oa_l40, oa_l42, oa_l48, oa_l64, oa_l90, oa_l96, oa_l97, oa_l98, oa_l99, oa_l100, oa_l120, oa_l360, oa_l450, oa_l457, oa_l458, oa_l480, oa_l528]
      · simp (disch := (first | omega | assumption | decide)) only [b_X7_openWith_25, md_many hn, md_worthBy0 hn, val_abs h6, if_neg eq, decide_eq_false e, decide_eq_false eq, Bool.or_false, Bool.not_false, Bool.true_and, oa_ut, oa_bs, oa_lt, oa_ile, oa_inle, oa_ilt, oa_inlt, oa_ieq, oa_ineq, oa_rd_nI, oa_wr_nI, oa_rd_0, oa_rd_1, oa_wr_0, oa_wr_1, oa_rdL_nI, oa_wrL_nI, oa_bi_if0, oa_bi_if1, oa_zc_bi, oa_if_b0, oa_if_b1, nI_1, nI_add, pk_mul, Nat.add_assoc, Int32.add_zero, Int32.sub_zero, Int32.or_zero, Int32.and_neg_one, va_up_s, va_up_n, upd_s, oa_up2, ite_self, if_true, if_false, oa_10, oa_01, oa_neg4, oa_ifno, oa_l2, oa_l3, oa_l4, oa_l5, oa_l6, oa_l7, oa_l8, oa_l9, oa_l10, oa_l12, oa_l15, oa_l16, oa_l20, oa_l32, oa_l40, oa_l42, oa_l48, oa_l64, oa_l90, oa_l96, oa_l97, oa_l98, oa_l99, oa_l100, oa_l120, oa_l360, oa_l450, oa_l457, oa_l458, oa_l480, oa_l528]
        unfold b_X7_openWith_72
        by_cases l : 0 < val (M 2) (M 1) i (abs' (M 2) (M 1) p) n
        · rw [if_neg (Int32.not_le.mpr l), decide_eq_true l]
          cases al
          · simp (disch := (first | omega | assumption | decide)) only [oa_ut, oa_bs, oa_lt, oa_ile, oa_inle, oa_ilt, oa_inlt, oa_ieq, oa_ineq, oa_rd_nI, oa_wr_nI, oa_rd_0, oa_rd_1, oa_wr_0, oa_wr_1, oa_rdL_nI, oa_wrL_nI, oa_bi_if0, oa_bi_if1, oa_zc_bi, oa_if_b0, oa_if_b1, nI_1, nI_add, pk_mul, Nat.add_assoc, Int32.add_zero, Int32.sub_zero, Int32.or_zero, Int32.and_neg_one, va_up_s, va_up_n, upd_s, oa_up2, ite_self, if_true, if_false, oa_10, oa_01, oa_neg4, oa_ifno, oa_l2, oa_l3, oa_l4, oa_l5, oa_l6, oa_l7, oa_l8, oa_l9, oa_l10, oa_l12, oa_l15, oa_l16, oa_l20, oa_l32, oa_l40, oa_l42, oa_l48, oa_l64, oa_l90, oa_l96, oa_l97, oa_l98, oa_l99, oa_l100, oa_l120, oa_l360, oa_l450, oa_l457, oa_l458, oa_l480, oa_l528]
            rfl
          · simp (disch := (first | omega | assumption | decide)) only [oa_ut, oa_bs, oa_lt, oa_ile, oa_inle, oa_ilt, oa_inlt, oa_ieq, oa_ineq, oa_rd_nI, oa_wr_nI, oa_rd_0, oa_rd_1, oa_wr_0, oa_wr_1, oa_rdL_nI, oa_wrL_nI, oa_bi_if0, oa_bi_if1, oa_zc_bi, oa_if_b0, oa_if_b1, nI_1, nI_add, pk_mul, Nat.add_assoc, Int32.add_zero, Int32.sub_zero, Int32.or_zero, Int32.and_neg_one, va_up_s, va_up_n, upd_s, oa_up2, ite_self, if_true, if_false, oa_10, oa_01, oa_neg4, oa_ifno, oa_l2, oa_l3, oa_l4, oa_l5, oa_l6, oa_l7, oa_l8, oa_l9, oa_l10, oa_l12, oa_l15, oa_l16, oa_l20, oa_l32, oa_l40, oa_l42, oa_l48, oa_l64, oa_l90, oa_l96, oa_l97, oa_l98, oa_l99, oa_l100, oa_l120, oa_l360, oa_l450, oa_l457, oa_l458, oa_l480, oa_l528]
            rfl
        · rw [if_pos (Int32.not_lt.mp l), decide_eq_false l]
          simp (disch := (first | omega | assumption | decide)) only [oa_ut, oa_bs, oa_lt, oa_ile, oa_inle, oa_ilt, oa_inlt, oa_ieq, oa_ineq, oa_rd_nI, oa_wr_nI, oa_rd_0, oa_rd_1, oa_wr_0, oa_wr_1, oa_rdL_nI, oa_wrL_nI, oa_bi_if0, oa_bi_if1, oa_zc_bi, oa_if_b0, oa_if_b1, nI_1, nI_add, pk_mul, Nat.add_assoc, Int32.add_zero, Int32.sub_zero, Int32.or_zero, Int32.and_neg_one, va_up_s, va_up_n, upd_s, oa_up2, ite_self, if_true, if_false, oa_10, oa_01, oa_neg4, oa_ifno, oa_l2, oa_l3, oa_l4, oa_l5, oa_l6, oa_l7, oa_l8, oa_l9, oa_l10, oa_l12, oa_l15, oa_l16, oa_l20, oa_l32, oa_l40, oa_l42, oa_l48, oa_l64, oa_l90, oa_l96, oa_l97, oa_l98, oa_l99, oa_l100, oa_l120, oa_l360, oa_l450, oa_l457, oa_l458, oa_l480, oa_l528]
          rfl
  · intro k
    simp (disch := (first | omega | assumption | decide)) only [b_X7_openWith_25, md_many hn, oa_ut, oa_bs, oa_lt, oa_ile, oa_inle, oa_ilt, oa_inlt, oa_ieq, oa_ineq, oa_rd_nI, oa_wr_nI, oa_rd_0, oa_rd_1, oa_wr_0, oa_wr_1, oa_rdL_nI, oa_wrL_nI, oa_bi_if0, oa_bi_if1, oa_zc_bi, oa_if_b0, oa_if_b1, nI_1, nI_add, pk_mul, Nat.add_assoc, Int32.add_zero, Int32.sub_zero, Int32.or_zero, Int32.and_neg_one, va_up_s, va_up_n, upd_s, oa_up2, ite_self, if_true, if_false, oa_10, oa_01, oa_neg4, oa_ifno, oa_l2, oa_l3, oa_l4, oa_l5, oa_l6, oa_l7, oa_l8, oa_l9, oa_l10, oa_l12, oa_l15, oa_l16, oa_l20, oa_l32, oa_l40, oa_l42, oa_l48, oa_l64, oa_l90, oa_l96, oa_l97, oa_l98, oa_l99, oa_l100, oa_l120, oa_l360, oa_l450, oa_l457, oa_l458, oa_l480, oa_l528]
theorem md_openWith {h q : Nat} {al : Bool} (hR : RB (M 2) L) (hn : M 1 99 = nI n) (h6 : n ≤ 6) (tb : TB n (M 1)) (hh : h ≤ 99) (hq : q < n) : f_X7_openWith M K (nI h) (nI q) (oa_bi al) = some (cnt2 (opw (M 2) (M 1) n (hc L h) q al) n) := by
  unfold f_X7_openWith l_X7_openWith_13
  simp (disch := (first | omega | assumption | decide)) only [md_seenFree0 hn, oa_ut, oa_bs, oa_lt, oa_ile, oa_inle, oa_ilt, oa_inlt, oa_ieq, oa_ineq, oa_rd_nI, oa_wr_nI, oa_rd_0, oa_rd_1, oa_wr_0, oa_wr_1, oa_rdL_nI, oa_wrL_nI, oa_bi_if0, oa_bi_if1, oa_zc_bi, oa_if_b0, oa_if_b1, nI_1, nI_add, pk_mul, Nat.add_assoc, Int32.add_zero, Int32.sub_zero, Int32.or_zero, Int32.and_neg_one, va_up_s, va_up_n, upd_s, oa_up2, ite_self, if_true, if_false, oa_10, oa_01, oa_neg4, oa_ifno, oa_l2, oa_l3, oa_l4, oa_l5, oa_l6, oa_l7, oa_l8, oa_l9, oa_l10, oa_l12, oa_l15, oa_l16, oa_l20, oa_l32, oa_l40, oa_l42, oa_l48, oa_l64, oa_l90, oa_l96, oa_l97, oa_l98, oa_l99, oa_l100, oa_l120, oa_l360, oa_l450, oa_l457, oa_l458, oa_l480, oa_l528]
  refine oa_for (fun i => (it (fun p x => it (fun q' x => if opw (M 2) (M 1) n (hc L h) q al p q' = true then x + 1 else x) n x) i 0, nI i)) n rfl ?_ ?_ oa_fu (by rw [oa_fu_eq]; omega)
  · intro i hi k
    have := fun k2 x0 => md_openWith_in (K := K) (al := al) (k2 := k2) x0 hR hn h6 tb hh hq hi
    simp (disch := (first | omega | assumption | decide)) only [b_X7_openWith_13, md_many hn, this, it_succ, oa_ut, oa_bs, oa_lt, oa_ile, oa_inle, oa_ilt, oa_inlt, oa_ieq, oa_ineq, oa_rd_nI, oa_wr_nI, oa_rd_0, oa_rd_1, oa_wr_0, oa_wr_1, oa_rdL_nI, oa_wrL_nI, oa_bi_if0, oa_bi_if1, oa_zc_bi, oa_if_b0, oa_if_b1, nI_1, nI_add, pk_mul, Nat.add_assoc, Int32.add_zero, Int32.sub_zero, Int32.or_zero, Int32.and_neg_one, va_up_s, va_up_n, upd_s, oa_up2, ite_self, if_true, if_false, oa_10, oa_01, oa_neg4, oa_ifno, oa_l2, oa_l3, oa_l4, oa_l5, oa_l6, oa_l7, oa_l8, oa_l9, oa_l10, oa_l12, oa_l15, oa_l16, oa_l20, oa_l32, oa_l40, oa_l42, oa_l48, oa_l64, oa_l90, oa_l96, oa_l97, oa_l98, oa_l99, oa_l100, oa_l120, oa_l360, oa_l450, oa_l457, oa_l458, oa_l480, oa_l528]
  · intro k
    simp (disch := (first | omega | assumption | decide)) only [b_X7_openWith_13, md_many hn, oa_ut, oa_bs, oa_lt, oa_ile, oa_inle, oa_ilt, oa_inlt, oa_ieq, oa_ineq, oa_rd_nI, oa_wr_nI, oa_rd_0, oa_rd_1, oa_wr_0, oa_wr_1, oa_rdL_nI, oa_wrL_nI, oa_bi_if0, oa_bi_if1, oa_zc_bi, oa_if_b0, oa_if_b1, nI_1, nI_add, pk_mul, Nat.add_assoc, Int32.add_zero, Int32.sub_zero, Int32.or_zero, Int32.and_neg_one, va_up_s, va_up_n, upd_s, oa_up2, ite_self, if_true, if_false, oa_10, oa_01, oa_neg4, oa_ifno, oa_l2, oa_l3, oa_l4, oa_l5, oa_l6, oa_l7, oa_l8, oa_l9, oa_l10, oa_l12, oa_l15, oa_l16, oa_l20, oa_l32, oa_l40, oa_l42, oa_l48, oa_l64, oa_l90, oa_l96, oa_l97, oa_l98, oa_l99, oa_l100, oa_l120, oa_l360, oa_l450, oa_l457, oa_l458, oa_l480, oa_l528]
    rfl
theorem opg_opw {R P : oa_P} {q c p t : Nat} (hq : q < 6) (ht : t < 6) : opg R P n (abs' R P) (nI q) (nI c) p t = opw R P n c q false p t := by
  unfold opg opw
  have : (if nI t = nI q then nI c else (0 : Int32)) = if t = q then nI c else 0 := by
    by_cases e : t = q
    · rw [if_pos e, if_pos (by rw [e])]
    · rw [if_neg e, if_neg (fun d => e ((nI_eq (by omega) (by omega)).mp d))]
  rw [this]; simp
theorem c_hire (h : Rel B M) (x y : Int32) : ∃ a, f_X6_hire B J x y = some a ∧ f_X7_hire M K x y = some a := by
  obtain ⟨n, L, hR, ⟨cv, hp, h99, tb⟩, hI, hT, hF, hS, hC⟩ := h
  have h6 := cv.1.1
  have hb1 : B 0 0 1 = nI L := (cv.1.2.2.1 1 (by omega)).trans hR.1.1
  unfold f_X6_hire f_X7_hire
  simp (disch := (first | omega | assumption | decide)) only [f_within, f_in_0_1, f_in_0_2, f_in_0_3, f_in_0_4, f_in_0_6, f_in_0_7, f_in_0_12, f_in_0_20, f_in_0_99, f_in_1_4, f_in_1_99, cv_openW cv, pcL_omk (opn (M 2) (M 1) n) h6, md_openCount0 h99, oa_ut, oa_bs, oa_lt, oa_ile, oa_inle, oa_ilt, oa_inlt, oa_ieq, oa_ineq, oa_rd_0, oa_rd_1, oa_wr_0, oa_wr_1, oa_rdL_nI, oa_wrL_nI, oa_bi_if0, oa_bi_if1, oa_zc_bi, oa_if_b0, oa_if_b1, nI_1, nI_add, pk_mul, Nat.add_assoc, Int32.add_zero, Int32.sub_zero, Int32.or_zero, Int32.and_neg_one, ite_self, if_true, if_false, oa_10, oa_01, oa_neg4, oa_ifno, oa_l2, oa_l3, oa_l4, oa_l5, oa_l6, oa_l7, oa_l8, oa_l9, oa_l10, oa_l12, oa_l15, oa_l16, oa_l20, oa_l32, oa_l40, oa_l42, oa_l48, oa_l64, oa_l90, oa_l96, oa_l97, oa_l98, oa_l99, oa_l100, oa_l120, oa_l360, oa_l450, oa_l457, oa_l458, oa_l480, oa_l528]
  cases hx : oa_wi x 0 (nI 99)
  · exact ⟨_, rfl, rfl⟩
  obtain ⟨hh, _, hh2, rfl⟩ := oa_wi_t (a := 0) (by omega) hx (by omega)
  cases hy : oa_wi y 0 1
  · exact ⟨_, rfl, rfl⟩
  obtain ⟨wh, _, wh2, rfl⟩ := oa_wi_t (a := 0) (b := 1) (by omega) hy (by omega)
  simp only [if_true, cl_hiredCost hb1 hR.1.2.2 hh2, oa_bs]
  rw [cnt2_nI]
  have hA := cnt2_le (opn (M 2) (M 1) n) h6
  generalize c2N (opn (M 2) (M 1) n) n n = A at hA
  unfold l_X6_hire_49 l_X7_hire_40
  refine oa_for2 (fun o o' => ∃ a, o = some a ∧ o' = some a) (fun i s t => ∃ b F, s = (b, nI (A - F), nI i) ∧ t = (b, nI F, nI i) ∧ F ≤ A ∧ (b = oNO ∨ ∃ r, r < 6 ∧ b = nI r)) n ?_ ?_ ?_ oa_fu oa_fu (by rw [oa_fu_eq]; omega) (by rw [oa_fu_eq]; omega)
  · exact ⟨oNO, A, by rw [Nat.sub_self]; rfl, rfl, Nat.le_refl A, Or.inl rfl⟩
  · rintro i hi s t ⟨b, F, rfl, rfl, hFA, hb⟩ k l
    left
    have e1 : f_X5_openWrongsGuarded (B 0) (nI i) (nI (hc L hh)) = some (omk (opw (M 2) (M 1) n (hc L hh) i false) n) := by
      rw [cv_openG cv, omk_cong (fun p hp q hq => opg_opw (by omega) (by omega))]
    have e2 : f_X7_openWith M K (nI hh) (nI i) 0 = _ := md_openWith (K := K) (al := false) hR.1 h99 h6 tb hh2 hi
    have hc36 := cnt2_le (opw (M 2) (M 1) n (hc L hh) i false) h6
    have e3 : f_J13_bitCount_95d88 (omk (opw (M 2) (M 1) n (hc L hh) i false) n) = some (nI (c2N (opw (M 2) (M 1) n (hc L hh) i false) n n)) := by
      rw [pcL_omk _ h6, cnt2_nI]
    rw [cnt2_nI] at e2
    generalize c2N (opw (M 2) (M 1) n (hc L hh) i false) n n = c at hc36 e2 e3
    simp (disch := (first | omega | assumption | decide)) only [b_X6_hire_49, b_X7_hire_40, b_X7_hire_73, cv.1.2.1, md_many h99, e1, e2, e3, oa_ut, oa_bs, oa_lt, oa_ile, oa_inle, oa_ilt, oa_inlt, oa_ieq, oa_ineq, oa_rd_0, oa_rd_1, oa_wr_0, oa_wr_1, oa_rdL_nI, oa_wrL_nI, oa_bi_if0, oa_bi_if1, oa_zc_bi, oa_if_b0, oa_if_b1, nI_1, nI_add, pk_mul, Nat.add_assoc, Int32.add_zero, Int32.sub_zero, Int32.or_zero, Int32.and_neg_one, ite_self, if_true, if_false, oa_10, oa_01, oa_neg4, oa_ifno, oa_l2, oa_l3, oa_l4, oa_l5, oa_l6, oa_l7, oa_l8, oa_l9, oa_l10, oa_l12, oa_l15, oa_l16, oa_l20, oa_l32, oa_l40, oa_l42, oa_l48, oa_l64, oa_l90, oa_l96, oa_l97, oa_l98, oa_l99, oa_l100, oa_l120, oa_l360, oa_l450, oa_l457, oa_l458, oa_l480, oa_l528]
    by_cases e : F ≤ c
    · simp only [if_pos ((best_step hA hFA hc36).mpr e), if_pos (nI_le e (show c < 2 ^ 31 by omega))]
      exact ⟨_, _, ⟨b, F, rfl, rfl, hFA, hb⟩, rfl, rfl⟩
    · have ng : ¬ nI F ≤ nI c := nI_ge (by omega) (by omega)
      simp only [if_neg (fun d => e ((best_step hA hFA hc36).mp d)), if_neg ng]
      rw [pk_sub (show c ≤ A by omega)]
      exact ⟨_, _, ⟨nI i, c, rfl, rfl, by omega, Or.inr ⟨i, by omega, rfl⟩⟩, rfl, rfl⟩
  · rintro s t ⟨b, F, rfl, rfl, hFA, hb⟩ k l
    simp (disch := (first | omega | assumption | decide)) only [b_X6_hire_49, b_X7_hire_40, cv.1.2.1, md_many h99, pk_sub hFA, oa_ut, oa_bs, oa_lt, oa_ile, oa_inle, oa_ilt, oa_inlt, oa_ieq, oa_ineq, oa_rd_0, oa_rd_1, oa_wr_0, oa_wr_1, oa_rdL_nI, oa_wrL_nI, oa_bi_if0, oa_bi_if1, oa_zc_bi, oa_if_b0, oa_if_b1, nI_1, nI_add, pk_mul, Nat.add_assoc, Int32.add_zero, Int32.sub_zero, Int32.or_zero, Int32.and_neg_one, ite_self, if_true, if_false, oa_10, oa_01, oa_neg4, oa_ifno, oa_l2, oa_l3, oa_l4, oa_l5, oa_l6, oa_l7, oa_l8, oa_l9, oa_l10, oa_l12, oa_l15, oa_l16, oa_l20, oa_l32, oa_l40, oa_l42, oa_l48, oa_l64, oa_l90, oa_l96, oa_l97, oa_l98, oa_l99, oa_l100, oa_l120, oa_l360, oa_l450, oa_l457, oa_l458, oa_l480, oa_l528]
    by_cases w0 : wh = 0
    · subst w0
      simp (disch := (first | omega | assumption | decide)) only [nI_0, oa_ut, oa_bs, oa_lt, oa_ile, oa_inle, oa_ilt, oa_inlt, oa_ieq, oa_ineq, oa_rd_0, oa_rd_1, oa_wr_0, oa_wr_1, oa_rdL_nI, oa_wrL_nI, oa_bi_if0, oa_bi_if1, oa_zc_bi, oa_if_b0, oa_if_b1, nI_1, nI_add, pk_mul, Nat.add_assoc, Int32.add_zero, Int32.sub_zero, Int32.or_zero, Int32.and_neg_one, ite_self, if_true, if_false, oa_10, oa_01, oa_neg4, oa_ifno, oa_l2, oa_l3, oa_l4, oa_l5, oa_l6, oa_l7, oa_l8, oa_l9, oa_l10, oa_l12, oa_l15, oa_l16, oa_l20, oa_l32, oa_l40, oa_l42, oa_l48, oa_l64, oa_l90, oa_l96, oa_l97, oa_l98, oa_l99, oa_l100, oa_l120, oa_l360, oa_l450, oa_l457, oa_l458, oa_l480, oa_l528]
      rcases hb with rfl | ⟨r, hr, rfl⟩
      · simp only [if_true]
        exact ⟨_, rfl, rfl⟩
      · simp (disch := (first | omega | assumption | decide)) only [oa_ut, oa_bs, oa_lt, oa_ile, oa_inle, oa_ilt, oa_inlt, oa_ieq, oa_ineq, oa_rd_0, oa_rd_1, oa_wr_0, oa_wr_1, oa_rdL_nI, oa_wrL_nI, oa_bi_if0, oa_bi_if1, oa_zc_bi, oa_if_b0, oa_if_b1, nI_1, nI_add, pk_mul, Nat.add_assoc, Int32.add_zero, Int32.sub_zero, Int32.or_zero, Int32.and_neg_one, ite_self, if_true, if_false, oa_10, oa_01, oa_neg4, oa_ifno, oa_l2, oa_l3, oa_l4, oa_l5, oa_l6, oa_l7, oa_l8, oa_l9, oa_l10, oa_l12, oa_l15, oa_l16, oa_l20, oa_l32, oa_l40, oa_l42, oa_l48, oa_l64, oa_l90, oa_l96, oa_l97, oa_l98, oa_l99, oa_l100, oa_l120, oa_l360, oa_l450, oa_l457, oa_l458, oa_l480, oa_l528]
        exact ⟨_, rfl, rfl⟩
    · have n0 : ¬ nI wh = 0 := nI_ne0 (by omega) (by omega)
      rcases hb with rfl | ⟨r, hr, rfl⟩
      · simp only [if_neg n0, if_true]
        exact ⟨_, rfl, rfl⟩
      · simp (disch := (first | omega | assumption | decide)) only [if_neg n0, oa_ut, oa_bs, oa_lt, oa_ile, oa_inle, oa_ilt, oa_inlt, oa_ieq, oa_ineq, oa_rd_0, oa_rd_1, oa_wr_0, oa_wr_1, oa_rdL_nI, oa_wrL_nI, oa_bi_if0, oa_bi_if1, oa_zc_bi, oa_if_b0, oa_if_b1, nI_1, nI_add, pk_mul, Nat.add_assoc, Int32.add_zero, Int32.sub_zero, Int32.or_zero, Int32.and_neg_one, ite_self, if_true, if_false, oa_10, oa_01, oa_neg4, oa_ifno, oa_l2, oa_l3, oa_l4, oa_l5, oa_l6, oa_l7, oa_l8, oa_l9, oa_l10, oa_l12, oa_l15, oa_l16, oa_l20, oa_l32, oa_l40, oa_l42, oa_l48, oa_l64, oa_l90, oa_l96, oa_l97, oa_l98, oa_l99, oa_l100, oa_l120, oa_l360, oa_l450, oa_l457, oa_l458, oa_l480, oa_l528]
        exact ⟨_, rfl, rfl⟩
theorem cl_isSafeFor {V : oa_I2} {R G P : oa_P} {q c : Nat} (cv : CV n R G P V) (hq : q < n) : f_X5_isSafeFor V (nI q) (nI c) = some (oa_bi (dcd (∀ p, p < n → opw R P n c q false p q = false))) := by
  have h6 := cv.1.1
  unfold f_X5_isSafeFor
  rw [cv_openG cv, omk_cong (fun p hp t ht => opg_opw (q := q) (c := c) (by omega) (by omega)), oa_bs]
  unfold l_X5_isSafeFor_10
  refine oa_forR (fun o => o = some (oa_bi (dcd (∀ p, p < n → opw R P n c q false p q = false)))) (fun i s => s = nI i ∧ ∀ p, p < i → opw R P n c q false p q = false) n ⟨rfl, fun p hp => absurd hp (Nat.not_lt_zero p)⟩ ?_ ?_ oa_fu (by rw [oa_fu_eq]; omega)
  · rintro i hi s ⟨rfl, he⟩
    have hb := omk_bt (f := opw R P n c q false) (n := n) (i := 6 * i + q) h6 (by omega)
    rw [show (6 * i + q) / 6 = i by omega, show (6 * i + q) % 6 = q by omega, decide_eq_true hi, decide_eq_true hq, Bool.true_and, Bool.true_and] at hb
    have hask : lg_cmp ((omk (opw R P n c q false) n >>> (Int32.toInt64 (nI (6 * i + q)) &&& 63)) &&& 1) 0 = 0 ↔ opw R P n c q false i q = false := by
      rw [lg_0, ← hb]
      constructor
      · intro e
        have := congrArg (fun z => btL z 0) e
        rw [btL_and, bL_sshr _ (by omega) _ (by omega), if_pos (by omega), btL_0, show btL 1 0 = true from by decide, Bool.and_true] at this
        exact this
      · intro e
        apply bL_ext
        intro j hj
        rw [btL_and, btL_0]
        by_cases j0 : j = 0
        · rw [j0, bL_sshr _ (by omega) _ (by omega), if_pos (by omega)]
          rw [show 6 * i + q + 0 = 6 * i + q from rfl, e]; rfl
        · have : btL 1 j = false := by
            have h1 := (show ∀ j, j < 64 → btL 1 j = decide (j = 0) by decide +kernel) j hj
            rw [h1, decide_eq_false j0]
          rw [this, Bool.and_false]
    cases hv : opw R P n c q false i q
    · left
      refine ⟨nI (i + 1), ⟨rfl, fun p hp => ?_⟩, fun k => ?_⟩
      · by_cases e : p = i
        · rw [e]; exact hv
        · exact he p (by omega)
      · simp (disch := (first | omega | assumption | decide)) only [b_X5_isSafeFor_10, cv.1.2.1, if_pos (hask.mpr hv), oa_ut, oa_bs, oa_lt, oa_ile, oa_inle, oa_ilt, oa_inlt, oa_ieq, oa_ineq, oa_rd_nI, oa_wr_nI, oa_rd_0, oa_rd_1, oa_wr_0, oa_wr_1, oa_rdL_nI, oa_wrL_nI, oa_bi_if0, oa_bi_if1, oa_zc_bi, oa_if_b0, oa_if_b1, nI_1, nI_add, pk_mul, Nat.add_assoc, Int32.add_zero, Int32.sub_zero, Int32.or_zero, Int32.and_neg_one, va_up_s, va_up_n, upd_s, oa_up2, ite_self, if_true, if_false, oa_10, oa_01, oa_neg4, oa_ifno, oa_l2, oa_l3, oa_l4, oa_l5, oa_l6, oa_l7, oa_l8, oa_l9, oa_l10, oa_l12, oa_l15, oa_l16, oa_l20, oa_l32, oa_l40, oa_l42, oa_l48, oa_l64, oa_l90, oa_l96, oa_l97, oa_l98, oa_l99, oa_l100, oa_l120, oa_l360, oa_l450, oa_l457, oa_l458, oa_l480, oa_l528]
    · right
      refine ⟨some 0, ?_, fun k => ?_⟩
      · rw [dcd_f (fun h => by rw [h i hi] at hv; cases hv)]; rfl
      · have hn : ¬ lg_cmp ((omk (opw R P n c q false) n >>> (Int32.toInt64 (nI (6 * i + q)) &&& 63)) &&& 1) 0 = 0 := fun d => by rw [hask.mp d] at hv; cases hv
        simp (disch := (first | omega | assumption | decide)) only [b_X5_isSafeFor_10, cv.1.2.1, if_neg hn, oa_ut, oa_bs, oa_lt, oa_ile, oa_inle, oa_ilt, oa_inlt, oa_ieq, oa_ineq, oa_rd_nI, oa_wr_nI, oa_rd_0, oa_rd_1, oa_wr_0, oa_wr_1, oa_rdL_nI, oa_wrL_nI, oa_bi_if0, oa_bi_if1, oa_zc_bi, oa_if_b0, oa_if_b1, nI_1, nI_add, pk_mul, Nat.add_assoc, Int32.add_zero, Int32.sub_zero, Int32.or_zero, Int32.and_neg_one, va_up_s, va_up_n, upd_s, oa_up2, ite_self, if_true, if_false, oa_10, oa_01, oa_neg4, oa_ifno, oa_l2, oa_l3, oa_l4, oa_l5, oa_l6, oa_l7, oa_l8, oa_l9, oa_l10, oa_l12, oa_l15, oa_l16, oa_l20, oa_l32, oa_l40, oa_l42, oa_l48, oa_l64, oa_l90, oa_l96, oa_l97, oa_l98, oa_l99, oa_l100, oa_l120, oa_l360, oa_l450, oa_l457, oa_l458, oa_l480, oa_l528]
  · rintro s ⟨rfl, he⟩
    refine ⟨some 1, by rw [dcd_t he]; rfl, fun k => ?_⟩
    simp (disch := (first | omega | assumption | decide)) only [b_X5_isSafeFor_10, cv.1.2.1, oa_ut, oa_bs, oa_lt, oa_ile, oa_inle, oa_ilt, oa_inlt, oa_ieq, oa_ineq, oa_rd_nI, oa_wr_nI, oa_rd_0, oa_rd_1, oa_wr_0, oa_wr_1, oa_rdL_nI, oa_wrL_nI, oa_bi_if0, oa_bi_if1, oa_zc_bi, oa_if_b0, oa_if_b1, nI_1, nI_add, pk_mul, Nat.add_assoc, Int32.add_zero, Int32.sub_zero, Int32.or_zero, Int32.and_neg_one, va_up_s, va_up_n, upd_s, oa_up2, ite_self, if_true, if_false, oa_10, oa_01, oa_neg4, oa_ifno, oa_l2, oa_l3, oa_l4, oa_l5, oa_l6, oa_l7, oa_l8, oa_l9, oa_l10, oa_l12, oa_l15, oa_l16, oa_l20, oa_l32, oa_l40, oa_l42, oa_l48, oa_l64, oa_l90, oa_l96, oa_l97, oa_l98, oa_l99, oa_l100, oa_l120, oa_l360, oa_l450, oa_l457, oa_l458, oa_l480, oa_l528]
theorem c_price (h : Rel B M) (x : Int32) : ∃ a, f_X6_price B J x = some a ∧ f_X7_price M K x = some a := by
  obtain ⟨n, L, hR, ⟨cv, hp, h99, tb⟩, hI, hT, hF, hS, hC⟩ := h
  have h6 := cv.1.1
  have hb1 : B 0 0 1 = nI L := (cv.1.2.2.1 1 (by omega)).trans hR.1.1
  unfold f_X6_price f_X7_price
  simp (disch := (first | omega | assumption | decide)) only [ct_has cv.1, md_isOne h99, oa_ut, oa_bs, oa_lt, oa_ile, oa_inle, oa_ilt, oa_inlt, oa_ieq, oa_ineq, oa_rd_nI, oa_wr_nI, oa_rd_0, oa_rd_1, oa_wr_0, oa_wr_1, oa_rdL_nI, oa_wrL_nI, oa_bi_if0, oa_bi_if1, oa_zc_bi, oa_if_b0, oa_if_b1, nI_1, nI_add, pk_mul, Nat.add_assoc, Int32.add_zero, Int32.sub_zero, Int32.or_zero, Int32.and_neg_one, va_up_s, va_up_n, upd_s, oa_up2, ite_self, if_true, if_false, oa_10, oa_01, oa_neg4, oa_ifno, oa_l2, oa_l3, oa_l4, oa_l5, oa_l6, oa_l7, oa_l8, oa_l9, oa_l10, oa_l12, oa_l15, oa_l16, oa_l20, oa_l32, oa_l40, oa_l42, oa_l48, oa_l64, oa_l90, oa_l96, oa_l97, oa_l98, oa_l99, oa_l100, oa_l120, oa_l360, oa_l450, oa_l457, oa_l458, oa_l480, oa_l528]
  cases hx : oa_wi x 0 (nI n - 1)
  · exact ⟨_, rfl, rfl⟩
  obtain ⟨q, hq, rfl⟩ := oa_has_t h6 hx
  simp only [if_true]
  unfold l_X6_price_15 l_X7_price_12
  refine oa_for2 (fun o o' => ∃ a, o = some a ∧ o' = some a) (fun i s t => s = nI i ∧ t = nI i) 100 ⟨rfl, rfl⟩ ?_ ?_ oa_fu oa_fu (by rw [oa_fu_eq]; omega) (by rw [oa_fu_eq]; omega)
  · rintro i hi s t ⟨rfl, rfl⟩ k l
    have e1 := cl_isSafeFor (c := hc L i) cv hq
    have e2 : f_X7_openWith M K (nI i) (nI q) 1 = _ := md_openWith (K := K) (al := true) hR.1 h99 h6 tb (show i ≤ 99 by omega) hq
    have e3 : cnt2 (opw (M 2) (M 1) n (hc L i) q true) n = 0 ↔ ∀ p, p < n → opw (M 2) (M 1) n (hc L i) q false p q = false := by
      rw [cnt2_0 h6]
      constructor
      · intro g p hp
        have := g p hp q hq
        unfold opw at this ⊢
        simpa using this
      · intro g p hp t ht
        by_cases e : t = q
        · have := g p hp
          subst e
          unfold opw at this ⊢
          simpa using this
        · unfold opw
          rw [decide_eq_false e]; simp
    simp (disch := (first | omega | assumption | decide)) only [b_X6_price_15, b_X7_price_12, cl_hiredCost hb1 hR.1.2.2 (show i ≤ 99 by omega), e1, e2, oa_ut, oa_bs, oa_lt, oa_ile, oa_inle, oa_ilt, oa_inlt, oa_ieq, oa_ineq, oa_rd_nI, oa_wr_nI, oa_rd_0, oa_rd_1, oa_wr_0, oa_wr_1, oa_rdL_nI, oa_wrL_nI, oa_bi_if0, oa_bi_if1, oa_zc_bi, oa_if_b0, oa_if_b1, nI_1, nI_add, pk_mul, Nat.add_assoc, Int32.add_zero, Int32.sub_zero, Int32.or_zero, Int32.and_neg_one, va_up_s, va_up_n, upd_s, oa_up2, ite_self, if_true, if_false, oa_10, oa_01, oa_neg4, oa_ifno, oa_l2, oa_l3, oa_l4, oa_l5, oa_l6, oa_l7, oa_l8, oa_l9, oa_l10, oa_l12, oa_l15, oa_l16, oa_l20, oa_l32, oa_l40, oa_l42, oa_l48, oa_l64, oa_l90, oa_l96, oa_l97, oa_l98, oa_l99, oa_l100, oa_l120, oa_l360, oa_l450, oa_l457, oa_l458, oa_l480, oa_l528]
    by_cases c : ∀ p, p < n → opw (M 2) (M 1) n (hc L i) q false p q = false
    · right
      rw [dcd_t c, if_pos rfl, if_pos (e3.mpr c)]
      exact ⟨_, rfl, rfl⟩
    · left
      rw [dcd_f c, if_neg (by decide), if_neg (fun d => c (e3.mp d))]
      exact ⟨_, _, ⟨rfl, rfl⟩, rfl, rfl⟩
  · rintro s t ⟨rfl, rfl⟩ k l
    simp (disch := (first | omega | assumption | decide)) only [b_X6_price_15, b_X7_price_12, oa_ut, oa_bs, oa_lt, oa_ile, oa_inle, oa_ilt, oa_inlt, oa_ieq, oa_ineq, oa_rd_nI, oa_wr_nI, oa_rd_0, oa_rd_1, oa_wr_0, oa_wr_1, oa_rdL_nI, oa_wrL_nI, oa_bi_if0, oa_bi_if1, oa_zc_bi, oa_if_b0, oa_if_b1, nI_1, nI_add, pk_mul, Nat.add_assoc, Int32.add_zero, Int32.sub_zero, Int32.or_zero, Int32.and_neg_one, va_up_s, va_up_n, upd_s, oa_up2, ite_self, if_true, if_false, oa_10, oa_01, oa_neg4, oa_ifno, oa_l2, oa_l3, oa_l4, oa_l5, oa_l6, oa_l7, oa_l8, oa_l9, oa_l10, oa_l12, oa_l15, oa_l16, oa_l20, oa_l32, oa_l40, oa_l42, oa_l48, oa_l64, oa_l90, oa_l96, oa_l97, oa_l98, oa_l99, oa_l100, oa_l120, oa_l360, oa_l450, oa_l457, oa_l458, oa_l480, oa_l528]
    exact ⟨_, rfl, rfl⟩
end HI
