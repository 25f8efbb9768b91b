/-! images, how many, sheets, the tape -/
theorem oa_pc_mk (f : Nat → Bool) {n : Nat} (h : n ≤ 6) : oa_pc (oa_mk f n) = oa_cn f n := by
  rcases n with _ | _ | _ | _ | _ | _ | _ | n
  · exact oa_pc_0
  · simp only [oa_mk_succ, oa_cn_succ]
    unfold oa_mk oa_cn
    cases f 0 <;> decide +kernel
  · simp only [oa_mk_succ, oa_cn_succ]
    unfold oa_mk oa_cn
    cases f 0 <;> cases f 1 <;> decide +kernel
  · simp only [oa_mk_succ, oa_cn_succ]
    unfold oa_mk oa_cn
    cases f 0 <;> cases f 1 <;> cases f 2 <;> decide +kernel
  · simp only [oa_mk_succ, oa_cn_succ]
    unfold oa_mk oa_cn
    cases f 0 <;> cases f 1 <;> cases f 2 <;> cases f 3 <;> decide +kernel
  · simp only [oa_mk_succ, oa_cn_succ]
    unfold oa_mk oa_cn
    cases f 0 <;> cases f 1 <;> cases f 2 <;> cases f 3 <;> cases f 4 <;> decide +kernel
  · simp only [oa_mk_succ, oa_cn_succ]
    unfold oa_mk oa_cn
    cases f 0 <;> cases f 1 <;> cases f 2 <;> cases f 3 <;> cases f 4 <;> cases f 5 <;> decide +kernel
  · omega
theorem oa_nar1 : vp_nar .boolean 1 = 1 := by decide
theorem oa_nar0 : vp_nar .boolean 0 = 0 := by decide
section C5
variable {B : oa_I3} {J : oa_J2} {M : oa_I2} {K : oa_J2}
theorem Rel_stepN {B B' : oa_I3} {M M' : oa_I2} (h : Rel B M) (sx : SMx M M') (hi : ∀ k, 100 ≤ k → k < 360 → M' 1 k = M 1 k) (sb : SBx B B') (hv : ∀ n L, RR (M 2) L → RV n L (M 2) (M 1) (B 0) → RI L B M → ∃ n', RV n' L (M 2) (M' 1) (B' 0)) : Rel B' M' := by
  obtain ⟨n, L, h1, h2, h3, h4, h5, h6, h7⟩ := h
  obtain ⟨x1, x2, x3, x4, x5, x6, x7, x8, x9, x10, x11⟩ := sx
  obtain ⟨n', hn'⟩ := hv n L h1 h2 h3
  refine ⟨n', L, x1 ▸ h1, x1 ▸ hn', fun k hk => ?_, ?_, ?_, fun k hk => ?_, ?_⟩
  · rw [x8, x1, sb 6 (by omega) (by omega), sb (3 + k) (by omega) (by omega)]
    obtain ⟨g1, g2⟩ := h3 k hk
    refine ⟨g1, ?_⟩
    rcases g2 with g | ⟨g, n', g'⟩
    · exact Or.inl g
    · refine Or.inr ⟨g, n', RV_ext (fun j hj => ?_) g'⟩
      show M' 1 (120 * (k + 1) + j) = M 1 (120 * (k + 1) + j)
      exact hi _ (by omega) (by omega)
  · rw [sb 5 (by omega) (by omega)]
    obtain ⟨t, t1, t2, t3, t4⟩ := h4
    exact ⟨t, t1, t2, by rw [x2]; exact t3, fun k hk => by rw [x5]; exact t4 k hk⟩
  · rw [sb 6 (by omega) (by omega), x3, x4]; exact h5
  · rw [sb (7 + k) (by omega) (by omega)]
    unfold RS
    rw [x9, x10, x11]; exact h6 k hk
  · unfold RC
    rw [x6, x7]; exact h7
theorem SMx_ms {a : Nat} {P : oa_P} {w : Int32} : SMx M (oa_ms M a P w) := ⟨rfl, rfl, rfl, rfl, rfl, rfl, rfl, rfl, rfl, rfl, rfl⟩
theorem RV_cpy {n L : Nat} {R P : oa_P} {V U : oa_I2} (h : RV n L R P V) : RV n L R P (oa_cpy U V) := ⟨cv_cpy h.1, h.2⟩
theorem c_back (h : Rel B M) (x : Int32) : ∃ a B' M', f_X6_back B J x = some (a, B') ∧ f_X7_back M K x = some (a, M') ∧ Rel B' M' := by
  have h0 := h
  obtain ⟨n, L, hR, hV, hI, hT, hF, hS, hC⟩ := h
  unfold f_X6_back f_X7_back
  simp (disch := (first | omega | assumption | decide)) only [f_within, f_in_0_1, f_in_0_2, f_in_0_3, f_in_0_4, f_in_0_6, f_in_0_7, f_in_0_12, f_in_0_20, f_in_0_99, f_in_1_4, f_in_1_99, f_copyOf, oa_ut, oa_bs, oa_lt, oa_ile, oa_inle, oa_ilt, oa_inlt, oa_ieq, oa_ineq, oa_rd_0, oa_rd_1, oa_wr_0, oa_wr_1, oa_rdL_nI, oa_wrL_nI, oa_bi_if0, oa_bi_if1, oa_zc_bi, oa_if_b0, oa_if_b1, nI_1, nI_add, pk_mul, Nat.add_assoc, Int32.add_zero, Int32.sub_zero, Int32.or_zero, Int32.and_neg_one, ite_self, if_true, if_false, oa_10, oa_01, oa_neg4, oa_ifno, oa_l2, oa_l3, oa_l4, oa_l5, oa_l6, oa_l7, oa_l8, oa_l9, oa_l10, oa_l12, oa_l15, oa_l16, oa_l20, oa_l32, oa_l40, oa_l42, oa_l48, oa_l64, oa_l90, oa_l96, oa_l97, oa_l98, oa_l99, oa_l100, oa_l120, oa_l360, oa_l450, oa_l457, oa_l458, oa_l480, oa_l528]
  cases hx : oa_wi x 0 1
  · exact ⟨_, _, _, rfl, rfl, h0⟩
  obtain ⟨k, _, k2, rfl⟩ := oa_wi_t (a := 0) (b := 1) (by omega) hx (by omega)
  obtain ⟨i1, i2⟩ := hI k (by omega)
  simp (disch := (first | omega | assumption | decide)) only [oa_rd_nI, i1, oa_ut, oa_bs, oa_lt, oa_ile, oa_inle, oa_ilt, oa_inlt, oa_ieq, oa_ineq, oa_rd_0, oa_rd_1, oa_wr_0, oa_wr_1, oa_rdL_nI, oa_wrL_nI, oa_bi_if0, oa_bi_if1, oa_zc_bi, oa_if_b0, oa_if_b1, nI_1, nI_add, pk_mul, Nat.add_assoc, Int32.add_zero, Int32.sub_zero, Int32.or_zero, Int32.and_neg_one, ite_self, if_true, if_false, oa_10, oa_01, oa_neg4, oa_ifno, oa_l2, oa_l3, oa_l4, oa_l5, oa_l6, oa_l7, oa_l8, oa_l9, oa_l10, oa_l12, oa_l15, oa_l16, oa_l20, oa_l32, oa_l40, oa_l42, oa_l48, oa_l64, oa_l90, oa_l96, oa_l97, oa_l98, oa_l99, oa_l100, oa_l120, oa_l360, oa_l450, oa_l457, oa_l458, oa_l480, oa_l528]
  rcases i2 with i2 | ⟨i2, n', i3⟩
  · rw [i2]
    exact ⟨_, _, _, rfl, rfl, h0⟩
  simp (disch := (first | omega | assumption | decide)) only [i2, md_copies1, oa_rd_nI, oa_ut, oa_bs, oa_lt, oa_ile, oa_inle, oa_ilt, oa_inlt, oa_ieq, oa_ineq, oa_rd_0, oa_rd_1, oa_wr_0, oa_wr_1, oa_rdL_nI, oa_wrL_nI, oa_bi_if0, oa_bi_if1, oa_zc_bi, oa_if_b0, oa_if_b1, nI_1, nI_add, pk_mul, Nat.add_assoc, Int32.add_zero, Int32.sub_zero, Int32.or_zero, Int32.and_neg_one, ite_self, if_true, if_false, oa_10, oa_01, oa_neg4, oa_ifno, oa_l2, oa_l3, oa_l4, oa_l5, oa_l6, oa_l7, oa_l8, oa_l9, oa_l10, oa_l12, oa_l15, oa_l16, oa_l20, oa_l32, oa_l40, oa_l42, oa_l48, oa_l64, oa_l90, oa_l96, oa_l97, oa_l98, oa_l99, oa_l100, oa_l120, oa_l360, oa_l450, oa_l457, oa_l458, oa_l480, oa_l528]
  have hweek : oa_ms M 0 (cpp M (120 * (k + 1)) 0 100) (M 0 9) 1 96 = B (3 + k) 5 1 := by
    rw [i3.1.2.2.2.1, oa_ms0, Int32.add_zero]
    unfold cpp oa_pg
    rw [if_pos (by omega)]
  have hrel : Rel (va_up B 0 (oa_cpy (B 0) (B (3 + k)))) (oa_ms M 0 (cpp M (120 * (k + 1)) 0 100) (M 0 9)) := by
    refine Rel_stepN h0 SMx_ms (fun j h1 h2 => ?_) (fun a h1 h2 => va_up_n _ _ (by omega)) (fun n0 L0 r0 _ hI0 => ?_)
    · rw [oa_ms0]
      unfold cpp
      rw [if_neg (by omega), Nat.zero_add]
    · obtain ⟨_, j2⟩ := hI0 k (by omega)
      rcases j2 with j2 | ⟨_, n1, j3⟩
      · rw [i2] at j2; exact absurd j2 (by decide)
      · refine ⟨n1, ?_⟩
        rw [va_up_s]
        refine RV_ext (fun i hi => ?_) (RV_cpy j3)
        rw [oa_ms0]
        unfold cpp oa_pg
        rw [if_pos hi]
  rw [hweek]
  by_cases e : k = 0
  · subst e
    exact ⟨_, _, _, rfl, rfl, hrel⟩
  · obtain rfl : k = 1 := by omega
    exact ⟨_, _, _, rfl, rfl, hrel⟩
theorem c_keep (h : Rel B M) (x : Int32) : ∃ a B' M', f_X6_keep B J x = some (a, B') ∧ f_X7_keep M K x = some (a, M') ∧ Rel B' M' := by
  have h0 := h
  obtain ⟨n, L, hR, hV, hI, hT, hF, hS, hC⟩ := h
  unfold f_X6_keep f_X7_keep
  simp (disch := (first | omega | assumption | decide)) only [f_within, f_in_0_1, f_in_0_2, f_in_0_3, f_in_0_4, f_in_0_6, f_in_0_7, f_in_0_12, f_in_0_20, f_in_0_99, f_in_1_4, f_in_1_99, oa_ut, oa_bs, oa_lt, oa_ile, oa_inle, oa_ilt, oa_inlt, oa_ieq, oa_ineq, oa_rd_0, oa_rd_1, oa_wr_0, oa_wr_1, oa_rdL_nI, oa_wrL_nI, oa_bi_if0, oa_bi_if1, oa_zc_bi, oa_if_b0, oa_if_b1, nI_1, nI_add, pk_mul, Nat.add_assoc, Int32.add_zero, Int32.sub_zero, Int32.or_zero, Int32.and_neg_one, ite_self, if_true, if_false, oa_10, oa_01, oa_neg4, oa_ifno, oa_l2, oa_l3, oa_l4, oa_l5, oa_l6, oa_l7, oa_l8, oa_l9, oa_l10, oa_l12, oa_l15, oa_l16, oa_l20, oa_l32, oa_l40, oa_l42, oa_l48, oa_l64, oa_l90, oa_l96, oa_l97, oa_l98, oa_l99, oa_l100, oa_l120, oa_l360, oa_l450, oa_l457, oa_l458, oa_l480, oa_l528]
  cases hx : oa_wi x 0 1
  · exact ⟨_, _, _, rfl, rfl, h0⟩
  obtain ⟨k, _, k2, rfl⟩ := oa_wi_t (a := 0) (b := 1) (by omega) hx (by omega)
  obtain ⟨i1, i2⟩ := hI k (by omega)
  simp (disch := (first | omega | assumption | decide)) only [md_copies0, oa_rd_nI, oa_ms_k, oa_ut, oa_bs, oa_lt, oa_ile, oa_inle, oa_ilt, oa_inlt, oa_ieq, oa_ineq, oa_rd_0, oa_rd_1, oa_wr_0, oa_wr_1, oa_rdL_nI, oa_wrL_nI, oa_bi_if0, oa_bi_if1, oa_zc_bi, oa_if_b0, oa_if_b1, nI_1, nI_add, pk_mul, Nat.add_assoc, Int32.add_zero, Int32.sub_zero, Int32.or_zero, Int32.and_neg_one, ite_self, if_true, if_false, oa_10, oa_01, oa_neg4, oa_ifno, oa_l2, oa_l3, oa_l4, oa_l5, oa_l6, oa_l7, oa_l8, oa_l9, oa_l10, oa_l12, oa_l15, oa_l16, oa_l20, oa_l32, oa_l40, oa_l42, oa_l48, oa_l64, oa_l90, oa_l96, oa_l97, oa_l98, oa_l99, oa_l100, oa_l120, oa_l360, oa_l450, oa_l457, oa_l458, oa_l480, oa_l528]
  rw [i1]
  have hc : ∀ s, b_X6_keep_25 J (nI k) B s = some (s, va_up (va_up B (3 + k) (oa_cpy (B (3 + k)) (B 0))) 6 (va_up (B 6) 1 (upd (B 6 1) k 1))) := by
    intro s
    unfold b_X6_keep_25
    by_cases e : k = 0
    · subst e
      simp (disch := (first | omega | assumption | decide)) only [nI_0, f_copyOf, oa_nar1, oa_ut, oa_bs, oa_lt, oa_ile, oa_inle, oa_ilt, oa_inlt, oa_ieq, oa_ineq, oa_rd_0, oa_rd_1, oa_wr_0, oa_wr_1, oa_rdL_nI, oa_wrL_nI, oa_bi_if0, oa_bi_if1, oa_zc_bi, oa_if_b0, oa_if_b1, nI_1, nI_add, pk_mul, Nat.add_assoc, Int32.add_zero, Int32.sub_zero, Int32.or_zero, Int32.and_neg_one, ite_self, if_true, if_false, oa_10, oa_01, oa_neg4, oa_ifno, oa_l2, oa_l3, oa_l4, oa_l5, oa_l6, oa_l7, oa_l8, oa_l9, oa_l10, oa_l12, oa_l15, oa_l16, oa_l20, oa_l32, oa_l40, oa_l42, oa_l48, oa_l64, oa_l90, oa_l96, oa_l97, oa_l98, oa_l99, oa_l100, oa_l120, oa_l360, oa_l450, oa_l457, oa_l458, oa_l480, oa_l528]
      rfl
    · obtain rfl : k = 1 := by omega
      simp (disch := (first | omega | assumption | decide)) only [show nI 1 = (1 : Int32) from rfl, f_copyOf, oa_nar1, oa_ut, oa_bs, oa_lt, oa_ile, oa_inle, oa_ilt, oa_inlt, oa_ieq, oa_ineq, oa_rd_0, oa_rd_1, oa_wr_0, oa_wr_1, oa_rdL_nI, oa_wrL_nI, oa_bi_if0, oa_bi_if1, oa_zc_bi, oa_if_b0, oa_if_b1, nI_1, nI_add, pk_mul, Nat.add_assoc, Int32.add_zero, Int32.sub_zero, Int32.or_zero, Int32.and_neg_one, ite_self, if_true, if_false, oa_10, oa_01, oa_neg4, oa_ifno, oa_l2, oa_l3, oa_l4, oa_l5, oa_l6, oa_l7, oa_l8, oa_l9, oa_l10, oa_l12, oa_l15, oa_l16, oa_l20, oa_l32, oa_l40, oa_l42, oa_l48, oa_l64, oa_l90, oa_l96, oa_l97, oa_l98, oa_l99, oa_l100, oa_l120, oa_l360, oa_l450, oa_l457, oa_l458, oa_l480, oa_l528]
      rfl
  have hm : ∀ s, b_X7_keep_37 K (nI k) (oa_ms M (120 * (k + 1)) (cpp M 0 (120 * (k + 1)) 100) (M 0 9)) s = some (s, va_up (oa_ms M (120 * (k + 1)) (cpp M 0 (120 * (k + 1)) 100) (M 0 9)) 11 (upd (M 11) k 1)) := by
    intro s
    unfold b_X7_keep_37
    simp (disch := (first | omega | assumption | decide)) only [oa_wr_nI, oa_nar1, oa_ms_k, oa_ut, oa_bs, oa_lt, oa_ile, oa_inle, oa_ilt, oa_inlt, oa_ieq, oa_ineq, oa_rd_0, oa_rd_1, oa_wr_0, oa_wr_1, oa_rdL_nI, oa_wrL_nI, oa_bi_if0, oa_bi_if1, oa_zc_bi, oa_if_b0, oa_if_b1, nI_1, nI_add, pk_mul, Nat.add_assoc, Int32.add_zero, Int32.sub_zero, Int32.or_zero, Int32.and_neg_one, ite_self, if_true, if_false, oa_10, oa_01, oa_neg4, oa_ifno, oa_l2, oa_l3, oa_l4, oa_l5, oa_l6, oa_l7, oa_l8, oa_l9, oa_l10, oa_l12, oa_l15, oa_l16, oa_l20, oa_l32, oa_l40, oa_l42, oa_l48, oa_l64, oa_l90, oa_l96, oa_l97, oa_l98, oa_l99, oa_l100, oa_l120, oa_l360, oa_l450, oa_l457, oa_l458, oa_l480, oa_l528]
  have hk1 : ∀ j, oa_ms M (120 * (k + 1)) (cpp M 0 (120 * (k + 1)) 100) (M 0 9) 1 j = if j < 120 * (k + 1) then M 1 j else if j - 120 * (k + 1) < 100 then M 1 (j - 120 * (k + 1)) else M 1 j := by
    intro j
    rw [oa_ms_at]
    by_cases l : j < 120 * (k + 1)
    · rw [if_pos l, if_pos l]
    · rw [if_neg l, if_neg l]
      unfold cpp
      by_cases l2 : j - 120 * (k + 1) < 100
      · rw [if_pos l2, if_pos l2, Nat.zero_add]
      · rw [if_neg l2, if_neg l2, show 120 * (k + 1) + (j - 120 * (k + 1)) = j by omega]
  have hrel : Rel (va_up (va_up B (3 + k) (oa_cpy (B (3 + k)) (B 0))) 6 (va_up (B 6) 1 (upd (B 6 1) k 1))) (va_up (oa_ms M (120 * (k + 1)) (cpp M 0 (120 * (k + 1)) 100) (M 0 9)) 11 (upd (M 11) k 1)) := by
    have b0 : ∀ a, a ≠ 3 + k → a ≠ 6 → va_up (va_up B (3 + k) (oa_cpy (B (3 + k)) (B 0))) 6 (va_up (B 6) 1 (upd (B 6 1) k 1)) a = B a := by
      intro a a1 a2
      rw [va_up_n _ _ a2, va_up_n _ _ a1]
    have m0 : ∀ a, a ≠ 0 → a ≠ 1 → a ≠ 11 → va_up (oa_ms M (120 * (k + 1)) (cpp M 0 (120 * (k + 1)) 100) (M 0 9)) 11 (upd (M 11) k 1) a = M a := by
      intro a a0 a1 a2
      rw [va_up_n _ _ a2, oa_ms_k a0 a1]
    have m00 : ∀ a, a ≠ 9 → va_up (oa_ms M (120 * (k + 1)) (cpp M 0 (120 * (k + 1)) 100) (M 0 9)) 11 (upd (M 11) k 1) 0 a = M 0 a := by
      intro a a0
      rw [va_up_n _ _ (by omega), oa_ms_0k a0]
    refine ⟨n, L, ?_, ?_, fun j hj => ?_, ?_, ?_, fun j hj => ?_, ?_⟩
    · rw [m0 2 (by omega) (by omega) (by omega)]; exact hR
    · rw [m0 2 (by omega) (by omega) (by omega), b0 0 (by omega) (by omega), va_up_n _ _ (by omega)]
      refine RV_ext (fun i hi => ?_) hV
      rw [hk1, if_pos (by omega)]
    · rw [m0 2 (by omega) (by omega) (by omega), va_up_s, va_up_s, va_up_s]
      by_cases e : j = k
      · subst e
        rw [upd_s, upd_s, va_up_n _ _ (by omega), va_up_s]
        refine ⟨rfl, Or.inr ⟨rfl, n, RV_ext (fun i hi => ?_) (RV_cpy hV)⟩⟩
        show va_up (oa_ms M (120 * (j + 1)) (cpp M 0 (120 * (j + 1)) 100) (M 0 9)) 11 (upd (M 11) j 1) 1 (120 * (j + 1) + i) = _
        rw [va_up_n _ _ (by omega), hk1, if_neg (by omega), if_pos (by omega), Nat.add_sub_cancel_left]
      · rw [upd_n _ _ e, upd_n _ _ e, va_up_n _ _ (by omega), va_up_n _ _ (by omega)]
        obtain ⟨g1, g2⟩ := hI j hj
        refine ⟨g1, ?_⟩
        rcases g2 with g | ⟨g, n', g'⟩
        · exact Or.inl g
        · refine Or.inr ⟨g, n', RV_ext (fun i hi => ?_) g'⟩
          show va_up (oa_ms M (120 * (k + 1)) (cpp M 0 (120 * (k + 1)) 100) (M 0 9)) 11 (upd (M 11) k 1) 1 (120 * (j + 1) + i) = M 1 (120 * (j + 1) + i)
          rw [va_up_n _ _ (by omega), hk1]
          by_cases l : 120 * (j + 1) + i < 120 * (k + 1)
          · rw [if_pos l]
          · rw [if_neg l, if_neg (by omega)]
    · rw [b0 5 (by omega) (by omega)]
      obtain ⟨t, t1, t2, t3, t4⟩ := hT
      exact ⟨t, t1, t2, by rw [m00 0 (by omega)]; exact t3, fun j hj => by rw [m0 5 (by omega) (by omega) (by omega)]; exact t4 j hj⟩
    · rw [m00 1 (by omega), m00 10 (by omega), va_up_s, va_up_n _ _ (by omega)]; exact hF
    · rw [b0 (7 + j) (by omega) (by omega)]
      unfold RS
      rw [m0 12 (by omega) (by omega) (by omega), m0 13 (by omega) (by omega) (by omega), m0 14 (by omega) (by omega) (by omega)]
      exact hS j hj
    · unfold RC
      rw [m0 6 (by omega) (by omega) (by omega), m0 7 (by omega) (by omega) (by omega)]; exact hC
  rcases i2 with i2 | ⟨i2, _⟩
  · simp (disch := (first | omega | assumption | decide)) only [i2, hc, hm, oa_ut, oa_bs, oa_lt, oa_ile, oa_inle, oa_ilt, oa_inlt, oa_ieq, oa_ineq, oa_rd_0, oa_rd_1, oa_wr_0, oa_wr_1, oa_rdL_nI, oa_wrL_nI, oa_bi_if0, oa_bi_if1, oa_zc_bi, oa_if_b0, oa_if_b1, nI_1, nI_add, pk_mul, Nat.add_assoc, Int32.add_zero, Int32.sub_zero, Int32.or_zero, Int32.and_neg_one, ite_self, if_true, if_false, oa_10, oa_01, oa_neg4, oa_ifno, oa_l2, oa_l3, oa_l4, oa_l5, oa_l6, oa_l7, oa_l8, oa_l9, oa_l10, oa_l12, oa_l15, oa_l16, oa_l20, oa_l32, oa_l40, oa_l42, oa_l48, oa_l64, oa_l90, oa_l96, oa_l97, oa_l98, oa_l99, oa_l100, oa_l120, oa_l360, oa_l450, oa_l457, oa_l458, oa_l480, oa_l528]
    exact ⟨_, _, _, rfl, rfl, hrel⟩
  · simp (disch := (first | omega | assumption | decide)) only [i2, hc, hm, oa_ut, oa_bs, oa_lt, oa_ile, oa_inle, oa_ilt, oa_inlt, oa_ieq, oa_ineq, oa_rd_0, oa_rd_1, oa_wr_0, oa_wr_1, oa_rdL_nI, oa_wrL_nI, oa_bi_if0, oa_bi_if1, oa_zc_bi, oa_if_b0, oa_if_b1, nI_1, nI_add, pk_mul, Nat.add_assoc, Int32.add_zero, Int32.sub_zero, Int32.or_zero, Int32.and_neg_one, ite_self, if_true, if_false, oa_10, oa_01, oa_neg4, oa_ifno, oa_l2, oa_l3, oa_l4, oa_l5, oa_l6, oa_l7, oa_l8, oa_l9, oa_l10, oa_l12, oa_l15, oa_l16, oa_l20, oa_l32, oa_l40, oa_l42, oa_l48, oa_l64, oa_l90, oa_l96, oa_l97, oa_l98, oa_l99, oa_l100, oa_l120, oa_l360, oa_l450, oa_l457, oa_l458, oa_l480, oa_l528]
    exact ⟨_, _, _, rfl, rfl, hrel⟩
theorem c_count (h : Rel B M) (x : Int32) : ∃ a, f_X6_count B J x = some a ∧ f_X7_count M K x = some a := by
  obtain ⟨n, L, hR, ⟨cv, hp, h99, tb⟩, hI, hT, hF, hS, hC⟩ := h
  have h6 := cv.1.1
  have hm : f_X7_count M K x = b_X7_count_4 M K x (fun _ _ => none) (oa_cn (fg (M 1) (nI 2)) n) (nI n) := by
    unfold f_X7_count l_X7_count_4
    refine oa_for (fun i => (oa_cn (fg (M 1) (nI 2)) i, nI i)) n rfl ?_ ?_ oa_fu (by rw [oa_fu_eq]; omega)
    · intro i hi k
      simp (disch := (first | omega | assumption | decide)) only [b_X7_count_4, md_many h99, oa_cn_succ, oa_ut, oa_bs, oa_lt, oa_ile, oa_inle, oa_ilt, oa_inlt, oa_ieq, oa_ineq, oa_rd_nI, oa_wr_nI, oa_rd_0, oa_rd_1, oa_wr_0, oa_wr_1, oa_rdL_nI, oa_wrL_nI, oa_bi_if0, oa_bi_if1, oa_zc_bi, oa_if_b0, oa_if_b1, nI_1, nI_add, pk_mul, Nat.add_assoc, Int32.add_zero, Int32.sub_zero, Int32.or_zero, Int32.and_neg_one, va_up_s, va_up_n, upd_s, oa_up2, ite_self, if_true, if_false, oa_10, oa_01, oa_neg4, oa_ifno, oa_l2, oa_l3, oa_l4, oa_l5, oa_l6, oa_l7, oa_l8, oa_l9, oa_l10, oa_l12, oa_l15, oa_l16, oa_l20, oa_l32, oa_l40, oa_l42, oa_l48, oa_l64, oa_l90, oa_l96, oa_l97, oa_l98, oa_l99, oa_l100, oa_l120, oa_l360, oa_l450, oa_l457, oa_l458, oa_l480, oa_l528]
      unfold fg
      by_cases e : M 1 (8 * i) = nI 2
      · rw [if_pos e, decide_eq_true e]; rfl
      · rw [if_neg e, decide_eq_false e]; rfl
    · intro k
      simp (disch := (first | omega | assumption | decide)) only [b_X7_count_4, md_many h99, oa_ut, oa_bs, oa_lt, oa_ile, oa_inle, oa_ilt, oa_inlt, oa_ieq, oa_ineq, oa_rd_nI, oa_wr_nI, oa_rd_0, oa_rd_1, oa_wr_0, oa_wr_1, oa_rdL_nI, oa_wrL_nI, oa_bi_if0, oa_bi_if1, oa_zc_bi, oa_if_b0, oa_if_b1, nI_1, nI_add, pk_mul, Nat.add_assoc, Int32.add_zero, Int32.sub_zero, Int32.or_zero, Int32.and_neg_one, va_up_s, va_up_n, upd_s, oa_up2, ite_self, if_true, if_false, oa_10, oa_01, oa_neg4, oa_ifno, oa_l2, oa_l3, oa_l4, oa_l5, oa_l6, oa_l7, oa_l8, oa_l9, oa_l10, oa_l12, oa_l15, oa_l16, oa_l20, oa_l32, oa_l40, oa_l42, oa_l48, oa_l64, oa_l90, oa_l96, oa_l97, oa_l98, oa_l99, oa_l100, oa_l120, oa_l360, oa_l450, oa_l457, oa_l458, oa_l480, oa_l528]
  rw [hm]
  unfold f_X6_count
  simp (disch := (first | omega | assumption | decide)) only [b_X7_count_4, md_many h99, b_X6_count_70, b_X7_count_97, ct_allOf cv.1, oa_pc_eq, oa_pc_mk (fg (M 1) (nI 2)) h6, oa_ut, oa_bs, oa_lt, oa_ile, oa_inle, oa_ilt, oa_inlt, oa_ieq, oa_ineq, oa_rd_nI, oa_wr_nI, oa_rd_0, oa_rd_1, oa_wr_0, oa_wr_1, oa_rdL_nI, oa_wrL_nI, oa_bi_if0, oa_bi_if1, oa_zc_bi, oa_if_b0, oa_if_b1, nI_1, nI_add, pk_mul, Nat.add_assoc, Int32.add_zero, Int32.sub_zero, Int32.or_zero, Int32.and_neg_one, va_up_s, va_up_n, upd_s, oa_up2, ite_self, if_true, if_false, oa_10, oa_01, oa_neg4, oa_ifno, oa_l2, oa_l3, oa_l4, oa_l5, oa_l6, oa_l7, oa_l8, oa_l9, oa_l10, oa_l12, oa_l15, oa_l16, oa_l20, oa_l32, oa_l40, oa_l42, oa_l48, oa_l64, oa_l90, oa_l96, oa_l97, oa_l98, oa_l99, oa_l100, oa_l120, oa_l360, oa_l450, oa_l457, oa_l458, oa_l480, oa_l528]
  by_cases e0 : x = 0
  · rw [if_pos e0, if_pos e0]
    exact ⟨_, rfl, congrArg some cv.1.2.1.symm⟩
  rw [if_neg e0, if_neg e0]
  by_cases e1 : x = 1
  · rw [if_pos e1, if_pos e1]
    exact ⟨_, rfl, rfl⟩
  rw [if_neg e1, if_neg e1]
  by_cases e2 : x = nI 2
  · rw [if_pos e2, if_pos e2, (hI 0 (by omega)).1, (hI 1 (by omega)).1]
    by_cases a1 : B 6 1 0 = 0
    · by_cases a2 : B 6 1 1 = 0
      · simp only [if_pos a1, if_pos a2]; exact ⟨_, rfl, rfl⟩
      · simp only [if_pos a1, if_neg a2]; exact ⟨_, rfl, rfl⟩
    · by_cases a2 : B 6 1 1 = 0
      · simp only [if_neg a1, if_pos a2]; exact ⟨_, rfl, rfl⟩
      · simp only [if_neg a1, if_neg a2]; exact ⟨_, rfl, rfl⟩
  rw [if_neg e2, if_neg e2]
  by_cases e3 : x = nI 3
  · rw [if_pos e3, if_pos e3]
    obtain ⟨t, t1, t2, t3, t4⟩ := hT
    exact ⟨_, rfl, congrArg some (t3.trans t2.symm)⟩
  rw [if_neg e3, if_neg e3]
  by_cases e4 : x = nI 4
  · rw [if_pos e4, if_pos e4]
    rcases hS 0 (by omega) with ⟨s1, s2⟩ | ⟨s, l, s1, s2, s3, s4, s5, s6, s7⟩
    · rw [if_pos s2]
      exact ⟨_, rfl, congrArg some s1.symm⟩
    · rw [s6, if_neg (oa_no (by omega))]
      exact ⟨_, rfl, congrArg some (s4.trans s3.symm)⟩
  rw [if_neg e4, if_neg e4]
  exact ⟨_, rfl, rfl⟩
end C5
