/-! lay, feed, end -/
section C7
variable {B : oa_I3} {J : oa_J2} {M : oa_I2} {K : oa_J2}
theorem va_up_id {α : Type} (f : Nat → α) (k : Nat) : va_up f k (f k) = f := by
  funext j
  unfold va_up
  by_cases e : j = k
  · rw [if_pos e, e]
  · rw [if_neg e]
theorem f_in_0v (x y : Int32) : f_X7_in x.toInt64 0 y.toInt64 = some (oa_bi (oa_wi x 0 y)) := f_in x 0 y
theorem f_hasCell {S : oa_I2} {s : Nat} {x : Int32} (hs : S 1 0 = nI s) (h : s < 2 ^ 31) : f_X3_hasCell S x.toInt64 = some (oa_bi (oa_wi x 0 (nI s - 1))) := by
  unfold f_X3_hasCell
  rw [hs, show (0 : Int64) = (0 : Int32).toInt64 from by decide]
  by_cases h1 : x < 0
  · rw [if_pos ((oa_cmp_lt x 0).mpr h1)]
    have : oa_wi x 0 (nI s - 1) = false := by
      unfold oa_wi
      rw [decide_eq_false (Int32.not_le.mpr h1)]; rfl
    rw [this]; rfl
  · rw [if_neg (fun c => h1 ((oa_cmp_lt x 0).mp c))]
    obtain ⟨j, hj, rfl⟩ := nI_of h1
    by_cases l : j < s
    · rw [oa_hasN h l, if_neg (fun c => Int32.not_lt.mpr c ((oa_cmp_lt (nI j) (nI s)).mpr (nI_lt l h)))]
      rfl
    · have : oa_wi (nI j) 0 (nI s - 1) = false := by
        cases e : oa_wi (nI j) 0 (nI s - 1)
        · rfl
        · obtain ⟨i, i1, i2⟩ := oa_hasT h e
          have := (nI_eq hj (by omega)).mp i2
          omega
      rw [this, if_pos (Int32.not_lt.mp (fun c => nI_nlt (Nat.not_lt.mp l) hj ((oa_cmp_lt (nI j) (nI s)).mp c)))]
      rfl
theorem c_lay (h : Rel B M) (x y z : Int32) : ∃ a B' M', f_X6_lay B J x y z = some (a, B') ∧ f_X7_lay M K x y z = some (a, M') ∧ Rel B' M' := by
  have h0 := h
  obtain ⟨n, L, hR, hV, hI, hT, hF, hS, hC⟩ := h
  unfold f_X6_lay f_X7_lay
  simp only [f_within, oa_bs, oa_bi_if0, show f_X7_in x.toInt64 0 3 = _ from f_in x 0 3]
  cases hx : oa_wi x 0 3
  · exact ⟨_, _, _, rfl, rfl, h0⟩
  obtain ⟨k, _, k2, rfl⟩ := oa_wi_t (a := 0) (b := 3) (by omega) hx (by omega)
  simp only [if_true]
  have hc : ∀ y6 S7, f_X3_put (B (7 + k)) y z = some (y6, S7) → (if nI k = 0 then (f_X3_put (B 7) y z).bind <| oa_u fun (y6 : Int32) (S7 : oa_I2) => oa_let (va_up B 7 S7) fun (B10 : oa_I3) => if y6 = 0 then some ((1 : Int32), B10) else some (((-10) - y6), B10)
      else if nI k = 1 then (f_X3_put (B 8) y z).bind <| oa_u fun (y14 : Int32) (S15 : oa_I2) => oa_let (va_up B 8 S15) fun (B18 : oa_I3) => if y14 = 0 then some ((1 : Int32), B18) else some (((-10) - y14), B18)
      else if nI k = 2 then (f_X3_put (B 9) y z).bind <| oa_u fun (y22 : Int32) (S23 : oa_I2) => oa_let (va_up B 9 S23) fun (B26 : oa_I3) => if y22 = 0 then some ((1 : Int32), B26) else some (((-10) - y22), B26)
      else if nI k = 3 then (f_X3_put (B 10) y z).bind <| oa_u fun (y30 : Int32) (S31 : oa_I2) => oa_let (va_up B 10 S31) fun (B34 : oa_I3) => if y30 = 0 then some ((1 : Int32), B34) else some (((-10) - y30), B34) else none) = if y6 = 0 then some (1, va_up B (7 + k) S7) else some (-10 - y6, va_up B (7 + k) S7) := by
    intro y6 S7 e
    by_cases e0 : k = 0
    · subst e0
      rw [if_pos (show nI 0 = 0 from rfl), show B 7 = B (7 + 0) from rfl, e]; rfl
    rw [if_neg (nI_ne0 (by omega) (by omega))]
    by_cases e1 : k = 1
    · subst e1
      rw [if_pos (show nI 1 = 1 from rfl), show B 8 = B (7 + 1) from rfl, e]; rfl
    have n1 : ¬ nI k = 1 := fun c => e1 ((nI_eq (b := 1) (by omega) (by omega)).mp c)
    rw [if_neg n1]
    by_cases e2 : k = 2
    · subst e2
      rw [if_pos (show nI 2 = 2 from rfl), show B 9 = B (7 + 2) from rfl, e]; rfl
    have n2 : ¬ nI k = 2 := fun c => e2 ((nI_eq (b := 2) (by omega) (by omega)).mp c)
    rw [if_neg n2]
    obtain rfl : k = 3 := by omega
    rw [if_pos (show nI 3 = 3 from rfl), show B 10 = B (7 + 3) from rfl, e]; rfl
  rcases hS k (by omega) with ⟨s1, s2⟩ | ⟨s, l, s1, s2, s3, s4, s5, s6, s7⟩
  · have e : f_X3_put (B (7 + k)) y z = some (1, B (7 + k)) := by
      unfold f_X3_put
      rw [if_pos (show B (7 + k) 1 0 = -4 from s1)]
    rw [hc 1 _ e, if_neg (by decide), va_up_id, oa_rd_nI (by omega) (by omega)]
    simp only [oa_bs]
    rw [if_pos (show M 12 k = -4 from s2)]
    exact ⟨-11, _, _, congrArg (fun v => some (v, B)) (show (-10 - 1 : Int32) = -11 by decide), rfl, h0⟩
  · have n4 : ¬ B (7 + k) 1 0 = -4 := by rw [s3]; exact oa_no (by omega)
    have m4 : ¬ M 12 k = -4 := by rw [s6]; exact oa_no (by omega)
    rw [oa_rd_nI (by omega) (by omega), oa_rd_nI (by omega) (by omega)]
    simp only [oa_bs]
    rw [if_neg m4, s4, f_in_0v]
    simp only [oa_bs, oa_bi_if0]
    cases hy : oa_wi y 0 (nI s - 1)
    · have e : f_X3_put (B (7 + k)) y z = some (2, B (7 + k)) := by
        unfold f_X3_put
        rw [if_neg n4, f_hasCell s3 (by omega), hy]
        rfl
      rw [hc 2 _ e, if_neg (by decide), va_up_id, if_neg (by decide)]
      exact ⟨-12, _, _, congrArg (fun v => some (v, B)) (show (-10 - 2 : Int32) = -12 by decide), rfl, h0⟩
    · obtain ⟨i, i1, rfl⟩ := oa_hasT (by omega) hy
      obtain ⟨v, hv1, hv2⟩ : ∃ v, f_X3_lowestBits (B (7 + k)) z = some v ∧ (if M 12 k = 0 then b_X7_lay_99 K (nI k) (nI i) z M ((40 * nI k) + nI i) ((z <<< ((24 : Int32) &&& 31)) >>> ((24 : Int32) &&& 31)) else if M 12 k = 1 then b_X7_lay_99 K (nI k) (nI i) z M ((40 * nI k) + nI i) ((z <<< ((16 : Int32) &&& 31)) >>> ((16 : Int32) &&& 31)) else b_X7_lay_99 K (nI k) (nI i) z M ((40 * nI k) + nI i) z) = some (1, va_up M 14 (upd (M 14) (40 * k + i) v)) := by
        have hb : ∀ v, b_X7_lay_99 K (nI k) (nI i) z M ((40 * nI k) + nI i) v = some (1, va_up M 14 (upd (M 14) (40 * k + i) v)) := by
          intro v
          unfold b_X7_lay_99
          simp (disch := (first | omega | assumption | decide)) only [oa_wr_nI, oa_ut, oa_bs, oa_lt, oa_ile, oa_inle, oa_ilt, oa_inlt, oa_ieq, oa_ineq, oa_rd_0, oa_rd_1, oa_wr_0, oa_wr_1, oa_rdL_nI, oa_wrL_nI, oa_bi_if0, oa_bi_if1, oa_zc_bi, oa_if_b0, oa_if_b1, nI_1, nI_add, pk_mul, Nat.add_assoc, Int32.add_zero, Int32.sub_zero, Int32.or_zero, Int32.and_neg_one, ite_self, if_true, if_false, oa_10, oa_01, oa_neg4, oa_ifno, oa_l2, oa_l3, oa_l4, oa_l5, oa_l6, oa_l7, oa_l8, oa_l9, oa_l10, oa_l12, oa_l15, oa_l16, oa_l20, oa_l32, oa_l40, oa_l42, oa_l48, oa_l64, oa_l90, oa_l96, oa_l97, oa_l98, oa_l99, oa_l100, oa_l120, oa_l360, oa_l450, oa_l457, oa_l458, oa_l480, oa_l528]
        unfold f_X3_lowestBits
        rw [s5, s6]
        by_cases l0 : l = 0
        · subst l0
          exact ⟨_, rfl, by rw [if_pos (show nI 0 = 0 from rfl), hb, oa_low8]⟩
        have n0 : ¬ nI l = 0 := nI_ne0 (by omega) (by omega)
        rw [if_neg n0, if_neg n0]
        by_cases l1 : l = 1
        · subst l1
          exact ⟨_, rfl, by rw [if_pos (show nI 1 = 1 from rfl), hb, oa_low16]⟩
        have n1 : ¬ nI l = 1 := fun c => l1 ((nI_eq (b := 1) (by omega) (by omega)).mp c)
        rw [if_neg n1, if_neg n1, hb]
        exact ⟨_, rfl, rfl⟩
      have e : f_X3_put (B (7 + k)) (nI i) z = some (0, va_up (B (7 + k)) 0 (upd (B (7 + k) 0) i v)) := by
        unfold f_X3_put
        rw [if_neg n4, f_hasCell s3 (by omega), hy, hv1]
        simp (disch := (first | omega | assumption | decide)) only [oa_wr_nI, oa_bi, oa_ut, oa_bs, oa_lt, oa_ile, oa_inle, oa_ilt, oa_inlt, oa_ieq, oa_ineq, oa_rd_0, oa_rd_1, oa_wr_0, oa_wr_1, oa_rdL_nI, oa_wrL_nI, oa_bi_if0, oa_bi_if1, oa_zc_bi, oa_if_b0, oa_if_b1, nI_1, nI_add, pk_mul, Nat.add_assoc, Int32.add_zero, Int32.sub_zero, Int32.or_zero, Int32.and_neg_one, ite_self, if_true, if_false, oa_10, oa_01, oa_neg4, oa_ifno, oa_l2, oa_l3, oa_l4, oa_l5, oa_l6, oa_l7, oa_l8, oa_l9, oa_l10, oa_l12, oa_l15, oa_l16, oa_l20, oa_l32, oa_l40, oa_l42, oa_l48, oa_l64, oa_l90, oa_l96, oa_l97, oa_l98, oa_l99, oa_l100, oa_l120, oa_l360, oa_l450, oa_l457, oa_l458, oa_l480, oa_l528]
      rw [hc 0 _ e, if_pos rfl, if_pos rfl, hv2]
      refine ⟨_, _, _, rfl, rfl, Rel_sheet (k := k) h0 (by omega) (fun a ha => va_up_n _ _ ha) (fun a a1 a2 a3 => va_up_n _ _ a3) ?_ (fun j j1 j2 => ⟨?_, ?_, fun q hq => ?_⟩)⟩
      · refine Or.inr ⟨s, l, s1, s2, ?_, ?_, ?_, ?_, fun q hq => ?_⟩
        · rw [va_up_s, va_up_n _ _ (by omega)]; exact s3
        · rw [va_up_n _ _ (by omega)]; exact s4
        · rw [va_up_s, va_up_n _ _ (by omega)]; exact s5
        · rw [va_up_n _ _ (by omega)]; exact s6
        · rw [va_up_s, va_up_s, va_up_s]
          by_cases eq : q = i
          · rw [eq, upd_s, upd_s]
          · rw [upd_n _ _ eq, upd_n _ _ (by omega)]; exact s7 q hq
      · rw [va_up_n _ _ (by omega)]
      · rw [va_up_n _ _ (by omega)]
      · rw [va_up_s, upd_n _ _ (by omega)]
/-- a change of the tape alone -/
theorem Rel_text {T' M' : oa_I2} (h : Rel B M) (hM : ∀ a, a ≠ 0 → a ≠ 5 → M' a = M a) (h1 : M' 0 1 = M 0 1) (h10 : M' 0 10 = M 0 10) (ht : RT T' M') : Rel (va_up B 5 T') M' := by
  obtain ⟨n, L, g1, g2, g3, g4, g5, g6, g7⟩ := h
  refine ⟨n, L, ?_, ?_, fun j hj => ?_, ?_, ?_, fun j hj => ?_, ?_⟩
  · rw [hM 2 (by omega) (by omega)]; exact g1
  · rw [hM 2 (by omega) (by omega), hM 1 (by omega) (by omega), va_up_n _ _ (by omega)]; exact g2
  · unfold oa_pg
    rw [hM 11 (by omega) (by omega), hM 2 (by omega) (by omega), hM 1 (by omega) (by omega), va_up_n _ _ (by omega), va_up_n _ _ (by omega)]
    exact g3 j hj
  · rw [va_up_s]; exact ht
  · rw [va_up_n _ _ (by omega), h1, h10]; exact g5
  · rw [va_up_n _ _ (by omega)]
    unfold RS
    rw [hM 12 (by omega) (by omega), hM 13 (by omega) (by omega), hM 14 (by omega) (by omega)]
    exact g6 j hj
  · unfold RC
    rw [hM 6 (by omega) (by omega), hM 7 (by omega) (by omega)]; exact g7
theorem c_end (h : Rel B M) (x : Int32) : ∃ a B' M', f_X6_end B J x = some (a, B') ∧ f_X7_end M K x = some (a, M') ∧ Rel B' M' := by
  have h0 := h
  obtain ⟨n, L, hR, hV, hI, ⟨t, t1, t2, t3, t4⟩, hF, hS, hC⟩ := h
  unfold f_X6_end f_X7_end f_X4_cut
  simp only [f_within, oa_bs, oa_bi_if0, f_in_0v, t2, t3, oa_lt]
  cases hx : oa_wi x 0 (nI t)
  · simp only [oa_bs, oa_ut, oa_lt, if_neg (show ¬ false = true by decide), va_up_id]
    exact ⟨_, _, _, rfl, rfl, h0⟩
  · obtain ⟨s, _, s2, rfl⟩ := oa_wi_t (a := 0) (by omega) hx (by omega)
    simp only [oa_bs, oa_ut, oa_lt, if_true]
    refine ⟨_, _, _, rfl, rfl, Rel_text h0 (fun a a1 a2 => va_up_n _ _ a1) ?_ ?_ ⟨s, by omega, ?_, ?_, fun k hk => ?_⟩⟩
    · rw [va_up_s, upd_n _ _ (by omega)]
    · rw [va_up_s, upd_n _ _ (by omega)]
    · rw [va_up_s, upd_s]
    · rw [va_up_s, upd_s]
    · rw [va_up_n _ _ (by omega), va_up_n _ _ (by omega)]
      exact t4 k (by omega)
/-- eight bytes behind the tape -/
def byt (x : Int64) (i : Nat) : Int32 := (Int64.toInt32 (x >>> (Int32.toInt64 (nI (56 - 8 * i)) &&& 63))) &&& 255
def fed (x : Int64) (t : Nat) (i : Nat) (f : oa_P) : oa_P := fun k => if t ≤ k ∧ k < t + i then byt x (k - t) else f k
theorem fed_s (x : Int64) (t i : Nat) (f : oa_P) : upd (fed x t i f) (t + i) (byt x i) = fed x t (i + 1) f := by
  funext k
  unfold upd fed
  by_cases e : k = t + i
  · rw [if_pos e, if_pos (by omega), e, Nat.add_sub_cancel_left]
  · rw [if_neg e]
    by_cases l : t ≤ k ∧ k < t + i
    · rw [if_pos l, if_pos (by omega)]
    · rw [if_neg l, if_neg (by omega)]
theorem fed_0 (x : Int64) (t : Nat) (f : oa_P) : fed x t 0 f = f := by
  funext k
  unfold fed
  rw [if_neg (by omega)]
theorem fd1 : ∀ i, i < 8 → (nI 56 - nI (8 * i)) + -nI 8 = nI 56 - nI (8 * (i + 1)) := by decide +kernel
theorem fd2 : ∀ i, i < 8 → ¬ nI 56 - nI (8 * i) < 0 := by decide +kernel
theorem fd3 : nI 56 - nI (8 * 8) < 0 := by decide +kernel
theorem c_feed (h : Rel B M) (x : Int64) : ∃ a B' M', f_X6_feed B J x = some (a, B') ∧ f_X7_feed M K x = some (a, M') ∧ Rel B' M' := by
  have h0 := h
  obtain ⟨n, L, hR, hV, hI, ⟨t, t1, t2, t3, t4⟩, hF, hS, hC⟩ := h
  unfold f_X6_feed f_X7_feed f_X4_append
  rw [t2, t3]
  by_cases hf : nI t + 8 ≤ 320
  case neg =>
    rw [if_neg hf, if_neg hf]
    simp only [oa_bs, oa_ut, oa_lt, va_up_id]
    exact ⟨_, _, _, rfl, rfl, h0⟩
  have ht : t + 8 ≤ 320 := by
    rw [show (8 : Int32) = nI 8 from rfl, show (320 : Int32) = nI 320 from rfl, nI_add] at hf
    exact (nI_leI (by omega) (by omega)).mp hf
  rw [if_pos hf, if_pos hf]
  have hc : l_X4_append_18 (B 2) x oa_fu (B 5) 0 = some (nI (t + 8), va_up (va_up (B 5) 0 (fed x t 8 (B 5 0))) 1 (upd (B 5 1) 0 (nI (t + 8)))) := by
    unfold l_X4_append_18
    refine oa_for (fun i => (va_up (B 5) 0 (fed x t i (B 5 0)), nI i)) 8 ?_ ?_ ?_ oa_fu (by rw [oa_fu_eq]; omega)
    · rw [fed_0, va_up_id]; rfl
    · intro i hi k
      have hs : (56 : Int32) - nI (8 * i) = nI (56 - 8 * i) := by
        rw [show (56 : Int32) = nI 56 from rfl, pk_sub (by omega)]
      simp (disch := (first | omega | assumption | decide)) only [b_X4_append_18, va_up_s, va_up_n, t2, hs, oa_byte x (show 56 - 8 * i ≤ 56 by omega), oa_wr_nI, oa_up2, oa_ut, oa_bs, oa_lt, oa_ile, oa_inle, oa_ilt, oa_inlt, oa_ieq, oa_ineq, oa_rd_0, oa_rd_1, oa_wr_0, oa_wr_1, oa_rdL_nI, oa_wrL_nI, oa_bi_if0, oa_bi_if1, oa_zc_bi, oa_if_b0, oa_if_b1, nI_1, nI_add, pk_mul, Nat.add_assoc, Int32.add_zero, Int32.sub_zero, Int32.or_zero, Int32.and_neg_one, ite_self, if_true, if_false, oa_10, oa_01, oa_neg4, oa_ifno, oa_l2, oa_l3, oa_l4, oa_l5, oa_l6, oa_l7, oa_l8, oa_l9, oa_l10, oa_l12, oa_l15, oa_l16, oa_l20, oa_l32, oa_l40, oa_l42, oa_l48, oa_l64, oa_l90, oa_l96, oa_l97, oa_l98, oa_l99, oa_l100, oa_l120, oa_l360, oa_l450, oa_l457, oa_l458, oa_l480, oa_l528]
      rw [show (Int64.toInt32 (x >>> (Int32.toInt64 (nI (56 - 8 * i)) &&& 63))) &&& 255 = byt x i from rfl, fed_s]
    · intro k
      simp (disch := (first | omega | assumption | decide)) only [b_X4_append_18, va_up_s, va_up_n, t2, upd_s, oa_ut, oa_bs, oa_lt, oa_ile, oa_inle, oa_ilt, oa_inlt, oa_ieq, oa_ineq, oa_rd_0, oa_rd_1, oa_wr_0, oa_wr_1, oa_rdL_nI, oa_wrL_nI, oa_bi_if0, oa_bi_if1, oa_zc_bi, oa_if_b0, oa_if_b1, nI_1, nI_add, pk_mul, Nat.add_assoc, Int32.add_zero, Int32.sub_zero, Int32.or_zero, Int32.and_neg_one, ite_self, if_true, if_false, oa_10, oa_01, oa_neg4, oa_ifno, oa_l2, oa_l3, oa_l4, oa_l5, oa_l6, oa_l7, oa_l8, oa_l9, oa_l10, oa_l12, oa_l15, oa_l16, oa_l20, oa_l32, oa_l40, oa_l42, oa_l48, oa_l64, oa_l90, oa_l96, oa_l97, oa_l98, oa_l99, oa_l100, oa_l120, oa_l360, oa_l450, oa_l457, oa_l458, oa_l480, oa_l528]
  have hm : l_X7_feed_19 K x oa_fu M 56 = some (nI (t + 8), va_up (va_up M 5 (fed x t 8 (M 5))) 0 (upd (M 0) 0 (nI (t + 8)))) := by
    unfold l_X7_feed_19
    refine oa_for (fun i => (va_up (va_up M 5 (fed x t i (M 5))) 0 (upd (M 0) 0 (nI (t + i))), nI 56 - nI (8 * i))) 8 ?_ ?_ ?_ oa_fu (by rw [oa_fu_eq]; omega)
    · rw [fed_0, va_up_id, Nat.add_zero, ← t3, upd_id, va_up_id]; rfl
    · intro i hi k
      have hs : nI 56 - nI (8 * i) = nI (56 - 8 * i) := pk_sub (by omega)
      have e8 : (-8 : Int32) = -nI 8 := rfl
      simp only [oa_ut, b_X7_feed_19, if_neg (fd2 i hi), va_up_s, upd_s, oa_up2, e8, fd1 i hi, va_up_n (va_up M 5 (fed x t i (M 5))) (upd (M 0) 0 (nI (t + i))) (show (5 : Nat) ≠ 0 by omega)]
      rw [hs, show (Int64.toInt32 (x >>> (Int32.toInt64 (nI (56 - 8 * i)) &&& 63))) &&& 255 = byt x i from rfl, oa_wr_nI (by omega) (by omega), fed_s]
      simp only [oa_bs, oa_lt]
      refine congrArg k (Prod.ext ?_ rfl)
      funext a
      dsimp only
      by_cases a0 : a = 0
      · subst a0
        rw [va_up_s, va_up_s, va_up_n _ _ (by omega), va_up_s, upd_upd, upd_s, nI_1]
        rfl
      · rw [va_up_n _ _ a0, va_up_n _ _ a0]
        by_cases a5 : a = 5
        · subst a5
          rw [va_up_s, va_up_s]
        · rw [va_up_n _ _ a5, va_up_n _ _ a0, va_up_n _ _ a5, va_up_n _ _ a5]
    · intro k
      simp only [oa_ut, b_X7_feed_19, if_pos fd3, va_up_s, upd_s]
  rw [hc, hm]
  simp only [oa_bs, oa_ut, oa_lt]
  refine ⟨_, _, _, rfl, rfl, Rel_text h0 (fun a a1 a2 => by rw [va_up_n _ _ a1, va_up_n _ _ a2]) ?_ ?_ ⟨t + 8, by omega, ?_, ?_, fun k hk => ?_⟩⟩
  · rw [va_up_s, upd_n _ _ (by omega)]
  · rw [va_up_s, upd_n _ _ (by omega)]
  · rw [va_up_s, upd_s]
  · rw [va_up_s, upd_s]
  · rw [va_up_n _ _ (by omega), va_up_s, va_up_n _ _ (by omega), va_up_s]
    by_cases l : k < t
    · unfold fed
      rw [if_neg (by omega), if_neg (by omega)]
      exact t4 k l
    · unfold fed
      rw [if_pos (by omega), if_pos (by omega)]
      obtain ⟨b, b1, b2⟩ := oa_255 (Int64.toInt32 (x >>> (Int32.toInt64 (nI (56 - 8 * (k - t))) &&& 63)))
      exact ⟨b, b1, b2, b2⟩
end C7
