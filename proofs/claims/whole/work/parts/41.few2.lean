section C9
variable {B : oa_I3} {J : oa_J2} {M : oa_I2} {K : oa_J2}
theorem Rel_tr {B' : oa_I3} {a : Nat} {P : oa_P} {w : Int32} (h : Rel B M) (hB : ∀ b, b ≠ 1 → B' b = B b) (ha : 360 ≤ a) : Rel B' (oa_ms M a P w) := by
  refine Rel_step h SMx_ms (fun k _ hk => ?_) (fun b h1 h2 => hB b (by omega)) (fun n L _ g => ?_)
  · rw [oa_ms_at, if_pos (by omega)]
  · rw [hB 0 (by omega)]
    refine RV_ext (fun k hk => ?_) g
    rw [oa_ms_at, if_pos (by omega)]
theorem f_safe {n : Nat} {f : Nat → Nat → Bool} {α : Type} {x y : α} (h6 : n ≤ 6) : (if lg_cmp (omk f n) 0 = 0 then x else y) = if dcd (∀ p, p < n → ∀ q, q < n → f p q = false) = true then x else y := by
  by_cases c : ∀ p, p < n → ∀ q, q < n → f p q = false
  · rw [if_pos ((lg_0 _).mpr ((omk_0 h6).mpr c)), if_pos (dcd_t c)]
  · rw [if_neg (fun d => c ((omk_0 h6).mp ((lg_0 _).mp d))), if_neg (by rw [dcd_f c]; decide)]
theorem c_fewest (h : Rel B M) (x : Int32) : ∃ a B' M', f_X6_fewest B J x = some (a, B') ∧ f_X7_fewest M K x = some (a, M') ∧ Rel B' M' := by
  have h0 := h
  obtain ⟨n, L, hR, ⟨cv, hp, h99, tb⟩, hI, hT, hF, hS, hC⟩ := h
  have h6 := cv.1.1
  have h64 := p2_le h6
  unfold f_X6_fewest f_X7_fewest
  simp (disch := (first | omega | assumption | decide)) only [f_within, f_in_0_1, f_in_0_2, f_in_0_3, f_in_0_4, f_in_0_6, f_in_0_7, f_in_0_12, f_in_0_20, f_in_0_99, f_in_1_4, f_in_1_99, oa_ut, oa_bs, oa_lt, oa_ile, oa_inle, oa_ilt, oa_inlt, oa_ieq, oa_ineq, oa_rd_0, oa_rd_1, oa_wr_0, oa_wr_1, oa_rdL_nI, oa_wrL_nI, oa_bi_if0, oa_bi_if1, oa_zc_bi, oa_if_b0, oa_if_b1, nI_1, nI_add, pk_mul, Nat.add_assoc, Int32.add_zero, Int32.sub_zero, Int32.or_zero, Int32.and_neg_one, ite_self, if_true, if_false, oa_10, oa_01, oa_neg4, oa_ifno, oa_l2, oa_l3, oa_l4, oa_l5, oa_l6, oa_l7, oa_l8, oa_l9, oa_l10, oa_l12, oa_l15, oa_l16, oa_l20, oa_l32, oa_l40, oa_l42, oa_l48, oa_l64, oa_l90, oa_l96, oa_l97, oa_l98, oa_l99, oa_l100, oa_l120, oa_l360, oa_l450, oa_l457, oa_l458, oa_l480, oa_l528]
  cases hx : oa_wi x 0 1
  · exact ⟨_, _, _, rfl, rfl, h0⟩
  obtain ⟨wh, _, wh2, rfl⟩ := oa_wi_t (a := 0) (b := 1) (by omega) hx (by omega)
  simp only [if_true, f_copyOf, md_layCalm, oa_bs, oa_lt]
  have hN : HN M 480 n (CP M) := ⟨h6, by omega, Or.inr ⟨by omega, h99⟩⟩
  have hmany := md_many (K := K) (HN_ms hN (M 0 9))
  unfold l_X6_fewest_31 l_X7_fewest_21
  refine oa_for2 (fun o o' => ∃ a B' M', o = some (a, B') ∧ o' = some (a, M') ∧ Rel B' M') (fun i s t => ∃ B' z b, s = (B', z, b, nI i) ∧ t = (b, nI i) ∧ (∀ a, a ≠ 1 → B' a = B a) ∧ CT n (M 2) (M 1) (B' 1) ∧ (b = oNO ∧ z = oNO ∨ ∃ k, k < 64 ∧ b = nI k ∧ z = oa_pc (nI k))) (2 ^ n) ?_ ?_ ?_ oa_fu oa_fu (by rw [oa_fu_eq]; omega) (by rw [oa_fu_eq]; omega)
  · refine ⟨_, _, _, rfl, rfl, fun a ha => va_up_n _ _ ha, ?_, Or.inl ⟨rfl, rfl⟩⟩
    rw [va_up_s]
    exact (cv_cpy cv).1
  · rintro i hi s t ⟨B', z, b, rfl, rfl, hB, hct, hb⟩ k l
    left
    have hn5 : B' 0 5 0 = nI n := by rw [hB 0 (by omega)]; exact cv.1.2.1
    obtain ⟨V', e1, e2, e3, e4⟩ := ct_ready (s := nI i) hct
    have e5 := ct_readyOpen hR.2 e3 e2
    have hsafe := md_isSafeBy (K := K) (s := nI i) (w := M 0 9) h99 h6
    generalize hD : dcd (∀ p, p < n → ∀ q, q < n → ops (M 2) (M 1) n (nI i) p q = false) = D at hsafe
    have hB2 : ∀ a, a ≠ 1 → va_up B' 1 V' a = B a := fun a ha => by rw [va_up_n _ _ ha]; exact hB a ha
    have hc2 : CT n (M 2) (M 1) (va_up B' 1 V' 1) := by rw [va_up_s]; exact e3
    rcases hb with ⟨rfl, rfl⟩ | ⟨k0, k1, rfl, rfl⟩
    · simp (disch := (first | omega | assumption | decide)) only [b_X6_fewest_31, b_X6_fewest_64, b_X7_fewest_21, hn5, hmany, oa_shl1 n h6, oa_pc_eq, e1, va_up_s, e5, f_safe h6, hD, hsafe, oa_ut, oa_bs, oa_lt, oa_ile, oa_inle, oa_ilt, oa_inlt, oa_ieq, oa_ineq, oa_rd_0, oa_rd_1, oa_wr_0, oa_wr_1, oa_rdL_nI, oa_wrL_nI, oa_bi_if0, oa_bi_if1, oa_zc_bi, oa_if_b0, oa_if_b1, nI_1, nI_add, pk_mul, Nat.add_assoc, Int32.add_zero, Int32.sub_zero, Int32.or_zero, Int32.and_neg_one, ite_self, if_true, if_false, oa_10, oa_01, oa_neg4, oa_ifno, oa_l2, oa_l3, oa_l4, oa_l5, oa_l6, oa_l7, oa_l8, oa_l9, oa_l10, oa_l12, oa_l15, oa_l16, oa_l20, oa_l32, oa_l40, oa_l42, oa_l48, oa_l64, oa_l90, oa_l96, oa_l97, oa_l98, oa_l99, oa_l100, oa_l120, oa_l360, oa_l450, oa_l457, oa_l458, oa_l480, oa_l528]
      cases D
      · exact ⟨_, _, ⟨_, _, _, rfl, rfl, hB2, hc2, Or.inl ⟨rfl, rfl⟩⟩, rfl, rfl⟩
      · exact ⟨_, _, ⟨_, _, _, rfl, rfl, hB2, hc2, Or.inr ⟨i, by omega, rfl, rfl⟩⟩, rfl, rfl⟩
    · have hz : ¬ oa_pc (nI k0) = oNO := by
        rw [pc_cn k0 k1, oa_cn_nI]
        exact oa_no (by have := oa_cN_le (bt (nI k0)) 7; omega)
      by_cases l2 : oa_pc (nI k0) ≤ oa_pc (nI i)
      · simp (disch := (first | omega | assumption | decide)) only [b_X6_fewest_31, b_X7_fewest_21, hn5, hmany, oa_shl1 n h6, oa_pc_eq, if_neg hz, if_pos l2, hsafe, md_bits (show i < 64 by omega), md_bits k1, oa_ut, oa_bs, oa_lt, oa_ile, oa_inle, oa_ilt, oa_inlt, oa_ieq, oa_ineq, oa_rd_0, oa_rd_1, oa_wr_0, oa_wr_1, oa_rdL_nI, oa_wrL_nI, oa_bi_if0, oa_bi_if1, oa_zc_bi, oa_if_b0, oa_if_b1, nI_1, nI_add, pk_mul, Nat.add_assoc, Int32.add_zero, Int32.sub_zero, Int32.or_zero, Int32.and_neg_one, ite_self, if_true, if_false, oa_10, oa_01, oa_neg4, oa_ifno, oa_l2, oa_l3, oa_l4, oa_l5, oa_l6, oa_l7, oa_l8, oa_l9, oa_l10, oa_l12, oa_l15, oa_l16, oa_l20, oa_l32, oa_l40, oa_l42, oa_l48, oa_l64, oa_l90, oa_l96, oa_l97, oa_l98, oa_l99, oa_l100, oa_l120, oa_l360, oa_l450, oa_l457, oa_l458, oa_l480, oa_l528]
        exact ⟨_, _, ⟨_, _, _, rfl, rfl, hB, hct, Or.inr ⟨k0, k1, rfl, rfl⟩⟩, rfl, rfl⟩
      · simp (disch := (first | omega | assumption | decide)) only [b_X6_fewest_31, b_X6_fewest_64, b_X7_fewest_21, hn5, hmany, oa_shl1 n h6, oa_pc_eq, if_neg hz, if_neg l2, e1, va_up_s, e5, f_safe h6, hD, hsafe, md_bits (show i < 64 by omega), md_bits k1, oa_ut, oa_bs, oa_lt, oa_ile, oa_inle, oa_ilt, oa_inlt, oa_ieq, oa_ineq, oa_rd_0, oa_rd_1, oa_wr_0, oa_wr_1, oa_rdL_nI, oa_wrL_nI, oa_bi_if0, oa_bi_if1, oa_zc_bi, oa_if_b0, oa_if_b1, nI_1, nI_add, pk_mul, Nat.add_assoc, Int32.add_zero, Int32.sub_zero, Int32.or_zero, Int32.and_neg_one, ite_self, if_true, if_false, oa_10, oa_01, oa_neg4, oa_ifno, oa_l2, oa_l3, oa_l4, oa_l5, oa_l6, oa_l7, oa_l8, oa_l9, oa_l10, oa_l12, oa_l15, oa_l16, oa_l20, oa_l32, oa_l40, oa_l42, oa_l48, oa_l64, oa_l90, oa_l96, oa_l97, oa_l98, oa_l99, oa_l100, oa_l120, oa_l360, oa_l450, oa_l457, oa_l458, oa_l480, oa_l528]
        cases D
        · exact ⟨_, _, ⟨_, _, _, rfl, rfl, hB2, hc2, Or.inr ⟨k0, k1, rfl, rfl⟩⟩, rfl, rfl⟩
        · exact ⟨_, _, ⟨_, _, _, rfl, rfl, hB2, hc2, Or.inr ⟨i, by omega, rfl, rfl⟩⟩, rfl, rfl⟩
  · rintro s t ⟨B', z, b, rfl, rfl, hB, hct, hb⟩ k l
    have hn5 : B' 0 5 0 = nI n := by rw [hB 0 (by omega)]; exact cv.1.2.1
    have hrel : Rel B' (oa_ms M 480 (CP M) (M 0 9)) := Rel_tr h0 hB (by omega)
    simp (disch := (first | omega | assumption | decide)) only [b_X6_fewest_31, b_X7_fewest_21, hn5, hmany, oa_shl1 n h6, oa_ut, oa_bs, oa_lt, oa_ile, oa_inle, oa_ilt, oa_inlt, oa_ieq, oa_ineq, oa_rd_0, oa_rd_1, oa_wr_0, oa_wr_1, oa_rdL_nI, oa_wrL_nI, oa_bi_if0, oa_bi_if1, oa_zc_bi, oa_if_b0, oa_if_b1, nI_1, nI_add, pk_mul, Nat.add_assoc, Int32.add_zero, Int32.sub_zero, Int32.or_zero, Int32.and_neg_one, ite_self, if_true, if_false, oa_10, oa_01, oa_neg4, oa_ifno, oa_l2, oa_l3, oa_l4, oa_l5, oa_l6, oa_l7, oa_l8, oa_l9, oa_l10, oa_l12, oa_l15, oa_l16, oa_l20, oa_l32, oa_l40, oa_l42, oa_l48, oa_l64, oa_l90, oa_l96, oa_l97, oa_l98, oa_l99, oa_l100, oa_l120, oa_l360, oa_l450, oa_l457, oa_l458, oa_l480, oa_l528]
    rcases hb with ⟨rfl, rfl⟩ | ⟨k0, k1, rfl, rfl⟩
    · simp only [ite_self, if_true]
      exact ⟨_, _, _, rfl, rfl, hrel⟩
    · simp (disch := (first | omega | assumption | decide)) only [md_bits k1, oa_ut, oa_bs, oa_lt, oa_ile, oa_inle, oa_ilt, oa_inlt, oa_ieq, oa_ineq, oa_rd_0, oa_rd_1, oa_wr_0, oa_wr_1, oa_rdL_nI, oa_wrL_nI, oa_bi_if0, oa_bi_if1, oa_zc_bi, oa_if_b0, oa_if_b1, nI_1, nI_add, pk_mul, Nat.add_assoc, Int32.add_zero, Int32.sub_zero, Int32.or_zero, Int32.and_neg_one, ite_self, if_true, if_false, oa_10, oa_01, oa_neg4, oa_ifno, oa_l2, oa_l3, oa_l4, oa_l5, oa_l6, oa_l7, oa_l8, oa_l9, oa_l10, oa_l12, oa_l15, oa_l16, oa_l20, oa_l32, oa_l40, oa_l42, oa_l48, oa_l64, oa_l90, oa_l96, oa_l97, oa_l98, oa_l99, oa_l100, oa_l120, oa_l360, oa_l450, oa_l457, oa_l458, oa_l480, oa_l528]
      by_cases w0 : wh = 0
      · subst w0
        simp (disch := (first | omega | assumption | decide)) only [nI_0, oa_ut, oa_bs, oa_lt, oa_ile, oa_inle, oa_ilt, oa_inlt, oa_ieq, oa_ineq, oa_rd_0, oa_rd_1, oa_wr_0, oa_wr_1, oa_rdL_nI, oa_wrL_nI, oa_bi_if0, oa_bi_if1, oa_zc_bi, oa_if_b0, oa_if_b1, nI_1, nI_add, pk_mul, Nat.add_assoc, Int32.add_zero, Int32.sub_zero, Int32.or_zero, Int32.and_neg_one, ite_self, if_true, if_false, oa_10, oa_01, oa_neg4, oa_ifno, oa_l2, oa_l3, oa_l4, oa_l5, oa_l6, oa_l7, oa_l8, oa_l9, oa_l10, oa_l12, oa_l15, oa_l16, oa_l20, oa_l32, oa_l40, oa_l42, oa_l48, oa_l64, oa_l90, oa_l96, oa_l97, oa_l98, oa_l99, oa_l100, oa_l120, oa_l360, oa_l450, oa_l457, oa_l458, oa_l480, oa_l528]
        exact ⟨_, _, _, rfl, rfl, hrel⟩
      · obtain rfl : wh = 1 := by omega
        simp (disch := (first | omega | assumption | decide)) only [show nI 1 = (1 : Int32) from rfl, oa_ut, oa_bs, oa_lt, oa_ile, oa_inle, oa_ilt, oa_inlt, oa_ieq, oa_ineq, oa_rd_0, oa_rd_1, oa_wr_0, oa_wr_1, oa_rdL_nI, oa_wrL_nI, oa_bi_if0, oa_bi_if1, oa_zc_bi, oa_if_b0, oa_if_b1, nI_1, nI_add, pk_mul, Nat.add_assoc, Int32.add_zero, Int32.sub_zero, Int32.or_zero, Int32.and_neg_one, ite_self, if_true, if_false, oa_10, oa_01, oa_neg4, oa_ifno, oa_l2, oa_l3, oa_l4, oa_l5, oa_l6, oa_l7, oa_l8, oa_l9, oa_l10, oa_l12, oa_l15, oa_l16, oa_l20, oa_l32, oa_l40, oa_l42, oa_l48, oa_l64, oa_l90, oa_l96, oa_l97, oa_l98, oa_l99, oa_l100, oa_l120, oa_l360, oa_l450, oa_l457, oa_l458, oa_l480, oa_l528]
        exact ⟨_, _, _, rfl, rfl, hrel⟩
def exb (f : Nat → Bool) : Nat → Bool
  | 0 => false
  | j + 1 => exb f j || f j
theorem exb_cut {f : Nat → Bool} {n : Nat} : ∀ j, n ≤ j → exb (fun p => decide (p < n) && f p) j = exb f n := by
  have h1 : ∀ j, j ≤ n → exb (fun p => decide (p < n) && f p) j = exb f j := by
    intro j
    induction j with
    | zero => intro _; rfl
    | succ j ih =>
      intro hj
      unfold exb
      rw [ih (by omega), decide_eq_true (show j < n by omega)]; rfl
  intro j
  induction j with
  | zero =>
    intro hj
    exact (h1 0 (by omega)).trans (by rw [show n = 0 by omega])
  | succ j ih =>
    intro hj
    by_cases e : n = j + 1
    · rw [← e]; exact h1 n (Nat.le_refl n)
    · unfold exb
      rw [ih (by omega), decide_eq_false (show ¬ j < n by omega), Bool.false_and, Bool.or_false]
      cases n <;> rfl
theorem bt_63 : ∀ i, i < 32 → bt 63 i = decide (i < 6) := by decide +kernel
theorem bt_all : ∀ n, n ≤ 6 → ∀ r, r < n → bt (nI (2 ^ n) - 1) r = true := by decide +kernel
theorem row_63 {f : Nat → Nat → Bool} {n p : Nat} (h6 : n ≤ 6) (hp : p < 6) : (Int64.toInt32 (omk f n >>> (Int32.toInt64 (nI (6 * p)) &&& 63))) &&& 63 = oa_mk (fun q => decide (p < n) && f p q) n := by
  apply b_ext
  intro i hi
  rw [b_and, bt_63 i hi, bt_ofL _ hi, bL_sshr _ (by omega) _ (by omega), oa_mk_bt _ n (by omega) i hi]
  by_cases l : i < 6
  · rw [if_pos (by omega), omk_bt h6 (by omega), show (6 * p + i) / 6 = p by omega, show (6 * p + i) % 6 = i by omega, decide_eq_true l]
    cases decide (p < n) <;> cases decide (i < n) <;> simp
  · rw [decide_eq_false l, decide_eq_false (show ¬ i < n by omega)]; simp
theorem oa_mk_or (f g : Nat → Bool) {n : Nat} (hn : n ≤ 32) : oa_mk f n ||| oa_mk g n = oa_mk (fun r => f r || g r) n := by
  apply b_ext
  intro i hi
  rw [b_or, oa_mk_bt f n hn i hi, oa_mk_bt g n hn i hi, oa_mk_bt _ n hn i hi]
  cases decide (i < n) <;> simp
theorem c_always (h : Rel B M) : ∃ a B' M', f_X6_always B J = some (a, B') ∧ f_X7_always M K = some (a, M') ∧ Rel B' M' := by
  have h0 := h
  obtain ⟨n, L, hR, ⟨cv, hp, h99, tb⟩, hI, hT, hF, hS, hC⟩ := h
  have h6 := cv.1.1
  unfold f_X6_always f_X7_always
  have hev : f_X5_everybody (B 0) = some (nI (2 ^ n) - 1) := by
    unfold f_X5_everybody
    rw [cv.1.2.1, oa_shl1 n h6]
  obtain ⟨V', e1, e2, e3, e4⟩ := ct_ready (s := nI (2 ^ n) - 1) (cv_cpy (V := B 1) cv).1
  have e5 := ct_readyOpen hR.2 e3 e2
  have hN : HN M 480 n (CP M) := ⟨h6, by omega, Or.inr ⟨by omega, h99⟩⟩
  have hmany := md_many (K := K) (HN_ms hN (M 0 9))
  have hfe : f_X7_feigns (oa_ms M 480 (CP M) (M 0 9)) K = some (oa_mk (fg (M 1) 3) n) := by
    rw [md_feigns (HN_ms hN (M 0 9)) h6]
    refine congrArg some (oa_mk_cong fun r hr => ?_)
    unfold fg
    rw [oa_ms_at, if_pos (by omega)]
  simp only [f_copyOf, oa_bs, oa_lt, va_up_s, va_up_n B (oa_cpy (B 1) (B 0)) (show (0 : Nat) ≠ 1 by omega), hev, e1, oa_up2, e5, md_layCalm, hmany, hfe, oa_shl1 n h6]
  have hwo : ∀ p q, p < 6 → q < 6 → f_X7_worthBy (oa_ms M 480 (CP M) (M 0 9)) K (nI 480) (nI p) (nI q) ((nI (2 ^ n) - 1) &&& (oa_mk (fg (M 1) 3) n ^^^ (-1))) = some (vls (M 2) (M 1) n (nI (2 ^ n) - 1) p q) := fun p q hp hq => md_worthC h99 h6 hp hq
  have hops : ∀ p q, ops (M 2) (M 1) n (nI (2 ^ n) - 1) p q = (!decide (q = p) && decide (0 < vls (M 2) (M 1) n (nI (2 ^ n) - 1) p q)) := fun _ _ => rfl
  generalize (nI (2 ^ n) - 1) &&& (oa_mk (fg (M 1) 3) n ^^^ (-1)) = X at hwo
  generalize ops (M 2) (M 1) n (nI (2 ^ n) - 1) = f at hops
  generalize vls (M 2) (M 1) n (nI (2 ^ n) - 1) = v at hops hwo
  have hcl : l_X6_always_38 J (va_up B 1 V') (omk f n) oa_fu 0 0 = some (oa_mk (fun i => exb (fun p => decide (p < n) && f p i) 6) n, va_up B 1 V') := by
    unfold l_X6_always_38
    refine oa_for (fun j => (oa_mk (fun i => exb (fun p => decide (p < n) && f p i) j) n, nI j)) 6 ?_ ?_ ?_ oa_fu (by rw [oa_fu_eq]; omega)
    · refine Prod.ext ?_ rfl
      apply b_ext
      intro i hi
      dsimp only
      rw [oa_mk_bt _ n (by omega) i hi, b_0]; unfold exb; simp
    · intro j hj k
      simp (disch := (first | omega | assumption | decide)) only [b_X6_always_38, row_63 h6 hj, oa_mk_or _ _ (show n ≤ 32 by omega), oa_ut, oa_bs, oa_lt, oa_ile, oa_inle, oa_ilt, oa_inlt, oa_ieq, oa_ineq, oa_rd_nI, oa_wr_nI, oa_rd_0, oa_rd_1, oa_wr_0, oa_wr_1, oa_rdL_nI, oa_wrL_nI, oa_bi_if0, oa_bi_if1, oa_zc_bi, oa_if_b0, oa_if_b1, nI_1, nI_add, pk_mul, Nat.add_assoc, Int32.add_zero, Int32.sub_zero, Int32.or_zero, Int32.and_neg_one, va_up_s, va_up_n, upd_s, oa_up2, ite_self, if_true, if_false, oa_10, oa_01, oa_neg4, oa_ifno, oa_l2, oa_l3, oa_l4, oa_l5, oa_l6, oa_l7, oa_l8, oa_l9, oa_l10, oa_l12, oa_l15, oa_l16, oa_l20, oa_l32, oa_l40, oa_l42, oa_l48, oa_l64, oa_l90, oa_l96, oa_l97, oa_l98, oa_l99, oa_l100, oa_l120, oa_l360, oa_l450, oa_l457, oa_l458, oa_l480, oa_l528]
      rfl
    · intro k
      simp (disch := (first | omega | assumption | decide)) only [b_X6_always_38, oa_ut, oa_bs, oa_lt, oa_ile, oa_inle, oa_ilt, oa_inlt, oa_ieq, oa_ineq, oa_rd_nI, oa_wr_nI, oa_rd_0, oa_rd_1, oa_wr_0, oa_wr_1, oa_rdL_nI, oa_wrL_nI, oa_bi_if0, oa_bi_if1, oa_zc_bi, oa_if_b0, oa_if_b1, nI_1, nI_add, pk_mul, Nat.add_assoc, Int32.add_zero, Int32.sub_zero, Int32.or_zero, Int32.and_neg_one, va_up_s, va_up_n, upd_s, oa_up2, ite_self, if_true, if_false, oa_10, oa_01, oa_neg4, oa_ifno, oa_l2, oa_l3, oa_l4, oa_l5, oa_l6, oa_l7, oa_l8, oa_l9, oa_l10, oa_l12, oa_l15, oa_l16, oa_l20, oa_l32, oa_l40, oa_l42, oa_l48, oa_l64, oa_l90, oa_l96, oa_l97, oa_l98, oa_l99, oa_l100, oa_l120, oa_l360, oa_l450, oa_l457, oa_l458, oa_l480, oa_l528]
  have hml : l_X7_always_24 K (oa_ms M 480 (CP M) (M 0 9)) X oa_fu 0 0 = some (oa_mk (fun i => exb (fun p => f p i) n) n, oa_ms M 480 (CP M) (M 0 9)) := by
    unfold l_X7_always_24
    refine oa_for (fun j => (oa_mk (fun i => exb (fun p => f p i) j) n, nI j)) n ?_ ?_ ?_ oa_fu (by rw [oa_fu_eq]; omega)
    · refine Prod.ext ?_ rfl
      apply b_ext
      intro i hi
      dsimp only
      rw [oa_mk_bt _ n (by omega) i hi, b_0]; unfold exb; simp
    · intro j hj k
      have hin : l_X7_always_35 K (oa_ms M 480 (CP M) (M 0 9)) X (nI j) (fun x2 x3 => k (x2, x3)) oa_fu (oa_mk (fun i => exb (fun p => f p i) j) n) 0 = k (oa_mk (fun i => exb (fun p => f p i) (j + 1)) n, nI (j + 1)) := by
        unfold l_X7_always_35
        refine oa_for (fun q => (oa_mk (fun i => exb (fun p => f p i) j || (decide (i < q) && f j i)) n, nI q)) n ?_ ?_ ?_ oa_fu (by rw [oa_fu_eq]; omega)
        · refine Prod.ext (oa_mk_cong fun i hi => ?_) rfl
          simp
        · intro q hq k'
          have hstep : ∀ b, f j q = b → (if b = true then oa_mk (fun i => exb (fun p => f p i) j || (decide (i < q) && f j i)) n ||| ((1 : Int32) <<< (nI q &&& 31)) else oa_mk (fun i => exb (fun p => f p i) j || (decide (i < q) && f j i)) n) = oa_mk (fun i => exb (fun p => f p i) j || (decide (i < q + 1) && f j i)) n := by
            intro b hb
            cases b
            · rw [if_neg (by decide)]
              refine oa_mk_cong fun i hi => ?_
              by_cases e : i = q
              · rw [e, hb]; simp
              · rw [decide_eq_decide.mpr (show i < q ↔ i < q + 1 by omega)]
            · rw [if_pos rfl, oa_mk_or1 _ (by omega) hq]
              refine oa_mk_cong fun i hi => ?_
              by_cases e : i = q
              · rw [e, hb]; simp
              · rw [decide_eq_decide.mpr (show i < q ↔ i < q + 1 by omega), decide_eq_false e, Bool.or_false]
          have hfo := hops j q
          by_cases e : q = j
          · rw [decide_eq_true e] at hfo
            have := hstep false hfo
            rw [if_neg (by decide)] at this
            simp (disch := (first | omega | assumption | decide)) only [b_X7_always_35, hmany, this, oa_ut, oa_bs, oa_lt, oa_ile, oa_inle, oa_ilt, oa_inlt, oa_ieq, oa_ineq, oa_rd_nI, oa_wr_nI, oa_rd_0, oa_rd_1, oa_wr_0, oa_wr_1, oa_rdL_nI, oa_wrL_nI, oa_bi_if0, oa_bi_if1, oa_zc_bi, oa_if_b0, oa_if_b1, nI_1, nI_add, pk_mul, Nat.add_assoc, Int32.add_zero, Int32.sub_zero, Int32.or_zero, Int32.and_neg_one, va_up_s, va_up_n, upd_s, oa_up2, ite_self, if_true, if_false, oa_10, oa_01, oa_neg4, oa_ifno, oa_l2, oa_l3, oa_l4, oa_l5, oa_l6, oa_l7, oa_l8, oa_l9, oa_l10, oa_l12, oa_l15, oa_l16, oa_l20, oa_l32, oa_l40, oa_l42, oa_l48, oa_l64, oa_l90, oa_l96, oa_l97, oa_l98, oa_l99, oa_l100, oa_l120, oa_l360, oa_l450, oa_l457, oa_l458, oa_l480, oa_l528]
          · rw [decide_eq_false e] at hfo
            by_cases l : 0 < v j q
            · rw [decide_eq_true l] at hfo
              have := hstep true hfo
              rw [if_pos rfl] at this
              simp (disch := (first | omega | assumption | decide)) only [b_X7_always_35, hmany, hwo j q (show j < 6 by omega) (show q < 6 by omega), if_neg (Int32.not_le.mpr l), this, oa_ut, oa_bs, oa_lt, oa_ile, oa_inle, oa_ilt, oa_inlt, oa_ieq, oa_ineq, oa_rd_nI, oa_wr_nI, oa_rd_0, oa_rd_1, oa_wr_0, oa_wr_1, oa_rdL_nI, oa_wrL_nI, oa_bi_if0, oa_bi_if1, oa_zc_bi, oa_if_b0, oa_if_b1, nI_1, nI_add, pk_mul, Nat.add_assoc, Int32.add_zero, Int32.sub_zero, Int32.or_zero, Int32.and_neg_one, va_up_s, va_up_n, upd_s, oa_up2, ite_self, if_true, if_false, oa_10, oa_01, oa_neg4, oa_ifno, oa_l2, oa_l3, oa_l4, oa_l5, oa_l6, oa_l7, oa_l8, oa_l9, oa_l10, oa_l12, oa_l15, oa_l16, oa_l20, oa_l32, oa_l40, oa_l42, oa_l48, oa_l64, oa_l90, oa_l96, oa_l97, oa_l98, oa_l99, oa_l100, oa_l120, oa_l360, oa_l450, oa_l457, oa_l458, oa_l480, oa_l528]
            · rw [decide_eq_false l] at hfo
              have := hstep false hfo
              rw [if_neg (by decide)] at this
              simp (disch := (first | omega | assumption | decide)) only [b_X7_always_35, hmany, hwo j q (show j < 6 by omega) (show q < 6 by omega), if_pos (Int32.not_lt.mp l), this, oa_ut, oa_bs, oa_lt, oa_ile, oa_inle, oa_ilt, oa_inlt, oa_ieq, oa_ineq, oa_rd_nI, oa_wr_nI, oa_rd_0, oa_rd_1, oa_wr_0, oa_wr_1, oa_rdL_nI, oa_wrL_nI, oa_bi_if0, oa_bi_if1, oa_zc_bi, oa_if_b0, oa_if_b1, nI_1, nI_add, pk_mul, Nat.add_assoc, Int32.add_zero, Int32.sub_zero, Int32.or_zero, Int32.and_neg_one, va_up_s, va_up_n, upd_s, oa_up2, ite_self, if_true, if_false, oa_10, oa_01, oa_neg4, oa_ifno, oa_l2, oa_l3, oa_l4, oa_l5, oa_l6, oa_l7, oa_l8, oa_l9, oa_l10, oa_l12, oa_l15, oa_l16, oa_l20, oa_l32, oa_l40, oa_l42, oa_l48, oa_l64, oa_l90, oa_l96, oa_l97, oa_l98, oa_l99, oa_l100, oa_l120, oa_l360, oa_l450, oa_l457, oa_l458, oa_l480, oa_l528]
        · intro k'
          simp (disch := (first | omega | assumption | decide)) only [b_X7_always_35, hmany, oa_ut, oa_bs, oa_lt, oa_ile, oa_inle, oa_ilt, oa_inlt, oa_ieq, oa_ineq, oa_rd_nI, oa_wr_nI, oa_rd_0, oa_rd_1, oa_wr_0, oa_wr_1, oa_rdL_nI, oa_wrL_nI, oa_bi_if0, oa_bi_if1, oa_zc_bi, oa_if_b0, oa_if_b1, nI_1, nI_add, pk_mul, Nat.add_assoc, Int32.add_zero, Int32.sub_zero, Int32.or_zero, Int32.and_neg_one, va_up_s, va_up_n, upd_s, oa_up2, ite_self, if_true, if_false, oa_10, oa_01, oa_neg4, oa_ifno, oa_l2, oa_l3, oa_l4, oa_l5, oa_l6, oa_l7, oa_l8, oa_l9, oa_l10, oa_l12, oa_l15, oa_l16, oa_l20, oa_l32, oa_l40, oa_l42, oa_l48, oa_l64, oa_l90, oa_l96, oa_l97, oa_l98, oa_l99, oa_l100, oa_l120, oa_l360, oa_l450, oa_l457, oa_l458, oa_l480, oa_l528]
          refine congrArg k (Prod.ext (oa_mk_cong fun i hi => ?_) rfl)
          rw [decide_eq_true hi]; rfl
      simp (disch := (first | omega | assumption | decide)) only [b_X7_always_24, hmany, hin, oa_ut, oa_bs, oa_lt, oa_ile, oa_inle, oa_ilt, oa_inlt, oa_ieq, oa_ineq, oa_rd_nI, oa_wr_nI, oa_rd_0, oa_rd_1, oa_wr_0, oa_wr_1, oa_rdL_nI, oa_wrL_nI, oa_bi_if0, oa_bi_if1, oa_zc_bi, oa_if_b0, oa_if_b1, nI_1, nI_add, pk_mul, Nat.add_assoc, Int32.add_zero, Int32.sub_zero, Int32.or_zero, Int32.and_neg_one, va_up_s, va_up_n, upd_s, oa_up2, ite_self, if_true, if_false, oa_10, oa_01, oa_neg4, oa_ifno, oa_l2, oa_l3, oa_l4, oa_l5, oa_l6, oa_l7, oa_l8, oa_l9, oa_l10, oa_l12, oa_l15, oa_l16, oa_l20, oa_l32, oa_l40, oa_l42, oa_l48, oa_l64, oa_l90, oa_l96, oa_l97, oa_l98, oa_l99, oa_l100, oa_l120, oa_l360, oa_l450, oa_l457, oa_l458, oa_l480, oa_l528]
    · intro k
      simp (disch := (first | omega | assumption | decide)) only [b_X7_always_24, hmany, oa_ut, oa_bs, oa_lt, oa_ile, oa_inle, oa_ilt, oa_inlt, oa_ieq, oa_ineq, oa_rd_nI, oa_wr_nI, oa_rd_0, oa_rd_1, oa_wr_0, oa_wr_1, oa_rdL_nI, oa_wrL_nI, oa_bi_if0, oa_bi_if1, oa_zc_bi, oa_if_b0, oa_if_b1, nI_1, nI_add, pk_mul, Nat.add_assoc, Int32.add_zero, Int32.sub_zero, Int32.or_zero, Int32.and_neg_one, va_up_s, va_up_n, upd_s, oa_up2, ite_self, if_true, if_false, oa_10, oa_01, oa_neg4, oa_ifno, oa_l2, oa_l3, oa_l4, oa_l5, oa_l6, oa_l7, oa_l8, oa_l9, oa_l10, oa_l12, oa_l15, oa_l16, oa_l20, oa_l32, oa_l40, oa_l42, oa_l48, oa_l64, oa_l90, oa_l96, oa_l97, oa_l98, oa_l99, oa_l100, oa_l120, oa_l360, oa_l450, oa_l457, oa_l458, oa_l480, oa_l528]
  rw [hcl, hml]
  have : oa_mk (fun i => exb (fun p => decide (p < n) && f p i) 6) n = oa_mk (fun i => exb (fun p => f p i) n) n := oa_mk_cong fun i hi => exb_cut 6 h6
  rw [this]
  exact ⟨_, _, _, rfl, rfl, Rel_trial h0 (by omega)⟩
end C9
