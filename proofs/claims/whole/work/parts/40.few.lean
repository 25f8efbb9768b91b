/-! the fewest that must be ready; who is always worth wronging -/
theorem oa_shl1 : ∀ n, n ≤ 6 → (1 : Int32) <<< (nI n &&& 31) = nI (2 ^ n) := by decide +kernel
theorem p2_le {n : Nat} (h : n ≤ 6) : 2 ^ n ≤ 64 := by
  have : 2 ^ n ≤ 2 ^ 6 := Nat.pow_le_pow_right (by omega) h
  omega
theorem md_bitsOf (x : Int32) : f_X7_bitsOf x = some (oa_cn (bt x) 7) := by
  unfold f_X7_bitsOf l_X7_bitsOf_4
  refine oa_for (fun i => (oa_cn (bt x) i, nI i)) 7 rfl ?_ ?_ oa_fu (by rw [oa_fu_eq]; omega)
  · intro i hi k
    simp (disch := (first | omega | assumption | decide)) only [b_X7_bitsOf_4, oa_ask x (show i < 32 by omega), oa_cn_succ, oa_ut, oa_bs, oa_lt, oa_ile, oa_inle, oa_ilt, oa_inlt, oa_ieq, oa_ineq, oa_rd_nI, oa_wr_nI, oa_rd_0, oa_rd_1, oa_wr_0, oa_wr_1, oa_rdL_nI, oa_wrL_nI, oa_bi_if0, oa_bi_if1, oa_zc_bi, oa_if_b0, oa_if_b1, nI_1, nI_add, pk_mul, Nat.add_assoc, Int32.add_zero, Int32.sub_zero, Int32.or_zero, Int32.and_neg_one, va_up_s, va_up_n, upd_s, oa_up2, ite_self, if_true, if_false, oa_10, oa_01, oa_neg4, oa_ifno, oa_l2, oa_l3, oa_l4, oa_l5, oa_l6, oa_l7, oa_l8, oa_l9, oa_l10, oa_l12, oa_l15, oa_l16, oa_l20, oa_l32, oa_l40, oa_l42, oa_l48, oa_l64, oa_l90, oa_l96, oa_l97, oa_l98, oa_l99, oa_l100, oa_l120, oa_l360, oa_l450, oa_l457, oa_l458, oa_l480, oa_l528]
    cases bt x i
    · rw [if_neg (by decide), if_neg (by decide), Int32.add_zero]
    · rw [if_pos rfl, if_pos rfl]
  · intro k
    simp (disch := (first | omega | assumption | decide)) only [b_X7_bitsOf_4, oa_ut, oa_bs, oa_lt, oa_ile, oa_inle, oa_ilt, oa_inlt, oa_ieq, oa_ineq, oa_rd_nI, oa_wr_nI, oa_rd_0, oa_rd_1, oa_wr_0, oa_wr_1, oa_rdL_nI, oa_wrL_nI, oa_bi_if0, oa_bi_if1, oa_zc_bi, oa_if_b0, oa_if_b1, nI_1, nI_add, pk_mul, Nat.add_assoc, Int32.add_zero, Int32.sub_zero, Int32.or_zero, Int32.and_neg_one, va_up_s, va_up_n, upd_s, oa_up2, ite_self, if_true, if_false, oa_10, oa_01, oa_neg4, oa_ifno, oa_l2, oa_l3, oa_l4, oa_l5, oa_l6, oa_l7, oa_l8, oa_l9, oa_l10, oa_l12, oa_l15, oa_l16, oa_l20, oa_l32, oa_l40, oa_l42, oa_l48, oa_l64, oa_l90, oa_l96, oa_l97, oa_l98, oa_l99, oa_l100, oa_l120, oa_l360, oa_l450, oa_l457, oa_l458, oa_l480, oa_l528]
theorem pc_cn : ∀ s, s < 64 → oa_pc (nI s) = oa_cn (bt (nI s)) 7 := by decide +kernel
theorem md_bits {s : Nat} (hs : s < 64) : f_X7_bitsOf (nI s) = some (oa_pc (nI s)) := by rw [md_bitsOf, pc_cn s hs]
/-- the traits alone are looked at -/
theorem mi_TR {P Q : oa_P} {r q : Nat} (t : ∀ k, k < 48 → Q k = P k) (hr : r < 6) : mi Q r q = mi P r q := by
  unfold mi
  rw [t _ (by omega), t _ (by omega), t _ (by omega), t _ (by omega)]
theorem co_TR {R P Q : oa_P} {r : Nat} (t : ∀ k, k < 48 → Q k = P k) (hr : r < 6) : co R Q r = co R P r := by
  unfold co
  rw [t _ (by omega), t _ (by omega), t _ (by omega)]
theorem val_TR {R P Q : oa_P} {q : Nat} {m : Nat → Bool} (t : ∀ k, k < 48 → Q k = P k) (hq : q < 6) : ∀ k, k ≤ 6 → val R Q q m k = val R P q m k
  | 0, _ => t _ (by omega)
  | k + 1, hk => by rw [val_succ, val_succ, mi_TR t (by omega), co_TR t (by omega), val_TR t hq k (by omega)]
/-- open, if those in s are ready -/
def vls (R P : oa_P) (n : Nat) (s : Int32) (p q : Nat) : Int32 := val R P q (fun r => (bt s r && !fg P 3 r) && !decide (r = p)) n
def ops (R P : oa_P) (n : Nat) (s : Int32) (p q : Nat) : Bool := !decide (q = p) && decide (0 < vls R P n s p q)
section FW
variable {M : oa_I2} {K : oa_J2} {n : Nat}
/-- the page without angers -/
def CP (M : oa_I2) : oa_P := it (fun i Q => upd Q (48 + i) 0) 42 (cpp M 0 480 100)
theorem CP_at {k : Nat} : ∀ i, i ≤ 42 → it (fun i Q => upd Q (48 + i) 0) i (cpp M 0 480 100) k = if 48 ≤ k ∧ k < 48 + i then 0 else cpp M 0 480 100 k
  | 0, _ => by rw [if_neg (by omega)]; rfl
  | i + 1, h => by
    rw [it_succ, upd_at, CP_at i (by omega)]
    by_cases e : k = 48 + i
    · rw [if_pos e, if_pos (by omega)]
    · rw [if_neg e]
      by_cases l : 48 ≤ k ∧ k < 48 + i
      · rw [if_pos l, if_pos (by omega)]
      · rw [if_neg l, if_neg (by omega)]
theorem CP_tr (k : Nat) (hk : k < 48) : CP M k = M 1 k := by
  unfold CP
  rw [CP_at 42 (Nat.le_refl _), if_neg (by omega)]
  unfold cpp
  rw [if_pos (by omega), Nat.zero_add]
theorem CP_an {r p : Nat} (hr : r < 6) (hp : p < 7) : an (CP M) r p = false := by
  unfold an CP
  rw [CP_at 42 (Nat.le_refl _), if_pos (by omega)]
  decide
theorem md_layCalm : f_X7_layCalm M K = some (oa_ms M 480 (CP M) (M 0 9)) := by
  unfold f_X7_layCalm
  simp (disch := (first | omega | assumption | decide)) only [md_copies0, oa_ut, oa_bs, oa_lt, oa_ile, oa_inle, oa_ilt, oa_inlt, oa_ieq, oa_ineq, oa_rd_0, oa_rd_1, oa_wr_0, oa_wr_1, oa_rdL_nI, oa_wrL_nI, oa_bi_if0, oa_bi_if1, oa_zc_bi, oa_if_b0, oa_if_b1, nI_1, nI_add, pk_mul, Nat.add_assoc, Int32.add_zero, Int32.sub_zero, Int32.or_zero, Int32.and_neg_one, ite_self, if_true, if_false, oa_10, oa_01, oa_neg4, oa_ifno, oa_l2, oa_l3, oa_l4, oa_l5, oa_l6, oa_l7, oa_l8, oa_l9, oa_l10, oa_l12, oa_l15, oa_l16, oa_l20, oa_l32, oa_l40, oa_l42, oa_l48, oa_l64, oa_l90, oa_l96, oa_l97, oa_l98, oa_l99, oa_l100, oa_l120, oa_l360, oa_l450, oa_l457, oa_l458, oa_l480, oa_l528]
  unfold l_X7_layCalm_10
  refine oa_for (fun i => (oa_ms M 480 (it (fun i Q => upd Q (48 + i) 0) i (cpp M 0 480 100)) (M 0 9), nI i)) 42 rfl ?_ ?_ oa_fu (by rw [oa_fu_eq]; omega)
  · intro i hi k
    simp (disch := (first | omega | assumption | decide)) only [b_X7_layCalm_10, oa_ms_wr' (a := 480) (j := 528 + i) (k := 48 + i), oa_ms_up, it_succ, oa_ut, oa_bs, oa_lt, oa_ile, oa_inle, oa_ilt, oa_inlt, oa_ieq, oa_ineq, oa_rd_0, oa_rd_1, oa_wr_0, oa_wr_1, oa_rdL_nI, oa_wrL_nI, oa_bi_if0, oa_bi_if1, oa_zc_bi, oa_if_b0, oa_if_b1, nI_1, nI_add, pk_mul, Nat.add_assoc, Int32.add_zero, Int32.sub_zero, Int32.or_zero, Int32.and_neg_one, ite_self, if_true, if_false, oa_10, oa_01, oa_neg4, oa_ifno, oa_l2, oa_l3, oa_l4, oa_l5, oa_l6, oa_l7, oa_l8, oa_l9, oa_l10, oa_l12, oa_l15, oa_l16, oa_l20, oa_l32, oa_l40, oa_l42, oa_l48, oa_l64, oa_l90, oa_l96, oa_l97, oa_l98, oa_l99, oa_l100, oa_l120, oa_l360, oa_l450, oa_l457, oa_l458, oa_l480, oa_l528]
  · intro k
    simp (disch := (first | omega | assumption | decide)) only [b_X7_layCalm_10, oa_ut, oa_bs, oa_lt, oa_ile, oa_inle, oa_ilt, oa_inlt, oa_ieq, oa_ineq, oa_rd_0, oa_rd_1, oa_wr_0, oa_wr_1, oa_rdL_nI, oa_wrL_nI, oa_bi_if0, oa_bi_if1, oa_zc_bi, oa_if_b0, oa_if_b1, nI_1, nI_add, pk_mul, Nat.add_assoc, Int32.add_zero, Int32.sub_zero, Int32.or_zero, Int32.and_neg_one, ite_self, if_true, if_false, oa_10, oa_01, oa_neg4, oa_ifno, oa_l2, oa_l3, oa_l4, oa_l5, oa_l6, oa_l7, oa_l8, oa_l9, oa_l10, oa_l12, oa_l15, oa_l16, oa_l20, oa_l32, oa_l40, oa_l42, oa_l48, oa_l64, oa_l90, oa_l96, oa_l97, oa_l98, oa_l99, oa_l100, oa_l120, oa_l360, oa_l450, oa_l457, oa_l458, oa_l480, oa_l528]
    rfl
theorem md_feigns (hn : M 1 99 = nI n) (h6 : n ≤ 6) : f_X7_feigns M K = some (oa_mk (fg (M 1) 3) n) := by
  unfold f_X7_feigns l_X7_feigns_4
  refine oa_for (fun i => (oa_mk (fg (M 1) 3) i, nI i)) n rfl ?_ ?_ oa_fu (by rw [oa_fu_eq]; omega)
  · intro i hi k
    rw [oa_mk_succ]
    unfold fg
    by_cases e : M 1 (8 * i) = 3
    · rw [decide_eq_true e, if_pos rfl]
      simp (disch := (first | omega | assumption | decide)) only [b_X7_feigns_4, md_many hn, e, oa_ut, oa_bs, oa_lt, oa_ile, oa_inle, oa_ilt, oa_inlt, oa_ieq, oa_ineq, oa_rd_nI, oa_wr_nI, oa_rd_0, oa_rd_1, oa_wr_0, oa_wr_1, oa_rdL_nI, oa_wrL_nI, oa_bi_if0, oa_bi_if1, oa_zc_bi, oa_if_b0, oa_if_b1, nI_1, nI_add, pk_mul, Nat.add_assoc, Int32.add_zero, Int32.sub_zero, Int32.or_zero, Int32.and_neg_one, va_up_s, va_up_n, upd_s, oa_up2, ite_self, if_true, if_false, oa_10, oa_01, oa_neg4, oa_ifno, oa_l2, oa_l3, oa_l4, oa_l5, oa_l6, oa_l7, oa_l8, oa_l9, oa_l10, oa_l12, oa_l15, oa_l16, oa_l20, oa_l32, oa_l40, oa_l42, oa_l48, oa_l64, oa_l90, oa_l96, oa_l97, oa_l98, oa_l99, oa_l100, oa_l120, oa_l360, oa_l450, oa_l457, oa_l458, oa_l480, oa_l528]
    · rw [decide_eq_false e, if_neg (by decide)]
      have e' : ¬ M 1 (8 * i) = nI 3 := e
      simp (disch := (first | omega | assumption | decide)) only [b_X7_feigns_4, md_many hn, if_neg e', oa_ut, oa_bs, oa_lt, oa_ile, oa_inle, oa_ilt, oa_inlt, oa_ieq, oa_ineq, oa_rd_nI, oa_wr_nI, oa_rd_0, oa_rd_1, oa_wr_0, oa_wr_1, oa_rdL_nI, oa_wrL_nI, oa_bi_if0, oa_bi_if1, oa_zc_bi, oa_if_b0, oa_if_b1, nI_1, nI_add, pk_mul, Nat.add_assoc, Int32.add_zero, Int32.sub_zero, Int32.or_zero, Int32.and_neg_one, va_up_s, va_up_n, upd_s, oa_up2, ite_self, if_true, if_false, oa_10, oa_01, oa_neg4, oa_ifno, oa_l2, oa_l3, oa_l4, oa_l5, oa_l6, oa_l7, oa_l8, oa_l9, oa_l10, oa_l12, oa_l15, oa_l16, oa_l20, oa_l32, oa_l40, oa_l42, oa_l48, oa_l64, oa_l90, oa_l96, oa_l97, oa_l98, oa_l99, oa_l100, oa_l120, oa_l360, oa_l450, oa_l457, oa_l458, oa_l480, oa_l528]
  · intro k
    simp (disch := (first | omega | assumption | decide)) only [b_X7_feigns_4, md_many hn, oa_ut, oa_bs, oa_lt, oa_ile, oa_inle, oa_ilt, oa_inlt, oa_ieq, oa_ineq, oa_rd_nI, oa_wr_nI, oa_rd_0, oa_rd_1, oa_wr_0, oa_wr_1, oa_rdL_nI, oa_wrL_nI, oa_bi_if0, oa_bi_if1, oa_zc_bi, oa_if_b0, oa_if_b1, nI_1, nI_add, pk_mul, Nat.add_assoc, Int32.add_zero, Int32.sub_zero, Int32.or_zero, Int32.and_neg_one, va_up_s, va_up_n, upd_s, oa_up2, ite_self, if_true, if_false, oa_10, oa_01, oa_neg4, oa_ifno, oa_l2, oa_l3, oa_l4, oa_l5, oa_l6, oa_l7, oa_l8, oa_l9, oa_l10, oa_l12, oa_l15, oa_l16, oa_l20, oa_l32, oa_l40, oa_l42, oa_l48, oa_l64, oa_l90, oa_l96, oa_l97, oa_l98, oa_l99, oa_l100, oa_l120, oa_l360, oa_l450, oa_l457, oa_l458, oa_l480, oa_l528]
theorem bt_andn {x : Int32} {f : Nat → Bool} {n r : Nat} (hn : n ≤ 32) (hr : r < n) : bt (x &&& (oa_mk f n ^^^ (-1))) r = (bt x r && !f r) := by
  rw [b_and, b_xor, b_m1 r (by omega), bt_mk hn hr]
  simp
/-- the model asks the page without angers -/
theorem md_worthC {p q : Nat} {s w : Int32} (hn : M 1 99 = nI n) (h6 : n ≤ 6) (hp : p < 6) (hq : q < 6) : f_X7_worthBy (oa_ms M 480 (CP M) w) K (nI 480) (nI p) (nI q) (s &&& (oa_mk (fg (M 1) 3) n ^^^ (-1))) = some (vls (M 2) (M 1) n s p q) := by
  have hN : HN M 480 n (CP M) := ⟨h6, by omega, Or.inr ⟨by omega, hn⟩⟩
  rw [md_worthBy (HN_ms hN w) h6 (by omega) hp hq, oa_ms_pg, oa_ms_2, val_TR CP_tr hq n h6]
  refine congrArg some (val_cong fun r hr => ?_)
  rw [bt_andn (by omega) hr]
  unfold can
  rw [CP_an (by omega) (by omega)]
  simp
theorem md_isSafeBy {s w : Int32} (hn : M 1 99 = nI n) (h6 : n ≤ 6) : f_X7_isSafeBy (oa_ms M 480 (CP M) w) K s = some (oa_bi (dcd (∀ p, p < n → ∀ q, q < n → ops (M 2) (M 1) n s p q = false))) := by
  have hN : HN M 480 n (CP M) := ⟨h6, by omega, Or.inr ⟨by omega, hn⟩⟩
  have hmany := md_many (K := K) (HN_ms hN w)
  have hfe : f_X7_feigns (oa_ms M 480 (CP M) w) K = some (oa_mk (fg (M 1) 3) n) := by
    rw [md_feigns (HN_ms hN w) h6]
    refine congrArg some (oa_mk_cong fun r hr => ?_)
    unfold fg
    rw [oa_ms_at, if_pos (by omega)]
  unfold f_X7_isSafeBy l_X7_isSafeBy_11
  simp only [hfe, oa_bs, oa_lt]
  have hwo : ∀ p q, p < 6 → q < 6 → f_X7_worthBy (oa_ms M 480 (CP M) w) K (nI 480) (nI p) (nI q) (s &&& (oa_mk (fg (M 1) 3) n ^^^ (-1))) = some (vls (M 2) (M 1) n s p q) := fun p q hp hq => md_worthC hn h6 hp hq
  generalize s &&& (oa_mk (fg (M 1) 3) n ^^^ (-1)) = X at hwo
  refine oa_forK (fun o => o = some (oa_bi (dcd (∀ p, p < n → ∀ q, q < n → ops (M 2) (M 1) n s p q = false)))) (fun i t => t = nI i ∧ ∀ p, p < i → ∀ q, q < n → ops (M 2) (M 1) n s p q = false) n ⟨rfl, fun p hp => absurd hp (Nat.not_lt_zero p)⟩ ?_ ?_ oa_fu (by rw [oa_fu_eq]; omega)
  · rintro i hi t ⟨rfl, hd⟩ k
    have hin : (∃ u, u = nI (i + 1) ∧ (∀ q, q < n → ops (M 2) (M 1) n s i q = false) ∧ l_X7_isSafeBy_22 (oa_ms M 480 (CP M) w) K s X (nI i) k oa_fu 0 = k u) ∨ l_X7_isSafeBy_22 (oa_ms M 480 (CP M) w) K s X (nI i) k oa_fu 0 = some (oa_bi (dcd (∀ p, p < n → ∀ q, q < n → ops (M 2) (M 1) n s p q = false))) := by
      unfold l_X7_isSafeBy_22
      refine oa_forR (fun o => (∃ u, u = nI (i + 1) ∧ (∀ q, q < n → ops (M 2) (M 1) n s i q = false) ∧ o = k u) ∨ o = some (oa_bi (dcd (∀ p, p < n → ∀ q, q < n → ops (M 2) (M 1) n s p q = false)))) (fun j t => t = nI j ∧ ∀ q, q < j → ops (M 2) (M 1) n s i q = false) n ⟨rfl, fun p hp => absurd hp (Nat.not_lt_zero p)⟩ ?_ ?_ oa_fu (by rw [oa_fu_eq]; omega)
      · rintro j hj t ⟨rfl, he⟩
        by_cases e : j = i
        · left
          refine ⟨nI (j + 1), ⟨rfl, fun q hq => ?_⟩, fun k => ?_⟩
          · by_cases c : q = j
            · unfold ops
              rw [decide_eq_true (show q = i by omega)]; rfl
            · exact he q (by omega)
          · simp (disch := (first | omega | assumption | decide)) only [b_X7_isSafeBy_22, hmany, oa_ut, oa_bs, oa_lt, oa_ile, oa_inle, oa_ilt, oa_inlt, oa_ieq, oa_ineq, oa_rd_nI, oa_wr_nI, oa_rd_0, oa_rd_1, oa_wr_0, oa_wr_1, oa_rdL_nI, oa_wrL_nI, oa_bi_if0, oa_bi_if1, oa_zc_bi, oa_if_b0, oa_if_b1, nI_1, nI_add, pk_mul, Nat.add_assoc, Int32.add_zero, Int32.sub_zero, Int32.or_zero, Int32.and_neg_one, va_up_s, va_up_n, upd_s, oa_up2, ite_self, if_true, if_false, oa_10, oa_01, oa_neg4, oa_ifno, oa_l2, oa_l3, oa_l4, oa_l5, oa_l6, oa_l7, oa_l8, oa_l9, oa_l10, oa_l12, oa_l15, oa_l16, oa_l20, oa_l32, oa_l40, oa_l42, oa_l48, oa_l64, oa_l90, oa_l96, oa_l97, oa_l98, oa_l99, oa_l100, oa_l120, oa_l360, oa_l450, oa_l457, oa_l458, oa_l480, oa_l528]
        · by_cases l : 0 < vls (M 2) (M 1) n s i j
          · right
            refine ⟨some 0, Or.inr ?_, fun k => ?_⟩
            · rw [dcd_f (fun h => by
                have := h i hi j hj
                unfold ops at this
                rw [decide_eq_false e, decide_eq_true l] at this
                cases this)]; rfl
            · simp (disch := (first | omega | assumption | decide)) only [b_X7_isSafeBy_22, hmany, hwo i j (show i < 6 by omega) (show j < 6 by omega), if_neg (Int32.not_le.mpr l), oa_ut, oa_bs, oa_lt, oa_ile, oa_inle, oa_ilt, oa_inlt, oa_ieq, oa_ineq, oa_rd_nI, oa_wr_nI, oa_rd_0, oa_rd_1, oa_wr_0, oa_wr_1, oa_rdL_nI, oa_wrL_nI, oa_bi_if0, oa_bi_if1, oa_zc_bi, oa_if_b0, oa_if_b1, nI_1, nI_add, pk_mul, Nat.add_assoc, Int32.add_zero, Int32.sub_zero, Int32.or_zero, Int32.and_neg_one, va_up_s, va_up_n, upd_s, oa_up2, ite_self, if_true, if_false, oa_10, oa_01, oa_neg4, oa_ifno, oa_l2, oa_l3, oa_l4, oa_l5, oa_l6, oa_l7, oa_l8, oa_l9, oa_l10, oa_l12, oa_l15, oa_l16, oa_l20, oa_l32, oa_l40, oa_l42, oa_l48, oa_l64, oa_l90, oa_l96, oa_l97, oa_l98, oa_l99, oa_l100, oa_l120, oa_l360, oa_l450, oa_l457, oa_l458, oa_l480, oa_l528]
          · left
            refine ⟨nI (j + 1), ⟨rfl, fun q hq => ?_⟩, fun k => ?_⟩
            · by_cases c : q = j
              · unfold ops
                rw [c, decide_eq_false e, decide_eq_false l]; rfl
              · exact he q (by omega)
            · simp (disch := (first | omega | assumption | decide)) only [b_X7_isSafeBy_22, hmany, hwo i j (show i < 6 by omega) (show j < 6 by omega), if_pos (Int32.not_lt.mp l), oa_ut, oa_bs, oa_lt, oa_ile, oa_inle, oa_ilt, oa_inlt, oa_ieq, oa_ineq, oa_rd_nI, oa_wr_nI, oa_rd_0, oa_rd_1, oa_wr_0, oa_wr_1, oa_rdL_nI, oa_wrL_nI, oa_bi_if0, oa_bi_if1, oa_zc_bi, oa_if_b0, oa_if_b1, nI_1, nI_add, pk_mul, Nat.add_assoc, Int32.add_zero, Int32.sub_zero, Int32.or_zero, Int32.and_neg_one, va_up_s, va_up_n, upd_s, oa_up2, ite_self, if_true, if_false, oa_10, oa_01, oa_neg4, oa_ifno, oa_l2, oa_l3, oa_l4, oa_l5, oa_l6, oa_l7, oa_l8, oa_l9, oa_l10, oa_l12, oa_l15, oa_l16, oa_l20, oa_l32, oa_l40, oa_l42, oa_l48, oa_l64, oa_l90, oa_l96, oa_l97, oa_l98, oa_l99, oa_l100, oa_l120, oa_l360, oa_l450, oa_l457, oa_l458, oa_l480, oa_l528]
      · rintro t ⟨rfl, he⟩
        refine ⟨k (nI (i + 1)), Or.inl ⟨_, rfl, he, rfl⟩, fun k' => ?_⟩
        simp (disch := (first | omega | assumption | decide)) only [b_X7_isSafeBy_22, hmany, oa_ut, oa_bs, oa_lt, oa_ile, oa_inle, oa_ilt, oa_inlt, oa_ieq, oa_ineq, oa_rd_nI, oa_wr_nI, oa_rd_0, oa_rd_1, oa_wr_0, oa_wr_1, oa_rdL_nI, oa_wrL_nI, oa_bi_if0, oa_bi_if1, oa_zc_bi, oa_if_b0, oa_if_b1, nI_1, nI_add, pk_mul, Nat.add_assoc, Int32.add_zero, Int32.sub_zero, Int32.or_zero, Int32.and_neg_one, va_up_s, va_up_n, upd_s, oa_up2, ite_self, if_true, if_false, oa_10, oa_01, oa_neg4, oa_ifno, oa_l2, oa_l3, oa_l4, oa_l5, oa_l6, oa_l7, oa_l8, oa_l9, oa_l10, oa_l12, oa_l15, oa_l16, oa_l20, oa_l32, oa_l40, oa_l42, oa_l48, oa_l64, oa_l90, oa_l96, oa_l97, oa_l98, oa_l99, oa_l100, oa_l120, oa_l360, oa_l450, oa_l457, oa_l458, oa_l480, oa_l528]
    rcases hin with ⟨u, rfl, h1, h2⟩ | h2
    · left
      refine ⟨nI (i + 1), ⟨rfl, fun p hp q hq => ?_⟩, ?_⟩
      · by_cases c : p = i
        · rw [c]; exact h1 q hq
        · exact hd p (by omega) q hq
      · simp (disch := (first | omega | assumption | decide)) only [b_X7_isSafeBy_11, hmany, h2, oa_ut, oa_bs, oa_lt, oa_ile, oa_inle, oa_ilt, oa_inlt, oa_ieq, oa_ineq, oa_rd_nI, oa_wr_nI, oa_rd_0, oa_rd_1, oa_wr_0, oa_wr_1, oa_rdL_nI, oa_wrL_nI, oa_bi_if0, oa_bi_if1, oa_zc_bi, oa_if_b0, oa_if_b1, nI_1, nI_add, pk_mul, Nat.add_assoc, Int32.add_zero, Int32.sub_zero, Int32.or_zero, Int32.and_neg_one, va_up_s, va_up_n, upd_s, oa_up2, ite_self, if_true, if_false, oa_10, oa_01, oa_neg4, oa_ifno, oa_l2, oa_l3, oa_l4, oa_l5, oa_l6, oa_l7, oa_l8, oa_l9, oa_l10, oa_l12, oa_l15, oa_l16, oa_l20, oa_l32, oa_l40, oa_l42, oa_l48, oa_l64, oa_l90, oa_l96, oa_l97, oa_l98, oa_l99, oa_l100, oa_l120, oa_l360, oa_l450, oa_l457, oa_l458, oa_l480, oa_l528]
    · right
      simp (disch := (first | omega | assumption | decide)) only [b_X7_isSafeBy_11, hmany, h2, oa_ut, oa_bs, oa_lt, oa_ile, oa_inle, oa_ilt, oa_inlt, oa_ieq, oa_ineq, oa_rd_nI, oa_wr_nI, oa_rd_0, oa_rd_1, oa_wr_0, oa_wr_1, oa_rdL_nI, oa_wrL_nI, oa_bi_if0, oa_bi_if1, oa_zc_bi, oa_if_b0, oa_if_b1, nI_1, nI_add, pk_mul, Nat.add_assoc, Int32.add_zero, Int32.sub_zero, Int32.or_zero, Int32.and_neg_one, va_up_s, va_up_n, upd_s, oa_up2, ite_self, if_true, if_false, oa_10, oa_01, oa_neg4, oa_ifno, oa_l2, oa_l3, oa_l4, oa_l5, oa_l6, oa_l7, oa_l8, oa_l9, oa_l10, oa_l12, oa_l15, oa_l16, oa_l20, oa_l32, oa_l40, oa_l42, oa_l48, oa_l64, oa_l90, oa_l96, oa_l97, oa_l98, oa_l99, oa_l100, oa_l120, oa_l360, oa_l450, oa_l457, oa_l458, oa_l480, oa_l528]
  · rintro t ⟨rfl, hd⟩ k
    simp (disch := (first | omega | assumption | decide)) only [b_X7_isSafeBy_11, hmany, oa_ut, oa_bs, oa_lt, oa_ile, oa_inle, oa_ilt, oa_inlt, oa_ieq, oa_ineq, oa_rd_nI, oa_wr_nI, oa_rd_0, oa_rd_1, oa_wr_0, oa_wr_1, oa_rdL_nI, oa_wrL_nI, oa_bi_if0, oa_bi_if1, oa_zc_bi, oa_if_b0, oa_if_b1, nI_1, nI_add, pk_mul, Nat.add_assoc, Int32.add_zero, Int32.sub_zero, Int32.or_zero, Int32.and_neg_one, va_up_s, va_up_n, upd_s, oa_up2, ite_self, if_true, if_false, oa_10, oa_01, oa_neg4, oa_ifno, oa_l2, oa_l3, oa_l4, oa_l5, oa_l6, oa_l7, oa_l8, oa_l9, oa_l10, oa_l12, oa_l15, oa_l16, oa_l20, oa_l32, oa_l40, oa_l42, oa_l48, oa_l64, oa_l90, oa_l96, oa_l97, oa_l98, oa_l99, oa_l100, oa_l120, oa_l360, oa_l450, oa_l457, oa_l458, oa_l480, oa_l528]
    rw [dcd_t hd]; rfl
end FW
section FWC
variable {n : Nat} {R G P : oa_P} {V : oa_I2}
/-- a village made ready -/
theorem ct_ready {s : Int32} (h : CT n R P V) : ∃ V', f_X5_makeReady V s = some V' ∧ (∀ r, r < n → V' 2 r = if bt s r = true then 0 else 192) ∧ CT n R P V' ∧ ∀ a, a ≠ 2 → V' a = V a := by
  have h6 := h.1
  unfold f_X5_makeReady l_X5_makeReady_2
  refine oa_forR (fun o => ∃ V', o = some V' ∧ (∀ r, r < n → V' 2 r = if bt s r = true then 0 else 192) ∧ CT n R P V' ∧ ∀ a, a ≠ 2 → V' a = V a) (fun i t => ∃ V', t = (V', nI i) ∧ (∀ r, r < i → V' 2 r = if bt s r = true then 0 else 192) ∧ CT n R P V' ∧ ∀ a, a ≠ 2 → V' a = V a) n ⟨V, rfl, fun p hp => absurd hp (Nat.not_lt_zero p), h, fun _ _ => rfl⟩ ?_ ?_ oa_fu (by rw [oa_fu_eq]; omega)
  · rintro i hi t ⟨W, rfl, hW, hc, ho⟩
    left
    refine ⟨(va_up W 2 (upd (W 2) i (if bt s i = true then 0 else 192)), nI (i + 1)), ⟨_, rfl, fun r hr => ?_, ?_, fun a ha => ?_⟩, fun k => ?_⟩
    · rw [va_up_s]
      by_cases e : r = i
      · rw [e, upd_s]
      · rw [upd_n _ _ e]; exact hW r (by omega)
    · obtain ⟨c1, c2, c3, c4⟩ := hc
      exact ⟨c1, c2, c3, c4⟩
    · rw [va_up_n _ _ ha]; exact ho a ha
    · cases hb : bt s i
      · simp (disch := (first | omega | assumption | decide)) only [b_X5_makeReady_2, b_X5_makeReady_30, hc.2.1, hb, oa_ut, oa_bs, oa_lt, oa_ile, oa_inle, oa_ilt, oa_inlt, oa_ieq, oa_ineq, oa_rd_nI, oa_wr_nI, oa_rd_0, oa_rd_1, oa_wr_0, oa_wr_1, oa_rdL_nI, oa_wrL_nI, oa_bi_if0, oa_bi_if1, oa_zc_bi, oa_if_b0, oa_if_b1, nI_1, nI_add, pk_mul, Nat.add_assoc, Int32.add_zero, Int32.sub_zero, Int32.or_zero, Int32.and_neg_one, va_up_s, va_up_n, upd_s, oa_up2, ite_self, if_true, if_false, oa_10, oa_01, oa_neg4, oa_ifno, oa_l2, oa_l3, oa_l4, oa_l5, oa_l6, oa_l7, oa_l8, oa_l9, oa_l10, oa_l12, oa_l15, oa_l16, oa_l20, oa_l32, oa_l40, oa_l42, oa_l48, oa_l64, oa_l90, oa_l96, oa_l97, oa_l98, oa_l99, oa_l100, oa_l120, oa_l360, oa_l450, oa_l457, oa_l458, oa_l480, oa_l528]
        rw [if_neg (by decide), if_neg (by decide)]
      · simp (disch := (first | omega | assumption | decide)) only [b_X5_makeReady_2, b_X5_makeReady_30, hc.2.1, hb, oa_ut, oa_bs, oa_lt, oa_ile, oa_inle, oa_ilt, oa_inlt, oa_ieq, oa_ineq, oa_rd_nI, oa_wr_nI, oa_rd_0, oa_rd_1, oa_wr_0, oa_wr_1, oa_rdL_nI, oa_wrL_nI, oa_bi_if0, oa_bi_if1, oa_zc_bi, oa_if_b0, oa_if_b1, nI_1, nI_add, pk_mul, Nat.add_assoc, Int32.add_zero, Int32.sub_zero, Int32.or_zero, Int32.and_neg_one, va_up_s, va_up_n, upd_s, oa_up2, ite_self, if_true, if_false, oa_10, oa_01, oa_neg4, oa_ifno, oa_l2, oa_l3, oa_l4, oa_l5, oa_l6, oa_l7, oa_l8, oa_l9, oa_l10, oa_l12, oa_l15, oa_l16, oa_l20, oa_l32, oa_l40, oa_l42, oa_l48, oa_l64, oa_l90, oa_l96, oa_l97, oa_l98, oa_l99, oa_l100, oa_l120, oa_l360, oa_l450, oa_l457, oa_l458, oa_l480, oa_l528]
  · rintro t ⟨W, rfl, hW, hc, ho⟩
    refine ⟨some W, ⟨W, rfl, hW, hc, ho⟩, fun k => ?_⟩
    simp (disch := (first | omega | assumption | decide)) only [b_X5_makeReady_2, hc.2.1, oa_ut, oa_bs, oa_lt, oa_ile, oa_inle, oa_ilt, oa_inlt, oa_ieq, oa_ineq, oa_rd_nI, oa_wr_nI, oa_rd_0, oa_rd_1, oa_wr_0, oa_wr_1, oa_rdL_nI, oa_wrL_nI, oa_bi_if0, oa_bi_if1, oa_zc_bi, oa_if_b0, oa_if_b1, nI_1, nI_add, pk_mul, Nat.add_assoc, Int32.add_zero, Int32.sub_zero, Int32.or_zero, Int32.and_neg_one, va_up_s, va_up_n, upd_s, oa_up2, ite_self, if_true, if_false, oa_10, oa_01, oa_neg4, oa_ifno, oa_l2, oa_l3, oa_l4, oa_l5, oa_l6, oa_l7, oa_l8, oa_l9, oa_l10, oa_l12, oa_l15, oa_l16, oa_l20, oa_l32, oa_l40, oa_l42, oa_l48, oa_l64, oa_l90, oa_l96, oa_l97, oa_l98, oa_l99, oa_l100, oa_l120, oa_l360, oa_l450, oa_l457, oa_l458, oa_l480, oa_l528]
theorem bt_192 : ∀ p, p < 6 → bt 192 p = false := by decide +kernel
theorem ct_readyOpen {s : Int32} (hR : R 0 = 1 ∨ R 0 = 2) (h : CT n R P V) (hs : ∀ r, r < n → V 2 r = if bt s r = true then 0 else 192) : f_X5_openWrongs V = some (omk (ops R P n s) n) := by
  have h6 := h.1
  rw [ct_openW h (m := fun p r => cabl R V p r && !fg P 3 r) (fun p hp => ct_ableAsSeen h (by omega))]
  refine congrArg some (omk_cong fun p hp q hq => ?_)
  unfold ops vls
  have : val R P q (fun r => cabl R V p r && !fg P 3 r) n = val R P q (fun r => (bt s r && !fg P 3 r) && !decide (r = p)) n := by
    refine val_cong fun r hr => ?_
    unfold cabl
    rw [hs r hr]
    cases hb : bt s r
    · rw [if_neg (by decide), oa_pc_192]
      have : ¬ (2 : Int32) < R 0 := by rcases hR with e | e <;> rw [e] <;> decide
      rw [decide_eq_false this]; rfl
    · rw [if_pos rfl, oa_pc_0, b_0]
      have : (0 : Int32) < R 0 := by rcases hR with e | e <;> rw [e] <;> decide
      rw [decide_eq_true this]
      cases fg P 3 r <;> cases decide (r = p) <;> rfl
  rw [this]
end FWC
