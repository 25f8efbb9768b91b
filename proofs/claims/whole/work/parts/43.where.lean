/-! where one more would do most good -/
theorem best_step {A F c : Nat} (hA : A ≤ 36) (hF : F ≤ A) (hc : c ≤ 36) : (nI A - nI c ≤ nI (A - F)) ↔ F ≤ c := by
  rw [Int32.le_iff_toInt_le, pk_sub_toInt (by omega) (by omega), nI_toInt (by omega)]
  omega
theorem cnt2_le (f : Nat → Nat → Bool) {n : Nat} (h6 : n ≤ 6) : c2N f n n ≤ 36 := by
  have := c2N_le f n n
  have h36 : n * n ≤ 6 * 6 := Nat.mul_le_mul h6 h6
  omega
def zr (r : Nat) (P : oa_P) : oa_P := it (fun j Q => upd Q (48 + (7 * r + j)) 0) 7 P
theorem zr_s {r k : Nat} {P : oa_P} : ∀ i, it (fun j Q => upd Q (48 + (7 * r + j)) 0) i P k = if 48 + 7 * r ≤ k ∧ k < 48 + (7 * r + i) then 0 else P k
  | 0 => by rw [if_neg (by omega)]; rfl
  | i + 1 => by
    rw [it_succ, upd_at, zr_s i]
    by_cases e : k = 48 + (7 * r + i)
    · rw [if_pos e, if_pos (by omega)]
    · rw [if_neg e]
      by_cases l : 48 + 7 * r ≤ k ∧ k < 48 + (7 * r + i)
      · rw [if_pos l, if_pos (by omega)]
      · rw [if_neg l, if_neg (by omega)]
theorem zr_at {r k : Nat} {P : oa_P} : zr r P k = if 48 + 7 * r ≤ k ∧ k < 48 + (7 * r + 7) then 0 else P k := zr_s 7
theorem zr_TR {r : Nat} {P : oa_P} (hr : r < 6) : TR P (zr r P) := fun k hk => by rw [zr_at, if_neg (by omega)]
theorem zr_an {r r' p : Nat} {P : oa_P} (hp : p < 7) : an (zr r P) r' p = if r' = r then false else an P r' p := by
  unfold an
  rw [zr_at]
  by_cases e : r' = r
  · rw [if_pos e, if_pos (by omega)]; decide
  · rw [if_neg e, if_neg (by omega)]
theorem mk_false : ∀ n, oa_mk (fun _ => false) n = 0
  | 0 => rfl
  | n + 1 => by rw [oa_mk_succ, if_neg (by decide)]; exact mk_false n
theorem cv_zr {n r : Nat} {R G P : oa_P} {V : oa_I2} (hr : r < 6) (h : CV n R G P V) : CV n R G (zr r P) (va_up V 2 (upd (V 2) r 0)) := by
  obtain ⟨h1, ⟨h2, h3⟩, h4, h5, h6, h7⟩ := h
  refine ⟨?_, ⟨fun r' hr' => ?_, fun r' hr' p hp ha => ?_⟩, fun k hk => ?_, ?_, ?_, ?_⟩
  · obtain ⟨g1, g2, g3, g4⟩ := ct_TR h1 (zr_TR hr)
    exact ⟨g1, g2, g3, g4⟩
  · rw [va_up_s]
    by_cases e : r' = r
    · rw [e, upd_s, ← mk_false 7]
      exact oa_mk_cong fun k hk => by rw [zr_an hk, if_pos rfl]
    · rw [upd_n _ _ e, h2 r' hr']
      exact oa_mk_cong fun k hk => by rw [zr_an hk, if_neg e]
  · rw [zr_an (by omega)] at ha
    by_cases e : r' = r
    · rw [if_pos e] at ha; cases ha
    · rw [if_neg e] at ha
      rw [va_up_n _ _ (by omega), zr_at, if_neg (by omega)]
      exact h3 r' hr' p hp ha
  · rw [va_up_n _ _ (by omega), zr_at, if_neg (by omega)]; exact h4 k hk
  · rw [va_up_n _ _ (by omega), zr_at, if_neg (by omega)]; exact h5
  · rw [va_up_n _ _ (by omega), zr_at, if_neg (by omega)]; exact h6
  · rw [va_up_n _ _ (by omega), zr_at, if_neg (by omega)]; exact h7
theorem fr_ext {R P Q : oa_P} {r : Nat} (hr : r < 6) (e : ∀ k, k < 90 → Q k = P k) : fr R Q r = fr R P r := by
  unfold fr
  rw [oa_cn_cong (g := an P r) (fun k hk => by unfold an; rw [e _ (by omega)])]
section C10
variable {B : oa_I3} {J : oa_J2} {M : oa_I2} {K : oa_J2}
theorem cpp_in {b k : Nat} {M' : oa_I2} (e : ∀ k, k < 100 → M' 1 k = M 1 k) (hk : k < 100) : cpp M' 0 b 100 k = M 1 k := by
  unfold cpp
  rw [if_pos hk, Nat.zero_add, e k hk]
theorem c_where (h : Rel B M) (x : Int32) : ∃ a B' M', f_X6_where B J x = some (a, B') ∧ f_X7_where M K x = some (a, M') ∧ Rel B' M' := by
  have h0 := h
  obtain ⟨n, L, hR, ⟨cv, hp, h99, tb⟩, hI, hT, hF, hS, hC⟩ := h
  have h6 := cv.1.1
  unfold f_X6_where f_X7_where
  simp (disch := (first | omega | assumption | decide)) only [f_within, f_in_0_1, f_in_0_2, f_in_0_3, f_in_0_4, f_in_0_6, f_in_0_7, f_in_0_12, f_in_0_20, f_in_0_99, f_in_1_4, f_in_1_99, cv_openW cv, pcL_omk (opn (M 2) (M 1) n) h6, md_openCount0 h99, oa_ut, oa_bs, oa_lt, oa_ile, oa_inle, oa_ilt, oa_inlt, oa_ieq, oa_ineq, oa_rd_0, oa_rd_1, oa_wr_0, oa_wr_1, oa_rdL_nI, oa_wrL_nI, oa_bi_if0, oa_bi_if1, oa_zc_bi, oa_if_b0, oa_if_b1, nI_1, nI_add, pk_mul, Nat.add_assoc, Int32.add_zero, Int32.sub_zero, Int32.or_zero, Int32.and_neg_one, ite_self, if_true, if_false, oa_10, oa_01, oa_neg4, oa_ifno, oa_l2, oa_l3, oa_l4, oa_l5, oa_l6, oa_l7, oa_l8, oa_l9, oa_l10, oa_l12, oa_l15, oa_l16, oa_l20, oa_l32, oa_l40, oa_l42, oa_l48, oa_l64, oa_l90, oa_l96, oa_l97, oa_l98, oa_l99, oa_l100, oa_l120, oa_l360, oa_l450, oa_l457, oa_l458, oa_l480, oa_l528]
  cases hx : oa_wi x 0 1
  · exact ⟨_, _, _, rfl, rfl, h0⟩
  obtain ⟨wh, _, wh2, rfl⟩ := oa_wi_t (a := 0) (b := 1) (by omega) hx (by omega)
  simp only [if_true]
  rw [cnt2_nI]
  have hA := cnt2_le (opn (M 2) (M 1) n) h6
  generalize c2N (opn (M 2) (M 1) n) n n = A at hA
  unfold l_X6_where_31 l_X7_where_27
  refine oa_for2 (fun o o' => ∃ a B' M', o = some (a, B') ∧ o' = some (a, M') ∧ Rel B' M') (fun i s t => ∃ B' Q b F, s = (B', b, nI (A - F), nI i) ∧ t = (oa_ms M 480 Q (M 0 9), b, nI F, nI i) ∧ (∀ a, a ≠ 1 → B' a = B a) ∧ F ≤ A ∧ (b = oNO ∨ ∃ r, r < 6 ∧ b = nI r)) n ?_ ?_ ?_ oa_fu oa_fu (by rw [oa_fu_eq]; omega) (by rw [oa_fu_eq]; omega)
  · exact ⟨B, oa_pg M 480, oNO, A, by rw [Nat.sub_self]; rfl, by rw [oa_ms_id]; rfl, fun _ _ => rfl, Nat.le_refl A, Or.inl rfl⟩
  · rintro i hi s t ⟨B', Q, b, F, rfl, rfl, hB, hFA, hb⟩ k l
    left
    have hn5 : B' 0 = B 0 := hB 0 (by omega)
    have hN : ∀ Q, HN M 480 n Q := fun Q => ⟨h6, by omega, Or.inr ⟨by omega, h99⟩⟩
    have hmany := md_many (K := K) (HN_ms (hN Q) (M 0 9))
    have hms : ∀ (Q : oa_P) k, k < 480 → oa_ms M 480 Q (M 0 9) 1 k = M 1 k := fun Q k hk => by rw [oa_ms_at, if_pos hk]
    have hfree : f_X7_isFree (oa_ms M 480 Q (M 0 9)) K 0 (nI i) = some (oa_bi (fr (M 2) (M 1) i)) := by
      rw [md_isFree0 (by omega), oa_ms_2, fr_ext (by omega) (fun k hk => hms Q k (by omega))]
    cases hf : fr (M 2) (M 1) i
    · have hcp := md_copies0 (M := oa_ms M 480 Q (M 0 9)) (K := K) (b := 480) (by omega) (by omega)
      rw [oa_ms_ms, oa_ms_09] at hcp
      have hpg : ∀ k, k < 100 → cpp (oa_ms M 480 Q (M 0 9)) 0 480 100 k = M 1 k := fun k hk => cpp_in (fun k hk => hms Q k (by omega)) hk
      generalize cpp (oa_ms M 480 Q (M 0 9)) 0 480 100 = Q1 at hcp hpg
      have cz : CV n (M 2) (fun _ => 0) (zr i Q1) (va_up (oa_cpy (B' 1) (B 0)) 2 (upd (oa_cpy (B' 1) (B 0) 2) i 0)) :=
        cv_zr (by omega) (CV_ext (fun k hk => hpg k (by omega)) (cv_cpy cv))
      generalize hV : va_up (oa_cpy (B' 1) (B 0)) 2 (upd (oa_cpy (B' 1) (B 0) 2) i 0) = V' at cz
      have hc36 := cnt2_le (opn (M 2) (zr i Q1) n) h6
      have hoc : f_X7_openCount (oa_ms M 480 (zr i Q1) (M 0 9)) K (nI 480) = some (nI (c2N (opn (M 2) (zr i Q1) n) n n)) := by
        rw [md_openCount (HN_ms (hN _) (M 0 9)) h6 (by omega), oa_ms_pg, oa_ms_2, cnt2_nI]
      have hcc : f_J13_bitCount_95d88 (omk (opn (M 2) (zr i Q1) n) n) = some (nI (c2N (opn (M 2) (zr i Q1) n) n n)) := by
        rw [pcL_omk _ h6, cnt2_nI]
      generalize c2N (opn (M 2) (zr i Q1) n) n n = c at hc36 hoc hcc
      have hml : l_X7_where_57 K (nI wh) (nI A) b (nI F) (nI i) (fun M x3 x4 x5 => l (M, x3, x4, x5)) oa_fu (oa_ms M 480 Q1 (M 0 9)) 0 = if nI F ≤ nI c then l (oa_ms M 480 (zr i Q1) (M 0 9), b, nI F, nI (i + 1)) else l (oa_ms M 480 (zr i Q1) (M 0 9), nI i, nI c, nI (i + 1)) := by
        unfold l_X7_where_57
        refine oa_for (fun j => (oa_ms M 480 (it (fun j Q => upd Q (48 + (7 * i + j)) 0) j Q1) (M 0 9), nI j)) 7 rfl ?_ ?_ oa_fu (by rw [oa_fu_eq]; omega)
        · intro j hj k'
          simp (disch := (first | omega | assumption | decide)) only [b_X7_where_57, oa_ms_wr' (a := 480) (j := 528 + (7 * i + j)) (k := 48 + (7 * i + j)), oa_ms_up, it_succ, oa_ut, oa_bs, oa_lt, oa_ile, oa_inle, oa_ilt, oa_inlt, oa_ieq, oa_ineq, oa_rd_0, oa_rd_1, oa_wr_0, oa_wr_1, oa_rdL_nI, oa_wrL_nI, oa_bi_if0, oa_bi_if1, oa_zc_bi, oa_if_b0, oa_if_b1, nI_1, nI_add, pk_mul, Nat.add_assoc, Int32.add_zero, Int32.sub_zero, Int32.or_zero, Int32.and_neg_one, ite_self, if_true, if_false, oa_10, oa_01, oa_neg4, oa_ifno, oa_l2, oa_l3, oa_l4, oa_l5, oa_l6, oa_l7, oa_l8, oa_l9, oa_l10, oa_l12, oa_l15, oa_l16, oa_l20, oa_l32, oa_l40, oa_l42, oa_l48, oa_l64, oa_l90, oa_l96, oa_l97, oa_l98, oa_l99, oa_l100, oa_l120, oa_l360, oa_l450, oa_l457, oa_l458, oa_l480, oa_l528]
        · intro k'
          show b_X7_where_57 K (nI wh) (nI A) b (nI F) (nI i) (fun M x3 x4 x5 => l (M, x3, x4, x5)) (fun M x6 => k' (M, x6)) (oa_ms M 480 (zr i Q1) (M 0 9)) (nI 7) = _
          simp (disch := (first | omega | assumption | decide)) only [b_X7_where_57, hoc, oa_ut, oa_bs, oa_lt, oa_ile, oa_inle, oa_ilt, oa_inlt, oa_ieq, oa_ineq, oa_rd_0, oa_rd_1, oa_wr_0, oa_wr_1, oa_rdL_nI, oa_wrL_nI, oa_bi_if0, oa_bi_if1, oa_zc_bi, oa_if_b0, oa_if_b1, nI_1, nI_add, pk_mul, Nat.add_assoc, Int32.add_zero, Int32.sub_zero, Int32.or_zero, Int32.and_neg_one, ite_self, if_true, if_false, oa_10, oa_01, oa_neg4, oa_ifno, oa_l2, oa_l3, oa_l4, oa_l5, oa_l6, oa_l7, oa_l8, oa_l9, oa_l10, oa_l12, oa_l15, oa_l16, oa_l20, oa_l32, oa_l40, oa_l42, oa_l48, oa_l64, oa_l90, oa_l96, oa_l97, oa_l98, oa_l99, oa_l100, oa_l120, oa_l360, oa_l450, oa_l457, oa_l458, oa_l480, oa_l528]
          by_cases e : nI F ≤ nI c
          · simp (disch := (first | omega | assumption | decide)) only [if_pos e, b_X7_where_110, oa_ut, oa_bs, oa_lt, oa_ile, oa_inle, oa_ilt, oa_inlt, oa_ieq, oa_ineq, oa_rd_0, oa_rd_1, oa_wr_0, oa_wr_1, oa_rdL_nI, oa_wrL_nI, oa_bi_if0, oa_bi_if1, oa_zc_bi, oa_if_b0, oa_if_b1, nI_1, nI_add, pk_mul, Nat.add_assoc, Int32.add_zero, Int32.sub_zero, Int32.or_zero, Int32.and_neg_one, ite_self, if_true, if_false, oa_10, oa_01, oa_neg4, oa_ifno, oa_l2, oa_l3, oa_l4, oa_l5, oa_l6, oa_l7, oa_l8, oa_l9, oa_l10, oa_l12, oa_l15, oa_l16, oa_l20, oa_l32, oa_l40, oa_l42, oa_l48, oa_l64, oa_l90, oa_l96, oa_l97, oa_l98, oa_l99, oa_l100, oa_l120, oa_l360, oa_l450, oa_l457, oa_l458, oa_l480, oa_l528]
          · simp (disch := (first | omega | assumption | decide)) only [if_neg e, b_X7_where_110, oa_ut, oa_bs, oa_lt, oa_ile, oa_inle, oa_ilt, oa_inlt, oa_ieq, oa_ineq, oa_rd_0, oa_rd_1, oa_wr_0, oa_wr_1, oa_rdL_nI, oa_wrL_nI, oa_bi_if0, oa_bi_if1, oa_zc_bi, oa_if_b0, oa_if_b1, nI_1, nI_add, pk_mul, Nat.add_assoc, Int32.add_zero, Int32.sub_zero, Int32.or_zero, Int32.and_neg_one, ite_self, if_true, if_false, oa_10, oa_01, oa_neg4, oa_ifno, oa_l2, oa_l3, oa_l4, oa_l5, oa_l6, oa_l7, oa_l8, oa_l9, oa_l10, oa_l12, oa_l15, oa_l16, oa_l20, oa_l32, oa_l40, oa_l42, oa_l48, oa_l64, oa_l90, oa_l96, oa_l97, oa_l98, oa_l99, oa_l100, oa_l120, oa_l360, oa_l450, oa_l457, oa_l458, oa_l480, oa_l528]
      have hB2 : ∀ a, a ≠ 1 → va_up B' 1 V' a = B a := fun a ha => by rw [va_up_n _ _ ha]; exact hB a ha
      simp (disch := (first | omega | assumption | decide)) only [b_X6_where_31, b_X7_where_27, hn5, cv.1.2.1, hmany, hfree, hf, cv_isFree cv, f_copyOf, hcp, oa_ut, oa_bs, oa_lt, oa_ile, oa_inle, oa_ilt, oa_inlt, oa_ieq, oa_ineq, oa_rd_0, oa_rd_1, oa_wr_0, oa_wr_1, oa_rdL_nI, oa_wrL_nI, oa_bi_if0, oa_bi_if1, oa_zc_bi, oa_if_b0, oa_if_b1, nI_1, nI_add, pk_mul, Nat.add_assoc, Int32.add_zero, Int32.sub_zero, Int32.or_zero, Int32.and_neg_one, ite_self, if_true, if_false, oa_10, oa_01, oa_neg4, oa_ifno, oa_l2, oa_l3, oa_l4, oa_l5, oa_l6, oa_l7, oa_l8, oa_l9, oa_l10, oa_l12, oa_l15, oa_l16, oa_l20, oa_l32, oa_l40, oa_l42, oa_l48, oa_l64, oa_l90, oa_l96, oa_l97, oa_l98, oa_l99, oa_l100, oa_l120, oa_l360, oa_l450, oa_l457, oa_l458, oa_l480, oa_l528]
      rw [if_neg (by decide), if_neg (by decide), hml]
      simp (disch := (first | omega | assumption | decide)) only [va_up_s, oa_wr_nI, oa_up2, hV, cv_openW cz, hcc, oa_ut, oa_bs, oa_lt, oa_ile, oa_inle, oa_ilt, oa_inlt, oa_ieq, oa_ineq, oa_rd_0, oa_rd_1, oa_wr_0, oa_wr_1, oa_rdL_nI, oa_wrL_nI, oa_bi_if0, oa_bi_if1, oa_zc_bi, oa_if_b0, oa_if_b1, nI_1, nI_add, pk_mul, Nat.add_assoc, Int32.add_zero, Int32.sub_zero, Int32.or_zero, Int32.and_neg_one, ite_self, if_true, if_false, oa_10, oa_01, oa_neg4, oa_ifno, oa_l2, oa_l3, oa_l4, oa_l5, oa_l6, oa_l7, oa_l8, oa_l9, oa_l10, oa_l12, oa_l15, oa_l16, oa_l20, oa_l32, oa_l40, oa_l42, oa_l48, oa_l64, oa_l90, oa_l96, oa_l97, oa_l98, oa_l99, oa_l100, oa_l120, oa_l360, oa_l450, oa_l457, oa_l458, oa_l480, oa_l528]
      by_cases e : F ≤ c
      · rw [if_pos ((best_step hA hFA hc36).mpr e), if_pos (nI_le e (by omega))]
        exact ⟨_, _, ⟨_, _, b, F, rfl, rfl, hB2, hFA, hb⟩, rfl, rfl⟩
      · rw [if_neg (fun d => e ((best_step hA hFA hc36).mp d)), if_neg (nI_ge (by omega) (by omega)), pk_sub (show c ≤ A by omega)]
        exact ⟨_, _, ⟨_, _, nI i, c, rfl, rfl, hB2, by omega, Or.inr ⟨i, by omega, rfl⟩⟩, rfl, rfl⟩
    · simp (disch := (first | omega | assumption | decide)) only [b_X6_where_31, b_X7_where_27, hn5, cv.1.2.1, hmany, hfree, hf, cv_isFree cv, oa_ut, oa_bs, oa_lt, oa_ile, oa_inle, oa_ilt, oa_inlt, oa_ieq, oa_ineq, oa_rd_0, oa_rd_1, oa_wr_0, oa_wr_1, oa_rdL_nI, oa_wrL_nI, oa_bi_if0, oa_bi_if1, oa_zc_bi, oa_if_b0, oa_if_b1, nI_1, nI_add, pk_mul, Nat.add_assoc, Int32.add_zero, Int32.sub_zero, Int32.or_zero, Int32.and_neg_one, ite_self, if_true, if_false, oa_10, oa_01, oa_neg4, oa_ifno, oa_l2, oa_l3, oa_l4, oa_l5, oa_l6, oa_l7, oa_l8, oa_l9, oa_l10, oa_l12, oa_l15, oa_l16, oa_l20, oa_l32, oa_l40, oa_l42, oa_l48, oa_l64, oa_l90, oa_l96, oa_l97, oa_l98, oa_l99, oa_l100, oa_l120, oa_l360, oa_l450, oa_l457, oa_l458, oa_l480, oa_l528]
      exact ⟨_, _, ⟨B', Q, b, F, rfl, rfl, hB, hFA, hb⟩, rfl, rfl⟩
  · rintro s t ⟨B', Q, b, F, rfl, rfl, hB, hFA, hb⟩ k l
    have hn5 : B' 0 = B 0 := hB 0 (by omega)
    have hN : HN M 480 n Q := ⟨h6, by omega, Or.inr ⟨by omega, h99⟩⟩
    have hmany := md_many (K := K) (HN_ms hN (M 0 9))
    have hrel : Rel B' (oa_ms M 480 Q (M 0 9)) := Rel_tr h0 hB (by omega)
    simp (disch := (first | omega | assumption | decide)) only [b_X6_where_31, b_X7_where_27, hn5, cv.1.2.1, hmany, pk_sub hFA, oa_ut, oa_bs, oa_lt, oa_ile, oa_inle, oa_ilt, oa_inlt, oa_ieq, oa_ineq, oa_rd_0, oa_rd_1, oa_wr_0, oa_wr_1, oa_rdL_nI, oa_wrL_nI, oa_bi_if0, oa_bi_if1, oa_zc_bi, oa_if_b0, oa_if_b1, nI_1, nI_add, pk_mul, Nat.add_assoc, Int32.add_zero, Int32.sub_zero, Int32.or_zero, Int32.and_neg_one, ite_self, if_true, if_false, oa_10, oa_01, oa_neg4, oa_ifno, oa_l2, oa_l3, oa_l4, oa_l5, oa_l6, oa_l7, oa_l8, oa_l9, oa_l10, oa_l12, oa_l15, oa_l16, oa_l20, oa_l32, oa_l40, oa_l42, oa_l48, oa_l64, oa_l90, oa_l96, oa_l97, oa_l98, oa_l99, oa_l100, oa_l120, oa_l360, oa_l450, oa_l457, oa_l458, oa_l480, oa_l528]
    by_cases w0 : wh = 0
    · subst w0
      simp (disch := (first | omega | assumption | decide)) only [nI_0, oa_ut, oa_bs, oa_lt, oa_ile, oa_inle, oa_ilt, oa_inlt, oa_ieq, oa_ineq, oa_rd_0, oa_rd_1, oa_wr_0, oa_wr_1, oa_rdL_nI, oa_wrL_nI, oa_bi_if0, oa_bi_if1, oa_zc_bi, oa_if_b0, oa_if_b1, nI_1, nI_add, pk_mul, Nat.add_assoc, Int32.add_zero, Int32.sub_zero, Int32.or_zero, Int32.and_neg_one, ite_self, if_true, if_false, oa_10, oa_01, oa_neg4, oa_ifno, oa_l2, oa_l3, oa_l4, oa_l5, oa_l6, oa_l7, oa_l8, oa_l9, oa_l10, oa_l12, oa_l15, oa_l16, oa_l20, oa_l32, oa_l40, oa_l42, oa_l48, oa_l64, oa_l90, oa_l96, oa_l97, oa_l98, oa_l99, oa_l100, oa_l120, oa_l360, oa_l450, oa_l457, oa_l458, oa_l480, oa_l528]
      rcases hb with rfl | ⟨r, hr, rfl⟩
      · simp only [if_true]
        exact ⟨_, _, _, rfl, rfl, hrel⟩
      · simp (disch := (first | omega | assumption | decide)) only [oa_ut, oa_bs, oa_lt, oa_ile, oa_inle, oa_ilt, oa_inlt, oa_ieq, oa_ineq, oa_rd_0, oa_rd_1, oa_wr_0, oa_wr_1, oa_rdL_nI, oa_wrL_nI, oa_bi_if0, oa_bi_if1, oa_zc_bi, oa_if_b0, oa_if_b1, nI_1, nI_add, pk_mul, Nat.add_assoc, Int32.add_zero, Int32.sub_zero, Int32.or_zero, Int32.and_neg_one, ite_self, if_true, if_false, oa_10, oa_01, oa_neg4, oa_ifno, oa_l2, oa_l3, oa_l4, oa_l5, oa_l6, oa_l7, oa_l8, oa_l9, oa_l10, oa_l12, oa_l15, oa_l16, oa_l20, oa_l32, oa_l40, oa_l42, oa_l48, oa_l64, oa_l90, oa_l96, oa_l97, oa_l98, oa_l99, oa_l100, oa_l120, oa_l360, oa_l450, oa_l457, oa_l458, oa_l480, oa_l528]
        exact ⟨_, _, _, rfl, rfl, hrel⟩
    · have n0 : ¬ nI wh = 0 := nI_ne0 (by omega) (by omega)
      rcases hb with rfl | ⟨r, hr, rfl⟩
      · simp only [if_neg n0, if_true]
        exact ⟨_, _, _, rfl, rfl, hrel⟩
      · simp (disch := (first | omega | assumption | decide)) only [if_neg n0, oa_ut, oa_bs, oa_lt, oa_ile, oa_inle, oa_ilt, oa_inlt, oa_ieq, oa_ineq, oa_rd_0, oa_rd_1, oa_wr_0, oa_wr_1, oa_rdL_nI, oa_wrL_nI, oa_bi_if0, oa_bi_if1, oa_zc_bi, oa_if_b0, oa_if_b1, nI_1, nI_add, pk_mul, Nat.add_assoc, Int32.add_zero, Int32.sub_zero, Int32.or_zero, Int32.and_neg_one, ite_self, if_true, if_false, oa_10, oa_01, oa_neg4, oa_ifno, oa_l2, oa_l3, oa_l4, oa_l5, oa_l6, oa_l7, oa_l8, oa_l9, oa_l10, oa_l12, oa_l15, oa_l16, oa_l20, oa_l32, oa_l40, oa_l42, oa_l48, oa_l64, oa_l90, oa_l96, oa_l97, oa_l98, oa_l99, oa_l100, oa_l120, oa_l360, oa_l450, oa_l457, oa_l458, oa_l480, oa_l528]
        exact ⟨_, _, _, rfl, rfl, hrel⟩
end C10
