/-! what would be with other rules, of another sort; images; how many -/
section C4
variable {B : oa_I3} {J : oa_J2} {M : oa_I2} {K : oa_J2}
theorem cv_law {n : Nat} {R G P : oa_P} {V : oa_I2} {x : Int32} (h : CV n R G P V) : CV n (upd R 0 x) G P (va_up V 0 (upd (V 0) 0 x)) := by
  obtain ⟨⟨a1, a2, a3, a4⟩, h2⟩ := h
  refine ⟨⟨a1, a2, fun k hk => ?_, a4⟩, h2⟩
  show upd (V 0) 0 x k = upd R 0 x k
  by_cases e : k = 0
  · rw [e, upd_s, upd_s]
  · rw [upd_n _ _ e, upd_n _ _ e]; exact a3 k hk
theorem cv_sort {n p : Nat} {R G P : oa_P} {V : oa_I2} {x : Int32} (hp : p < n) (h : CV n R G P V) : CV n R G (upd P (8 * p) x) (va_up V 1 (upd (V 1) p x)) := by
  obtain ⟨⟨a1, a2, a3, a4⟩, ⟨h2, h3⟩, h4, h5, h6, h7⟩ := h
  have ea : ∀ r, r < 6 → ∀ q, q < 7 → an (upd P (8 * p) x) r q = an P r q := by
    intro r hr q hq
    unfold an
    rw [upd_n _ _ (by omega)]
  refine ⟨⟨a1, a2, a3, fun w hw p' hp' => ?_⟩, ⟨fun r hr => ?_, fun r hr q hq ha => ?_⟩, fun k hk => ?_, ?_, ?_, ?_⟩
  · show upd (V 1) p x (w * 6 + p') = _
    by_cases e : p' = p ∧ w = 0
    · rw [e.1, e.2, Nat.zero_mul, Nat.zero_add, Nat.add_zero, upd_s, upd_s]
    · rw [upd_n _ _ (by omega), upd_n _ _ (by omega)]; exact a4 w hw p' hp'
  · exact (h2 r hr).trans (oa_mk_cong fun k hk => (ea r hr k hk).symm)
  · rw [ea r hr q (by omega)] at ha
    rw [upd_n _ _ (by omega)]; exact h3 r hr q hq ha
  · rw [upd_n _ _ (by omega)]; exact h4 k hk
  · rw [upd_n _ _ (by omega)]; exact h5
  · rw [upd_n _ _ (by omega)]; exact h6
  · rw [upd_n _ _ (by omega)]; exact h7
theorem PW_lo {n L k : Nat} {P : oa_P} {x : Int32} (h : PW n L P) (hk : k < 48 := by omega) : PW n L (upd P k x) := by
  intro r hr q hq
  obtain ⟨a, b1, b2⟩ := h r hr q hq
  exact ⟨a, by rw [upd_n _ _ (by omega), b1], b2⟩
theorem T0_same {M' : oa_I2} {P : oa_P} (e : ∀ k, k < 99 → M' 1 k = P k) {k : Nat} (hk : k < 99) : T0 M' k = pz P k := by
  rw [T0_at hk]
  unfold pz
  rw [e k hk]
theorem oa_ms_k {a k : Nat} {P : oa_P} {w : Int32} (h0 : k ≠ 0) (h1 : k ≠ 1) : oa_ms M a P w k = M k := by
  unfold oa_ms
  rw [if_neg h1, if_neg h0]
theorem oa_ms_0k {a k : Nat} {P : oa_P} {w : Int32} (h : k ≠ 9) : oa_ms M a P w 0 k = M 0 k := by
  show upd (M 0) 9 w k = _
  rw [upd_n _ _ h]
/-- rules set and set back around a trial -/
theorem SMx_law {M2 : oa_I2} {a b : Nat} {P Q : oa_P} {w v : Int32} {g g' : oa_P} (h2 : M2 = va_up (oa_ms M a P w) 2 g) (hg : g' = M 2) : SMx M (va_up (oa_ms M2 b Q v) 2 g') := by
  subst hg
  have e : ∀ k, k ≠ 0 → k ≠ 1 → va_up (oa_ms M2 b Q v) 2 (M 2) k = M k := by
    intro k k0 k1
    by_cases k2 : k = 2
    · rw [k2, va_up_s]
    · rw [va_up_n _ _ k2, oa_ms_k k0 k1, h2, va_up_n _ _ k2, oa_ms_k k0 k1]
  have e0 : ∀ k, k ≠ 9 → va_up (oa_ms M2 b Q v) 2 (M 2) 0 k = M 0 k := by
    intro k hk
    rw [va_up_n _ _ (by omega), oa_ms_0k hk, h2, va_up_n _ _ (by omega), oa_ms_0k hk]
  exact ⟨e 2 (by omega) (by omega), e0 0 (by omega), e0 1 (by omega), e0 10 (by omega), e 5 (by omega) (by omega), e 6 (by omega) (by omega), e 7 (by omega) (by omega), e 11 (by omega) (by omega), e 12 (by omega) (by omega), e 13 (by omega) (by omega), e 14 (by omega) (by omega)⟩
theorem c_two (h : Rel B M) (x : Int32) : ∃ a B' M', f_X6_two B J x = some (a, B') ∧ f_X7_two M K x = some (a, M') ∧ Rel B' M' := by
  have h0 := h
  obtain ⟨n, L, hR, ⟨cv, hp, h99, tb⟩, hI, hT, hF, hS, hC⟩ := h
  have h6 := cv.1.1
  unfold f_X6_two f_X7_two
  have hb0 : B 0 0 0 = M 2 0 := cv.1.2.2.1 0 (by omega)
  simp (disch := (first | omega | assumption | decide)) only [f_within, f_in_0_1, f_in_0_2, f_in_0_3, f_in_0_4, f_in_0_6, f_in_0_7, f_in_0_12, f_in_0_20, f_in_0_99, f_in_1_4, f_in_1_99, hb0, oa_ut, oa_bs, oa_lt, oa_ile, oa_inle, oa_ilt, oa_inlt, oa_ieq, oa_ineq, oa_rd_0, oa_rd_1, oa_wr_0, oa_wr_1, oa_rdL_nI, oa_wrL_nI, oa_bi_if0, oa_bi_if1, oa_zc_bi, oa_if_b0, oa_if_b1, nI_1, nI_add, pk_mul, Nat.add_assoc, Int32.add_zero, Int32.sub_zero, Int32.or_zero, Int32.and_neg_one, ite_self, if_true, if_false, oa_10, oa_01, oa_neg4, oa_ifno, oa_l2, oa_l3, oa_l4, oa_l5, oa_l6, oa_l7, oa_l8, oa_l9, oa_l10, oa_l12, oa_l15, oa_l16, oa_l20, oa_l32, oa_l40, oa_l42, oa_l48, oa_l64, oa_l90, oa_l96, oa_l97, oa_l98, oa_l99, oa_l100, oa_l120, oa_l360, oa_l450, oa_l457, oa_l458, oa_l480, oa_l528]
  cases hx : oa_wi x 1 (nI 99)
  · exact ⟨_, _, _, rfl, rfl, h0⟩
  obtain ⟨m, m1, m2, rfl⟩ := oa_wi_t (a := 1) (by omega) hx (by omega)
  rcases hR.2 with e | e
  case inr =>
    simp only [e, if_true, if_pos (show (2 : Int32) = nI 2 from oa_l2)]
    exact ⟨_, _, _, rfl, rfl, h0⟩
  have n12 : ¬ (1 : Int32) = nI 2 := by decide
  obtain ⟨V1, a1, a2, a3⟩ := cv_passWeeks (m := m) hR.1 m2 (cv_trial (U := B 1) cv) (PW_trial hp)
  have t1 := md_tries (K := K) h99 h6 m2
  simp only [e, if_neg n12, if_true, f_copyOf, oa_bs, oa_lt, va_up_s, a1, oa_ut, oa_up2, t1, va_up_n B V1 (show (0 : Nat) ≠ 1 by omega)]
  generalize hW : wks (M 2) n m (T0 M) = W at a2 a3
  have hM8 : ∀ k, k < 360 → oa_ms M 360 W.1 W.2 1 k = M 1 k := fun k hk => by rw [oa_ms_at, if_pos hk]
  rw [oa_ms_rd' (j := 457) (k := 97) (by omega) (by omega)]
  simp only [oa_bs, oa_lt, oa_ms_2]
  generalize hM15 : va_up (oa_ms M 360 W.1 W.2) 2 (upd (M 2) 0 (nI 2)) = M15
  have m15_1 : M15 1 = oa_ms M 360 W.1 W.2 1 := by rw [← hM15]; rfl
  have m15_2 : M15 2 = upd (M 2) 0 (nI 2) := by rw [← hM15]; rfl
  have hn15 : M15 1 99 = nI n := by rw [m15_1, hM8 99 (by omega)]; exact h99
  have t2 := md_tries (K := K) hn15 h6 m2
  have cvt : CV n (M15 2) (gz (M 1)) (T0 M15) (va_up (oa_cpy V1 (B 0)) 0 (upd (oa_cpy V1 (B 0) 0) 0 (nI 2))) := by
    rw [m15_2]
    exact CV_ext (fun k hk => T0_same (fun j hj => by rw [m15_1]; exact hM8 j (by omega)) hk) (cv_law (cv_zero (cv_cpy cv)))
  have pwt : PW n L (T0 M15) := PW_ext (fun k hk => by
    rw [T0_same (P := M 1) (fun j hj => by rw [m15_1]; exact hM8 j (by omega)) (by omega)]
    unfold pz; rw [if_neg (by omega)]) hp
  have rb : RB (M15 2) L := by rw [m15_2]; exact ⟨by rw [upd_n _ _ (by omega)]; exact hR.1.1, hR.1.2⟩
  obtain ⟨V2, b1, b2, b3⟩ := cv_passWeeks (m := m) rb m2 cvt pwt
  simp only [oa_up2, va_up_s, oa_bs, oa_lt, b1, oa_ut, t2]
  generalize hW2 : wks (M15 2) n m (T0 M15) = W2 at b2 b3
  simp only [oa_bs, oa_lt, oa_ms_2, va_up_n (oa_ms M15 360 W2.1 W2.2) (upd (M15 2) 0 1) (show (1 : Nat) ≠ 2 by omega)]
  rw [oa_ms_rd' (j := 457) (k := 97) (by omega) (by omega)]
  simp only [oa_bs]
  have q1 : V1 5 2 - oa_cpy (B 1) (B 0) 5 2 = W.1 97 := by
    show V1 5 2 - B 0 5 2 = _
    rw [a2.2.2.2.2.1, cv.2.2.2.2.1, Int32.add_zero]
    exact Int32.add_sub_cancel _ _
  have q2 : V2 5 2 - va_up (oa_cpy V1 (B 0)) 0 (upd (oa_cpy V1 (B 0) 0) 0 (nI 2)) 5 2 = W2.1 97 := by
    show V2 5 2 - B 0 5 2 = _
    rw [b2.2.2.2.2.1, cv.2.2.2.2.1, Int32.add_zero]
    exact Int32.add_sub_cancel _ _
  rw [q1, q2, oa_r3]
  generalize 100000 + W2.1 97 - W.1 97 = v
  have hg : upd (M15 2) 0 1 = M 2 := by
    have : upd (M 2) 0 (M 2 0) = M 2 := upd_id _ _
    rw [e] at this
    rw [m15_2, upd_upd, this]
  have hk1 : ∀ k, k < 360 → va_up (oa_ms M15 360 W2.1 W2.2) 2 (upd (M15 2) 0 1) 1 k = M 1 k := by
    intro k hk
    rw [va_up_n _ _ (by omega), oa_ms_at, if_pos hk, m15_1, hM8 k hk]
  have hrel : Rel (va_up B 1 V2) (va_up (oa_ms M15 360 W2.1 W2.2) 2 (upd (M15 2) 0 1)) := Rel_step h0 (SMx_law hM15.symm hg) (fun k h1 hk => hk1 k hk) (fun a h1 h2 => va_up_n _ _ (by omega)) (fun n' L' _ hv => RV_ext (fun k hk => hk1 k (by omega)) hv)
  exact ⟨_, _, _, rfl, rfl, hrel⟩
theorem c_were (h : Rel B M) (x y z : Int32) : ∃ a B' M', f_X6_were B J x y z = some (a, B') ∧ f_X7_were M K x y z = some (a, M') ∧ Rel B' M' := by
  have h0 := h
  obtain ⟨n, L, hR, ⟨cv, hp, h99, tb⟩, hI, hT, hF, hS, hC⟩ := h
  have h6 := cv.1.1
  unfold f_X6_were f_X7_were
  simp (disch := (first | omega | assumption | decide)) only [ct_has cv.1, md_isOne h99, f_within, f_in_0_1, f_in_0_2, f_in_0_3, f_in_0_4, f_in_0_6, f_in_0_7, f_in_0_12, f_in_0_20, f_in_0_99, f_in_1_4, f_in_1_99, oa_ut, oa_bs, oa_lt, oa_ile, oa_inle, oa_ilt, oa_inlt, oa_ieq, oa_ineq, oa_rd_0, oa_rd_1, oa_wr_0, oa_wr_1, oa_rdL_nI, oa_wrL_nI, oa_bi_if0, oa_bi_if1, oa_zc_bi, oa_if_b0, oa_if_b1, nI_1, nI_add, pk_mul, Nat.add_assoc, Int32.add_zero, Int32.sub_zero, Int32.or_zero, Int32.and_neg_one, ite_self, if_true, if_false, oa_10, oa_01, oa_neg4, oa_ifno, oa_l2, oa_l3, oa_l4, oa_l5, oa_l6, oa_l7, oa_l8, oa_l9, oa_l10, oa_l12, oa_l15, oa_l16, oa_l20, oa_l32, oa_l40, oa_l42, oa_l48, oa_l64, oa_l90, oa_l96, oa_l97, oa_l98, oa_l99, oa_l100, oa_l120, oa_l360, oa_l450, oa_l457, oa_l458, oa_l480, oa_l528]
  cases hx : oa_wi x 0 (nI n - 1)
  · exact ⟨_, _, _, rfl, rfl, h0⟩
  obtain ⟨p, hpn, rfl⟩ := oa_has_t h6 hx
  cases hy : oa_wi y 0 (nI 4)
  · exact ⟨_, _, _, rfl, rfl, h0⟩
  cases hz : oa_wi z 1 (nI 99)
  · exact ⟨_, _, _, rfl, rfl, h0⟩
  obtain ⟨m, m1, m2, rfl⟩ := oa_wi_t (a := 1) (by omega) hz (by omega)
  obtain ⟨V1, a1, a2, a3⟩ := cv_passWeeks (m := m) hR.1 m2 (cv_trial (U := B 1) cv) (PW_trial hp)
  have t1 := md_tries (K := K) h99 h6 m2
  simp only [if_true, f_copyOf, oa_bs, oa_lt, va_up_s, a1, oa_ut, oa_up2, t1, va_up_n B V1 (show (0 : Nat) ≠ 1 by omega)]
  generalize hW : wks (M 2) n m (T0 M) = W at a2 a3
  have hM8 : ∀ k, k < 360 → oa_ms M 360 W.1 W.2 1 k = M 1 k := fun k hk => by rw [oa_ms_at, if_pos hk]
  simp (disch := (first | omega | assumption | decide)) only [oa_rd_nI (f := V1 4), oa_ms_rd' (M := M) (a := 360) (j := 450 + p) (k := 90 + p), oa_rd_nI (f := oa_ms M 360 W.1 W.2 1) (i := 8 * p), oa_wr_nI (f := oa_ms M 360 W.1 W.2 1), hM8, oa_ut, oa_bs, oa_lt, oa_ile, oa_inle, oa_ilt, oa_inlt, oa_ieq, oa_ineq, oa_rd_0, oa_rd_1, oa_wr_0, oa_wr_1, oa_rdL_nI, oa_wrL_nI, oa_bi_if0, oa_bi_if1, oa_zc_bi, oa_if_b0, oa_if_b1, nI_1, nI_add, pk_mul, Nat.add_assoc, Int32.add_zero, Int32.sub_zero, Int32.or_zero, Int32.and_neg_one, ite_self, if_true, if_false, oa_10, oa_01, oa_neg4, oa_ifno, oa_l2, oa_l3, oa_l4, oa_l5, oa_l6, oa_l7, oa_l8, oa_l9, oa_l10, oa_l12, oa_l15, oa_l16, oa_l20, oa_l32, oa_l40, oa_l42, oa_l48, oa_l64, oa_l90, oa_l96, oa_l97, oa_l98, oa_l99, oa_l100, oa_l120, oa_l360, oa_l450, oa_l457, oa_l458, oa_l480, oa_l528]
  generalize hM22 : va_up (oa_ms M 360 W.1 W.2) 1 (upd (oa_ms M 360 W.1 W.2 1) (8 * p) y) = M22
  have m22 : ∀ k, k < 360 → M22 1 k = upd (M 1) (8 * p) y k := by
    intro k hk
    rw [← hM22]
    show upd (oa_ms M 360 W.1 W.2 1) (8 * p) y k = _
    by_cases e : k = 8 * p
    · rw [e, upd_s, upd_s]
    · rw [upd_n _ _ e, upd_n _ _ e, hM8 k hk]
  have m22_2 : M22 2 = M 2 := by rw [← hM22]; rfl
  have hn22 : M22 1 99 = nI n := by rw [m22 99 (by omega), upd_n _ _ (by omega)]; exact h99
  have t2 := md_tries (K := K) hn22 h6 m2
  have hput : f_X5_putTrait (oa_cpy V1 (B 0)) 0 (nI p) y = some (va_up (oa_cpy V1 (B 0)) 1 (upd (oa_cpy V1 (B 0) 1) p y)) := by
    unfold f_X5_putTrait
    rw [show (0 : Int32) * 6 + nI p = nI (0 * 6 + p) by rw [show (0 : Int32) = nI 0 from rfl, show (6 : Int32) = nI 6 from rfl, pk_mul, nI_add], oa_wr_nI (by omega) (by omega), Nat.zero_mul, Nat.zero_add]
    rfl
  have cvt : CV n (M22 2) (gz (M 1)) (T0 M22) (va_up (oa_cpy V1 (B 0)) 1 (upd (oa_cpy V1 (B 0) 1) p y)) := by
    rw [m22_2]
    refine CV_ext (fun k hk => ?_) (cv_sort (x := y) hpn (cv_zero (cv_cpy cv)))
    rw [T0_same (fun j hj => m22 j (by omega)) hk]
    unfold pz
    by_cases e : k = 8 * p
    · rw [e, upd_s, upd_s, if_neg (by omega)]
    · rw [upd_n _ _ e, upd_n _ _ e]
  have pwt : PW n L (T0 M22) := PW_ext (fun k hk => by
    rw [T0_same (fun j hj => m22 j (by omega)) (by omega)]
    unfold pz; rw [if_neg (by omega)]) (PW_lo hp : PW n L (upd (M 1) (8 * p) y))
  have rb : RB (M22 2) L := by rw [m22_2]; exact hR.1
  obtain ⟨V2, b1, b2, b3⟩ := cv_passWeeks (m := m) rb m2 cvt pwt
  simp only [hput, oa_up2, va_up_s, oa_bs, oa_lt, b1, oa_ut, t2]
  generalize hW2 : wks (M22 2) n m (T0 M22) = W2 at b2 b3
  have q1 : V1 4 p = W.1 (90 + p) + M 1 (90 + p) := by
    rw [a2.2.2.1 p (by omega)]
    unfold gz
    rw [if_neg (by omega)]
  have q2 : V2 4 p = W2.1 (90 + p) + M 1 (90 + p) := by
    rw [b2.2.2.1 p (by omega)]
    unfold gz
    rw [if_neg (by omega)]
  rw [oa_rd_nI (by omega) (by omega), oa_wr_nI (by omega) (by omega)]
  simp only [oa_bs, oa_lt, va_up_s]
  rw [oa_rd_nI (by omega) (by omega)]
  simp only [oa_bs]
  have q3 : upd (oa_ms M22 360 W2.1 W2.2 1) (8 * p) (M 1 (8 * p)) (450 + p) = W2.1 (90 + p) := by
    rw [upd_n _ _ (by omega), oa_ms_at, if_neg (by omega), show 450 + p - 360 = 90 + p by omega]
  have q4 : V2 4 p - V1 4 p + 100000 = 100000 + W2.1 (90 + p) - W.1 (90 + p) := by
    rw [q1, q2]
    have : W2.1 (90 + p) + M 1 (90 + p) - (W.1 (90 + p) + M 1 (90 + p)) = W2.1 (90 + p) - W.1 (90 + p) := by
      rw [Int32.sub_eq_add_neg, Int32.neg_add, Int32.sub_eq_add_neg, Int32.sub_eq_add_neg, Int32.add_comm (-(W.1 (90 + p))), ← Int32.add_assoc, Int32.add_assoc (W2.1 (90 + p)), Int32.add_right_neg, Int32.add_zero]
    rw [this, oa_r3]
  rw [q3, q4]
  refine ⟨_, _, _, rfl, rfl, Rel_step h0 ⟨?_, ?_, ?_, ?_, ?_, ?_, ?_, ?_, ?_, ?_, ?_⟩ (fun k h1 hk => ?_) (fun a h1 h2 => va_up_n _ _ (by omega)) (fun n' L' _ hv => RV_ext (fun k hk => ?_) hv)⟩
  all_goals first | (rw [← hM22]; rfl) | skip
  · show upd (oa_ms M22 360 W2.1 W2.2 1) (8 * p) (M 1 (8 * p)) k = _
    rw [upd_n _ _ (by omega), oa_ms_at, if_pos hk, m22 k hk, upd_n _ _ (by omega)]
  · show upd (oa_ms M22 360 W2.1 W2.2 1) (8 * p) (M 1 (8 * p)) k = _
    by_cases e : k = 8 * p
    · rw [e, upd_s]
    · rw [upd_n _ _ e, oa_ms_at, if_pos (by omega), m22 k (by omega), upd_n _ _ e]
end C4
