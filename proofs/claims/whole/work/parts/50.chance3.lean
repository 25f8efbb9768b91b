section CHC
variable {R G P : oa_P} {V : oa_I2} {n p : Nat}
theorem cl_weightOf {x : Int32} {t m : Nat} (ht : t ≤ m) (hm : m < 10) : f_X0_weightOf x (nI t) (nI m) = some (pwL (10 - x).toInt64 t * pwL x.toInt64 (m - t)) := by
  unfold f_X0_weightOf l_X0_weightOf_5
  refine oa_for (fun i => (pwL (10 - x).toInt64 (if i ≤ t then i else t) * pwL x.toInt64 (i - t), nI i)) m ?_ ?_ ?_ oa_fu (by rw [oa_fu_eq]; omega)
  · refine Prod.ext ?_ rfl
    show (1 : Int64) = pwL _ (if 0 ≤ t then 0 else t) * pwL _ (0 - t)
    rw [if_pos (by omega), Nat.zero_sub]; rfl
  · intro i hi k
    simp only [oa_ut]
    unfold b_X0_weightOf_5
    rw [if_neg (nI_ge hi (by omega))]
    by_cases l : t ≤ i
    · rw [if_pos (nI_le l (by omega))]
      simp only [oa_lt, nI_1]
      refine congrArg k (Prod.ext ?_ rfl)
      show _ * _ * _ = pwL _ (if i + 1 ≤ t then i + 1 else t) * pwL _ (i + 1 - t)
      rw [show (if i + 1 ≤ t then i + 1 else t) = t by split <;> omega, show (if i ≤ t then i else t) = t by split <;> omega, show i + 1 - t = (i - t) + 1 by omega, Int64.mul_assoc]
      rfl
    · rw [if_neg (nI_ge (by omega) (by omega))]
      simp only [oa_lt, nI_1]
      refine congrArg k (Prod.ext ?_ rfl)
      show _ * _ * _ = pwL _ (if i + 1 ≤ t then i + 1 else t) * pwL _ (i + 1 - t)
      rw [show (if i + 1 ≤ t then i + 1 else t) = i + 1 by split <;> omega, show (if i ≤ t then i else t) = i by split <;> omega, show i + 1 - t = 0 by omega, show i - t = 0 by omega, mul_r1]
      rfl
  · intro k
    simp only [oa_ut]
    unfold b_X0_weightOf_5
    rw [if_pos (nI_le (Nat.le_refl m) (by omega)), show (if m ≤ t then m else t) = t by split <;> omega]
theorem prw_eq {t s : Nat} (hp : p < n) (htp : t.testBit p = false) (hs : ∀ r, r < n → s.testBit r = (t.testBit r ^^ (sn R P r && !decide (r = p)))) : ∀ r, r ≤ n → oa_cN t.testBit r ≤ oth n p r ∧ prw R P p s r = pwL (10 - R 2).toInt64 (oa_cN t.testBit r) * pwL (R 2).toInt64 (oth n p r - oa_cN t.testBit r)
  | 0, _ => ⟨Nat.le_refl 0, rfl⟩
  | r + 1, hr => by
    obtain ⟨ih1, ih2⟩ := prw_eq hp htp hs r (by omega)
    show (if t.testBit r = true then oa_cN t.testBit r + 1 else oa_cN t.testBit r) ≤ (if r < n ∧ r ≠ p then oth n p r + 1 else oth n p r) ∧ prw R P p s r * (if r = p then 1 else if s.testBit r = sn R P r then (R 2).toInt64 else (10 - R 2).toInt64) = pwL _ (if t.testBit r = true then oa_cN t.testBit r + 1 else oa_cN t.testBit r) * pwL _ ((if r < n ∧ r ≠ p then oth n p r + 1 else oth n p r) - (if t.testBit r = true then oa_cN t.testBit r + 1 else oa_cN t.testBit r))
    by_cases e : r = p
    · rw [if_neg (show ¬ t.testBit r = true by rw [e, htp]; decide), if_neg (by omega), if_pos e, Int64.mul_one]
      exact ⟨ih1, ih2⟩
    · rw [if_pos (show r < n ∧ r ≠ p from ⟨by omega, e⟩), if_neg e, hs r (by omega), decide_eq_false e, Bool.not_false, Bool.and_true, ih2]
      cases ht : t.testBit r
      · rw [if_neg (by decide), if_pos (Bool.false_xor _), show oth n p r + 1 - oa_cN t.testBit r = (oth n p r - oa_cN t.testBit r) + 1 by omega, Int64.mul_assoc]
        exact ⟨by omega, rfl⟩
      · rw [if_pos rfl, if_neg (by cases sn R P r <;> decide), show oth n p r + 1 - (oa_cN t.testBit r + 1) = oth n p r - oa_cN t.testBit r by omega, mul_r1]
        exact ⟨by omega, rfl⟩
theorem ev_mk : ∀ n, n ≤ 6 → nI (2 ^ n) - 1 = oa_mk (fun _ => true) n := by decide +kernel
theorem pn_n {t : Nat} (h6 : n ≤ 6) (ht : t < 2 ^ n) : pn t = oa_cN t.testBit n := by
  unfold pn
  have h := oa_cN_split t.testBit n (6 - n)
  rw [show n + (6 - n) = 6 by omega] at h
  have hz : oa_cN (fun j => t.testBit (n + j)) (6 - n) = 0 := oa_cN_0.mpr (fun k _ => Nat.testBit_lt_two_pow (Nat.lt_of_lt_of_le ht (Nat.pow_le_pow_right (by omega) (by omega))))
  rw [h, hz, Nat.add_zero]
theorem cl_weigh {J : oa_J2} (h : CV n R G P V) (hp : p < n) : ∃ J' : oa_J2, f_X0_weigh J V (nI p) = some J' ∧ (∀ q, q < 6 → J' 0 q = sm (gm R P n p q) (2 ^ n)) ∧ J' 1 0 = lN (10 ^ (n - 1)) := by
  have h6 := h.1.1
  have h64 := p2_le h6
  have hb2 : V 0 2 = R 2 := h.1.2.2.1 2 (by omega)
  obtain ⟨rho, r1, r2, r3⟩ := mk_num (fun r => sn R P r && !decide (r = p)) h6
  have hothers : (nI (2 ^ n) - 1) &&& (((1 : Int32) <<< (nI p &&& 31)) ^^^ (-1)) = oa_mk (fun r => !decide (r = p)) n := by
    rw [ev_mk n h6, oa_mk_and1 _ (by omega) (by omega)]
    exact oa_mk_cong fun k _ => rfl
  have hright : (oa_mk (fr R P) n &&& (oa_mk (fg P 3) n ^^^ (-1))) &&& oa_mk (fun r => !decide (r = p)) n = nI rho := by
    rw [oa_mk_andn _ _ (by omega), oa_mk_and _ _ (by omega), ← r2]
    exact oa_mk_cong fun k _ => rfl
  unfold f_X0_weigh
  simp only [oa_lt]
  unfold l_X0_weigh_15
  refine oa_forR (fun o => ∃ J' : oa_J2, o = some J' ∧ (∀ q, q < 6 → J' 0 q = sm (gm R P n p q) (2 ^ n)) ∧ J' 1 0 = lN (10 ^ (n - 1))) (fun i t => ∃ J' : oa_J2, t = (J', nI (i + 1)) ∧ (∀ q, q < 6 → J' 0 q = 0) ∧ J' 1 0 = lN (10 ^ i)) (n - 1) ⟨_, rfl, fun q hq => ?_, rfl⟩ ?_ ?_ oa_fu (by rw [oa_fu_eq]; omega)
  · rw [va_up_n _ _ (by omega), va_up_s]
    unfold oa_fill
    rw [if_pos hq]
  · rintro i hi t ⟨J1, rfl, j1, j2⟩
    left
    refine ⟨(va_up J1 1 (vp_updL (J1 1) 0 (J1 1 0 * 10)), nI (i + 1 + 1)), ⟨_, rfl, fun q hq => ?_, ?_⟩, fun k => ?_⟩
    · rw [va_up_n _ _ (by omega)]; exact j1 q hq
    · rw [va_up_s, vp_s, j2, lN10]
    · simp only [oa_ut]
      unfold b_X0_weigh_15
      rw [h.1.2.1, if_neg (nI_ge (by omega) (by omega))]
      simp only [oa_lt, nI_1]
  · rintro t ⟨J1, rfl, j1, j2⟩
    have hev : f_X5_everybody V = some (nI (2 ^ n) - 1) := by
      unfold f_X5_everybody
      rw [h.1.2.1, oa_shl1 n h6]
    refine ⟨l_X0_weigh_78 V (nI p) (oa_mk (fun r => !decide (r = p)) n) (nI rho) (oa_mk (fun r => an P r p) n) oa_fu J1 0, ?_, fun k => by
      simp only [oa_ut]
      unfold b_X0_weigh_15
      rw [h.1.2.1, if_pos (nI_le (by omega) (by omega)), hev, cv_free h, ct_allOf h.1, cv_angryWith h (by omega)]
      simp only [oa_bs, oa_lt]
      rw [hothers, hright]⟩
    unfold l_X0_weigh_78
    refine oa_forR (fun o => ∃ J' : oa_J2, o = some J' ∧ (∀ q, q < 6 → J' 0 q = sm (gm R P n p q) (2 ^ n)) ∧ J' 1 0 = lN (10 ^ (n - 1))) (fun i t => ∃ J' : oa_J2, t = (J', nI i) ∧ (∀ q, q < 6 → J' 0 q = sm (fun t => gm R P n p q (t ^^^ rho)) i) ∧ J' 1 0 = lN (10 ^ (n - 1))) (2 ^ n) ⟨J1, rfl, j1, j2⟩ ?_ ?_ oa_fu (by rw [oa_fu_eq]; omega)
    · rintro i hi t ⟨J2, rfl, k1, k2⟩
      left
      have hx : i ^^^ rho < 2 ^ n := Nat.xor_lt_two_pow hi r1
      have hsb : ∀ r, r < n → (i ^^^ rho).testBit r = (i.testBit r ^^ (sn R P r && !decide (r = p))) := by
        intro r hr
        rw [Nat.testBit_xor, r3 r (by omega), decide_eq_true hr]; rfl
      have hbp : (i ^^^ rho).testBit p = i.testBit p := by
        rw [hsb p hp, decide_eq_true rfl]; simp
      have hz : (nI i &&& (oa_mk (fun r => !decide (r = p)) n ^^^ (-1)) = 0) ↔ i.testBit p = false := by
        constructor
        · intro e
          have := congrArg (fun z => bt z p) e
          rw [bt_andn (by omega) hp, bt_nI i (by omega), b_0, decide_eq_true rfl] at this
          simpa using this
        · intro e
          apply b_ext
          intro j hj
          rw [b_0]
          by_cases l : j < n
          · rw [bt_andn (by omega) l, bt_nI i hj]
            by_cases c : j = p
            · rw [c, e]; rfl
            · rw [decide_eq_false c]; simp
          · rw [b_and, bt_nI i hj, Nat.testBit_lt_two_pow (Nat.lt_of_lt_of_le hi (Nat.pow_le_pow_right (by omega) (by omega)))]; rfl
      simp only [oa_ut]
      cases hib : i.testBit p
      · have hw : Wm R P n p (i ^^^ rho) = pwL (10 - R 2).toInt64 (pn i) * pwL (R 2).toInt64 (n - 1 - pn i) := by
          unfold Wm
          rw [hbp, hib, if_neg (by decide), (prw_eq hp hib hsb n (Nat.le_refl n)).2, (oth_6 h6 hp).2, pn_n h6 hi]
        have hpl : pn i ≤ n - 1 := by
          have := (prw_eq hp hib hsb n (Nat.le_refl n)).1
          rw [(oth_6 h6 hp).2] at this
          rw [pn_n h6 hi]; exact this
        have hch : f_X5_choice V (nI p) ((nI rho ^^^ nI i) &&& (oa_mk (fun r => an P r p) n ^^^ (-1))) = some (chs R P n p (fun r => (i ^^^ rho).testBit r && can P p r) n).1 := by
          rw [ct_choice h.1 (by omega)]
          refine congrArg (fun z => some z.1) (chs_cong (fun r hr => ?_) n)
          rw [bt_andn (by omega) hr, nI_xor, bt_nI _ (by omega), Nat.xor_comm rho i]
          unfold can
          by_cases c : r = p
          · rw [c, hbp, hib]; rfl
          · rw [decide_eq_false c]; rfl
        have hwt := cl_weightOf (x := R 2) hpl (show n - 1 < 10 by omega)
        have e1 : nI n - 1 = nI (n - 1) := by
          have := nI_pred (n - 1)
          rwa [show n - 1 + 1 = n by omega] at this
        have r2' : oa_rd (V 0) 3 2 = some (R 2) := by
          rw [show (2 : Int32) = nI 2 from rfl, oa_rd_nI (by omega) (by omega), hb2]
        have hbody : ∀ k : oa_J2 × Int32 → Option oa_J2, b_X0_weigh_78 V (nI p) (oa_mk (fun r => !decide (r = p)) n) (nI rho) (oa_mk (fun r => an P r p) n) (fun J x6 => k (J, x6)) J2 (nI i) = b_X0_weigh_147 V (nI p) (fun J x6 => k (J, x6)) J2 (oa_mk (fun r => !decide (r = p)) n) (nI rho) (oa_mk (fun r => an P r p) n) (nI i) (Wm R P n p (i ^^^ rho)) (Qm R P n p (i ^^^ rho)) := by
          intro k
          unfold b_X0_weigh_78
          rw [h.1.2.1, oa_shl1 n h6, if_neg (nI_ge hi (by omega)), if_pos (hz.mpr hib), r2', oa_pc_eq, rg_pc i (by omega), e1]
          simp only [oa_bs]
          rw [hwt, ← hw]
          simp only [oa_bs]
          rw [if_lg0, hch]
          unfold Qm
          by_cases c : Wm R P n p (i ^^^ rho) = 0
          · rw [if_pos c, if_pos c]; rfl
          · rw [if_neg c, if_neg c]; rfl
        rcases Qm_some R P n p (i ^^^ rho) with e | ⟨q0, q1, q2, e⟩
        · refine ⟨(J2, nI (i + 1)), ⟨J2, rfl, fun q hq => ?_, k2⟩, fun k => ?_⟩
          · show _ = sm _ i + gm R P n p q (i ^^^ rho)
            rw [gm_at]
            rw [e, if_neg (fun d => oa_no (q := q) (by omega) d.symm), Int64.add_zero]; exact k1 q hq
          · rw [hbody]
            unfold b_X0_weigh_147
            rw [if_pos (show Qm R P n p (i ^^^ rho) = -4 from e), nI_1]
        · refine ⟨(va_up J2 0 (vp_updL (J2 0) q0 (J2 0 q0 + Wm R P n p (i ^^^ rho))), nI (i + 1)), ⟨_, rfl, fun q hq => ?_, ?_⟩, fun k => ?_⟩
          · show _ = sm _ i + gm R P n p q (i ^^^ rho)
            rw [va_up_s]
            rw [gm_at]
            rw [e]
            by_cases c : q = q0
            · rw [c, vp_s, if_pos rfl, k1 q0 (by omega)]
            · rw [vp_n _ _ c, if_neg (fun d => c ((nI_eq (by omega) (by omega)).mp d).symm), Int64.add_zero]; exact k1 q hq
          · rw [va_up_n _ _ (by omega)]; exact k2
          · rw [hbody]
            unfold b_X0_weigh_147
            rw [if_neg (show ¬ Qm R P n p (i ^^^ rho) = -4 by rw [e]; exact oa_no (by omega)), e, oa_rdL_nI (by omega) (by omega)]
            simp only [oa_bs]
            rw [oa_wrL_nI (by omega) (by omega)]
            simp only [oa_bs, oa_lt, nI_1]
      · refine ⟨(J2, nI (i + 1)), ⟨J2, rfl, fun q hq => ?_, k2⟩, fun k => ?_⟩
        · show _ = sm _ i + gm R P n p q (i ^^^ rho)
          have hw0 : Wm R P n p (i ^^^ rho) = 0 := by unfold Wm; rw [hbp, hib, if_pos rfl]
          rw [gm_at]
          rw [hw0, ite_self, Int64.add_zero]; exact k1 q hq
        · unfold b_X0_weigh_78
          rw [h.1.2.1, oa_shl1 n h6, if_neg (nI_ge hi (by omega)), if_neg (fun d => by rw [hz.mp d] at hib; cases hib), nI_1]
    · rintro t ⟨J2, rfl, k1, k2⟩
      refine ⟨some J2, ⟨J2, rfl, fun q hq => ?_, k2⟩, fun k => ?_⟩
      · rw [k1 q hq, sm_xor n (gm R P n p q) rho r1]
      · simp only [oa_ut]
        unfold b_X0_weigh_78
        rw [h.1.2.1, oa_shl1 n h6, if_pos (nI_le (Nat.le_refl _) (by omega))]
end CHC
