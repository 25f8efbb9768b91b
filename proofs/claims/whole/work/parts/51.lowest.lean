/-! lowest terms; odds, mean, likeliest -/
def eu (a b : Int64) : Nat → Int64 × Int64
  | 0 => (a, b)
  | i + 1 => eu b (a - a / b * b) i
theorem eu_s : ∀ (i : Nat) (a b : Int64), eu a b (i + 1) = ((eu a b i).2, (eu a b i).1 - (eu a b i).1 / (eu a b i).2 * (eu a b i).2)
  | 0, _, _ => rfl
  | i + 1, a, b => eu_s i b (a - a / b * b)
/-- it ends behind N steps -/
def EG (a b : Int64) (N : Nat) : Prop := (∀ i, i < N → (eu a b i).2 ≠ 0) ∧ (eu a b N).2 = 0
theorem eu_nat : ∀ (j x y : Nat), x < 2 ^ 63 → y < 2 ^ j → j < 40 → ∃ N, N ≤ 2 * j ∧ EG (lN x) (lN y) N := by
  intro j
  induction j with
  | zero =>
    intro x y hx hy _
    have : y = 0 := by omega
    subst this
    exact ⟨0, by omega, fun i hi => absurd hi (Nat.not_lt_zero i), rfl⟩
  | succ j ih =>
    intro x y hx hy hj
    have p40 : 2 ^ (j + 1) ≤ 2 ^ 40 := Nat.pow_le_pow_right (by omega) (by omega)
    have hp : 2 ^ (j + 1) = 2 ^ j + 2 ^ j := by rw [Nat.pow_succ]; omega
    by_cases e : y = 0
    · subst e
      exact ⟨0, by omega, fun i hi => absurd hi (Nat.not_lt_zero i), rfl⟩
    have ny : lN y ≠ 0 := fun d => e ((pk_lEQ (b := 0) (by omega) (by omega)).mp d)
    have s1 : eu (lN x) (lN y) 1 = (lN y, lN (x % y)) := by
      show (lN y, lN x - lN x / lN y * lN y) = _
      rw [pk_lRem hx (by omega) (by omega)]
    have hr : x % y < y := Nat.mod_lt _ (by omega)
    by_cases e1 : x % y = 0
    · refine ⟨1, by omega, fun i hi => ?_, ?_⟩
      · have : i = 0 := by omega
        subst this; exact ny
      · rw [s1, e1]; rfl
    have nr : lN (x % y) ≠ 0 := fun d => e1 ((pk_lEQ (b := 0) (by omega) (by omega)).mp d)
    have hr2 : y % (x % y) < 2 ^ j := by
      have h1 : y % (x % y) < x % y := Nat.mod_lt _ (by omega)
      have h2 : y % (x % y) + (x % y) ≤ y := by
        have h3 := Nat.mod_add_div y (x % y)
        have h4 : 0 < y / (x % y) := Nat.div_pos (by omega) (by omega)
        have h5 : (x % y) * 1 ≤ (x % y) * (y / (x % y)) := Nat.mul_le_mul_left _ h4
        omega
      omega
    obtain ⟨N, n1, n2, n3⟩ := ih (x % y) (y % (x % y)) (by omega) hr2 (by omega)
    have s2 : ∀ i, eu (lN x) (lN y) (i + 2) = eu (lN (x % y)) (lN (y % (x % y))) i := by
      intro i
      show eu (lN x - lN x / lN y * lN y) (lN y - lN y / (lN x - lN x / lN y * lN y) * (lN x - lN x / lN y * lN y)) i = _
      rw [pk_lRem hx (by omega) (by omega), pk_lRem (by omega) (by omega) (by omega)]
    refine ⟨N + 2, by omega, fun i hi => ?_, by rw [s2]; exact n3⟩
    rcases i with _ | _ | i
    · exact ny
    · rw [s1]; exact nr
    · rw [s2]; exact n2 i (by omega)
def euc (a b : Int64) (N : Nat) : Bool := allB N (fun i => !decide ((eu a b i).2 = 0)) && decide ((eu a b N).2 = 0)
where allB : Nat → (Nat → Bool) → Bool
  | 0, _ => true
  | k + 1, f => allB k f && f k
theorem allB_t {f : Nat → Bool} : ∀ {N}, euc.allB N f = true → ∀ i, i < N → f i = true
  | 0, _, i, hi => absurd hi (Nat.not_lt_zero i)
  | N + 1, h, i, hi => by
    have h : (euc.allB N f && f N) = true := h
    rw [Bool.and_eq_true] at h
    by_cases e : i = N
    · rw [e]; exact h.2
    · exact allB_t h.1 i (by omega)
theorem euc_t {a b : Int64} {N : Nat} (h : euc a b N = true) : EG a b N := by
  unfold euc at h
  rw [Bool.and_eq_true] at h
  refine ⟨fun i hi e => ?_, of_decide_eq_true h.2⟩
  have := allB_t h.1 i hi
  rw [e] at this
  exact absurd this (by decide)
theorem eu_min : ∀ k, k < 6 → euc Int64.minValue (lN (10 ^ k)) ([1, 3, 3, 6, 9, 7].getD k 0) = true := by decide +kernel
theorem eu_min_le : ∀ k, k < 6 → [1, 3, 3, 6, 9, 7].getD k 0 ≤ 9 := by decide
def absL (x : Int64) : Int64 := if 0 < x then x else -x
theorem abs_pos (x : Int64) : absL x = Int64.minValue ∨ ¬ absL x < 0 := by
  unfold absL
  by_cases h : 0 < x
  · rw [if_pos h]
    exact Or.inr (fun c => by
      have h1 := Int64.lt_iff_toInt_lt.mp h
      have h2 := Int64.lt_iff_toInt_lt.mp c
      omega)
  · rw [if_neg h]
    by_cases e : x = Int64.minValue
    · left; rw [e]; decide
    · right
      intro c
      have h1 := Int64.lt_iff_toInt_lt.mp c
      have h2 : ¬ (0 : Int64).toInt < x.toInt := fun d => h (Int64.lt_iff_toInt_lt.mpr d)
      have h0 : (0 : Int64).toInt = 0 := by decide
      have h3 := Int64.le_toInt x
      have h4 : x.toInt ≠ -2 ^ 63 := fun d => e (Int64.toInt_inj.mp (by rw [d]; rfl))
      rw [Int64.toInt_neg, Int.bmod_def] at h1
      omega
theorem abs_m (x : Int64) {α : Type} {f : Int64 → α} : (if 0 ≤ lg_cmp x 0 then f x else f (-x)) = f (absL x) := by
  unfold absL lg_cmp
  by_cases h : x > 0
  · rw [if_pos (show (0 : Int64) < x from h), if_pos h, if_pos (by decide)]
  · rw [if_neg (show ¬ (0 : Int64) < x from h), if_neg h]
    by_cases e : x = 0
    · rw [if_pos e, if_pos (by decide), e]; rfl
    · rw [if_neg e, if_neg (by decide)]
theorem eu_good (x : Int64) {k : Nat} (hk : k < 6) : ∃ N, 0 < N ∧ N < 90 ∧ EG (absL x) (lN (10 ^ k)) N := by
  have hp : 10 ^ k ≤ 10 ^ 5 := Nat.pow_le_pow_right (by omega) (by omega)
  have hp0 : 0 < 10 ^ k := Nat.pos_of_ne_zero (by
    intro e
    have : 0 < 10 ^ k := Nat.pow_pos (by omega)
    omega)
  have key : ∃ N, N < 90 ∧ EG (absL x) (lN (10 ^ k)) N := by
    rcases abs_pos x with e | e
    · have h2 := eu_min_le k hk
      exact ⟨[1, 3, 3, 6, 9, 7].getD k 0, by omega, by rw [e]; exact euc_t (eu_min k hk)⟩
    · obtain ⟨a, a1, a2⟩ := pk_lOf e
      obtain ⟨N, n1, n2⟩ := eu_nat 17 a (10 ^ k) a1 (by omega) (by omega)
      exact ⟨N, by omega, by rw [a2]; exact n2⟩
  obtain ⟨N, n1, n2⟩ := key
  refine ⟨N, ?_, n1, n2⟩
  rcases N with _ | N
  · have : lN (10 ^ k) = 0 := n2.2
    have := (pk_lEQ (b := 0) (by omega) (by omega)).mp this
    omega
  · omega
theorem cl_gcd {a b : Int64} {N : Nat} (hN : N < 90) (h : EG a b N) : f_X6_commonDivisor a b = some (eu a b N).1 := by
  unfold f_X6_commonDivisor l_X6_commonDivisor_9
  refine oa_for (fun i => ((eu a b i).1, (eu a b i).2, nI i)) N rfl ?_ ?_ oa_fu (by rw [oa_fu_eq]; omega)
  · intro i hi k
    have hne := h.1 i hi
    simp only [oa_ut]
    unfold b_X6_commonDivisor_9
    rw [if_neg (show ¬ (100 : Int32) ≤ nI i from nI_ge (b := 100) (by omega) (by omega)), if_lg0, if_neg hne, if_neg hne, eu_s]
    simp only [oa_lt, nI_1]
  · intro k
    simp only [oa_ut]
    unfold b_X6_commonDivisor_9
    rw [if_neg (show ¬ (100 : Int32) ≤ nI N from nI_ge (b := 100) (by omega) (by omega)), if_lg0, if_pos h.2]
theorem low_same (x : Int64) {k : Nat} (hk : k < 6) (w : Int32) : ∃ a, f_X6_inLowestTerms x (lN (10 ^ k)) w = some a ∧ f_X7_lowest x (lN (10 ^ k)) w = some a := by
  obtain ⟨N, n0, n1, h⟩ := eu_good x hk
  have hg : (eu (absL x) (lN (10 ^ k)) N).1 ≠ 0 := by
    obtain ⟨M, rfl⟩ : ∃ M, N = M + 1 := ⟨N - 1, by omega⟩
    rw [eu_s]
    exact h.1 M (by omega)
  have hm : f_X7_lowest x (lN (10 ^ k)) w = l_X7_lowest_17 x (lN (10 ^ k)) w oa_fu (absL x) (lN (10 ^ k)) := by
    unfold f_X7_lowest
    simp only [oa_lt]
    exact abs_m x (f := fun z => l_X7_lowest_17 x (lN (10 ^ k)) w oa_fu z (lN (10 ^ k)))
  have hc : f_X6_inLowestTerms x (lN (10 ^ k)) w = some (if w = 0 then x / (eu (absL x) (lN (10 ^ k)) N).1 else lN (10 ^ k) / (eu (absL x) (lN (10 ^ k)) N).1) := by
    unfold f_X6_inLowestTerms
    rw [show (if 0 < x then x else -x) = absL x from rfl, cl_gcd n1 h]
    simp only [oa_bs]
    rw [if_lg0, if_neg hg]
    by_cases e : w = 0
    · rw [if_pos e, if_pos e, if_neg hg]
    · rw [if_neg e, if_neg e, if_neg hg]
  refine ⟨_, hc, ?_⟩
  rw [hm]
  unfold l_X7_lowest_17
  refine oa_for (fun i => eu (absL x) (lN (10 ^ k)) i) N rfl ?_ ?_ oa_fu (by rw [oa_fu_eq]; omega)
  · intro i hi kk
    have hne := h.1 i hi
    show b_X7_lowest_17 x (lN (10 ^ k)) w (fun x5 x7 => kk (x5, x7)) (eu (absL x) (lN (10 ^ k)) i).1 (eu (absL x) (lN (10 ^ k)) i).2 = _
    unfold b_X7_lowest_17
    rw [if_lg0, if_neg hne, if_neg hne, eu_s]
    simp only [oa_lt]
  · intro kk
    show b_X7_lowest_17 x (lN (10 ^ k)) w (fun x5 x7 => kk (x5, x7)) (eu (absL x) (lN (10 ^ k)) N).1 (eu (absL x) (lN (10 ^ k)) N).2 = _
    unfold b_X7_lowest_17
    rw [if_lg0, if_pos h.2]
    by_cases e : w = 0
    · rw [if_pos e, if_pos e, if_neg hg]
    · rw [if_neg e, if_neg e, if_neg hg]
section C11
variable {B : oa_I3} {J : oa_J2} {M : oa_I2} {K : oa_J2}
theorem c_odds (h : Rel B M) (x y z : Int32) : ∃ a J' K', f_X6_odds B J x y z = some (a, J') ∧ f_X7_odds M K x y z = some (a, K') := by
  obtain ⟨n, L, hR, ⟨cv, hp, h99, tb⟩, hI, hT, hF, hS, hC⟩ := h
  have h6 := cv.1.1
  unfold f_X6_odds f_X7_odds
  simp (disch := (first | omega | assumption | decide)) only [ct_hasTwo cv.1, md_isWrong h99, f_within, f_in_0_1, f_in_0_2, f_in_0_3, f_in_0_4, f_in_0_6, f_in_0_7, f_in_0_12, f_in_0_20, f_in_0_99, f_in_1_4, f_in_1_99, oa_ut, oa_bs, oa_lt, oa_ile, oa_inle, oa_ilt, oa_inlt, oa_ieq, oa_ineq, oa_rd_nI, oa_wr_nI, oa_rd_0, oa_rd_1, oa_wr_0, oa_wr_1, oa_rdL_nI, oa_wrL_nI, oa_bi_if0, oa_bi_if1, oa_zc_bi, oa_if_b0, oa_if_b1, nI_1, nI_add, pk_mul, Nat.add_assoc, Int32.add_zero, Int32.sub_zero, Int32.or_zero, Int32.and_neg_one, va_up_s, va_up_n, upd_s, oa_up2, ite_self, if_true, if_false, oa_10, oa_01, oa_neg4, oa_ifno, oa_l2, oa_l3, oa_l4, oa_l5, oa_l6, oa_l7, oa_l8, oa_l9, oa_l10, oa_l12, oa_l15, oa_l16, oa_l20, oa_l32, oa_l40, oa_l42, oa_l48, oa_l64, oa_l90, oa_l96, oa_l97, oa_l98, oa_l99, oa_l100, oa_l120, oa_l360, oa_l450, oa_l457, oa_l458, oa_l480, oa_l528]
  cases hx : (oa_wi x 0 (nI n - 1) && oa_wi y 0 (nI n - 1) && !decide (x = y))
  · exact ⟨_, _, _, rfl, rfl⟩
  obtain ⟨p, q, hp', hq', _, rfl, rfl⟩ := oa_two h6 hx
  cases hz : oa_wi z 0 1
  · exact ⟨_, _, _, rfl, rfl⟩
  obtain ⟨J', a1, a2, a3⟩ := cl_weigh (J := J) cv hp'
  obtain ⟨K', b1, b2, b3, b4⟩ := md_chances (K := K) h99 h6 hp'
  simp (disch := (first | omega | assumption | decide)) only [a1, b1, a2 q (show q < 6 by omega), b2 q (show q < 6 by omega), a3, b3, oa_ut, oa_bs, oa_lt, oa_ile, oa_inle, oa_ilt, oa_inlt, oa_ieq, oa_ineq, oa_rd_nI, oa_wr_nI, oa_rd_0, oa_rd_1, oa_wr_0, oa_wr_1, oa_rdL_nI, oa_wrL_nI, oa_bi_if0, oa_bi_if1, oa_zc_bi, oa_if_b0, oa_if_b1, nI_1, nI_add, pk_mul, Nat.add_assoc, Int32.add_zero, Int32.sub_zero, Int32.or_zero, Int32.and_neg_one, va_up_s, va_up_n, upd_s, oa_up2, ite_self, if_true, if_false, oa_10, oa_01, oa_neg4, oa_ifno, oa_l2, oa_l3, oa_l4, oa_l5, oa_l6, oa_l7, oa_l8, oa_l9, oa_l10, oa_l12, oa_l15, oa_l16, oa_l20, oa_l32, oa_l40, oa_l42, oa_l48, oa_l64, oa_l90, oa_l96, oa_l97, oa_l98, oa_l99, oa_l100, oa_l120, oa_l360, oa_l450, oa_l457, oa_l458, oa_l480, oa_l528]
  obtain ⟨a, c1, c2⟩ := low_same (sm (gm (M 2) (M 1) n p q) (2 ^ n)) (k := n - 1) (by omega) z
  rw [c1, c2]
  exact ⟨_, _, _, rfl, rfl⟩
theorem c_mean (h : Rel B M) (x y : Int32) : ∃ a J' K', f_X6_mean B J x y = some (a, J') ∧ f_X7_mean M K x y = some (a, K') := by
  obtain ⟨n, L, hR, ⟨cv, hp, h99, tb⟩, hI, hT, hF, hS, hC⟩ := h
  have h6 := cv.1.1
  unfold f_X6_mean f_X7_mean
  simp (disch := (first | omega | assumption | decide)) only [ct_has cv.1, md_isOne h99, f_within, f_in_0_1, f_in_0_2, f_in_0_3, f_in_0_4, f_in_0_6, f_in_0_7, f_in_0_12, f_in_0_20, f_in_0_99, f_in_1_4, f_in_1_99, oa_ut, oa_bs, oa_lt, oa_ile, oa_inle, oa_ilt, oa_inlt, oa_ieq, oa_ineq, oa_rd_nI, oa_wr_nI, oa_rd_0, oa_rd_1, oa_wr_0, oa_wr_1, oa_rdL_nI, oa_wrL_nI, oa_bi_if0, oa_bi_if1, oa_zc_bi, oa_if_b0, oa_if_b1, nI_1, nI_add, pk_mul, Nat.add_assoc, Int32.add_zero, Int32.sub_zero, Int32.or_zero, Int32.and_neg_one, va_up_s, va_up_n, upd_s, oa_up2, ite_self, if_true, if_false, oa_10, oa_01, oa_neg4, oa_ifno, oa_l2, oa_l3, oa_l4, oa_l5, oa_l6, oa_l7, oa_l8, oa_l9, oa_l10, oa_l12, oa_l15, oa_l16, oa_l20, oa_l32, oa_l40, oa_l42, oa_l48, oa_l64, oa_l90, oa_l96, oa_l97, oa_l98, oa_l99, oa_l100, oa_l120, oa_l360, oa_l450, oa_l457, oa_l458, oa_l480, oa_l528]
  cases hx : oa_wi x 0 (nI n - 1)
  · exact ⟨_, _, _, rfl, rfl⟩
  obtain ⟨p, hp', rfl⟩ := oa_has_t h6 hx
  cases hz : oa_wi y 0 1
  · exact ⟨_, _, _, rfl, rfl⟩
  obtain ⟨J', a1, a2, a3⟩ := cl_weigh (J := J) cv hp'
  obtain ⟨K', b1, b2, b3, b4⟩ := md_chances (K := K) h99 h6 hp'
  simp (disch := (first | omega | assumption | decide)) only [a1, b1, cv_able cv, b3, b4, oa_ut, oa_bs, oa_lt, oa_ile, oa_inle, oa_ilt, oa_inlt, oa_ieq, oa_ineq, oa_rd_nI, oa_wr_nI, oa_rd_0, oa_rd_1, oa_wr_0, oa_wr_1, oa_rdL_nI, oa_wrL_nI, oa_bi_if0, oa_bi_if1, oa_zc_bi, oa_if_b0, oa_if_b1, nI_1, nI_add, pk_mul, Nat.add_assoc, Int32.add_zero, Int32.sub_zero, Int32.or_zero, Int32.and_neg_one, va_up_s, va_up_n, upd_s, oa_up2, ite_self, if_true, if_false, oa_10, oa_01, oa_neg4, oa_ifno, oa_l2, oa_l3, oa_l4, oa_l5, oa_l6, oa_l7, oa_l8, oa_l9, oa_l10, oa_l12, oa_l15, oa_l16, oa_l20, oa_l32, oa_l40, oa_l42, oa_l48, oa_l64, oa_l90, oa_l96, oa_l97, oa_l98, oa_l99, oa_l100, oa_l120, oa_l360, oa_l450, oa_l457, oa_l458, oa_l480, oa_l528]
  have hsum : sm (fun q => sm (gm (M 2) (M 1) n p q) (2 ^ n) * (val (M 2) (M 1) q (abl (M 2) (M 1) p) n).toInt64) n = sm (gv (M 2) (M 1) n p) (2 ^ n) := by
    have e1 : sm (fun q => sm (gm (M 2) (M 1) n p q) (2 ^ n) * (val (M 2) (M 1) q (abl (M 2) (M 1) p) n).toInt64) n = sm (fun q => sm (fun s => gm (M 2) (M 1) n p q s * (val (M 2) (M 1) q (abl (M 2) (M 1) p) n).toInt64) (2 ^ n)) n := sm_cong fun q _ => sm_mul _ _ _
    rw [e1, sm_swap]
    refine sm_cong fun s _ => ?_
    rw [gv_at]
    rcases Qm_some (M 2) (M 1) n p s with e | ⟨q0, q1, q2, e⟩
    · rw [if_pos e, ← sm_zero n]
      refine sm_cong fun q hq => ?_
      rw [gm_at, e, if_neg (fun d => oa_no (q := q) (by omega) d.symm), Int64.zero_mul]
    · rw [if_neg (by rw [e]; exact oa_no (by omega)), e, nI_clamp (by omega)]
      have e2 : sm (fun q => gm (M 2) (M 1) n p q s * (val (M 2) (M 1) q (abl (M 2) (M 1) p) n).toInt64) n = sm (fun q => if nI q0 = nI q then Wm (M 2) (M 1) n p s * (val (M 2) (M 1) q (abl (M 2) (M 1) p) n).toInt64 else 0) n := by
        refine sm_cong fun q hq => ?_
        rw [gm_at, e]
        by_cases c : nI q0 = nI q
        · rw [if_pos c, if_pos c]
        · rw [if_neg c, if_neg c, Int64.zero_mul]
      rw [e2, sm_one (x := fun q => Wm (M 2) (M 1) n p s * (val (M 2) (M 1) q (abl (M 2) (M 1) p) n).toInt64) n (by omega) (by omega), if_pos q1]
  obtain ⟨a, c1, c2⟩ := low_same (sm (gv (M 2) (M 1) n p) (2 ^ n)) (k := n - 1) (by omega) y
  rw [c2]
  have hl : l_X6_mean_51 B (nI p) y J' (oa_mk (abl (M 2) (M 1) p) n) oa_fu 0 0 = some (a, J') := by
    unfold l_X6_mean_51
    refine oa_for (fun i => (sm (fun q => sm (gm (M 2) (M 1) n p q) (2 ^ n) * (val (M 2) (M 1) q (abl (M 2) (M 1) p) n).toInt64) i, nI i)) n rfl ?_ ?_ oa_fu (by rw [oa_fu_eq]; omega)
    · intro i hi k
      simp (disch := (first | omega | assumption | decide)) only [b_X6_mean_51, cv.1.2.1, cv_val cv, a2 i (show i < 6 by omega), oa_ut, oa_bs, oa_lt, oa_ile, oa_inle, oa_ilt, oa_inlt, oa_ieq, oa_ineq, oa_rd_nI, oa_wr_nI, oa_rd_0, oa_rd_1, oa_wr_0, oa_wr_1, oa_rdL_nI, oa_wrL_nI, oa_bi_if0, oa_bi_if1, oa_zc_bi, oa_if_b0, oa_if_b1, nI_1, nI_add, pk_mul, Nat.add_assoc, Int32.add_zero, Int32.sub_zero, Int32.or_zero, Int32.and_neg_one, va_up_s, va_up_n, upd_s, oa_up2, ite_self, if_true, if_false, oa_10, oa_01, oa_neg4, oa_ifno, oa_l2, oa_l3, oa_l4, oa_l5, oa_l6, oa_l7, oa_l8, oa_l9, oa_l10, oa_l12, oa_l15, oa_l16, oa_l20, oa_l32, oa_l40, oa_l42, oa_l48, oa_l64, oa_l90, oa_l96, oa_l97, oa_l98, oa_l99, oa_l100, oa_l120, oa_l360, oa_l450, oa_l457, oa_l458, oa_l480, oa_l528]
      rfl
    · intro k
      simp (disch := (first | omega | assumption | decide)) only [b_X6_mean_51, cv.1.2.1, hsum, a3, c1, oa_ut, oa_bs, oa_lt, oa_ile, oa_inle, oa_ilt, oa_inlt, oa_ieq, oa_ineq, oa_rd_nI, oa_wr_nI, oa_rd_0, oa_rd_1, oa_wr_0, oa_wr_1, oa_rdL_nI, oa_wrL_nI, oa_bi_if0, oa_bi_if1, oa_zc_bi, oa_if_b0, oa_if_b1, nI_1, nI_add, pk_mul, Nat.add_assoc, Int32.add_zero, Int32.sub_zero, Int32.or_zero, Int32.and_neg_one, va_up_s, va_up_n, upd_s, oa_up2, ite_self, if_true, if_false, oa_10, oa_01, oa_neg4, oa_ifno, oa_l2, oa_l3, oa_l4, oa_l5, oa_l6, oa_l7, oa_l8, oa_l9, oa_l10, oa_l12, oa_l15, oa_l16, oa_l20, oa_l32, oa_l40, oa_l42, oa_l48, oa_l64, oa_l90, oa_l96, oa_l97, oa_l98, oa_l99, oa_l100, oa_l120, oa_l360, oa_l450, oa_l457, oa_l458, oa_l480, oa_l528]
  rw [hl]
  exact ⟨_, _, _, rfl, rfl⟩
theorem c_likeliest (h : Rel B M) (x : Int32) : ∃ a J' K', f_X6_likeliest B J x = some (a, J') ∧ f_X7_likeliest M K x = some (a, K') := by
  obtain ⟨n, L, hR, ⟨cv, hp, h99, tb⟩, hI, hT, hF, hS, hC⟩ := h
  have h6 := cv.1.1
  unfold f_X6_likeliest f_X7_likeliest
  simp (disch := (first | omega | assumption | decide)) only [ct_has cv.1, md_isOne h99, oa_ut, oa_bs, oa_lt, oa_ile, oa_inle, oa_ilt, oa_inlt, oa_ieq, oa_ineq, oa_rd_nI, oa_wr_nI, oa_rd_0, oa_rd_1, oa_wr_0, oa_wr_1, oa_rdL_nI, oa_wrL_nI, oa_bi_if0, oa_bi_if1, oa_zc_bi, oa_if_b0, oa_if_b1, nI_1, nI_add, pk_mul, Nat.add_assoc, Int32.add_zero, Int32.sub_zero, Int32.or_zero, Int32.and_neg_one, va_up_s, va_up_n, upd_s, oa_up2, ite_self, if_true, if_false, oa_10, oa_01, oa_neg4, oa_ifno, oa_l2, oa_l3, oa_l4, oa_l5, oa_l6, oa_l7, oa_l8, oa_l9, oa_l10, oa_l12, oa_l15, oa_l16, oa_l20, oa_l32, oa_l40, oa_l42, oa_l48, oa_l64, oa_l90, oa_l96, oa_l97, oa_l98, oa_l99, oa_l100, oa_l120, oa_l360, oa_l450, oa_l457, oa_l458, oa_l480, oa_l528]
  cases hx : oa_wi x 0 (nI n - 1)
  · exact ⟨_, _, _, rfl, rfl⟩
  obtain ⟨p, hp', rfl⟩ := oa_has_t h6 hx
  obtain ⟨J', a1, a2, a3⟩ := cl_weigh (J := J) cv hp'
  obtain ⟨K', b1, b2, b3, b4⟩ := md_chances (K := K) h99 h6 hp'
  simp (disch := (first | omega | assumption | decide)) only [a1, b1, oa_ut, oa_bs, oa_lt, oa_ile, oa_inle, oa_ilt, oa_inlt, oa_ieq, oa_ineq, oa_rd_nI, oa_wr_nI, oa_rd_0, oa_rd_1, oa_wr_0, oa_wr_1, oa_rdL_nI, oa_wrL_nI, oa_bi_if0, oa_bi_if1, oa_zc_bi, oa_if_b0, oa_if_b1, nI_1, nI_add, pk_mul, Nat.add_assoc, Int32.add_zero, Int32.sub_zero, Int32.or_zero, Int32.and_neg_one, va_up_s, va_up_n, upd_s, oa_up2, ite_self, if_true, if_false, oa_10, oa_01, oa_neg4, oa_ifno, oa_l2, oa_l3, oa_l4, oa_l5, oa_l6, oa_l7, oa_l8, oa_l9, oa_l10, oa_l12, oa_l15, oa_l16, oa_l20, oa_l32, oa_l40, oa_l42, oa_l48, oa_l64, oa_l90, oa_l96, oa_l97, oa_l98, oa_l99, oa_l100, oa_l120, oa_l360, oa_l450, oa_l457, oa_l458, oa_l480, oa_l528]
  unfold l_X6_likeliest_33 l_X7_likeliest_20
  refine oa_for2 (fun o o' => ∃ a J' K', o = some (a, J') ∧ o' = some (a, K')) (fun i s t => ∃ b m, s = (b, m, nI i) ∧ t = (b, nI i) ∧ (b = oNO ∧ m = 0 ∨ ∃ q, q < 6 ∧ b = nI q ∧ m = K' 0 q)) n ⟨oNO, 0, rfl, rfl, Or.inl ⟨rfl, rfl⟩⟩ ?_ ?_ oa_fu oa_fu (by rw [oa_fu_eq]; omega) (by rw [oa_fu_eq]; omega)
  · rintro i hi s t ⟨b, m, rfl, rfl, hb⟩ k l
    left
    have hJK : J' 0 i = K' 0 i := (a2 i (by omega)).trans (b2 i (by omega)).symm
    rcases hb with ⟨rfl, rfl⟩ | ⟨q, q1, rfl, rfl⟩
    · simp (disch := (first | omega | assumption | decide)) only [b_X6_likeliest_33, b_X7_likeliest_20, b_X7_likeliest_50, cv.1.2.1, md_many h99, hJK, oa_ut, oa_bs, oa_lt, oa_ile, oa_inle, oa_ilt, oa_inlt, oa_ieq, oa_ineq, oa_rd_nI, oa_wr_nI, oa_rd_0, oa_rd_1, oa_wr_0, oa_wr_1, oa_rdL_nI, oa_wrL_nI, oa_bi_if0, oa_bi_if1, oa_zc_bi, oa_if_b0, oa_if_b1, nI_1, nI_add, pk_mul, Nat.add_assoc, Int32.add_zero, Int32.sub_zero, Int32.or_zero, Int32.and_neg_one, va_up_s, va_up_n, upd_s, oa_up2, ite_self, if_true, if_false, oa_10, oa_01, oa_neg4, oa_ifno, oa_l2, oa_l3, oa_l4, oa_l5, oa_l6, oa_l7, oa_l8, oa_l9, oa_l10, oa_l12, oa_l15, oa_l16, oa_l20, oa_l32, oa_l40, oa_l42, oa_l48, oa_l64, oa_l90, oa_l96, oa_l97, oa_l98, oa_l99, oa_l100, oa_l120, oa_l360, oa_l450, oa_l457, oa_l458, oa_l480, oa_l528]
      by_cases c : lg_cmp (K' 0 i) 0 ≤ 0
      · rw [if_pos c, if_pos c]
        exact ⟨_, _, ⟨oNO, 0, rfl, rfl, Or.inl ⟨rfl, rfl⟩⟩, rfl, rfl⟩
      · rw [if_neg c, if_neg c]
        exact ⟨_, _, ⟨nI i, K' 0 i, rfl, rfl, Or.inr ⟨i, by omega, rfl, rfl⟩⟩, rfl, rfl⟩
    · simp (disch := (first | omega | assumption | decide)) only [b_X6_likeliest_33, b_X7_likeliest_20, b_X7_likeliest_50, cv.1.2.1, md_many h99, hJK, oa_ut, oa_bs, oa_lt, oa_ile, oa_inle, oa_ilt, oa_inlt, oa_ieq, oa_ineq, oa_rd_nI, oa_wr_nI, oa_rd_0, oa_rd_1, oa_wr_0, oa_wr_1, oa_rdL_nI, oa_wrL_nI, oa_bi_if0, oa_bi_if1, oa_zc_bi, oa_if_b0, oa_if_b1, nI_1, nI_add, pk_mul, Nat.add_assoc, Int32.add_zero, Int32.sub_zero, Int32.or_zero, Int32.and_neg_one, va_up_s, va_up_n, upd_s, oa_up2, ite_self, if_true, if_false, oa_10, oa_01, oa_neg4, oa_ifno, oa_l2, oa_l3, oa_l4, oa_l5, oa_l6, oa_l7, oa_l8, oa_l9, oa_l10, oa_l12, oa_l15, oa_l16, oa_l20, oa_l32, oa_l40, oa_l42, oa_l48, oa_l64, oa_l90, oa_l96, oa_l97, oa_l98, oa_l99, oa_l100, oa_l120, oa_l360, oa_l450, oa_l457, oa_l458, oa_l480, oa_l528]
      by_cases c : lg_cmp (K' 0 i) (K' 0 q) ≤ 0
      · rw [if_pos c, if_pos c]
        exact ⟨_, _, ⟨nI q, K' 0 q, rfl, rfl, Or.inr ⟨q, q1, rfl, rfl⟩⟩, rfl, rfl⟩
      · rw [if_neg c, if_neg c]
        exact ⟨_, _, ⟨nI i, K' 0 i, rfl, rfl, Or.inr ⟨i, by omega, rfl, rfl⟩⟩, rfl, rfl⟩
  · rintro s t ⟨b, m, rfl, rfl, hb⟩ k l
    simp (disch := (first | omega | assumption | decide)) only [b_X6_likeliest_33, b_X7_likeliest_20, cv.1.2.1, md_many h99, oa_ut, oa_bs, oa_lt, oa_ile, oa_inle, oa_ilt, oa_inlt, oa_ieq, oa_ineq, oa_rd_nI, oa_wr_nI, oa_rd_0, oa_rd_1, oa_wr_0, oa_wr_1, oa_rdL_nI, oa_wrL_nI, oa_bi_if0, oa_bi_if1, oa_zc_bi, oa_if_b0, oa_if_b1, nI_1, nI_add, pk_mul, Nat.add_assoc, Int32.add_zero, Int32.sub_zero, Int32.or_zero, Int32.and_neg_one, va_up_s, va_up_n, upd_s, oa_up2, ite_self, if_true, if_false, oa_10, oa_01, oa_neg4, oa_ifno, oa_l2, oa_l3, oa_l4, oa_l5, oa_l6, oa_l7, oa_l8, oa_l9, oa_l10, oa_l12, oa_l15, oa_l16, oa_l20, oa_l32, oa_l40, oa_l42, oa_l48, oa_l64, oa_l90, oa_l96, oa_l97, oa_l98, oa_l99, oa_l100, oa_l120, oa_l360, oa_l450, oa_l457, oa_l458, oa_l480, oa_l528]
    exact ⟨_, _, _, rfl, rfl⟩
end C11
