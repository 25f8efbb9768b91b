/-! what is looked at behind the text: the model -/
/-- kin that fits -/
def kf (P : oa_P) (n p : Nat) : Bool := !decide (P (8 * p + 7) = nI p) && !decide (nI n ≤ P (8 * p + 7))
/-- the first angers fit -/
def af (P : oa_P) (n p : Nat) : Nat → Bool
  | 0 => true
  | q + 1 => af P n p q && (!an P p q || (!decide (q = p) && decide (q < n)))
theorem af_succ (P : oa_P) (n p q : Nat) : af P n p (q + 1) = (af P n p q && (!an P p q || (!decide (q = p) && decide (q < n)))) := rfl
/-- angers counted on y -/
def xc (P : oa_P) (p : Nat) (y : Int32) : Nat → Int32
  | 0 => y
  | q + 1 => if an P p q = true then xc P p y q + 1 else xc P p y q
theorem xc_succ (P : oa_P) (p : Nat) (y : Int32) (q : Nat) : xc P p y (q + 1) = if an P p q = true then xc P p y q + 1 else xc P p y q := rfl
def ok1 (P : oa_P) (n : Nat) : Nat → Bool
  | 0 => true
  | p + 1 => (ok1 P n p && kf P n p) && af P n p 6
theorem ok1_succ (P : oa_P) (n p : Nat) : ok1 P n (p + 1) = ((ok1 P n p && kf P n p) && af P n p 6) := rfl
def ok2 (R P : oa_P) : Nat → Bool
  | 0 => true
  | p + 1 => ok2 R P p && !decide (R 0 < xc P p (P (48 + (7 * p + 6))) 6)
theorem ok2_succ (R P : oa_P) (p : Nat) : ok2 R P (p + 1) = (ok2 R P p && !decide (R 0 < xc P p (P (48 + (7 * p + 6))) 6)) := rfl
section LB
variable {M : oa_I2} {K : oa_J2} {n : Nat}
theorem lb_79 {a b : Bool} {p : Nat} {y : Int32} {k6 : Int32 → Int32 → Int32 → Option (oa_I2)} (hp : p < 6) (hn : n ≤ 6) (h99 : M 4 99 = nI n) : l_X7_looksBehind_79 K M (oa_bi b) (nI p) k6 oa_fu (oa_bi a) y 0 = k6 (oa_bi (a && af (M 4) n p 6)) (oa_bi (b && !decide (M 3 0 < xc (M 4) p y 6))) (nI (p + 1)) := by
  unfold l_X7_looksBehind_79
  refine oa_for (fun i => (oa_bi (a && af (M 4) n p i), xc (M 4) p y i, nI i)) 6 ?_ ?_ ?_ oa_fu (by rw [oa_fu_eq]; omega)
  · show (oa_bi a, y, (0 : Int32)) = (oa_bi (a && true), y, nI 0)
    rw [Bool.and_true]; rfl
  · intro i hi k
    show b_X7_looksBehind_79 K M (oa_bi b) (nI p) k6 (fun x1 x5 x6 => k (x1, x5, x6)) (oa_bi (a && af (M 4) n p i)) (xc (M 4) p y i) (nI i) = k (oa_bi (a && af (M 4) n p (i + 1)), xc (M 4) p y (i + 1), nI (i + 1))
    rw [af_succ, xc_succ, ← Bool.and_assoc]
    generalize (a && af (M 4) n p i) = c
    generalize xc (M 4) p y i = z
    have hr : oa_rd (M 4) 100 (48 + 7 * nI p + nI i) = some (M 4 (48 + (7 * p + i))) := by
      simp (disch := (first | omega | assumption | decide)) only [oa_ut, oa_bs, oa_lt, oa_ile, oa_inle, oa_ilt, oa_inlt, oa_ieq, oa_ineq, oa_rd_nI, oa_wr_nI, oa_rd_0, oa_rd_1, oa_wr_0, oa_wr_1, oa_rdL_nI, oa_wrL_nI, oa_bi_if0, oa_bi_if1, oa_zc_bi, oa_if_b0, oa_if_b1, nI_1, nI_add, pk_mul, Nat.add_assoc, Int32.add_zero, Int32.sub_zero, Int32.or_zero, Int32.and_neg_one, va_up_s, va_up_n, upd_s, oa_up2, ite_self, if_true, if_false, oa_10, oa_01, oa_neg4, oa_ifno, oa_l2, oa_l3, oa_l4, oa_l5, oa_l6, oa_l7, oa_l8, oa_l9, oa_l10, oa_l12, oa_l15, oa_l16, oa_l20, oa_l32, oa_l40, oa_l42, oa_l48, oa_l64, oa_l90, oa_l96, oa_l97, oa_l98, oa_l99, oa_l100, oa_l120, oa_l360, oa_l450, oa_l457, oa_l458, oa_l480, oa_l528]
    have hr9 : oa_rd (M 4) 100 99 = some (nI n) := by
      rw [← h99]
      exact oa_rd_nI (i := 99) (by omega) (by omega)
    unfold b_X7_looksBehind_79
    rw [if_neg (show ¬ (6 : Int32) ≤ nI i from nI_ge (b := 6) hi (by omega)), hr, oa_bs]
    by_cases g : an (M 4) p i = true
    · have g' : ¬ M 4 (48 + (7 * p + i)) ≤ 0 := Int32.not_le.mpr (of_decide_eq_true g)
      rw [if_neg g', if_pos g, g]
      unfold b_X7_looksBehind_109
      cases c
      · rw [if_pos (show oa_bi false = 0 from rfl)]
        unfold b_X7_looksBehind_143
        rw [if_neg (show ¬ (1 : Int32) = 0 by decide), oa_lt, nI_1]
        rfl
      · rw [if_neg (show ¬ oa_bi true = 0 by decide), if_neg (show ¬ (1 : Int32) = 0 by decide)]
        by_cases e : i = p
        · rw [if_pos (congrArg nI e), decide_eq_true e]
          unfold b_X7_looksBehind_143
          rw [if_neg (show ¬ (1 : Int32) = 0 by decide), oa_lt, nI_1]
          rfl
        · rw [if_neg (nI_neq e (by omega) (by omega)), decide_eq_false e, hr9, oa_bs]
          by_cases l : i < n
          · rw [if_neg (nI_ge l (by omega)), decide_eq_true l]
            unfold b_X7_looksBehind_143
            rw [if_neg (show ¬ (1 : Int32) = 0 by decide), oa_lt, nI_1]
            rfl
          · rw [if_pos (nI_le (by omega) (by omega)), decide_eq_false l]
            unfold b_X7_looksBehind_143
            rw [if_neg (show ¬ (1 : Int32) = 0 by decide), oa_lt, nI_1]
            rfl
    · have g' : M 4 (48 + (7 * p + i)) ≤ 0 := Int32.not_lt.mp (fun q => g (decide_eq_true q))
      rw [if_pos g', if_neg g, Bool.eq_false_iff.mpr g]
      unfold b_X7_looksBehind_109
      cases c
      · rw [if_pos (show oa_bi false = 0 from rfl)]
        unfold b_X7_looksBehind_143
        rw [if_pos rfl, oa_lt, nI_1, Int32.add_zero]
        rfl
      · rw [if_neg (show ¬ oa_bi true = 0 by decide), if_pos rfl]
        unfold b_X7_looksBehind_143
        rw [if_pos rfl, oa_lt, nI_1, Int32.add_zero]
        rfl
  · intro k
    show b_X7_looksBehind_79 K M (oa_bi b) (nI p) k6 (fun x1 x5 x6 => k (x1, x5, x6)) (oa_bi (a && af (M 4) n p 6)) (xc (M 4) p y 6) (nI 6) = _
    generalize (a && af (M 4) n p 6) = c
    generalize xc (M 4) p y 6 = z
    unfold b_X7_looksBehind_79
    rw [if_pos (show (6 : Int32) ≤ nI 6 by decide), nI_1]
    cases b
    · rw [if_pos (show oa_bi false = 0 from rfl)]
      rfl
    · rw [if_neg (show ¬ oa_bi true = 0 by decide), show oa_rd (M 3) 3 0 = some (M 3 0) from oa_rd_nI (i := 0) (by omega) (by omega), oa_bs]
      by_cases l : M 3 0 < z
      · rw [if_pos l, decide_eq_true l]; rfl
      · rw [if_neg l, decide_eq_false l]; rfl
theorem looks (hn : n ≤ 6) (h99 : M 4 99 = nI n) : f_X7_looksBehind M K = if M 0 2 = 0 then (if ok1 (M 4) n n = true then b_X7_looksBehind_209 K M (oa_bi (ok2 (M 3) (M 4) n)) else (f_X7_fails M K 6).bind fun M6 => b_X7_looksBehind_209 K M6 (oa_bi (ok2 (M 3) (M 4) n))) else b_X7_looksBehind_209 K M (oa_bi (ok2 (M 3) (M 4) n)) := by
  have hr9 : oa_rd (M 4) 100 99 = some (nI n) := by
    rw [← h99]
    exact oa_rd_nI (i := 99) (by omega) (by omega)
  unfold f_X7_looksBehind l_X7_looksBehind_6
  refine oa_for (fun i => (oa_bi (ok1 (M 4) n i), oa_bi (ok2 (M 3) (M 4) i), nI i)) n rfl ?_ ?_ oa_fu (by rw [oa_fu_eq]; omega)
  · intro i hi k
    show b_X7_looksBehind_6 K M (fun x1 x2 x3 => k (x1, x2, x3)) (oa_bi (ok1 (M 4) n i)) (oa_bi (ok2 (M 3) (M 4) i)) (nI i) = k (oa_bi (ok1 (M 4) n (i + 1)), oa_bi (ok2 (M 3) (M 4) (i + 1)), nI (i + 1))
    rw [ok1_succ, ok2_succ]
    generalize ok1 (M 4) n i = c
    generalize ok2 (M 3) (M 4) i = d
    have hr : oa_rd (M 4) 100 (8 * nI i + 7) = some (M 4 (8 * i + 7)) := by
      simp (disch := (first | omega | assumption | decide)) only [oa_ut, oa_bs, oa_lt, oa_ile, oa_inle, oa_ilt, oa_inlt, oa_ieq, oa_ineq, oa_rd_nI, oa_wr_nI, oa_rd_0, oa_rd_1, oa_wr_0, oa_wr_1, oa_rdL_nI, oa_wrL_nI, oa_bi_if0, oa_bi_if1, oa_zc_bi, oa_if_b0, oa_if_b1, nI_1, nI_add, pk_mul, Nat.add_assoc, Int32.add_zero, Int32.sub_zero, Int32.or_zero, Int32.and_neg_one, va_up_s, va_up_n, upd_s, oa_up2, ite_self, if_true, if_false, oa_10, oa_01, oa_neg4, oa_ifno, oa_l2, oa_l3, oa_l4, oa_l5, oa_l6, oa_l7, oa_l8, oa_l9, oa_l10, oa_l12, oa_l15, oa_l16, oa_l20, oa_l32, oa_l40, oa_l42, oa_l48, oa_l64, oa_l90, oa_l96, oa_l97, oa_l98, oa_l99, oa_l100, oa_l120, oa_l360, oa_l450, oa_l457, oa_l458, oa_l480, oa_l528]
    have hr6 : oa_rd (M 4) 100 (48 + 7 * nI i + 6) = some (M 4 (48 + (7 * i + 6))) := by
      simp (disch := (first | omega | assumption | decide)) only [oa_ut, oa_bs, oa_lt, oa_ile, oa_inle, oa_ilt, oa_inlt, oa_ieq, oa_ineq, oa_rd_nI, oa_wr_nI, oa_rd_0, oa_rd_1, oa_wr_0, oa_wr_1, oa_rdL_nI, oa_wrL_nI, oa_bi_if0, oa_bi_if1, oa_zc_bi, oa_if_b0, oa_if_b1, nI_1, nI_add, pk_mul, Nat.add_assoc, Int32.add_zero, Int32.sub_zero, Int32.or_zero, Int32.and_neg_one, va_up_s, va_up_n, upd_s, oa_up2, ite_self, if_true, if_false, oa_10, oa_01, oa_neg4, oa_ifno, oa_l2, oa_l3, oa_l4, oa_l5, oa_l6, oa_l7, oa_l8, oa_l9, oa_l10, oa_l12, oa_l15, oa_l16, oa_l20, oa_l32, oa_l40, oa_l42, oa_l48, oa_l64, oa_l90, oa_l96, oa_l97, oa_l98, oa_l99, oa_l100, oa_l120, oa_l360, oa_l450, oa_l457, oa_l458, oa_l480, oa_l528]
    have h58 : ∀ s : Bool, b_X7_looksBehind_58 K (fun x1 x2 x3 => k (x1, x2, x3)) M (oa_bi d) (nI i) (oa_bi s) = k (oa_bi (s && af (M 4) n i 6), oa_bi (d && !decide (M 3 0 < xc (M 4) i (M 4 (48 + (7 * i + 6))) 6)), nI (i + 1)) := by
      intro s
      unfold b_X7_looksBehind_58
      rw [hr6, oa_bs, lb_79 (by omega) hn h99]
    unfold b_X7_looksBehind_6
    rw [hr9, oa_bs, if_neg (nI_ge hi (by omega)), hr, oa_bs]
    unfold kf
    cases c
    · rw [if_pos (show oa_bi false = 0 from rfl)]
      exact h58 false
    · rw [if_neg (show ¬ oa_bi true = 0 by decide)]
      by_cases e : M 4 (8 * i + 7) = nI i
      · rw [if_pos e, decide_eq_true e]
        exact h58 false
      · rw [if_neg e, decide_eq_false e, oa_bs]
        by_cases l : nI n ≤ M 4 (8 * i + 7)
        · rw [if_pos l, decide_eq_true l]
          exact h58 false
        · rw [if_neg l, decide_eq_false l]
          exact h58 true
  · intro k
    show b_X7_looksBehind_6 K M (fun x1 x2 x3 => k (x1, x2, x3)) (oa_bi (ok1 (M 4) n n)) (oa_bi (ok2 (M 3) (M 4) n)) (nI n) = _
    unfold b_X7_looksBehind_6
    rw [hr9, oa_bs, if_pos (nI_le (by omega) (by omega))]
    cases ok1 (M 4) n n
    · rfl
    · rfl
end LB
